section
-- ===== PART A: goes FIRST, ahead of the names: the tables' words, and 'selects' of the private methods out of them =====
/-- a private method of a class that the tables say can be made, by its rows of tables_1 -/
def lw_okq (q : MethodName × Nat) : Prop := (q.1.cls ≠ "java/lang/invoke/MethodHandle" ∧ q.1.cls ≠ "java/lang/invoke/VarHandle") ∧ Cond.instantiable q.1.cls q.2 ∈ tables_1 ∧ Cond.privateMethod q.1 ∈ tables_1 ∧ Cond.instanceMethod q.1 ∈ tables_1
theorem lw_p0 : lw_okq (⟨"ColdShod", "layRoadFrom", "(LColdShod$Shelf;I)Z"⟩, 14) := ⟨⟨by decide +kernel, by decide +kernel⟩, List.mem_of_getElem? (i := 19) (by decide +kernel), List.mem_of_getElem? (i := 440) (by decide +kernel), List.mem_of_getElem? (i := 441) (by decide +kernel)⟩
theorem lw_p1 : lw_okq (⟨"ColdShod$Changes", "forgetFirst", "()V"⟩, 6) := ⟨⟨by decide +kernel, by decide +kernel⟩, List.mem_of_getElem? (i := 196) (by decide +kernel), List.mem_of_getElem? (i := 492) (by decide +kernel), List.mem_of_getElem? (i := 493) (by decide +kernel)⟩
theorem lw_p2 : lw_okq (⟨"ColdShod$LawText", "readLine", "(LColdShod$LawCode;)Z"⟩, 3) := ⟨⟨by decide +kernel, by decide +kernel⟩, List.mem_of_getElem? (i := 179) (by decide +kernel), List.mem_of_getElem? (i := 523) (by decide +kernel), List.mem_of_getElem? (i := 524) (by decide +kernel)⟩
theorem lw_p3 : lw_okq (⟨"ColdShod$LawText", "readLevel", "(LColdShod$LawCode;II)Z"⟩, 3) := ⟨⟨by decide +kernel, by decide +kernel⟩, List.mem_of_getElem? (i := 179) (by decide +kernel), List.mem_of_getElem? (i := 527) (by decide +kernel), List.mem_of_getElem? (i := 528) (by decide +kernel)⟩
theorem lw_p4 : lw_okq (⟨"ColdShod$LawText", "readOperand", "(LColdShod$LawCode;I)Z"⟩, 3) := ⟨⟨by decide +kernel, by decide +kernel⟩, List.mem_of_getElem? (i := 179) (by decide +kernel), List.mem_of_getElem? (i := 531) (by decide +kernel), List.mem_of_getElem? (i := 532) (by decide +kernel)⟩
theorem lw_p5 : lw_okq (⟨"ColdShod$LawText", "letter", "()I"⟩, 3) := ⟨⟨by decide +kernel, by decide +kernel⟩, List.mem_of_getElem? (i := 179) (by decide +kernel), List.mem_of_getElem? (i := 535) (by decide +kernel), List.mem_of_getElem? (i := 536) (by decide +kernel)⟩
theorem lw_p6 : lw_okq (⟨"ColdShod$LawText", "readNumber", "(LColdShod$LawCode;)Z"⟩, 3) := ⟨⟨by decide +kernel, by decide +kernel⟩, List.mem_of_getElem? (i := 179) (by decide +kernel), List.mem_of_getElem? (i := 542) (by decide +kernel), List.mem_of_getElem? (i := 543) (by decide +kernel)⟩
theorem lw_p7 : lw_okq (⟨"ColdShod$LawText", "passes", "(I)Z"⟩, 3) := ⟨⟨by decide +kernel, by decide +kernel⟩, List.mem_of_getElem? (i := 179) (by decide +kernel), List.mem_of_getElem? (i := 558) (by decide +kernel), List.mem_of_getElem? (i := 559) (by decide +kernel)⟩
theorem lw_p8 : lw_okq (⟨"ColdShod", "thoughtOf", "(I)LColdShod$Idea;"⟩, 14) := ⟨⟨by decide +kernel, by decide +kernel⟩, List.mem_of_getElem? (i := 19) (by decide +kernel), List.mem_of_getElem? (i := 614) (by decide +kernel), List.mem_of_getElem? (i := 615) (by decide +kernel)⟩
theorem lw_p9 : lw_okq (⟨"ColdShod$Journey", "goesStage", "(ILColdShod$Idea;LColdShod$Country;)Z"⟩, 4) := ⟨⟨by decide +kernel, by decide +kernel⟩, List.mem_of_getElem? (i := 251) (by decide +kernel), List.mem_of_getElem? (i := 630) (by decide +kernel), List.mem_of_getElem? (i := 631) (by decide +kernel)⟩
theorem lw_p10 : lw_okq (⟨"ColdShod$StrokePlan", "recall", "(LColdShod$Idea;I)V"⟩, 7) := ⟨⟨by decide +kernel, by decide +kernel⟩, List.mem_of_getElem? (i := 272) (by decide +kernel), List.mem_of_getElem? (i := 674) (by decide +kernel), List.mem_of_getElem? (i := 675) (by decide +kernel)⟩
theorem lw_p11 : lw_okq (⟨"ColdShod$StrokePlan", "tellPlan", "(I)I"⟩, 7) := ⟨⟨by decide +kernel, by decide +kernel⟩, List.mem_of_getElem? (i := 272) (by decide +kernel), List.mem_of_getElem? (i := 680) (by decide +kernel), List.mem_of_getElem? (i := 681) (by decide +kernel)⟩
theorem lw_p12 : lw_okq (⟨"ColdShod$StrokePlan", "addNext", "(LColdShod$Idea;I)V"⟩, 7) := ⟨⟨by decide +kernel, by decide +kernel⟩, List.mem_of_getElem? (i := 272) (by decide +kernel), List.mem_of_getElem? (i := 684) (by decide +kernel), List.mem_of_getElem? (i := 685) (by decide +kernel)⟩
theorem lw_p13 : lw_okq (⟨"ColdShod$Idea", "heatUp", "()Z"⟩, 7) := ⟨⟨by decide +kernel, by decide +kernel⟩, List.mem_of_getElem? (i := 57) (by decide +kernel), List.mem_of_getElem? (i := 692) (by decide +kernel), List.mem_of_getElem? (i := 693) (by decide +kernel)⟩
theorem lw_p14 : lw_okq (⟨"ColdShod$Idea", "drawTo", "(I)Z"⟩, 7) := ⟨⟨by decide +kernel, by decide +kernel⟩, List.mem_of_getElem? (i := 57) (by decide +kernel), List.mem_of_getElem? (i := 696) (by decide +kernel), List.mem_of_getElem? (i := 697) (by decide +kernel)⟩
theorem lw_p15 : lw_okq (⟨"ColdShod$Idea", "nail", "()Z"⟩, 7) := ⟨⟨by decide +kernel, by decide +kernel⟩, List.mem_of_getElem? (i := 57) (by decide +kernel), List.mem_of_getElem? (i := 701) (by decide +kernel), List.mem_of_getElem? (i := 702) (by decide +kernel)⟩
def lw_privs_1 : List (MethodName × Nat) := [(⟨"ColdShod", "layRoadFrom", "(LColdShod$Shelf;I)Z"⟩, 14), (⟨"ColdShod$Changes", "forgetFirst", "()V"⟩, 6), (⟨"ColdShod$LawText", "readLine", "(LColdShod$LawCode;)Z"⟩, 3), (⟨"ColdShod$LawText", "readLevel", "(LColdShod$LawCode;II)Z"⟩, 3), (⟨"ColdShod$LawText", "readOperand", "(LColdShod$LawCode;I)Z"⟩, 3), (⟨"ColdShod$LawText", "letter", "()I"⟩, 3), (⟨"ColdShod$LawText", "readNumber", "(LColdShod$LawCode;)Z"⟩, 3), (⟨"ColdShod$LawText", "passes", "(I)Z"⟩, 3), (⟨"ColdShod", "thoughtOf", "(I)LColdShod$Idea;"⟩, 14), (⟨"ColdShod$Journey", "goesStage", "(ILColdShod$Idea;LColdShod$Country;)Z"⟩, 4), (⟨"ColdShod$StrokePlan", "recall", "(LColdShod$Idea;I)V"⟩, 7), (⟨"ColdShod$StrokePlan", "tellPlan", "(I)I"⟩, 7), (⟨"ColdShod$StrokePlan", "addNext", "(LColdShod$Idea;I)V"⟩, 7), (⟨"ColdShod$Idea", "heatUp", "()Z"⟩, 7), (⟨"ColdShod$Idea", "drawTo", "(I)Z"⟩, 7), (⟨"ColdShod$Idea", "nail", "()Z"⟩, 7)]
theorem lw_r1 : ∀ q ∈ lw_privs_1, lw_okq q := List.forall_mem_cons.mpr ⟨lw_p0, List.forall_mem_cons.mpr ⟨lw_p1, List.forall_mem_cons.mpr ⟨lw_p2, List.forall_mem_cons.mpr ⟨lw_p3, List.forall_mem_cons.mpr ⟨lw_p4, List.forall_mem_cons.mpr ⟨lw_p5, List.forall_mem_cons.mpr ⟨lw_p6, List.forall_mem_cons.mpr ⟨lw_p7, List.forall_mem_cons.mpr ⟨lw_p8, List.forall_mem_cons.mpr ⟨lw_p9, List.forall_mem_cons.mpr ⟨lw_p10, List.forall_mem_cons.mpr ⟨lw_p11, List.forall_mem_cons.mpr ⟨lw_p12, List.forall_mem_cons.mpr ⟨lw_p13, List.forall_mem_cons.mpr ⟨lw_p14, List.forall_mem_cons.mpr ⟨lw_p15, fun _ h => absurd h List.not_mem_nil⟩⟩⟩⟩⟩⟩⟩⟩⟩⟩⟩⟩⟩⟩⟩⟩
theorem lw_p16 : lw_okq (⟨"ColdShod$StrokePlan", "isFound", "(I)Z"⟩, 7) := ⟨⟨by decide +kernel, by decide +kernel⟩, List.mem_of_getElem? (i := 272) (by decide +kernel), List.mem_of_getElem? (i := 705) (by decide +kernel), List.mem_of_getElem? (i := 706) (by decide +kernel)⟩
theorem lw_p17 : lw_okq (⟨"ColdShod$WayPlan", "follow", "(LColdShod$Country;IIII)V"⟩, 5) := ⟨⟨by decide +kernel, by decide +kernel⟩, List.mem_of_getElem? (i := 303) (by decide +kernel), List.mem_of_getElem? (i := 718) (by decide +kernel), List.mem_of_getElem? (i := 719) (by decide +kernel)⟩
theorem lw_p18 : lw_okq (⟨"ColdShod$WayPlan", "weigh", "(I)V"⟩, 5) := ⟨⟨by decide +kernel, by decide +kernel⟩, List.mem_of_getElem? (i := 303) (by decide +kernel), List.mem_of_getElem? (i := 722) (by decide +kernel), List.mem_of_getElem? (i := 723) (by decide +kernel)⟩
theorem lw_p19 : lw_okq (⟨"ColdShod$Country", "firstOfOthers", "(I)I"⟩, 11) := ⟨⟨by decide +kernel, by decide +kernel⟩, List.mem_of_getElem? (i := 27) (by decide +kernel), List.mem_of_getElem? (i := 749) (by decide +kernel), List.mem_of_getElem? (i := 750) (by decide +kernel)⟩
theorem lw_p20 : lw_okq (⟨"ColdShod$Country", "isRatherHead", "(II)Z"⟩, 11) := ⟨⟨by decide +kernel, by decide +kernel⟩, List.mem_of_getElem? (i := 27) (by decide +kernel), List.mem_of_getElem? (i := 753) (by decide +kernel), List.mem_of_getElem? (i := 754) (by decide +kernel)⟩
theorem lw_p21 : lw_okq (⟨"ColdShod$Country", "nearestOfOthers", "(II)I"⟩, 11) := ⟨⟨by decide +kernel, by decide +kernel⟩, List.mem_of_getElem? (i := 27) (by decide +kernel), List.mem_of_getElem? (i := 757) (by decide +kernel), List.mem_of_getElem? (i := 758) (by decide +kernel)⟩
theorem lw_p22 : lw_okq (⟨"ColdShod$Country", "isRatherIdea", "(III)Z"⟩, 11) := ⟨⟨by decide +kernel, by decide +kernel⟩, List.mem_of_getElem? (i := 27) (by decide +kernel), List.mem_of_getElem? (i := 761) (by decide +kernel), List.mem_of_getElem? (i := 762) (by decide +kernel)⟩
theorem lw_p23 : lw_okq (⟨"ColdShod$Country", "allClash", "(I)Z"⟩, 11) := ⟨⟨by decide +kernel, by decide +kernel⟩, List.mem_of_getElem? (i := 27) (by decide +kernel), List.mem_of_getElem? (i := 791) (by decide +kernel), List.mem_of_getElem? (i := 792) (by decide +kernel)⟩
theorem lw_p24 : lw_okq (⟨"ColdShod", "refusalOfEdge", "(I)I"⟩, 14) := ⟨⟨by decide +kernel, by decide +kernel⟩, List.mem_of_getElem? (i := 19) (by decide +kernel), List.mem_of_getElem? (i := 803) (by decide +kernel), List.mem_of_getElem? (i := 804) (by decide +kernel)⟩
theorem lw_p25 : lw_okq (⟨"ColdShod", "wornAtBest", "(II)I"⟩, 14) := ⟨⟨by decide +kernel, by decide +kernel⟩, List.mem_of_getElem? (i := 19) (by decide +kernel), List.mem_of_getElem? (i := 819) (by decide +kernel), List.mem_of_getElem? (i := 820) (by decide +kernel)⟩
theorem lw_p26 : lw_okq (⟨"ColdShod", "leastBySmith", "(II)I"⟩, 14) := ⟨⟨by decide +kernel, by decide +kernel⟩, List.mem_of_getElem? (i := 19) (by decide +kernel), List.mem_of_getElem? (i := 823) (by decide +kernel), List.mem_of_getElem? (i := 824) (by decide +kernel)⟩
theorem lw_p27 : lw_okq (⟨"ColdShod", "mostByKicker", "(II)I"⟩, 14) := ⟨⟨by decide +kernel, by decide +kernel⟩, List.mem_of_getElem? (i := 19) (by decide +kernel), List.mem_of_getElem? (i := 830) (by decide +kernel), List.mem_of_getElem? (i := 831) (by decide +kernel)⟩
theorem lw_p28 : lw_okq (⟨"ColdShod$Acts", "run", "(IIII)I"⟩, 6) := ⟨⟨by decide +kernel, by decide +kernel⟩, List.mem_of_getElem? (i := 223) (by decide +kernel), List.mem_of_getElem? (i := 912) (by decide +kernel), List.mem_of_getElem? (i := 913) (by decide +kernel)⟩
theorem lw_p29 : lw_okq (⟨"ColdShod$Acts", "work", "(IIII)I"⟩, 6) := ⟨⟨by decide +kernel, by decide +kernel⟩, List.mem_of_getElem? (i := 223) (by decide +kernel), List.mem_of_getElem? (i := 920) (by decide +kernel), List.mem_of_getElem? (i := 921) (by decide +kernel)⟩
theorem lw_p30 : lw_okq (⟨"ColdShod", "refusalOfElement", "(II)I"⟩, 14) := ⟨⟨by decide +kernel, by decide +kernel⟩, List.mem_of_getElem? (i := 19) (by decide +kernel), List.mem_of_getElem? (i := 956) (by decide +kernel), List.mem_of_getElem? (i := 957) (by decide +kernel)⟩
theorem lw_p31 : lw_okq (⟨"ColdShodModel", "adds", "(III)V"⟩, 49) := ⟨⟨by decide +kernel, by decide +kernel⟩, List.mem_of_getElem? (i := 988) (by decide +kernel), List.mem_of_getElem? (i := 1175) (by decide +kernel), List.mem_of_getElem? (i := 1176) (by decide +kernel)⟩
def lw_privs_2 : List (MethodName × Nat) := [(⟨"ColdShod$StrokePlan", "isFound", "(I)Z"⟩, 7), (⟨"ColdShod$WayPlan", "follow", "(LColdShod$Country;IIII)V"⟩, 5), (⟨"ColdShod$WayPlan", "weigh", "(I)V"⟩, 5), (⟨"ColdShod$Country", "firstOfOthers", "(I)I"⟩, 11), (⟨"ColdShod$Country", "isRatherHead", "(II)Z"⟩, 11), (⟨"ColdShod$Country", "nearestOfOthers", "(II)I"⟩, 11), (⟨"ColdShod$Country", "isRatherIdea", "(III)Z"⟩, 11), (⟨"ColdShod$Country", "allClash", "(I)Z"⟩, 11), (⟨"ColdShod", "refusalOfEdge", "(I)I"⟩, 14), (⟨"ColdShod", "wornAtBest", "(II)I"⟩, 14), (⟨"ColdShod", "leastBySmith", "(II)I"⟩, 14), (⟨"ColdShod", "mostByKicker", "(II)I"⟩, 14), (⟨"ColdShod$Acts", "run", "(IIII)I"⟩, 6), (⟨"ColdShod$Acts", "work", "(IIII)I"⟩, 6), (⟨"ColdShod", "refusalOfElement", "(II)I"⟩, 14), (⟨"ColdShodModel", "adds", "(III)V"⟩, 49)]
theorem lw_r2 : ∀ q ∈ lw_privs_2, lw_okq q := List.forall_mem_cons.mpr ⟨lw_p16, List.forall_mem_cons.mpr ⟨lw_p17, List.forall_mem_cons.mpr ⟨lw_p18, List.forall_mem_cons.mpr ⟨lw_p19, List.forall_mem_cons.mpr ⟨lw_p20, List.forall_mem_cons.mpr ⟨lw_p21, List.forall_mem_cons.mpr ⟨lw_p22, List.forall_mem_cons.mpr ⟨lw_p23, List.forall_mem_cons.mpr ⟨lw_p24, List.forall_mem_cons.mpr ⟨lw_p25, List.forall_mem_cons.mpr ⟨lw_p26, List.forall_mem_cons.mpr ⟨lw_p27, List.forall_mem_cons.mpr ⟨lw_p28, List.forall_mem_cons.mpr ⟨lw_p29, List.forall_mem_cons.mpr ⟨lw_p30, List.forall_mem_cons.mpr ⟨lw_p31, fun _ h => absurd h List.not_mem_nil⟩⟩⟩⟩⟩⟩⟩⟩⟩⟩⟩⟩⟩⟩⟩⟩
theorem lw_p32 : lw_okq (⟨"ColdShodModel", "placeOf", "(II)I"⟩, 49) := ⟨⟨by decide +kernel, by decide +kernel⟩, List.mem_of_getElem? (i := 988) (by decide +kernel), List.mem_of_getElem? (i := 1191) (by decide +kernel), List.mem_of_getElem? (i := 1192) (by decide +kernel)⟩
theorem lw_p33 : lw_okq (⟨"ColdShodModel", "isHead", "(J)Z"⟩, 49) := ⟨⟨by decide +kernel, by decide +kernel⟩, List.mem_of_getElem? (i := 988) (by decide +kernel), List.mem_of_getElem? (i := 1195) (by decide +kernel), List.mem_of_getElem? (i := 1196) (by decide +kernel)⟩
theorem lw_p34 : lw_okq (⟨"ColdShodModel", "isIdea", "(J)Z"⟩, 49) := ⟨⟨by decide +kernel, by decide +kernel⟩, List.mem_of_getElem? (i := 988) (by decide +kernel), List.mem_of_getElem? (i := 1201) (by decide +kernel), List.mem_of_getElem? (i := 1202) (by decide +kernel)⟩
theorem lw_p35 : lw_okq (⟨"ColdShodModel", "isRoad", "(J)Z"⟩, 49) := ⟨⟨by decide +kernel, by decide +kernel⟩, List.mem_of_getElem? (i := 988) (by decide +kernel), List.mem_of_getElem? (i := 1206) (by decide +kernel), List.mem_of_getElem? (i := 1207) (by decide +kernel)⟩
theorem lw_p36 : lw_okq (⟨"ColdShodModel", "mayBecome", "(II)Z"⟩, 49) := ⟨⟨by decide +kernel, by decide +kernel⟩, List.mem_of_getElem? (i := 988) (by decide +kernel), List.mem_of_getElem? (i := 1210) (by decide +kernel), List.mem_of_getElem? (i := 1211) (by decide +kernel)⟩
theorem lw_p37 : lw_okq (⟨"ColdShodModel", "becomes", "(II)I"⟩, 49) := ⟨⟨by decide +kernel, by decide +kernel⟩, List.mem_of_getElem? (i := 988) (by decide +kernel), List.mem_of_getElem? (i := 1215) (by decide +kernel), List.mem_of_getElem? (i := 1216) (by decide +kernel)⟩
theorem lw_p38 : lw_okq (⟨"ColdShodModel", "workOut", "(II)I"⟩, 49) := ⟨⟨by decide +kernel, by decide +kernel⟩, List.mem_of_getElem? (i := 988) (by decide +kernel), List.mem_of_getElem? (i := 1236) (by decide +kernel), List.mem_of_getElem? (i := 1237) (by decide +kernel)⟩
theorem lw_p39 : lw_okq (⟨"ColdShodModel", "either", "()I"⟩, 49) := ⟨⟨by decide +kernel, by decide +kernel⟩, List.mem_of_getElem? (i := 988) (by decide +kernel), List.mem_of_getElem? (i := 1240) (by decide +kernel), List.mem_of_getElem? (i := 1241) (by decide +kernel)⟩
theorem lw_p40 : lw_okq (⟨"ColdShodModel", "both", "()I"⟩, 49) := ⟨⟨by decide +kernel, by decide +kernel⟩, List.mem_of_getElem? (i := 988) (by decide +kernel), List.mem_of_getElem? (i := 1244) (by decide +kernel), List.mem_of_getElem? (i := 1245) (by decide +kernel)⟩
theorem lw_p41 : lw_okq (⟨"ColdShodModel", "compared", "()I"⟩, 49) := ⟨⟨by decide +kernel, by decide +kernel⟩, List.mem_of_getElem? (i := 988) (by decide +kernel), List.mem_of_getElem? (i := 1248) (by decide +kernel), List.mem_of_getElem? (i := 1249) (by decide +kernel)⟩
theorem lw_p42 : lw_okq (⟨"ColdShodModel", "sums", "()I"⟩, 49) := ⟨⟨by decide +kernel, by decide +kernel⟩, List.mem_of_getElem? (i := 988) (by decide +kernel), List.mem_of_getElem? (i := 1252) (by decide +kernel), List.mem_of_getElem? (i := 1253) (by decide +kernel)⟩
theorem lw_p43 : lw_okq (⟨"ColdShodModel", "product", "()I"⟩, 49) := ⟨⟨by decide +kernel, by decide +kernel⟩, List.mem_of_getElem? (i := 988) (by decide +kernel), List.mem_of_getElem? (i := 1256) (by decide +kernel), List.mem_of_getElem? (i := 1257) (by decide +kernel)⟩
theorem lw_p44 : lw_okq (⟨"ColdShodModel", "one", "()I"⟩, 49) := ⟨⟨by decide +kernel, by decide +kernel⟩, List.mem_of_getElem? (i := 988) (by decide +kernel), List.mem_of_getElem? (i := 1260) (by decide +kernel), List.mem_of_getElem? (i := 1261) (by decide +kernel)⟩
theorem lw_p45 : lw_okq (⟨"ColdShodModel", "byteAt", "()I"⟩, 49) := ⟨⟨by decide +kernel, by decide +kernel⟩, List.mem_of_getElem? (i := 988) (by decide +kernel), List.mem_of_getElem? (i := 1264) (by decide +kernel), List.mem_of_getElem? (i := 1265) (by decide +kernel)⟩
theorem lw_p46 : lw_okq (⟨"ColdShodModel", "wrong", "()I"⟩, 49) := ⟨⟨by decide +kernel, by decide +kernel⟩, List.mem_of_getElem? (i := 988) (by decide +kernel), List.mem_of_getElem? (i := 1268) (by decide +kernel), List.mem_of_getElem? (i := 1269) (by decide +kernel)⟩
theorem lw_p47 : lw_okq (⟨"ColdShodModel", "takes", "(I)Z"⟩, 49) := ⟨⟨by decide +kernel, by decide +kernel⟩, List.mem_of_getElem? (i := 988) (by decide +kernel), List.mem_of_getElem? (i := 1272) (by decide +kernel), List.mem_of_getElem? (i := 1273) (by decide +kernel)⟩
def lw_privs_3 : List (MethodName × Nat) := [(⟨"ColdShodModel", "placeOf", "(II)I"⟩, 49), (⟨"ColdShodModel", "isHead", "(J)Z"⟩, 49), (⟨"ColdShodModel", "isIdea", "(J)Z"⟩, 49), (⟨"ColdShodModel", "isRoad", "(J)Z"⟩, 49), (⟨"ColdShodModel", "mayBecome", "(II)Z"⟩, 49), (⟨"ColdShodModel", "becomes", "(II)I"⟩, 49), (⟨"ColdShodModel", "workOut", "(II)I"⟩, 49), (⟨"ColdShodModel", "either", "()I"⟩, 49), (⟨"ColdShodModel", "both", "()I"⟩, 49), (⟨"ColdShodModel", "compared", "()I"⟩, 49), (⟨"ColdShodModel", "sums", "()I"⟩, 49), (⟨"ColdShodModel", "product", "()I"⟩, 49), (⟨"ColdShodModel", "one", "()I"⟩, 49), (⟨"ColdShodModel", "byteAt", "()I"⟩, 49), (⟨"ColdShodModel", "wrong", "()I"⟩, 49), (⟨"ColdShodModel", "takes", "(I)Z"⟩, 49)]
theorem lw_r3 : ∀ q ∈ lw_privs_3, lw_okq q := List.forall_mem_cons.mpr ⟨lw_p32, List.forall_mem_cons.mpr ⟨lw_p33, List.forall_mem_cons.mpr ⟨lw_p34, List.forall_mem_cons.mpr ⟨lw_p35, List.forall_mem_cons.mpr ⟨lw_p36, List.forall_mem_cons.mpr ⟨lw_p37, List.forall_mem_cons.mpr ⟨lw_p38, List.forall_mem_cons.mpr ⟨lw_p39, List.forall_mem_cons.mpr ⟨lw_p40, List.forall_mem_cons.mpr ⟨lw_p41, List.forall_mem_cons.mpr ⟨lw_p42, List.forall_mem_cons.mpr ⟨lw_p43, List.forall_mem_cons.mpr ⟨lw_p44, List.forall_mem_cons.mpr ⟨lw_p45, List.forall_mem_cons.mpr ⟨lw_p46, List.forall_mem_cons.mpr ⟨lw_p47, fun _ h => absurd h List.not_mem_nil⟩⟩⟩⟩⟩⟩⟩⟩⟩⟩⟩⟩⟩⟩⟩⟩
theorem lw_p48 : lw_okq (⟨"ColdShodModel", "begins", "(I)V"⟩, 49) := ⟨⟨by decide +kernel, by decide +kernel⟩, List.mem_of_getElem? (i := 988) (by decide +kernel), List.mem_of_getElem? (i := 1283) (by decide +kernel), List.mem_of_getElem? (i := 1284) (by decide +kernel)⟩
theorem lw_p49 : lw_okq (⟨"ColdShodModel", "wearsNow", "(I)I"⟩, 49) := ⟨⟨by decide +kernel, by decide +kernel⟩, List.mem_of_getElem? (i := 988) (by decide +kernel), List.mem_of_getElem? (i := 1287) (by decide +kernel), List.mem_of_getElem? (i := 1288) (by decide +kernel)⟩
theorem lw_p50 : lw_okq (⟨"ColdShodModel", "bytesIs", "(I)I"⟩, 49) := ⟨⟨by decide +kernel, by decide +kernel⟩, List.mem_of_getElem? (i := 988) (by decide +kernel), List.mem_of_getElem? (i := 1298) (by decide +kernel), List.mem_of_getElem? (i := 1299) (by decide +kernel)⟩
theorem lw_p51 : lw_okq (⟨"ColdShodModel", "goesJourney", "(I)V"⟩, 49) := ⟨⟨by decide +kernel, by decide +kernel⟩, List.mem_of_getElem? (i := 988) (by decide +kernel), List.mem_of_getElem? (i := 1303) (by decide +kernel), List.mem_of_getElem? (i := 1304) (by decide +kernel)⟩
theorem lw_p52 : lw_okq (⟨"ColdShodModel", "roadMany", "(I)I"⟩, 49) := ⟨⟨by decide +kernel, by decide +kernel⟩, List.mem_of_getElem? (i := 988) (by decide +kernel), List.mem_of_getElem? (i := 1307) (by decide +kernel), List.mem_of_getElem? (i := 1308) (by decide +kernel)⟩
theorem lw_p53 : lw_okq (⟨"ColdShodModel", "goesRoad", "(I)V"⟩, 49) := ⟨⟨by decide +kernel, by decide +kernel⟩, List.mem_of_getElem? (i := 988) (by decide +kernel), List.mem_of_getElem? (i := 1311) (by decide +kernel), List.mem_of_getElem? (i := 1312) (by decide +kernel)⟩
theorem lw_p54 : lw_okq (⟨"ColdShodModel", "mayGo", "(I)Z"⟩, 49) := ⟨⟨by decide +kernel, by decide +kernel⟩, List.mem_of_getElem? (i := 988) (by decide +kernel), List.mem_of_getElem? (i := 1315) (by decide +kernel), List.mem_of_getElem? (i := 1316) (by decide +kernel)⟩
theorem lw_p55 : lw_okq (⟨"ColdShodModel", "goesBy", "(IIII)Z"⟩, 49) := ⟨⟨by decide +kernel, by decide +kernel⟩, List.mem_of_getElem? (i := 988) (by decide +kernel), List.mem_of_getElem? (i := 1323) (by decide +kernel), List.mem_of_getElem? (i := 1324) (by decide +kernel)⟩
theorem lw_p56 : lw_okq (⟨"ColdShodModel", "strikes", "(I)Z"⟩, 49) := ⟨⟨by decide +kernel, by decide +kernel⟩, List.mem_of_getElem? (i := 988) (by decide +kernel), List.mem_of_getElem? (i := 1327) (by decide +kernel), List.mem_of_getElem? (i := 1328) (by decide +kernel)⟩
theorem lw_p57 : lw_okq (⟨"ColdShodModel", "drawsBy", "(I)Z"⟩, 49) := ⟨⟨by decide +kernel, by decide +kernel⟩, List.mem_of_getElem? (i := 988) (by decide +kernel), List.mem_of_getElem? (i := 1331) (by decide +kernel), List.mem_of_getElem? (i := 1332) (by decide +kernel)⟩
theorem lw_p58 : lw_okq (⟨"ColdShodModel", "triesWay", "(IIIII)V"⟩, 49) := ⟨⟨by decide +kernel, by decide +kernel⟩, List.mem_of_getElem? (i := 988) (by decide +kernel), List.mem_of_getElem? (i := 1340) (by decide +kernel), List.mem_of_getElem? (i := 1341) (by decide +kernel)⟩
theorem lw_p59 : lw_okq (⟨"ColdShodModel", "allAsk", "()V"⟩, 49) := ⟨⟨by decide +kernel, by decide +kernel⟩, List.mem_of_getElem? (i := 988) (by decide +kernel), List.mem_of_getElem? (i := 1355) (by decide +kernel), List.mem_of_getElem? (i := 1356) (by decide +kernel)⟩
theorem lw_p60 : lw_okq (⟨"ColdShodModel", "headRather", "(III)Z"⟩, 49) := ⟨⟨by decide +kernel, by decide +kernel⟩, List.mem_of_getElem? (i := 988) (by decide +kernel), List.mem_of_getElem? (i := 1359) (by decide +kernel), List.mem_of_getElem? (i := 1360) (by decide +kernel)⟩
theorem lw_p61 : lw_okq (⟨"ColdShodModel", "ideaOf", "(I)I"⟩, 49) := ⟨⟨by decide +kernel, by decide +kernel⟩, List.mem_of_getElem? (i := 988) (by decide +kernel), List.mem_of_getElem? (i := 1363) (by decide +kernel), List.mem_of_getElem? (i := 1364) (by decide +kernel)⟩
theorem lw_p62 : lw_okq (⟨"ColdShodModel", "ideaRather", "(II)Z"⟩, 49) := ⟨⟨by decide +kernel, by decide +kernel⟩, List.mem_of_getElem? (i := 988) (by decide +kernel), List.mem_of_getElem? (i := 1367) (by decide +kernel), List.mem_of_getElem? (i := 1368) (by decide +kernel)⟩
theorem lw_p63 : lw_okq (⟨"ColdShodModel", "goTogether", "(II)Z"⟩, 49) := ⟨⟨by decide +kernel, by decide +kernel⟩, List.mem_of_getElem? (i := 988) (by decide +kernel), List.mem_of_getElem? (i := 1382) (by decide +kernel), List.mem_of_getElem? (i := 1383) (by decide +kernel)⟩
def lw_privs_4 : List (MethodName × Nat) := [(⟨"ColdShodModel", "begins", "(I)V"⟩, 49), (⟨"ColdShodModel", "wearsNow", "(I)I"⟩, 49), (⟨"ColdShodModel", "bytesIs", "(I)I"⟩, 49), (⟨"ColdShodModel", "goesJourney", "(I)V"⟩, 49), (⟨"ColdShodModel", "roadMany", "(I)I"⟩, 49), (⟨"ColdShodModel", "goesRoad", "(I)V"⟩, 49), (⟨"ColdShodModel", "mayGo", "(I)Z"⟩, 49), (⟨"ColdShodModel", "goesBy", "(IIII)Z"⟩, 49), (⟨"ColdShodModel", "strikes", "(I)Z"⟩, 49), (⟨"ColdShodModel", "drawsBy", "(I)Z"⟩, 49), (⟨"ColdShodModel", "triesWay", "(IIIII)V"⟩, 49), (⟨"ColdShodModel", "allAsk", "()V"⟩, 49), (⟨"ColdShodModel", "headRather", "(III)Z"⟩, 49), (⟨"ColdShodModel", "ideaOf", "(I)I"⟩, 49), (⟨"ColdShodModel", "ideaRather", "(II)Z"⟩, 49), (⟨"ColdShodModel", "goTogether", "(II)Z"⟩, 49)]
theorem lw_r4 : ∀ q ∈ lw_privs_4, lw_okq q := List.forall_mem_cons.mpr ⟨lw_p48, List.forall_mem_cons.mpr ⟨lw_p49, List.forall_mem_cons.mpr ⟨lw_p50, List.forall_mem_cons.mpr ⟨lw_p51, List.forall_mem_cons.mpr ⟨lw_p52, List.forall_mem_cons.mpr ⟨lw_p53, List.forall_mem_cons.mpr ⟨lw_p54, List.forall_mem_cons.mpr ⟨lw_p55, List.forall_mem_cons.mpr ⟨lw_p56, List.forall_mem_cons.mpr ⟨lw_p57, List.forall_mem_cons.mpr ⟨lw_p58, List.forall_mem_cons.mpr ⟨lw_p59, List.forall_mem_cons.mpr ⟨lw_p60, List.forall_mem_cons.mpr ⟨lw_p61, List.forall_mem_cons.mpr ⟨lw_p62, List.forall_mem_cons.mpr ⟨lw_p63, fun _ h => absurd h List.not_mem_nil⟩⟩⟩⟩⟩⟩⟩⟩⟩⟩⟩⟩⟩⟩⟩⟩
theorem lw_p64 : lw_okq (⟨"ColdShodModel", "rowsAre", "(I)I"⟩, 49) := ⟨⟨by decide +kernel, by decide +kernel⟩, List.mem_of_getElem? (i := 988) (by decide +kernel), List.mem_of_getElem? (i := 1390) (by decide +kernel), List.mem_of_getElem? (i := 1391) (by decide +kernel)⟩
theorem lw_p65 : lw_okq (⟨"ColdShodModel", "firstFalse", "(II)I"⟩, 49) := ⟨⟨by decide +kernel, by decide +kernel⟩, List.mem_of_getElem? (i := 988) (by decide +kernel), List.mem_of_getElem? (i := 1394) (by decide +kernel), List.mem_of_getElem? (i := 1395) (by decide +kernel)⟩
theorem lw_p66 : lw_okq (⟨"ColdShodModel", "playsFrom", "(III)I"⟩, 49) := ⟨⟨by decide +kernel, by decide +kernel⟩, List.mem_of_getElem? (i := 988) (by decide +kernel), List.mem_of_getElem? (i := 1406) (by decide +kernel), List.mem_of_getElem? (i := 1407) (by decide +kernel)⟩
theorem lw_p67 : lw_okq (⟨"ColdShodModel", "keepsOwn", "(I)V"⟩, 49) := ⟨⟨by decide +kernel, by decide +kernel⟩, List.mem_of_getElem? (i := 988) (by decide +kernel), List.mem_of_getElem? (i := 1421) (by decide +kernel), List.mem_of_getElem? (i := 1422) (by decide +kernel)⟩
theorem lw_p68 : lw_okq (⟨"ColdShodModel", "isBody", "(I)Z"⟩, 49) := ⟨⟨by decide +kernel, by decide +kernel⟩, List.mem_of_getElem? (i := 988) (by decide +kernel), List.mem_of_getElem? (i := 1453) (by decide +kernel), List.mem_of_getElem? (i := 1454) (by decide +kernel)⟩
theorem lw_p69 : lw_okq (⟨"ColdShodModel", "heatsAs", "(II)I"⟩, 49) := ⟨⟨by decide +kernel, by decide +kernel⟩, List.mem_of_getElem? (i := 988) (by decide +kernel), List.mem_of_getElem? (i := 1457) (by decide +kernel), List.mem_of_getElem? (i := 1458) (by decide +kernel)⟩
theorem lw_p70 : lw_okq (⟨"ColdShodModel", "runs", "(I)V"⟩, 49) := ⟨⟨by decide +kernel, by decide +kernel⟩, List.mem_of_getElem? (i := 988) (by decide +kernel), List.mem_of_getElem? (i := 1461) (by decide +kernel), List.mem_of_getElem? (i := 1462) (by decide +kernel)⟩
theorem lw_p71 : lw_okq (⟨"ColdShodModel", "drawsAs", "(II)I"⟩, 49) := ⟨⟨by decide +kernel, by decide +kernel⟩, List.mem_of_getElem? (i := 988) (by decide +kernel), List.mem_of_getElem? (i := 1465) (by decide +kernel), List.mem_of_getElem? (i := 1466) (by decide +kernel)⟩
theorem lw_p72 : lw_okq (⟨"ColdShodModel", "nailsAs", "(II)I"⟩, 49) := ⟨⟨by decide +kernel, by decide +kernel⟩, List.mem_of_getElem? (i := 988) (by decide +kernel), List.mem_of_getElem? (i := 1469) (by decide +kernel), List.mem_of_getElem? (i := 1470) (by decide +kernel)⟩
theorem lw_p73 : lw_okq (⟨"ColdShodModel", "tellsAs", "(II)I"⟩, 49) := ⟨⟨by decide +kernel, by decide +kernel⟩, List.mem_of_getElem? (i := 988) (by decide +kernel), List.mem_of_getElem? (i := 1473) (by decide +kernel), List.mem_of_getElem? (i := 1474) (by decide +kernel)⟩
theorem lw_p74 : lw_okq (⟨"ColdShodModel", "refusal", "(II)I"⟩, 49) := ⟨⟨by decide +kernel, by decide +kernel⟩, List.mem_of_getElem? (i := 988) (by decide +kernel), List.mem_of_getElem? (i := 1493) (by decide +kernel), List.mem_of_getElem? (i := 1494) (by decide +kernel)⟩
theorem lw_p75 : lw_okq (⟨"ColdShodModel", "kindOf", "(I)I"⟩, 49) := ⟨⟨by decide +kernel, by decide +kernel⟩, List.mem_of_getElem? (i := 988) (by decide +kernel), List.mem_of_getElem? (i := 1513) (by decide +kernel), List.mem_of_getElem? (i := 1514) (by decide +kernel)⟩
def lw_privs_5 : List (MethodName × Nat) := [(⟨"ColdShodModel", "rowsAre", "(I)I"⟩, 49), (⟨"ColdShodModel", "firstFalse", "(II)I"⟩, 49), (⟨"ColdShodModel", "playsFrom", "(III)I"⟩, 49), (⟨"ColdShodModel", "keepsOwn", "(I)V"⟩, 49), (⟨"ColdShodModel", "isBody", "(I)Z"⟩, 49), (⟨"ColdShodModel", "heatsAs", "(II)I"⟩, 49), (⟨"ColdShodModel", "runs", "(I)V"⟩, 49), (⟨"ColdShodModel", "drawsAs", "(II)I"⟩, 49), (⟨"ColdShodModel", "nailsAs", "(II)I"⟩, 49), (⟨"ColdShodModel", "tellsAs", "(II)I"⟩, 49), (⟨"ColdShodModel", "refusal", "(II)I"⟩, 49), (⟨"ColdShodModel", "kindOf", "(I)I"⟩, 49)]
theorem lw_r5 : ∀ q ∈ lw_privs_5, lw_okq q := List.forall_mem_cons.mpr ⟨lw_p64, List.forall_mem_cons.mpr ⟨lw_p65, List.forall_mem_cons.mpr ⟨lw_p66, List.forall_mem_cons.mpr ⟨lw_p67, List.forall_mem_cons.mpr ⟨lw_p68, List.forall_mem_cons.mpr ⟨lw_p69, List.forall_mem_cons.mpr ⟨lw_p70, List.forall_mem_cons.mpr ⟨lw_p71, List.forall_mem_cons.mpr ⟨lw_p72, List.forall_mem_cons.mpr ⟨lw_p73, List.forall_mem_cons.mpr ⟨lw_p74, List.forall_mem_cons.mpr ⟨lw_p75, fun _ h => absurd h List.not_mem_nil⟩⟩⟩⟩⟩⟩⟩⟩⟩⟩⟩⟩
def lw_privs : List (MethodName × Nat) := lw_privs_1 ++ (lw_privs_2 ++ (lw_privs_3 ++ (lw_privs_4 ++ (lw_privs_5))))
def lw_tbl : List Cond := k2_sels lw_privs ++ tables_1
theorem lw_privs_ok : ∀ q ∈ lw_privs, lw_okq q := by
  show ∀ q ∈ lw_privs_1 ++ (lw_privs_2 ++ (lw_privs_3 ++ (lw_privs_4 ++ (lw_privs_5)))), lw_okq q
  exact List.forall_mem_append.mpr ⟨lw_r1, List.forall_mem_append.mpr ⟨lw_r2, List.forall_mem_append.mpr ⟨lw_r3, List.forall_mem_append.mpr ⟨lw_r4, lw_r5⟩⟩⟩⟩
end
section
def RX0 : String := "ColdShod$Acts"
def TX0 : u_T := fun k => match k with
  | 0 => ("ColdShod$Acts", "kinds", "[I", true)
  | 1 => ("ColdShod$Acts", "smiths", "I", false)
  | 2 => ("ColdShod$Acts", "ran", "I", false)
  | 3 => ("ColdShod$Acts", "traced", "[I", true)
  | 4 => ("ColdShod$Acts", "number", "I", false)
  | _ => ("ColdShod$Acts", "kind", "I", false)
def tyX0 : Nat → FieldType := fun k => match k with
  | 0 => .array .int
  | 1 => .int
  | 2 => .int
  | 3 => .array .int
  | 4 => .int
  | _ => .int
theorem nmX0 : ∀ a, a < 6 → ∀ b, b < 6 → a ≠ b → (TX0 a).2.1 ≠ (TX0 b).2.1 := by decide +kernel
theorem tyX0_ok : ∀ k, k < 6 → parseFieldDescriptor (TX0 k).2.2.1 = some (tyX0 k) := by decide +kernel
abbrev cX0_init : ByteArray := prog_2_method_1_code
def yX0_init : MethodName := ⟨RX0, "<init>", "()V"⟩
abbrev cX0_has : ByteArray := prog_2_method_2_code
def yX0_has : MethodName := ⟨RX0, "has", "(I)Z"⟩
abbrev cX0_add : ByteArray := prog_2_method_3_code
def yX0_add : MethodName := ⟨RX0, "add", "(I)I"⟩
abbrev cX0_isUnder : ByteArray := prog_2_method_4_code
def yX0_isUnder : MethodName := ⟨RX0, "isUnder", "(II)Z"⟩
abbrev cX0_bodyThatRan : ByteArray := prog_2_method_5_code
def yX0_bodyThatRan : MethodName := ⟨RX0, "bodyThatRan", "(I)I"⟩
abbrev cX0_perform : ByteArray := prog_2_method_6_code
def yX0_perform : MethodName := ⟨RX0, "perform", "(III)I"⟩
abbrev cX0_run : ByteArray := prog_2_method_7_code
def yX0_run : MethodName := ⟨RX0, "run", "(IIII)I"⟩
abbrev cX0_work : ByteArray := prog_2_method_8_code
def yX0_work : MethodName := ⟨RX0, "work", "(IIII)I"⟩
def RX1 : String := "ColdShod$Changes"
def TX1 : u_T := fun k => match k with
  | 0 => ("ColdShod$Changes", "undoable", "I", false)
  | 1 => ("ColdShod$Changes", "redoable", "I", false)
  | 2 => ("ColdShod$Changes", "numbers", "[I", true)
  | 3 => ("ColdShod$Changes", "whats", "[I", true)
  | 4 => ("ColdShod$Changes", "befores", "[I", true)
  | _ => ("ColdShod$Changes", "afters", "[I", true)
def tyX1 : Nat → FieldType := fun k => match k with
  | 0 => .int
  | 1 => .int
  | 2 => .array .int
  | 3 => .array .int
  | 4 => .array .int
  | _ => .array .int
theorem nmX1 : ∀ a, a < 6 → ∀ b, b < 6 → a ≠ b → (TX1 a).2.1 ≠ (TX1 b).2.1 := by decide +kernel
theorem tyX1_ok : ∀ k, k < 6 → parseFieldDescriptor (TX1 k).2.2.1 = some (tyX1 k) := by decide +kernel
abbrev cX1_init : ByteArray := prog_3_method_1_code
def yX1_init : MethodName := ⟨RX1, "<init>", "()V"⟩
abbrev cX1_note : ByteArray := prog_3_method_2_code
def yX1_note : MethodName := ⟨RX1, "note", "(IIII)V"⟩
abbrev cX1_forgetFirst : ByteArray := prog_3_method_3_code
def yX1_forgetFirst : MethodName := ⟨RX1, "forgetFirst", "()V"⟩
abbrev cX1_takeBack : ByteArray := prog_3_method_4_code
def yX1_takeBack : MethodName := ⟨RX1, "takeBack", "(LColdShod$Country;)V"⟩
abbrev cX1_doAgain : ByteArray := prog_3_method_5_code
def yX1_doAgain : MethodName := ⟨RX1, "doAgain", "(LColdShod$Country;)V"⟩
def RX2 : String := "ColdShod$Country"
def TX2 : u_T := fun k => match k with
  | 0 => ("ColdShod$Country", "forms", "[I", true)
  | 1 => ("ColdShod$Country", "wills", "[I", true)
  | 2 => ("ColdShod$Country", "ideas", "[LColdShod$Idea;", true)
  | 3 => ("ColdShod$Country", "roads", "[LColdShod$Road;", true)
  | 4 => ("ColdShod$Country", "had", "[I", true)
  | 5 => ("ColdShod$Country", "names", "[I", true)
  | 6 => ("ColdShod$Country", "headCount", "I", false)
  | 7 => ("ColdShod$Country", "ideaCount", "I", false)
  | 8 => ("ColdShod$Country", "roadCount", "I", false)
  | 9 => ("ColdShod$Country", "law", "LColdShod$LawCode;", false)
  | _ => ("ColdShod$Country", "spareLaw", "LColdShod$LawCode;", false)
def tyX2 : Nat → FieldType := fun k => match k with
  | 0 => .array .int
  | 1 => .array .int
  | 2 => .array (.object "ColdShod$Idea")
  | 3 => .array (.object "ColdShod$Road")
  | 4 => .array .int
  | 5 => .array .int
  | 6 => .int
  | 7 => .int
  | 8 => .int
  | 9 => .object "ColdShod$LawCode"
  | _ => .object "ColdShod$LawCode"
theorem nmX2 : ∀ a, a < 11 → ∀ b, b < 11 → a ≠ b → (TX2 a).2.1 ≠ (TX2 b).2.1 := by decide +kernel
theorem tyX2_ok : ∀ k, k < 11 → parseFieldDescriptor (TX2 k).2.2.1 = some (tyX2 k) := by decide +kernel
abbrev cX2_init : ByteArray := prog_4_method_1_code
def yX2_init : MethodName := ⟨RX2, "<init>", "()V"⟩
abbrev cX2_hasHead : ByteArray := prog_4_method_2_code
def yX2_hasHead : MethodName := ⟨RX2, "hasHead", "(I)Z"⟩
abbrev cX2_hasIdea : ByteArray := prog_4_method_3_code
def yX2_hasIdea : MethodName := ⟨RX2, "hasIdea", "(I)Z"⟩
abbrev cX2_hasRoad : ByteArray := prog_4_method_4_code
def yX2_hasRoad : MethodName := ⟨RX2, "hasRoad", "(I)Z"⟩
abbrev cX2_layRoad : ByteArray := prog_4_method_5_code
def yX2_layRoad : MethodName := ⟨RX2, "layRoad", "(III)I"⟩
abbrev cX2_isThere : ByteArray := prog_4_method_6_code
def yX2_isThere : MethodName := ⟨RX2, "isThere", "(II)Z"⟩
abbrev cX2_canBe : ByteArray := prog_4_method_7_code
def yX2_canBe : MethodName := ⟨RX2, "canBe", "(II)Z"⟩
abbrev cX2_numberOf : ByteArray := prog_4_method_8_code
def yX2_numberOf : MethodName := ⟨RX2, "numberOf", "(II)I"⟩
abbrev cX2_setNumber : ByteArray := prog_4_method_9_code
def yX2_setNumber : MethodName := ⟨RX2, "setNumber", "(III)V"⟩
abbrev cX2_willBehind : ByteArray := prog_4_method_10_code
def yX2_willBehind : MethodName := ⟨RX2, "willBehind", "(LColdShod$Idea;)I"⟩
abbrev cX2_wearOf : ByteArray := prog_4_method_11_code
def yX2_wearOf : MethodName := ⟨RX2, "wearOf", "(LColdShod$Idea;LColdShod$Road;)I"⟩
abbrev cX2_travel : ByteArray := prog_4_method_12_code
def yX2_travel : MethodName := ⟨RX2, "travel", "(LColdShod$Idea;LColdShod$Road;)I"⟩
abbrev cX2_letAllAsk : ByteArray := prog_4_method_13_code
def yX2_letAllAsk : MethodName := ⟨RX2, "letAllAsk", "()V"⟩
abbrev cX2_firstOfOthers : ByteArray := prog_4_method_14_code
def yX2_firstOfOthers : MethodName := ⟨RX2, "firstOfOthers", "(I)I"⟩
abbrev cX2_nearestOfOthers : ByteArray := prog_4_method_15_code
def yX2_nearestOfOthers : MethodName := ⟨RX2, "nearestOfOthers", "(II)I"⟩
abbrev cX2_isRatherHead : ByteArray := prog_4_method_16_code
def yX2_isRatherHead : MethodName := ⟨RX2, "isRatherHead", "(II)Z"⟩
abbrev cX2_isRatherIdea : ByteArray := prog_4_method_17_code
def yX2_isRatherIdea : MethodName := ⟨RX2, "isRatherIdea", "(III)Z"⟩
abbrev cX2_isSettled : ByteArray := prog_4_method_18_code
def yX2_isSettled : MethodName := ⟨RX2, "isSettled", "()Z"⟩
abbrev cX2_fewestYokes : ByteArray := prog_4_method_19_code
def yX2_fewestYokes : MethodName := ⟨RX2, "fewestYokes", "()I"⟩
abbrev cX2_greatestClash : ByteArray := prog_4_method_20_code
def yX2_greatestClash : MethodName := ⟨RX2, "greatestClash", "()I"⟩
abbrev cX2_allClash : ByteArray := prog_4_method_21_code
def yX2_allClash : MethodName := ⟨RX2, "allClash", "(I)Z"⟩
def RX3 : String := "ColdShod$Idea"
def TX3 : u_T := fun k => match k with
  | 0 => ("ColdShod$Idea", "metal", "I", false)
  | 1 => ("ColdShod$Idea", "shape", "I", false)
  | 2 => ("ColdShod$Idea", "worn", "I", false)
  | 3 => ("ColdShod$Idea", "heat", "I", false)
  | 4 => ("ColdShod$Idea", "cast", "I", false)
  | 5 => ("ColdShod$Idea", "heated", "I", false)
  | _ => ("ColdShod$Idea", "head", "I", false)
def tyX3 : Nat → FieldType := fun k => match k with
  | 0 => .int
  | 1 => .int
  | 2 => .int
  | 3 => .int
  | 4 => .int
  | 5 => .int
  | _ => .int
theorem nmX3 : ∀ a, a < 7 → ∀ b, b < 7 → a ≠ b → (TX3 a).2.1 ≠ (TX3 b).2.1 := by decide +kernel
theorem tyX3_ok : ∀ k, k < 7 → parseFieldDescriptor (TX3 k).2.2.1 = some (tyX3 k) := by decide +kernel
abbrev cX3_init : ByteArray := prog_5_method_1_code
def yX3_init : MethodName := ⟨RX3, "<init>", "()V"⟩
abbrev cX3_become : ByteArray := prog_5_method_2_code
def yX3_become : MethodName := ⟨RX3, "become", "(LColdShod$Idea;)V"⟩
abbrev cX3_becomeByDeeds : ByteArray := prog_5_method_3_code
def yX3_becomeByDeeds : MethodName := ⟨RX3, "becomeByDeeds", "(LColdShod$Idea;)V"⟩
abbrev cX3_grip : ByteArray := prog_5_method_4_code
def yX3_grip : MethodName := ⟨RX3, "grip", "()I"⟩
abbrev cX3_isLame : ByteArray := prog_5_method_5_code
def yX3_isLame : MethodName := ⟨RX3, "isLame", "()Z"⟩
abbrev cX3_canClimb : ByteArray := prog_5_method_6_code
def yX3_canClimb : MethodName := ⟨RX3, "canClimb", "(LColdShod$Road;)Z"⟩
abbrev cX3_setsOutOn : ByteArray := prog_5_method_7_code
def yX3_setsOutOn : MethodName := ⟨RX3, "setsOutOn", "(LColdShod$Road;)Z"⟩
abbrev cX3_wearBy : ByteArray := prog_5_method_8_code
def yX3_wearBy : MethodName := ⟨RX3, "wearBy", "(I)V"⟩
abbrev cX3_cool : ByteArray := prog_5_method_9_code
def yX3_cool : MethodName := ⟨RX3, "cool", "(I)V"⟩
abbrev cX3_strike : ByteArray := prog_5_method_10_code
def yX3_strike : MethodName := ⟨RX3, "strike", "(I)Z"⟩
abbrev cX3_heatUp : ByteArray := prog_5_method_11_code
def yX3_heatUp : MethodName := ⟨RX3, "heatUp", "()Z"⟩
abbrev cX3_drawTo : ByteArray := prog_5_method_12_code
def yX3_drawTo : MethodName := ⟨RX3, "drawTo", "(I)Z"⟩
abbrev cX3_nail : ByteArray := prog_5_method_13_code
def yX3_nail : MethodName := ⟨RX3, "nail", "()Z"⟩
def RX4 : String := "ColdShod$Journey"
def TX4 : u_T := fun k => match k with
  | 0 => ("ColdShod$Journey", "stages", "[I", true)
  | 1 => ("ColdShod$Journey", "length", "I", false)
  | 2 => ("ColdShod$Journey", "miles", "I", false)
  | _ => ("ColdShod$Journey", "ended", "I", false)
def tyX4 : Nat → FieldType := fun k => match k with
  | 0 => .array .int
  | 1 => .int
  | 2 => .int
  | _ => .int
theorem nmX4 : ∀ a, a < 4 → ∀ b, b < 4 → a ≠ b → (TX4 a).2.1 ≠ (TX4 b).2.1 := by decide +kernel
theorem tyX4_ok : ∀ k, k < 4 → parseFieldDescriptor (TX4 k).2.2.1 = some (tyX4 k) := by decide +kernel
abbrev cX4_init : ByteArray := prog_6_method_1_code
def yX4_init : MethodName := ⟨RX4, "<init>", "()V"⟩
abbrev cX4_read : ByteArray := prog_6_method_2_code
def yX4_read : MethodName := ⟨RX4, "read", "(LColdShod$Shelf;I)V"⟩
abbrev cX4_allGone : ByteArray := prog_6_method_3_code
def yX4_allGone : MethodName := ⟨RX4, "allGone", "(LColdShod$Idea;LColdShod$Country;)Z"⟩
abbrev cX4_goesStage : ByteArray := prog_6_method_4_code
def yX4_goesStage : MethodName := ⟨RX4, "goesStage", "(ILColdShod$Idea;LColdShod$Country;)Z"⟩
abbrev cX4_firstWrong : ByteArray := prog_6_method_5_code
def yX4_firstWrong : MethodName := ⟨RX4, "firstWrong", "(LColdShod$Idea;LColdShod$Shelf;LColdShod$Country;)I"⟩
def RX5 : String := "ColdShod$LawCode"
def TX5 : u_T := fun k => match k with
  | 0 => ("ColdShod$LawCode", "mindsWorn", "Z", false)
  | 1 => ("ColdShod$LawCode", "cells", "[I", true)
  | 2 => ("ColdShod$LawCode", "length", "I", false)
  | _ => ("ColdShod$LawCode", "values", "[I", true)
def tyX5 : Nat → FieldType := fun k => match k with
  | 0 => .boolean
  | 1 => .array .int
  | 2 => .int
  | _ => .array .int
theorem nmX5 : ∀ a, a < 4 → ∀ b, b < 4 → a ≠ b → (TX5 a).2.1 ≠ (TX5 b).2.1 := by decide +kernel
theorem tyX5_ok : ∀ k, k < 4 → parseFieldDescriptor (TX5 k).2.2.1 = some (tyX5 k) := by decide +kernel
abbrev cX5_init : ByteArray := prog_7_method_1_code
def yX5_init : MethodName := ⟨RX5, "<init>", "()V"⟩
abbrev cX5_clear : ByteArray := prog_7_method_2_code
def yX5_clear : MethodName := ⟨RX5, "clear", "()V"⟩
abbrev cX5_add : ByteArray := prog_7_method_3_code
def yX5_add : MethodName := ⟨RX5, "add", "(I)V"⟩
abbrev cX5_addName : ByteArray := prog_7_method_4_code
def yX5_addName : MethodName := ⟨RX5, "addName", "(I)V"⟩
abbrev cX5_addSkip : ByteArray := prog_7_method_5_code
def yX5_addSkip : MethodName := ⟨RX5, "addSkip", "()I"⟩
abbrev cX5_endSkip : ByteArray := prog_7_method_6_code
def yX5_endSkip : MethodName := ⟨RX5, "endSkip", "(I)V"⟩
abbrev cX5_worth : ByteArray := prog_7_method_7_code
def yX5_worth : MethodName := ⟨RX5, "worth", "([I)I"⟩
abbrev cX5_isName : ByteArray := prog_7_method_8_code
def yX5_isName : MethodName := ⟨RX5, "isName", "(I)Z"⟩
abbrev cX5_joined : ByteArray := prog_7_method_9_code
def yX5_joined : MethodName := ⟨RX5, "joined", "(III)I"⟩
def RX6 : String := "ColdShod$LawText"
def TX6 : u_T := fun k => match k with
  | 0 => ("ColdShod$LawText", "letters", "[I", true)
  | 1 => ("ColdShod$LawText", "fed", "I", false)
  | _ => ("ColdShod$LawText", "at", "I", false)
def tyX6 : Nat → FieldType := fun k => match k with
  | 0 => .array .int
  | 1 => .int
  | _ => .int
theorem nmX6 : ∀ a, a < 3 → ∀ b, b < 3 → a ≠ b → (TX6 a).2.1 ≠ (TX6 b).2.1 := by decide +kernel
theorem tyX6_ok : ∀ k, k < 3 → parseFieldDescriptor (TX6 k).2.2.1 = some (tyX6 k) := by decide +kernel
abbrev cX6_init : ByteArray := prog_8_method_1_code
def yX6_init : MethodName := ⟨RX6, "<init>", "()V"⟩
abbrev cX6_take : ByteArray := prog_8_method_2_code
def yX6_take : MethodName := ⟨RX6, "take", "(I)Z"⟩
abbrev cX6_readInto : ByteArray := prog_8_method_3_code
def yX6_readInto : MethodName := ⟨RX6, "readInto", "(LColdShod$LawCode;)I"⟩
abbrev cX6_readLine : ByteArray := prog_8_method_4_code
def yX6_readLine : MethodName := ⟨RX6, "readLine", "(LColdShod$LawCode;)Z"⟩
abbrev cX6_readLevel : ByteArray := prog_8_method_5_code
def yX6_readLevel : MethodName := ⟨RX6, "readLevel", "(LColdShod$LawCode;II)Z"⟩
abbrev cX6_readOperand : ByteArray := prog_8_method_6_code
def yX6_readOperand : MethodName := ⟨RX6, "readOperand", "(LColdShod$LawCode;I)Z"⟩
abbrev cX6_readNumber : ByteArray := prog_8_method_7_code
def yX6_readNumber : MethodName := ⟨RX6, "readNumber", "(LColdShod$LawCode;)Z"⟩
abbrev cX6_letter : ByteArray := prog_8_method_8_code
def yX6_letter : MethodName := ⟨RX6, "letter", "()I"⟩
abbrev cX6_passes : ByteArray := prog_8_method_9_code
def yX6_passes : MethodName := ⟨RX6, "passes", "(I)Z"⟩
abbrev cX6_isDigit : ByteArray := prog_8_method_10_code
def yX6_isDigit : MethodName := ⟨RX6, "isDigit", "(I)Z"⟩
abbrev cX6_nameOf : ByteArray := prog_8_method_11_code
def yX6_nameOf : MethodName := ⟨RX6, "nameOf", "(I)I"⟩
abbrev cX6_levelOf : ByteArray := prog_8_method_12_code
def yX6_levelOf : MethodName := ⟨RX6, "levelOf", "(I)I"⟩
def RX7 : String := "ColdShod$Road"
def TX7 : u_T := fun k => match k with
  | 0 => ("ColdShod$Road", "from", "I", false)
  | 1 => ("ColdShod$Road", "to", "I", false)
  | 2 => ("ColdShod$Road", "miles", "I", false)
  | 3 => ("ColdShod$Road", "steep", "I", false)
  | _ => ("ColdShod$Road", "kind", "I", false)
def tyX7 : Nat → FieldType := fun k => match k with
  | 0 => .int
  | 1 => .int
  | 2 => .int
  | 3 => .int
  | _ => .int
theorem nmX7 : ∀ a, a < 5 → ∀ b, b < 5 → a ≠ b → (TX7 a).2.1 ≠ (TX7 b).2.1 := by decide +kernel
theorem tyX7_ok : ∀ k, k < 5 → parseFieldDescriptor (TX7 k).2.2.1 = some (tyX7 k) := by decide +kernel
abbrev cX7_init : ByteArray := prog_9_method_1_code
def yX7_init : MethodName := ⟨RX7, "<init>", "()V"⟩
abbrev cX7_farEnd : ByteArray := prog_9_method_2_code
def yX7_farEnd : MethodName := ⟨RX7, "farEnd", "(I)I"⟩
def RX8 : String := "ColdShod$Shelf"
def TX8 : u_T := fun k => match k with
  | 0 => ("ColdShod$Shelf", "holds", "I", false)
  | 1 => ("ColdShod$Shelf", "smith", "I", false)
  | 2 => ("ColdShod$Shelf", "sort", "I", false)
  | 3 => ("ColdShod$Shelf", "length", "I", false)
  | _ => ("ColdShod$Shelf", "cells", "[J", true)
def tyX8 : Nat → FieldType := fun k => match k with
  | 0 => .int
  | 1 => .int
  | 2 => .int
  | 3 => .int
  | _ => .array .long
theorem nmX8 : ∀ a, a < 5 → ∀ b, b < 5 → a ≠ b → (TX8 a).2.1 ≠ (TX8 b).2.1 := by decide +kernel
theorem tyX8_ok : ∀ k, k < 5 → parseFieldDescriptor (TX8 k).2.2.1 = some (tyX8 k) := by decide +kernel
abbrev cX8_init : ByteArray := prog_10_method_1_code
def yX8_init : MethodName := ⟨RX8, "<init>", "()V"⟩
abbrev cX8_holdSmith : ByteArray := prog_10_method_2_code
def yX8_holdSmith : MethodName := ⟨RX8, "holdSmith", "(I)V"⟩
abbrev cX8_holdRow : ByteArray := prog_10_method_3_code
def yX8_holdRow : MethodName := ⟨RX8, "holdRow", "(II)V"⟩
abbrev cX8_isBytes : ByteArray := prog_10_method_4_code
def yX8_isBytes : MethodName := ⟨RX8, "isBytes", "()Z"⟩
abbrev cX8_hasRange : ByteArray := prog_10_method_5_code
def yX8_hasRange : MethodName := ⟨RX8, "hasRange", "(II)Z"⟩
abbrev cX8_cut : ByteArray := prog_10_method_6_code
def yX8_cut : MethodName := ⟨RX8, "cut", "(J)J"⟩
def RX9 : String := "ColdShod$StrokePlan"
def TX9 : u_T := fun k => match k with
  | 0 => ("ColdShod$StrokePlan", "plan", "[I", true)
  | 1 => ("ColdShod$StrokePlan", "states", "[I", true)
  | 2 => ("ColdShod$StrokePlan", "earlier", "[I", true)
  | 3 => ("ColdShod$StrokePlan", "last", "[I", true)
  | 4 => ("ColdShod$StrokePlan", "lengths", "[I", true)
  | 5 => ("ColdShod$StrokePlan", "thought", "LColdShod$Idea;", true)
  | _ => ("ColdShod$StrokePlan", "found", "I", false)
def tyX9 : Nat → FieldType := fun k => match k with
  | 0 => .array .int
  | 1 => .array .int
  | 2 => .array .int
  | 3 => .array .int
  | 4 => .array .int
  | 5 => .object "ColdShod$Idea"
  | _ => .int
theorem nmX9 : ∀ a, a < 7 → ∀ b, b < 7 → a ≠ b → (TX9 a).2.1 ≠ (TX9 b).2.1 := by decide +kernel
theorem tyX9_ok : ∀ k, k < 7 → parseFieldDescriptor (TX9 k).2.2.1 = some (tyX9 k) := by decide +kernel
abbrev cX9_init : ByteArray := prog_11_method_1_code
def yX9_init : MethodName := ⟨RX9, "<init>", "()V"⟩
abbrev cX9_fewestFor : ByteArray := prog_11_method_2_code
def yX9_fewestFor : MethodName := ⟨RX9, "fewestFor", "(LColdShod$Journey;LColdShod$Idea;LColdShod$Country;)I"⟩
abbrev cX9_addNext : ByteArray := prog_11_method_3_code
def yX9_addNext : MethodName := ⟨RX9, "addNext", "(LColdShod$Idea;I)V"⟩
abbrev cX9_isFound : ByteArray := prog_11_method_4_code
def yX9_isFound : MethodName := ⟨RX9, "isFound", "(I)Z"⟩
abbrev cX9_tellPlan : ByteArray := prog_11_method_5_code
def yX9_tellPlan : MethodName := ⟨RX9, "tellPlan", "(I)I"⟩
abbrev cX9_stateOf : ByteArray := prog_11_method_6_code
def yX9_stateOf : MethodName := ⟨RX9, "stateOf", "(LColdShod$Idea;)I"⟩
abbrev cX9_recall : ByteArray := prog_11_method_7_code
def yX9_recall : MethodName := ⟨RX9, "recall", "(LColdShod$Idea;I)V"⟩
def RX10 : String := "ColdShod$WayPlan"
def TX10 : u_T := fun k => match k with
  | 0 => ("ColdShod$WayPlan", "best", "[I", true)
  | 1 => ("ColdShod$WayPlan", "bestLength", "I", false)
  | 2 => ("ColdShod$WayPlan", "bestWorn", "I", false)
  | 3 => ("ColdShod$WayPlan", "trail", "[I", true)
  | _ => ("ColdShod$WayPlan", "behind", "[LColdShod$Idea;", true)
def tyX10 : Nat → FieldType := fun k => match k with
  | 0 => .array .int
  | 1 => .int
  | 2 => .int
  | 3 => .array .int
  | _ => .array (.object "ColdShod$Idea")
theorem nmX10 : ∀ a, a < 5 → ∀ b, b < 5 → a ≠ b → (TX10 a).2.1 ≠ (TX10 b).2.1 := by decide +kernel
theorem tyX10_ok : ∀ k, k < 5 → parseFieldDescriptor (TX10 k).2.2.1 = some (tyX10 k) := by decide +kernel
abbrev cX10_init : ByteArray := prog_12_method_1_code
def yX10_init : MethodName := ⟨RX10, "<init>", "()V"⟩
abbrev cX10_seek : ByteArray := prog_12_method_2_code
def yX10_seek : MethodName := ⟨RX10, "seek", "(LColdShod$Country;LColdShod$Idea;II)V"⟩
abbrev cX10_follow : ByteArray := prog_12_method_3_code
def yX10_follow : MethodName := ⟨RX10, "follow", "(LColdShod$Country;IIII)V"⟩
abbrev cX10_weigh : ByteArray := prog_12_method_4_code
def yX10_weigh : MethodName := ⟨RX10, "weigh", "(I)V"⟩
def RX11 : String := "ColdShod"
def TX11 : u_T := fun k => match k with
  | 0 => ("ColdShod", "land", "LColdShod$Country;", true)
  | 1 => ("ColdShod", "tape", "LColdShod$LawText;", true)
  | 2 => ("ColdShod", "changes", "LColdShod$Changes;", true)
  | 3 => ("ColdShod", "acts", "LColdShod$Acts;", true)
  | 4 => ("ColdShod", "travelled", "LColdShod$Journey;", true)
  | 5 => ("ColdShod", "strokePlan", "LColdShod$StrokePlan;", true)
  | 6 => ("ColdShod", "wayPlan", "LColdShod$WayPlan;", true)
  | 7 => ("ColdShod", "shelves", "[LColdShod$Shelf;", true)
  | 8 => ("ColdShod", "thoughts", "[LColdShod$Idea;", true)
  | 9 => ("ColdShod", "ledNumbers", "[I", true)
  | 10 => ("ColdShod", "imageIdeas", "[LColdShod$Idea;", true)
  | 11 => ("ColdShod", "imageLed", "[I", true)
  | 12 => ("ColdShod", "imageCount", "I", false)
  | _ => ("ColdShod", "firstDeed", "I", false)
def tyX11 : Nat → FieldType := fun k => match k with
  | 0 => .object "ColdShod$Country"
  | 1 => .object "ColdShod$LawText"
  | 2 => .object "ColdShod$Changes"
  | 3 => .object "ColdShod$Acts"
  | 4 => .object "ColdShod$Journey"
  | 5 => .object "ColdShod$StrokePlan"
  | 6 => .object "ColdShod$WayPlan"
  | 7 => .array (.object "ColdShod$Shelf")
  | 8 => .array (.object "ColdShod$Idea")
  | 9 => .array .int
  | 10 => .array (.object "ColdShod$Idea")
  | 11 => .array .int
  | 12 => .int
  | _ => .int
theorem nmX11 : ∀ a, a < 14 → ∀ b, b < 14 → a ≠ b → (TX11 a).2.1 ≠ (TX11 b).2.1 := by decide +kernel
theorem tyX11_ok : ∀ k, k < 14 → parseFieldDescriptor (TX11 k).2.2.1 = some (tyX11 k) := by decide +kernel
abbrev cX11_init : ByteArray := prog_1_method_1_code
def yX11_init : MethodName := ⟨RX11, "<init>", "()V"⟩
abbrev cX11_head : ByteArray := prog_1_method_2_code
def yX11_head : MethodName := ⟨RX11, "head", "(I)I"⟩
abbrev cX11_idea : ByteArray := prog_1_method_3_code
def yX11_idea : MethodName := ⟨RX11, "idea", "(II)I"⟩
abbrev cX11_road : ByteArray := prog_1_method_4_code
def yX11_road : MethodName := ⟨RX11, "road", "(II)I"⟩
abbrev cX11_roads : ByteArray := prog_1_method_5_code
def yX11_roads : MethodName := ⟨RX11, "roads", "(III)I"⟩
abbrev cX11_layRoadFrom : ByteArray := prog_1_method_6_code
def yX11_layRoadFrom : MethodName := ⟨RX11, "layRoadFrom", "(LColdShod$Shelf;I)Z"⟩
abbrev cX11_mend : ByteArray := prog_1_method_7_code
def yX11_mend : MethodName := ⟨RX11, "mend", "(III)I"⟩
abbrev cX11_of : ByteArray := prog_1_method_8_code
def yX11_of : MethodName := ⟨RX11, "of", "(II)I"⟩
abbrev cX11_feed : ByteArray := prog_1_method_9_code
def yX11_feed : MethodName := ⟨RX11, "feed", "(I)I"⟩
abbrev cX11_law : ByteArray := prog_1_method_10_code
def yX11_law : MethodName := ⟨RX11, "law", "()I"⟩
abbrev cX11_wears : ByteArray := prog_1_method_11_code
def yX11_wears : MethodName := ⟨RX11, "wears", "(II)I"⟩
abbrev cX11_journey : ByteArray := prog_1_method_12_code
def yX11_journey : MethodName := ⟨RX11, "journey", "(III)I"⟩
abbrev cX11_strokes : ByteArray := prog_1_method_13_code
def yX11_strokes : MethodName := ⟨RX11, "strokes", "(III)I"⟩
abbrev cX11_way : ByteArray := prog_1_method_14_code
def yX11_way : MethodName := ⟨RX11, "way", "(III)I"⟩
abbrev cX11_reach : ByteArray := prog_1_method_15_code
def yX11_reach : MethodName := ⟨RX11, "reach", "(II)I"⟩
abbrev cX11_asks : ByteArray := prog_1_method_16_code
def yX11_asks : MethodName := ⟨RX11, "asks", "(I)I"⟩
abbrev cX11_settled : ByteArray := prog_1_method_17_code
def yX11_settled : MethodName := ⟨RX11, "settled", "()I"⟩
abbrev cX11_yokes : ByteArray := prog_1_method_18_code
def yX11_yokes : MethodName := ⟨RX11, "yokes", "(I)I"⟩
abbrev cX11_judge : ByteArray := prog_1_method_19_code
def yX11_judge : MethodName := ⟨RX11, "judge", "(II)I"⟩
abbrev cX11_edge : ByteArray := prog_1_method_20_code
def yX11_edge : MethodName := ⟨RX11, "edge", "(III)I"⟩
abbrev cX11_byTurns : ByteArray := prog_1_method_21_code
def yX11_byTurns : MethodName := ⟨RX11, "byTurns", "(III)I"⟩
abbrev cX11_wornAtBest : ByteArray := prog_1_method_22_code
def yX11_wornAtBest : MethodName := ⟨RX11, "wornAtBest", "(II)I"⟩
abbrev cX11_leastBySmith : ByteArray := prog_1_method_23_code
def yX11_leastBySmith : MethodName := ⟨RX11, "leastBySmith", "(II)I"⟩
abbrev cX11_mostByKicker : ByteArray := prog_1_method_24_code
def yX11_mostByKicker : MethodName := ⟨RX11, "mostByKicker", "(II)I"⟩
abbrev cX11_drawn : ByteArray := prog_1_method_25_code
def yX11_drawn : MethodName := ⟨RX11, "drawn", "(IIII)I"⟩
abbrev cX11_stroke : ByteArray := prog_1_method_26_code
def yX11_stroke : MethodName := ⟨RX11, "stroke", "(II)I"⟩
abbrev cX11_goes : ByteArray := prog_1_method_27_code
def yX11_goes : MethodName := ⟨RX11, "goes", "(II)I"⟩
abbrev cX11_deal : ByteArray := prog_1_method_28_code
def yX11_deal : MethodName := ⟨RX11, "deal", "()I"⟩
abbrev cX11_led : ByteArray := prog_1_method_29_code
def yX11_led : MethodName := ⟨RX11, "led", "(I)I"⟩
abbrev cX11_image : ByteArray := prog_1_method_30_code
def yX11_image : MethodName := ⟨RX11, "image", "()I"⟩
abbrev cX11_back : ByteArray := prog_1_method_31_code
def yX11_back : MethodName := ⟨RX11, "back", "()I"⟩
abbrev cX11_undo : ByteArray := prog_1_method_32_code
def yX11_undo : MethodName := ⟨RX11, "undo", "()I"⟩
abbrev cX11_redo : ByteArray := prog_1_method_33_code
def yX11_redo : MethodName := ⟨RX11, "redo", "()I"⟩
abbrev cX11_body : ByteArray := prog_1_method_34_code
def yX11_body : MethodName := ⟨RX11, "body", "(I)I"⟩
abbrev cX11_act : ByteArray := prog_1_method_35_code
def yX11_act : MethodName := ⟨RX11, "act", "(III)I"⟩
abbrev cX11_trace : ByteArray := prog_1_method_36_code
def yX11_trace : MethodName := ⟨RX11, "trace", "(I)I"⟩
abbrev cX11_keep : ByteArray := prog_1_method_37_code
def yX11_keep : MethodName := ⟨RX11, "keep", "(II)I"⟩
abbrev cX11_row : ByteArray := prog_1_method_38_code
def yX11_row : MethodName := ⟨RX11, "row", "(III)I"⟩
abbrev cX11_put : ByteArray := prog_1_method_39_code
def yX11_put : MethodName := ⟨RX11, "put", "(IIJ)I"⟩
abbrev cX11_element : ByteArray := prog_1_method_40_code
def yX11_element : MethodName := ⟨RX11, "element", "(II)J"⟩
abbrev cX11_shift : ByteArray := prog_1_method_41_code
def yX11_shift : MethodName := ⟨RX11, "shift", "(IIIII)I"⟩
abbrev cX11_taken : ByteArray := prog_1_method_42_code
def yX11_taken : MethodName := ⟨RX11, "taken", "(II)I"⟩
abbrev cX11_count : ByteArray := prog_1_method_43_code
def yX11_count : MethodName := ⟨RX11, "count", "(I)I"⟩
abbrev cX11_isShelf : ByteArray := prog_1_method_44_code
def yX11_isShelf : MethodName := ⟨RX11, "isShelf", "(I)Z"⟩
abbrev cX11_areShelves : ByteArray := prog_1_method_45_code
def yX11_areShelves : MethodName := ⟨RX11, "areShelves", "(I)Z"⟩
abbrev cX11_isPlace : ByteArray := prog_1_method_46_code
def yX11_isPlace : MethodName := ⟨RX11, "isPlace", "(J)Z"⟩
abbrev cX11_areUnlikePlaces : ByteArray := prog_1_method_47_code
def yX11_areUnlikePlaces : MethodName := ⟨RX11, "areUnlikePlaces", "(I)Z"⟩
abbrev cX11_thoughtOf : ByteArray := prog_1_method_48_code
def yX11_thoughtOf : MethodName := ⟨RX11, "thoughtOf", "(I)LColdShod$Idea;"⟩
abbrev cX11_refusalOfBytes : ByteArray := prog_1_method_49_code
def yX11_refusalOfBytes : MethodName := ⟨RX11, "refusalOfBytes", "(LColdShod$Shelf;)I"⟩
abbrev cX11_refusalOfEdge : ByteArray := prog_1_method_50_code
def yX11_refusalOfEdge : MethodName := ⟨RX11, "refusalOfEdge", "(I)I"⟩
abbrev cX11_refusalOfElement : ByteArray := prog_1_method_51_code
def yX11_refusalOfElement : MethodName := ⟨RX11, "refusalOfElement", "(II)I"⟩
def RX12 : String := "ColdShodModel"
def TX12 : u_T := fun k => match k with
  | 0 => ("ColdShodModel", "may", "[I", true)
  | 1 => ("ColdShodModel", "changeAt", "[I", true)
  | 2 => ("ColdShodModel", "changeWas", "[I", true)
  | 3 => ("ColdShodModel", "changeIs", "[I", true)
  | 4 => ("ColdShodModel", "keptMany", "I", false)
  | 5 => ("ColdShodModel", "done", "I", false)
  | 6 => ("ColdShodModel", "heads", "I", false)
  | 7 => ("ColdShodModel", "ideas", "I", false)
  | 8 => ("ColdShodModel", "roads", "I", false)
  | 9 => ("ColdShodModel", "from", "[I", true)
  | 10 => ("ColdShodModel", "to", "[I", true)
  | 11 => ("ColdShodModel", "tape", "[I", true)
  | 12 => ("ColdShodModel", "tapeMany", "I", false)
  | 13 => ("ColdShodModel", "text", "[I", true)
  | 14 => ("ColdShodModel", "textMany", "I", false)
  | 15 => ("ColdShodModel", "base", "I", false)
  | 16 => ("ColdShodModel", "at", "I", false)
  | 17 => ("ColdShodModel", "ends", "I", false)
  | 18 => ("ColdShodModel", "fault", "I", false)
  | 19 => ("ColdShodModel", "opened", "I", false)
  | 20 => ("ColdShodModel", "names", "[I", true)
  | 21 => ("ColdShodModel", "own", "[I", true)
  | 22 => ("ColdShodModel", "wentMiles", "I", false)
  | 23 => ("ColdShodModel", "wentAll", "Z", false)
  | 24 => ("ColdShodModel", "allMiles", "I", false)
  | 25 => ("ColdShodModel", "allRoads", "I", false)
  | 26 => ("ColdShodModel", "struck", "[I", true)
  | 27 => ("ColdShodModel", "walked", "[I", true)
  | 28 => ("ColdShodModel", "bestWay", "[I", true)
  | 29 => ("ColdShodModel", "bestWorn", "I", false)
  | 30 => ("ColdShodModel", "bestMany", "I", false)
  | 31 => ("ColdShodModel", "hadBy", "[I", true)
  | 32 => ("ColdShodModel", "asked", "[I", true)
  | 33 => ("ColdShodModel", "did", "[I", true)
  | 34 => ("ColdShodModel", "ledNow", "[I", true)
  | 35 => ("ColdShodModel", "isKept", "Z", false)
  | 36 => ("ColdShodModel", "imageIdeas", "I", false)
  | 37 => ("ColdShodModel", "imageMay", "[I", true)
  | 38 => ("ColdShodModel", "imageLed", "[I", true)
  | 39 => ("ColdShodModel", "bodies", "I", false)
  | 40 => ("ColdShodModel", "bodyKind", "[I", true)
  | 41 => ("ColdShodModel", "trace", "[I", true)
  | 42 => ("ColdShodModel", "ran", "I", false)
  | 43 => ("ColdShodModel", "ownKind", "I", false)
  | 44 => ("ColdShodModel", "ownNumber", "I", false)
  | 45 => ("ColdShodModel", "shelf", "[I", true)
  | 46 => ("ColdShodModel", "many", "[I", true)
  | 47 => ("ColdShodModel", "items", "[J", true)
  | _ => ("ColdShodModel", "carried", "[J", true)
def tyX12 : Nat → FieldType := fun k => match k with
  | 0 => .array .int
  | 1 => .array .int
  | 2 => .array .int
  | 3 => .array .int
  | 4 => .int
  | 5 => .int
  | 6 => .int
  | 7 => .int
  | 8 => .int
  | 9 => .array .int
  | 10 => .array .int
  | 11 => .array .int
  | 12 => .int
  | 13 => .array .int
  | 14 => .int
  | 15 => .int
  | 16 => .int
  | 17 => .int
  | 18 => .int
  | 19 => .int
  | 20 => .array .int
  | 21 => .array .int
  | 22 => .int
  | 23 => .boolean
  | 24 => .int
  | 25 => .int
  | 26 => .array .int
  | 27 => .array .int
  | 28 => .array .int
  | 29 => .int
  | 30 => .int
  | 31 => .array .int
  | 32 => .array .int
  | 33 => .array .int
  | 34 => .array .int
  | 35 => .boolean
  | 36 => .int
  | 37 => .array .int
  | 38 => .array .int
  | 39 => .int
  | 40 => .array .int
  | 41 => .array .int
  | 42 => .int
  | 43 => .int
  | 44 => .int
  | 45 => .array .int
  | 46 => .array .int
  | 47 => .array .long
  | _ => .array .long
theorem nmX12 : ∀ a, a < 49 → ∀ b, b < 49 → a ≠ b → (TX12 a).2.1 ≠ (TX12 b).2.1 := by decide +kernel
theorem tyX12_ok : ∀ k, k < 49 → parseFieldDescriptor (TX12 k).2.2.1 = some (tyX12 k) := by decide +kernel
abbrev cX12_within : ByteArray := prog_14_method_1_code
def yX12_within : MethodName := ⟨RX12, "within", "(JJJ)Z"⟩
abbrev cX12_isIn : ByteArray := prog_14_method_2_code
def yX12_isIn : MethodName := ⟨RX12, "isIn", "(II)Z"⟩
abbrev cX12_bitsOf : ByteArray := prog_14_method_3_code
def yX12_bitsOf : MethodName := ⟨RX12, "bitsOf", "(I)I"⟩
abbrev cX12_sizeOf : ByteArray := prog_14_method_4_code
def yX12_sizeOf : MethodName := ⟨RX12, "sizeOf", "(I)I"⟩
abbrev cX12_init : ByteArray := prog_14_method_5_code
def yX12_init : MethodName := ⟨RX12, "<init>", "()V"⟩
abbrev cX12_becomes : ByteArray := prog_14_method_6_code
def yX12_becomes : MethodName := ⟨RX12, "becomes", "(II)I"⟩
abbrev cX12_undo : ByteArray := prog_14_method_7_code
def yX12_undo : MethodName := ⟨RX12, "undo", "()I"⟩
abbrev cX12_redo : ByteArray := prog_14_method_8_code
def yX12_redo : MethodName := ⟨RX12, "redo", "()I"⟩
abbrev cX12_isHead : ByteArray := prog_14_method_9_code
def yX12_isHead : MethodName := ⟨RX12, "isHead", "(J)Z"⟩
abbrev cX12_isIdea : ByteArray := prog_14_method_10_code
def yX12_isIdea : MethodName := ⟨RX12, "isIdea", "(J)Z"⟩
abbrev cX12_isRoad : ByteArray := prog_14_method_11_code
def yX12_isRoad : MethodName := ⟨RX12, "isRoad", "(J)Z"⟩
abbrev cX12_isPlace : ByteArray := prog_14_method_12_code
def yX12_isPlace : MethodName := ⟨RX12, "isPlace", "(J)Z"⟩
abbrev cX12_head : ByteArray := prog_14_method_13_code
def yX12_head : MethodName := ⟨RX12, "head", "(I)I"⟩
abbrev cX12_idea : ByteArray := prog_14_method_14_code
def yX12_idea : MethodName := ⟨RX12, "idea", "(II)I"⟩
abbrev cX12_mayCome : ByteArray := prog_14_method_15_code
def yX12_mayCome : MethodName := ⟨RX12, "mayCome", "(JJJ)Z"⟩
abbrev cX12_adds : ByteArray := prog_14_method_16_code
def yX12_adds : MethodName := ⟨RX12, "adds", "(III)V"⟩
abbrev cX12_road : ByteArray := prog_14_method_17_code
def yX12_road : MethodName := ⟨RX12, "road", "(II)I"⟩
abbrev cX12_roads : ByteArray := prog_14_method_18_code
def yX12_roads : MethodName := ⟨RX12, "roads", "(III)I"⟩
abbrev cX12_placeOf : ByteArray := prog_14_method_19_code
def yX12_placeOf : MethodName := ⟨RX12, "placeOf", "(II)I"⟩
abbrev cX12_mayBecome : ByteArray := prog_14_method_20_code
def yX12_mayBecome : MethodName := ⟨RX12, "mayBecome", "(II)Z"⟩
abbrev cX12_mend : ByteArray := prog_14_method_21_code
def yX12_mend : MethodName := ⟨RX12, "mend", "(III)I"⟩
abbrev cX12_of : ByteArray := prog_14_method_22_code
def yX12_of : MethodName := ⟨RX12, "of", "(II)I"⟩
abbrev cX12_feed : ByteArray := prog_14_method_23_code
def yX12_feed : MethodName := ⟨RX12, "feed", "(I)I"⟩
abbrev cX12_byteAt : ByteArray := prog_14_method_24_code
def yX12_byteAt : MethodName := ⟨RX12, "byteAt", "()I"⟩
abbrev cX12_wrong : ByteArray := prog_14_method_25_code
def yX12_wrong : MethodName := ⟨RX12, "wrong", "()I"⟩
abbrev cX12_takes : ByteArray := prog_14_method_26_code
def yX12_takes : MethodName := ⟨RX12, "takes", "(I)Z"⟩
abbrev cX12_either : ByteArray := prog_14_method_27_code
def yX12_either : MethodName := ⟨RX12, "either", "()I"⟩
abbrev cX12_both : ByteArray := prog_14_method_28_code
def yX12_both : MethodName := ⟨RX12, "both", "()I"⟩
abbrev cX12_compared : ByteArray := prog_14_method_29_code
def yX12_compared : MethodName := ⟨RX12, "compared", "()I"⟩
abbrev cX12_sums : ByteArray := prog_14_method_30_code
def yX12_sums : MethodName := ⟨RX12, "sums", "()I"⟩
abbrev cX12_product : ByteArray := prog_14_method_31_code
def yX12_product : MethodName := ⟨RX12, "product", "()I"⟩
abbrev cX12_nameOf : ByteArray := prog_14_method_32_code
def yX12_nameOf : MethodName := ⟨RX12, "nameOf", "(I)I"⟩
abbrev cX12_one : ByteArray := prog_14_method_33_code
def yX12_one : MethodName := ⟨RX12, "one", "()I"⟩
abbrev cX12_workOut : ByteArray := prog_14_method_34_code
def yX12_workOut : MethodName := ⟨RX12, "workOut", "(II)I"⟩
abbrev cX12_law : ByteArray := prog_14_method_35_code
def yX12_law : MethodName := ⟨RX12, "law", "()I"⟩
abbrev cX12_begins : ByteArray := prog_14_method_36_code
def yX12_begins : MethodName := ⟨RX12, "begins", "(I)V"⟩
abbrev cX12_gripOf : ByteArray := prog_14_method_37_code
def yX12_gripOf : MethodName := ⟨RX12, "gripOf", "(I)I"⟩
abbrev cX12_wearsNow : ByteArray := prog_14_method_38_code
def yX12_wearsNow : MethodName := ⟨RX12, "wearsNow", "(I)I"⟩
abbrev cX12_wears : ByteArray := prog_14_method_39_code
def yX12_wears : MethodName := ⟨RX12, "wears", "(II)I"⟩
abbrev cX12_mayGo : ByteArray := prog_14_method_40_code
def yX12_mayGo : MethodName := ⟨RX12, "mayGo", "(I)Z"⟩
abbrev cX12_goesRoad : ByteArray := prog_14_method_41_code
def yX12_goesRoad : MethodName := ⟨RX12, "goesRoad", "(I)V"⟩
abbrev cX12_strikes : ByteArray := prog_14_method_42_code
def yX12_strikes : MethodName := ⟨RX12, "strikes", "(I)Z"⟩
abbrev cX12_drawsBy : ByteArray := prog_14_method_43_code
def yX12_drawsBy : MethodName := ⟨RX12, "drawsBy", "(I)Z"⟩
abbrev cX12_bytesIs : ByteArray := prog_14_method_44_code
def yX12_bytesIs : MethodName := ⟨RX12, "bytesIs", "(I)I"⟩
abbrev cX12_roadMany : ByteArray := prog_14_method_45_code
def yX12_roadMany : MethodName := ⟨RX12, "roadMany", "(I)I"⟩
abbrev cX12_goesJourney : ByteArray := prog_14_method_46_code
def yX12_goesJourney : MethodName := ⟨RX12, "goesJourney", "(I)V"⟩
abbrev cX12_journey : ByteArray := prog_14_method_47_code
def yX12_journey : MethodName := ⟨RX12, "journey", "(III)I"⟩
abbrev cX12_goesBy : ByteArray := prog_14_method_48_code
def yX12_goesBy : MethodName := ⟨RX12, "goesBy", "(IIII)Z"⟩
abbrev cX12_strokes : ByteArray := prog_14_method_49_code
def yX12_strokes : MethodName := ⟨RX12, "strokes", "(III)I"⟩
abbrev cX12_triesWay : ByteArray := prog_14_method_50_code
def yX12_triesWay : MethodName := ⟨RX12, "triesWay", "(IIIII)V"⟩
abbrev cX12_way : ByteArray := prog_14_method_51_code
def yX12_way : MethodName := ⟨RX12, "way", "(III)I"⟩
abbrev cX12_reach : ByteArray := prog_14_method_52_code
def yX12_reach : MethodName := ⟨RX12, "reach", "(II)I"⟩
abbrev cX12_headRather : ByteArray := prog_14_method_53_code
def yX12_headRather : MethodName := ⟨RX12, "headRather", "(III)Z"⟩
abbrev cX12_ideaRather : ByteArray := prog_14_method_54_code
def yX12_ideaRather : MethodName := ⟨RX12, "ideaRather", "(II)Z"⟩
abbrev cX12_ideaOf : ByteArray := prog_14_method_55_code
def yX12_ideaOf : MethodName := ⟨RX12, "ideaOf", "(I)I"⟩
abbrev cX12_allAsk : ByteArray := prog_14_method_56_code
def yX12_allAsk : MethodName := ⟨RX12, "allAsk", "()V"⟩
abbrev cX12_asks : ByteArray := prog_14_method_57_code
def yX12_asks : MethodName := ⟨RX12, "asks", "(I)I"⟩
abbrev cX12_settled : ByteArray := prog_14_method_58_code
def yX12_settled : MethodName := ⟨RX12, "settled", "()I"⟩
abbrev cX12_goTogether : ByteArray := prog_14_method_59_code
def yX12_goTogether : MethodName := ⟨RX12, "goTogether", "(II)Z"⟩
abbrev cX12_yokes : ByteArray := prog_14_method_60_code
def yX12_yokes : MethodName := ⟨RX12, "yokes", "(I)I"⟩
abbrev cX12_rowsAre : ByteArray := prog_14_method_61_code
def yX12_rowsAre : MethodName := ⟨RX12, "rowsAre", "(I)I"⟩
abbrev cX12_firstFalse : ByteArray := prog_14_method_62_code
def yX12_firstFalse : MethodName := ⟨RX12, "firstFalse", "(II)I"⟩
abbrev cX12_judge : ByteArray := prog_14_method_63_code
def yX12_judge : MethodName := ⟨RX12, "judge", "(II)I"⟩
abbrev cX12_edge : ByteArray := prog_14_method_64_code
def yX12_edge : MethodName := ⟨RX12, "edge", "(III)I"⟩
abbrev cX12_playsFrom : ByteArray := prog_14_method_65_code
def yX12_playsFrom : MethodName := ⟨RX12, "playsFrom", "(III)I"⟩
abbrev cX12_byTurns : ByteArray := prog_14_method_66_code
def yX12_byTurns : MethodName := ⟨RX12, "byTurns", "(III)I"⟩
abbrev cX12_drawn : ByteArray := prog_14_method_67_code
def yX12_drawn : MethodName := ⟨RX12, "drawn", "(IIII)I"⟩
abbrev cX12_keepsOwn : ByteArray := prog_14_method_68_code
def yX12_keepsOwn : MethodName := ⟨RX12, "keepsOwn", "(I)V"⟩
abbrev cX12_stroke : ByteArray := prog_14_method_69_code
def yX12_stroke : MethodName := ⟨RX12, "stroke", "(II)I"⟩
abbrev cX12_goes : ByteArray := prog_14_method_70_code
def yX12_goes : MethodName := ⟨RX12, "goes", "(II)I"⟩
abbrev cX12_deal : ByteArray := prog_14_method_71_code
def yX12_deal : MethodName := ⟨RX12, "deal", "()I"⟩
abbrev cX12_led : ByteArray := prog_14_method_72_code
def yX12_led : MethodName := ⟨RX12, "led", "(I)I"⟩
abbrev cX12_image : ByteArray := prog_14_method_73_code
def yX12_image : MethodName := ⟨RX12, "image", "()I"⟩
abbrev cX12_back : ByteArray := prog_14_method_74_code
def yX12_back : MethodName := ⟨RX12, "back", "()I"⟩
abbrev cX12_isBody : ByteArray := prog_14_method_75_code
def yX12_isBody : MethodName := ⟨RX12, "isBody", "(I)Z"⟩
abbrev cX12_kindOf : ByteArray := prog_14_method_76_code
def yX12_kindOf : MethodName := ⟨RX12, "kindOf", "(I)I"⟩
abbrev cX12_body : ByteArray := prog_14_method_77_code
def yX12_body : MethodName := ⟨RX12, "body", "(I)I"⟩
abbrev cX12_above : ByteArray := prog_14_method_78_code
def yX12_above : MethodName := ⟨RX12, "above", "(I)I"⟩
abbrev cX12_runs : ByteArray := prog_14_method_79_code
def yX12_runs : MethodName := ⟨RX12, "runs", "(I)V"⟩
abbrev cX12_heatsAs : ByteArray := prog_14_method_80_code
def yX12_heatsAs : MethodName := ⟨RX12, "heatsAs", "(II)I"⟩
abbrev cX12_drawsAs : ByteArray := prog_14_method_81_code
def yX12_drawsAs : MethodName := ⟨RX12, "drawsAs", "(II)I"⟩
abbrev cX12_nailsAs : ByteArray := prog_14_method_82_code
def yX12_nailsAs : MethodName := ⟨RX12, "nailsAs", "(II)I"⟩
abbrev cX12_tellsAs : ByteArray := prog_14_method_83_code
def yX12_tellsAs : MethodName := ⟨RX12, "tellsAs", "(II)I"⟩
abbrev cX12_act : ByteArray := prog_14_method_84_code
def yX12_act : MethodName := ⟨RX12, "act", "(III)I"⟩
abbrev cX12_trace : ByteArray := prog_14_method_85_code
def yX12_trace : MethodName := ⟨RX12, "trace", "(I)I"⟩
abbrev cX12_isShelf : ByteArray := prog_14_method_86_code
def yX12_isShelf : MethodName := ⟨RX12, "isShelf", "(I)Z"⟩
abbrev cX12_keep : ByteArray := prog_14_method_87_code
def yX12_keep : MethodName := ⟨RX12, "keep", "(II)I"⟩
abbrev cX12_row : ByteArray := prog_14_method_88_code
def yX12_row : MethodName := ⟨RX12, "row", "(III)I"⟩
abbrev cX12_refusal : ByteArray := prog_14_method_89_code
def yX12_refusal : MethodName := ⟨RX12, "refusal", "(II)I"⟩
abbrev cX12_asSort : ByteArray := prog_14_method_90_code
def yX12_asSort : MethodName := ⟨RX12, "asSort", "(IJ)J"⟩
abbrev cX12_put : ByteArray := prog_14_method_91_code
def yX12_put : MethodName := ⟨RX12, "put", "(IIJ)I"⟩
abbrev cX12_element : ByteArray := prog_14_method_92_code
def yX12_element : MethodName := ⟨RX12, "element", "(II)J"⟩
abbrev cX12_shift : ByteArray := prog_14_method_93_code
def yX12_shift : MethodName := ⟨RX12, "shift", "(IIIII)I"⟩
abbrev cX12_taken : ByteArray := prog_14_method_94_code
def yX12_taken : MethodName := ⟨RX12, "taken", "(II)I"⟩
abbrev cX12_count : ByteArray := prog_14_method_95_code
def yX12_count : MethodName := ⟨RX12, "count", "(I)I"⟩
def RJ6 : String := "java/lang/Integer"
def TJ6 : u_T := fun k => match k with
  | _ => ("", "", "", false)
def tyJ6 : Nat → FieldType := fun k => match k with
  | _ => .int
theorem nmJ6 : ∀ a, a < 0 → ∀ b, b < 0 → a ≠ b → (TJ6 a).2.1 ≠ (TJ6 b).2.1 := by decide +kernel
theorem tyJ6_ok : ∀ k, k < 0 → parseFieldDescriptor (TJ6 k).2.2.1 = some (tyJ6 k) := by decide +kernel
abbrev cJ6_bitCount_0f7a4 : ByteArray := prog_15_method_49_code
def yJ6_bitCount_0f7a4 : MethodName := ⟨RJ6, "bitCount", "(I)I"⟩
def RJ9 : String := "java/lang/Math"
def TJ9 : u_T := fun k => match k with
  | _ => ("", "", "", false)
def tyJ9 : Nat → FieldType := fun k => match k with
  | _ => .int
theorem nmJ9 : ∀ a, a < 0 → ∀ b, b < 0 → a ≠ b → (TJ9 a).2.1 ≠ (TJ9 b).2.1 := by decide +kernel
theorem tyJ9_ok : ∀ k, k < 0 → parseFieldDescriptor (TJ9 k).2.2.1 = some (tyJ9 k) := by decide +kernel
abbrev cJ9_abs_0f7a4 : ByteArray := prog_16_method_59_code
def yJ9_abs_0f7a4 : MethodName := ⟨RJ9, "abs", "(I)I"⟩
abbrev cJ9_max_7cf53 : ByteArray := prog_16_method_65_code
def yJ9_max_7cf53 : MethodName := ⟨RJ9, "max", "(II)I"⟩
abbrev cJ9_min_7cf53 : ByteArray := prog_16_method_69_code
def yJ9_min_7cf53 : MethodName := ⟨RJ9, "min", "(II)I"⟩
def RJ10 : String := "java/lang/System"
def TJ10 : u_T := fun k => match k with
  | _ => ("", "", "", false)
def tyJ10 : Nat → FieldType := fun k => match k with
  | _ => .int
theorem nmJ10 : ∀ a, a < 0 → ∀ b, b < 0 → a ≠ b → (TJ10 a).2.1 ≠ (TJ10 b).2.1 := by decide +kernel
theorem tyJ10_ok : ∀ k, k < 0 → parseFieldDescriptor (TJ10 k).2.2.1 = some (tyJ10 k) := by decide +kernel
def RJ7 : String := "java/util/Arrays"
def TJ7 : u_T := fun k => match k with
  | _ => ("", "", "", false)
def tyJ7 : Nat → FieldType := fun k => match k with
  | _ => .int
theorem nmJ7 : ∀ a, a < 0 → ∀ b, b < 0 → a ≠ b → (TJ7 a).2.1 ≠ (TJ7 b).2.1 := by decide +kernel
theorem tyJ7_ok : ∀ k, k < 0 → parseFieldDescriptor (TJ7 k).2.2.1 = some (tyJ7 k) := by decide +kernel
abbrev cJ7_fill_d0a16 : ByteArray := prog_18_method_101_code
def yJ7_fill_d0a16 : MethodName := ⟨RJ7, "fill", "([JJ)V"⟩
abbrev cJ7_fill_53178 : ByteArray := prog_18_method_103_code
def yJ7_fill_53178 : MethodName := ⟨RJ7, "fill", "([II)V"⟩
def RL : String := "ColdShodLaw"
abbrev cL_law : ByteArray := code
def yL_law : MethodName := ⟨RL, "law", "([I)Z"⟩
abbrev vwCl : List vw_C := [(RX0, TX0, 6), (RX1, TX1, 6), (RX2, TX2, 11), (RX3, TX3, 7), (RX4, TX4, 4), (RX5, TX5, 4), (RX6, TX6, 3), (RX7, TX7, 5), (RX8, TX8, 5), (RX9, TX9, 7), (RX10, TX10, 5), (RX11, TX11, 14), (RX12, TX12, 49)]
end
section
/-! A SMALL MACHINE over numbered cells: what a method does to cells, as a function. Cells 0 .. 5 are read-only int rows (the script, five static rows); the others are those that the program makes, in the order of making. A value '.ref k' here names cell k. -/
/-- shapes (tag, length): 0 int row, 1 long row, 2 3 4 rows of Idea, Road, Shelf, 5 a read-only int row, 10 + c an object of class c; ints, longs, references by cell and place -/
abbrev zH : Type := List (Nat × Nat) × (Nat → Nat → Int32) × (Nat → Nat → Int64) × (Nat → Nat → Option Nat)
/-- an instruction: what it does, its length, three numbers, a value, a list -/
abbrev zI : Type := Nat × Nat × Nat × Nat × Nat × Value × List (Int32 × Nat)
/-- a place in a method: pc, locals, stack, cells -/
abbrev zC : Type := Nat × List (Option Value) × List Value × zH
/-- go on; call (callee, arguments, where it goes on); return -/
abbrev zO : Type := zC ⊕ ((Nat × List Value × zC) ⊕ Option Value)
def zget {α : Type} : List α → Nat → Option α
  | [], _ => none
  | a :: _, 0 => some a
  | _ :: l, n + 1 => zget l n
def zput {α : Type} : List α → Nat → α → List α
  | [], _, _ => []
  | _ :: l, 0, x => x :: l
  | a :: l, n + 1, x => a :: zput l n x
def zup {α : Type} (f : Nat → Nat → α) (o k : Nat) (v : α) : Nat → Nat → α := fun o' k' => bif Nat.beq o' o && Nat.beq k' k then v else f o' k'
def zrow {α : Type} (f : Nat → Nat → α) (o : Nat) (r : Nat → α) : Nat → Nat → α := fun o' k' => bif Nat.beq o' o then r k' else f o' k'
def zcpy {α : Type} (f g : Nat → α) (sp dp n : Nat) : Nat → α := fun k => bif Nat.ble dp k && Nat.blt k (dp + n) then f (sp + (k - dp)) else g k
def zix (i : Int32) : Nat := i.toBitVec.toNat
def zlong : Value → Bool
  | .long _ => true
  | .double _ => true
  | _ => false
/-- a long ahead of place i is cut off -/
def zclr (lo : List (Option Value)) (i : Nat) : List (Option Value) := match i with
  | 0 => lo
  | j + 1 => match zget lo j with
    | some (some w) => bif zlong w then zput lo j none else lo
    | _ => lo
def zst1 (lo : List (Option Value)) (i : Nat) (v : Value) : List (Option Value) := zput (zclr lo i) i (some v)
def zst2 (lo : List (Option Value)) (i : Nat) (v : Value) : List (Option Value) := zput (zput (zclr lo i) i (some v)) (i + 1) none
def zargs : List Value → List (Option Value)
  | [] => []
  | v :: r => bif zlong v then some v :: none :: zargs r else some v :: zargs r
def zpad : Nat → List (Option Value) → List (Option Value)
  | 0, l => l
  | n + 1, [] => none :: zpad n []
  | n + 1, a :: l => a :: zpad n l
def zbin : Nat → Int32 → Int32 → Int32
  | 0, x, y => x + y
  | 1, x, y => x - y
  | 2, x, y => x * y
  | 3, x, y => x &&& y
  | 4, x, y => x ||| y
  | 5, x, y => x ^^^ y
  | 6, x, y => x <<< (y &&& 31)
  | 7, x, y => x >>> (y &&& 31)
  | _, x, y => (x.toUInt32 >>> (y.toUInt32 &&& Int32.toUInt32 31)).toInt32
def zun : Nat → Int32 → Int32
  | 0, x => -x
  | 1, x => x.toInt8.toInt32
  | _, x => x.toInt16.toInt32
def zif : Nat → Int32 → Nat → Nat → Nat
  | 0, x, t, n => if x = 0 then t else n
  | 1, x, t, n => if x = 0 then n else t
  | 2, x, t, n => if x < 0 then t else n
  | 3, x, t, n => if x < 0 then n else t
  | 4, x, t, n => if 0 < x then t else n
  | _, x, t, n => if 0 < x then n else t
def zicmp : Nat → Int32 → Int32 → Nat → Nat → Nat
  | 0, x, y, t, n => if x = y then t else n
  | 1, x, y, t, n => if x = y then n else t
  | 2, x, y, t, n => if x < y then t else n
  | 3, x, y, t, n => if x < y then n else t
  | 4, x, y, t, n => if y < x then t else n
  | _, x, y, t, n => if y < x then n else t
def zsw (x : Int32) : List (Int32 × Nat) → Nat → Nat
  | [], d => d
  | (k, t) :: r, d => if x = k then t else zsw x r d
/-- the class of what a row of objects holds -/
def zcomp : Nat → Nat
  | 2 => 3
  | 3 => 7
  | _ => 8
def zcat : List Value → Nat
  | [] => 0
  | v :: r => (bif zlong v then 2 else 1) + zcat r
def ztake : Nat → List Value → List Value → Option (List Value × List Value)
  | 0, acc, st => some (acc, st)
  | n + 1, acc, v :: st => ztake n (v :: acc) st
  | _ + 1, _, [] => none
def zgo (x : zC) : Option zO := some (.inl x)
def zs0 (len : Nat) (v : Value) : zC → Option zO := fun (pc, lo, st, h) => zgo (pc + len, lo, v :: st, h)
def zs1 (len a : Nat) : zC → Option zO := fun (pc, lo, st, h) => match zget lo a with
  | some (some (.int x)) => zgo (pc + len, lo, .int x :: st, h)
  | _ => none
def zs2 (len a : Nat) : zC → Option zO := fun (pc, lo, st, h) => match zget lo a with
  | some (some (.long x)) => zgo (pc + len, lo, .long x :: st, h)
  | _ => none
def zs3 (len a : Nat) : zC → Option zO := fun (pc, lo, st, h) => match zget lo a with
  | some (some (.ref x)) => zgo (pc + len, lo, .ref x :: st, h)
  | _ => none
def zs4 (len a : Nat) : zC → Option zO := fun (pc, lo, st, h) => match st with
  | .int x :: r => zgo (pc + len, zst1 lo a (.int x), r, h)
  | _ => none
def zs5 (len a : Nat) : zC → Option zO := fun (pc, lo, st, h) => match st with
  | .long x :: r => zgo (pc + len, zst2 lo a (.long x), r, h)
  | _ => none
def zs6 (len a : Nat) : zC → Option zO := fun (pc, lo, st, h) => match st with
  | .ref x :: r => zgo (pc + len, zst1 lo a (.ref x), r, h)
  | _ => none
def zs7 (len b : Nat) : zC → Option zO := fun (pc, lo, st, h) => match st with
  | .int y :: .int x :: r => zgo (pc + len, lo, .int (zbin b x y) :: r, h)
  | _ => none
def zs8 (len b : Nat) : zC → Option zO := fun (pc, lo, st, h) => match st with
  | .int y :: .int x :: r => if y = 0 then none else zgo (pc + len, lo, .int (match b with
    | 0 => x / y
    | _ => x - x / y * y) :: r, h)
  | _ => none
def zs9 (len b : Nat) : zC → Option zO := fun (pc, lo, st, h) => match st with
  | .int x :: r => zgo (pc + len, lo, .int (zun b x) :: r, h)
  | _ => none
def zs10 (len : Nat) : zC → Option zO := fun (pc, lo, st, h) => match st with
  | .int x :: r => zgo (pc + len, lo, .long x.toInt64 :: r, h)
  | _ => none
def zs11 (len : Nat) : zC → Option zO := fun (pc, lo, st, h) => match st with
  | .long x :: r => zgo (pc + len, lo, .int x.toInt32 :: r, h)
  | _ => none
def zs12 (len b : Nat) : zC → Option zO := fun (pc, lo, st, h) => match st with
  | .long y :: .long x :: r => zgo (pc + len, lo, .long (match b with
    | 0 => x &&& y
    | _ => x ||| y) :: r, h)
  | _ => none
def zs13 (len : Nat) : zC → Option zO := fun (pc, lo, st, h) => match st with
  | .int y :: .long x :: r => zgo (pc + len, lo, .long (x <<< (y.toInt64 &&& 63)) :: r, h)
  | _ => none
def zs14 (len : Nat) : zC → Option zO := fun (pc, lo, st, h) => match st with
  | .long y :: .long x :: r => zgo (pc + len, lo, .int (lg_cmp x y) :: r, h)
  | _ => none
def zs15 (len a b : Nat) : zC → Option zO := fun (pc, lo, st, h) => match st with
  | .int x :: r => zgo (zif b x a (pc + len), lo, r, h)
  | _ => none
def zs16 (len a b : Nat) : zC → Option zO := fun (pc, lo, st, h) => match st with
  | .int y :: .int x :: r => zgo (zicmp b x y a (pc + len), lo, r, h)
  | _ => none
def zs17 (a : Nat) : zC → Option zO := fun (_, lo, st, h) => zgo (a, lo, st, h)
def zs18 (a : Nat) (sw : List (Int32 × Nat)) : zC → Option zO := fun (_, lo, st, h) => match st with
  | .int x :: r => zgo (zsw x sw a, lo, r, h)
  | _ => none
def zs19 (len a : Nat) (v : Value) : zC → Option zO := fun (pc, lo, st, h) => match zget lo a, v with
  | some (some (.int x)), .int k => zgo (pc + len, zst1 lo a (.int (x + k)), st, h)
  | _, _ => none
def zs20 (len a b c : Nat) : zC → Option zO := fun (pc, lo, st, h) => match st with
  | .ref o :: r => match zget h.1 o with
    | some (t, n) => bif Nat.beq t (10 + a) && Nat.blt b n then zgo (pc + len, lo, (match c with
      | 1 => va_rf (h.2.2.2 o b)
      | _ => .int (h.2.1 o b)) :: r, h) else none
    | _ => none
  | _ => none
def zs21 (len a b c : Nat) : zC → Option zO := fun (pc, lo, st, h) => match st with
  | .int x :: .ref o :: r => match zget h.1 o with
    | some (t, n) => bif Nat.beq t (10 + a) && Nat.blt b n then (match c with
      | 0 => zgo (pc + len, lo, r, (h.1, zup h.2.1 o b x, h.2.2.1, h.2.2.2))
      | 2 => if x = 0 ∨ x = 1 then zgo (pc + len, lo, r, (h.1, zup h.2.1 o b x, h.2.2.1, h.2.2.2)) else none
      | _ => none) else none
    | _ => none
  | .ref q :: .ref o :: r => match zget h.1 o with
    | some (t, n) => bif Nat.beq t (10 + a) && Nat.blt b n then (match c with
      | 1 => zgo (pc + len, lo, r, (h.1, h.2.1, h.2.2.1, zup h.2.2.2 o b (some q)))
      | _ => none) else none
    | _ => none
  | _ => none
def zs22 (len : Nat) : zC → Option zO := fun (pc, lo, st, h) => match st with
  | .int i :: .ref o :: r => match zget h.1 o with
    | some (t, n) => bif (Nat.beq t 0 || Nat.beq t 5) && Nat.blt (zix i) n then zgo (pc + len, lo, .int (h.2.1 o (zix i)) :: r, h) else none
    | _ => none
  | _ => none
def zs23 (len : Nat) : zC → Option zO := fun (pc, lo, st, h) => match st with
  | .int i :: .ref o :: r => match zget h.1 o with
    | some (t, n) => bif Nat.beq t 1 && Nat.blt (zix i) n then zgo (pc + len, lo, .long (h.2.2.1 o (zix i)) :: r, h) else none
    | _ => none
  | _ => none
def zs24 (len : Nat) : zC → Option zO := fun (pc, lo, st, h) => match st with
  | .int i :: .ref o :: r => match zget h.1 o with
    | some (t, n) => bif (Nat.ble 2 t && Nat.ble t 4) && Nat.blt (zix i) n then zgo (pc + len, lo, va_rf (h.2.2.2 o (zix i)) :: r, h) else none
    | _ => none
  | _ => none
def zs25 (len : Nat) : zC → Option zO := fun (pc, lo, st, h) => match st with
  | .int x :: .int i :: .ref o :: r => match zget h.1 o with
    | some (t, n) => bif Nat.beq t 0 && Nat.blt (zix i) n then zgo (pc + len, lo, r, (h.1, zup h.2.1 o (zix i) x, h.2.2.1, h.2.2.2)) else none
    | _ => none
  | _ => none
def zs26 (len : Nat) : zC → Option zO := fun (pc, lo, st, h) => match st with
  | .long x :: .int i :: .ref o :: r => match zget h.1 o with
    | some (t, n) => bif Nat.beq t 1 && Nat.blt (zix i) n then zgo (pc + len, lo, r, (h.1, h.2.1, zup h.2.2.1 o (zix i) x, h.2.2.2)) else none
    | _ => none
  | _ => none
def zs27 (len : Nat) : zC → Option zO := fun (pc, lo, st, h) => match st with
  | .ref q :: .int i :: .ref o :: r => match zget h.1 o, zget h.1 q with
    | some (t, n), some (t2, _) => bif ((Nat.ble 2 t && Nat.ble t 4) && Nat.beq t2 (10 + zcomp t)) && Nat.blt (zix i) n then zgo (pc + len, lo, r, (h.1, h.2.1, h.2.2.1, zup h.2.2.2 o (zix i) (some q))) else none
    | _, _ => none
  | _ => none
def zs28 (len : Nat) : zC → Option zO := fun (pc, lo, st, h) => match st with
  | .ref o :: r => match zget h.1 o with
    | some (t, n) => bif Nat.ble t 5 then zgo (pc + len, lo, .int (Int32.ofNat n) :: r, h) else none
    | _ => none
  | _ => none
/-- a new cell: the shape behind all others, its places empty -/
def znew (h : zH) (t n : Nat) : zH := (h.1 ++ [(t, n)], zrow h.2.1 h.1.length (fun _ => 0), zrow h.2.2.1 h.1.length (fun _ => 0), zrow h.2.2.2 h.1.length (fun _ => none))
def zs29 (len a b : Nat) : zC → Option zO := fun (pc, lo, st, h) => zgo (pc + len, lo, .ref h.1.length :: st, znew h (10 + a) b)
def zs30 (len a : Nat) : zC → Option zO := fun (pc, lo, st, h) => match st with
  | .int n :: r => bif Nat.blt (zix n) 100000 && Nat.ble a 4 then zgo (pc + len, lo, .ref h.1.length :: r, znew h a (zix n)) else none
  | _ => none
def zs31 (len b : Nat) : zC → Option zO := fun (pc, lo, st, h) => match b with
  | 0 => (match st with
    | .int y :: .int x :: r => bif Nat.ble (zcat r) 8 then zgo (pc + len, lo, .int (if x < y then y else x) :: r, h) else none
    | _ => none)
  | 1 => (match st with
    | .int y :: .int x :: r => bif Nat.ble (zcat r) 8 then zgo (pc + len, lo, .int (if y < x then y else x) :: r, h) else none
    | _ => none)
  | _ => (match st with
    | .int x :: r => bif Nat.ble (zcat r) 8 then zgo (pc + len, lo, .int (if x < 0 then -x else x) :: r, h) else none
    | _ => none)
def zs32 (len a b c ci : Nat) : zC → Option zO := fun (pc, lo, st, h) => match ztake b [] st with
  | some (as, r) => bif Nat.ble (zcat r) 8 then (match c with
    | 1 => some (.inr (.inl (a, as, (pc + len, lo, r, h))))
    | _ => match as with
      | .ref o :: _ => match zget h.1 o with
        | some (t, _) => bif Nat.beq t (10 + ci) then some (.inr (.inl (a, as, (pc + len, lo, r, h)))) else none
        | _ => none
      | _ => none) else none
  | _ => none
def zs33 (len : Nat) : zC → Option zO := fun (pc, lo, st, h) => match st with
  | .ref _ :: r => bif Nat.ble (zcat r) 8 then zgo (pc + len, lo, r, h) else none
  | _ => none
def zs34 (len : Nat) : zC → Option zO := fun (pc, lo, st, h) => match st with
  | .int n :: .int dp :: .ref o1 :: .int sp :: .ref o0 :: r => match zget h.1 o0, zget h.1 o1 with
    | some (t0, n0), some (t1, n1) => bif (((Nat.beq t0 t1 && Nat.blt (zix n) 100000) && (Nat.blt (zix sp) 100000 && Nat.blt (zix dp) 100000)) && (Nat.ble (zix sp + zix n) n0 && Nat.ble (zix dp + zix n) n1)) && Nat.ble (zcat r) 8 then (match t0 with
      | 0 => zgo (pc + len, lo, r, (h.1, zrow h.2.1 o1 (zcpy (h.2.1 o0) (h.2.1 o1) (zix sp) (zix dp) (zix n)), h.2.2.1, h.2.2.2))
      | 1 => zgo (pc + len, lo, r, (h.1, h.2.1, zrow h.2.2.1 o1 (zcpy (h.2.2.1 o0) (h.2.2.1 o1) (zix sp) (zix dp) (zix n)), h.2.2.2))
      | _ => none) else none
    | _, _ => none
  | _ => none
def zs35 (c : Nat) : zC → Option zO := fun (_, _, st, _) => match st with
  | [.int x] => (match c with
    | 1 => if x = 0 ∨ x = 1 then some (.inr (.inr (some (.int x)))) else none
    | _ => some (.inr (.inr (some (.int x)))))
  | _ => none
def zs36 : zC → Option zO := fun (_, _, st, _) => match st with
  | [.long x] => some (.inr (.inr (some (.long x))))
  | _ => none
def zs37 : zC → Option zO := fun (_, _, st, _) => match st with
  | [.ref x] => some (.inr (.inr (some (.ref x))))
  | _ => none
def zs38 : zC → Option zO := fun (_, _, st, _) => match st with
  | [] => some (.inr (.inr none))
  | _ => none
def zs39 (len : Nat) : zC → Option zO := fun (pc, lo, st, h) => match st with
  | v :: r => bif zlong v then none else zgo (pc + len, lo, v :: v :: r, h)
  | _ => none
def zs40 (len : Nat) : zC → Option zO := fun (pc, lo, st, h) => match st with
  | v :: w :: r => bif zlong v || zlong w then none else zgo (pc + len, lo, v :: w :: v :: r, h)
  | _ => none
def zs41 (len : Nat) : zC → Option zO := fun (pc, lo, st, h) => match st with
  | v :: w :: r => bif zlong v || zlong w then none else zgo (pc + len, lo, v :: w :: v :: w :: r, h)
  | _ => none
def zs42 (len : Nat) : zC → Option zO := fun (pc, lo, st, h) => match st with
  | v :: r => bif zlong v then none else zgo (pc + len, lo, r, h)
  | _ => none
def zs43 (len a : Nat) : zC → Option zO := fun (pc, lo, st, h) => zgo (pc + len, lo, .ref a :: st, h)
def zs44 (len : Nat) : zC → Option zO := fun (pc, lo, st, h) => match st with
  | v :: r => bif zlong v then zgo (pc + len, lo, r, h) else none
  | _ => none
/-- one step -/
def zstep : zI → zC → Option zO := fun (op, len, a, b, c, v, sw) x => match op with
  | 0 => zs0 len v x
  | 1 => zs1 len a x
  | 2 => zs2 len a x
  | 3 => zs3 len a x
  | 4 => zs4 len a x
  | 5 => zs5 len a x
  | 6 => zs6 len a x
  | 7 => zs7 len b x
  | 8 => zs8 len b x
  | 9 => zs9 len b x
  | 10 => zs10 len x
  | 11 => zs11 len x
  | 12 => zs12 len b x
  | 13 => zs13 len x
  | 14 => zs14 len x
  | 15 => zs15 len a b x
  | 16 => zs16 len a b x
  | 17 => zs17 a x
  | 18 => zs18 a sw x
  | 19 => zs19 len a v x
  | 20 => zs20 len a b c x
  | 21 => zs21 len a b c x
  | 22 => zs22 len x
  | 23 => zs23 len x
  | 24 => zs24 len x
  | 25 => zs25 len x
  | 26 => zs26 len x
  | 27 => zs27 len x
  | 28 => zs28 len x
  | 29 => zs29 len a b x
  | 30 => zs30 len a x
  | 31 => zs31 len b x
  | 32 => zs32 len a b (c % 4) (c / 4) x
  | 33 => zs33 len x
  | 34 => zs34 len x
  | 35 => zs35 c x
  | 36 => zs36 x
  | 37 => zs37 x
  | 38 => zs38 x
  | 39 => zs39 len x
  | 40 => zs40 len x
  | 41 => zs41 len x
  | 42 => zs42 len x
  | 43 => zs43 len a x
  | 44 => zs44 len x
  | _ => none
end
section
/-! THE PROGRAM as tables of the small machine: printed by a program (wip/gen/tables.py) out of the decode rows and the words of the Statement. -/
def zW_0 : List Cond := [.code yX0_init prog_2_method_1_code 1 none, .initialized RX0, .instanceMethod yX0_init, .code yX0_has prog_2_method_2_code 2 (some .boolean), .instanceMethod yX0_has, .selects RX0 yX0_has yX0_has, .code yX0_add prog_2_method_3_code 2 (some .int), .instanceMethod yX0_add, .selects RX0 yX0_add yX0_add, .code yX0_isUnder prog_2_method_4_code 4 (some .boolean), .static yX0_isUnder, .code yX0_bodyThatRan prog_2_method_5_code 2 (some .int), .instanceMethod yX0_bodyThatRan, .selects RX0 yX0_bodyThatRan yX0_bodyThatRan, .code yX0_perform prog_2_method_6_code 4 (some .int), .instanceMethod yX0_perform]
def zW_1 : List Cond := [.selects RX0 yX0_perform yX0_perform, .code yX0_run prog_2_method_7_code 7 (some .int), .instanceMethod yX0_run, .selects RX0 yX0_run yX0_run, .code yX0_work prog_2_method_8_code 5 (some .int), .instanceMethod yX0_work, .selects RX0 yX0_work yX0_work, .code yX1_init prog_3_method_1_code 1 none, .initialized RX1, .instanceMethod yX1_init, .code yX1_note prog_3_method_2_code 5 none, .instanceMethod yX1_note, .selects RX1 yX1_note yX1_note, .code yX1_forgetFirst prog_3_method_3_code 1 none, .instanceMethod yX1_forgetFirst, .selects RX1 yX1_forgetFirst yX1_forgetFirst]
def zW_2 : List Cond := [.code yX1_takeBack prog_3_method_4_code 2 none, .instanceMethod yX1_takeBack, .selects RX1 yX1_takeBack yX1_takeBack, .code yX1_doAgain prog_3_method_5_code 2 none, .instanceMethod yX1_doAgain, .selects RX1 yX1_doAgain yX1_doAgain, .code yX2_init prog_4_method_1_code 2 none, .initialized RX2, .instanceMethod yX2_init, .code yX2_hasHead prog_4_method_2_code 2 (some .boolean), .instanceMethod yX2_hasHead, .selects RX2 yX2_hasHead yX2_hasHead, .code yX2_hasIdea prog_4_method_3_code 2 (some .boolean), .instanceMethod yX2_hasIdea, .selects RX2 yX2_hasIdea yX2_hasIdea, .code yX2_hasRoad prog_4_method_4_code 2 (some .boolean)]
def zW_3 : List Cond := [.instanceMethod yX2_hasRoad, .selects RX2 yX2_hasRoad yX2_hasRoad, .code yX2_layRoad prog_4_method_5_code 5 (some .int), .instanceMethod yX2_layRoad, .selects RX2 yX2_layRoad yX2_layRoad, .code yX2_isThere prog_4_method_6_code 3 (some .boolean), .instanceMethod yX2_isThere, .selects RX2 yX2_isThere yX2_isThere, .code yX2_canBe prog_4_method_7_code 4 (some .boolean), .instanceMethod yX2_canBe, .selects RX2 yX2_canBe yX2_canBe, .code yX2_numberOf prog_4_method_8_code 3 (some .int), .instanceMethod yX2_numberOf, .selects RX2 yX2_numberOf yX2_numberOf, .code yX2_setNumber prog_4_method_9_code 4 none, .instanceMethod yX2_setNumber]
def zW_4 : List Cond := [.selects RX2 yX2_setNumber yX2_setNumber, .code yX2_willBehind prog_4_method_10_code 2 (some .int), .instanceMethod yX2_willBehind, .selects RX2 yX2_willBehind yX2_willBehind, .code yX2_wearOf prog_4_method_11_code 3 (some .int), .instanceMethod yX2_wearOf, .selects RX2 yX2_wearOf yX2_wearOf, .code yX2_travel prog_4_method_12_code 5 (some .int), .instanceMethod yX2_travel, .selects RX2 yX2_travel yX2_travel, .code yX2_letAllAsk prog_4_method_13_code 5 none, .instanceMethod yX2_letAllAsk, .selects RX2 yX2_letAllAsk yX2_letAllAsk, .code yX2_firstOfOthers prog_4_method_14_code 4 (some .int), .instanceMethod yX2_firstOfOthers, .selects RX2 yX2_firstOfOthers yX2_firstOfOthers]
def zW_5 : List Cond := [.code yX2_nearestOfOthers prog_4_method_15_code 5 (some .int), .instanceMethod yX2_nearestOfOthers, .selects RX2 yX2_nearestOfOthers yX2_nearestOfOthers, .code yX2_isRatherHead prog_4_method_16_code 3 (some .boolean), .instanceMethod yX2_isRatherHead, .selects RX2 yX2_isRatherHead yX2_isRatherHead, .code yX2_isRatherIdea prog_4_method_17_code 6 (some .boolean), .instanceMethod yX2_isRatherIdea, .selects RX2 yX2_isRatherIdea yX2_isRatherIdea, .code yX2_isSettled prog_4_method_18_code 4 (some .boolean), .instanceMethod yX2_isSettled, .selects RX2 yX2_isSettled yX2_isSettled, .code yX2_fewestYokes prog_4_method_19_code 4 (some .int), .instanceMethod yX2_fewestYokes, .selects RX2 yX2_fewestYokes yX2_fewestYokes, .code yX2_greatestClash prog_4_method_20_code 3 (some .int)]
def zW_6 : List Cond := [.instanceMethod yX2_greatestClash, .selects RX2 yX2_greatestClash yX2_greatestClash, .code yX2_allClash prog_4_method_21_code 5 (some .boolean), .instanceMethod yX2_allClash, .selects RX2 yX2_allClash yX2_allClash, .code yX3_init prog_5_method_1_code 1 none, .initialized RX3, .instanceMethod yX3_init, .code yX3_become prog_5_method_2_code 2 none, .instanceMethod yX3_become, .selects RX3 yX3_become yX3_become, .code yX3_becomeByDeeds prog_5_method_3_code 2 none, .instanceMethod yX3_becomeByDeeds, .selects RX3 yX3_becomeByDeeds yX3_becomeByDeeds, .code yX3_grip prog_5_method_4_code 1 (some .int), .instanceMethod yX3_grip]
def zW_7 : List Cond := [.selects RX3 yX3_grip yX3_grip, .code yX3_isLame prog_5_method_5_code 1 (some .boolean), .instanceMethod yX3_isLame, .selects RX3 yX3_isLame yX3_isLame, .code yX3_canClimb prog_5_method_6_code 2 (some .boolean), .instanceMethod yX3_canClimb, .selects RX3 yX3_canClimb yX3_canClimb, .code yX3_setsOutOn prog_5_method_7_code 2 (some .boolean), .instanceMethod yX3_setsOutOn, .selects RX3 yX3_setsOutOn yX3_setsOutOn, .code yX3_wearBy prog_5_method_8_code 2 none, .instanceMethod yX3_wearBy, .selects RX3 yX3_wearBy yX3_wearBy, .code yX3_cool prog_5_method_9_code 2 none, .instanceMethod yX3_cool, .selects RX3 yX3_cool yX3_cool]
def zW_8 : List Cond := [.code yX3_strike prog_5_method_10_code 2 (some .boolean), .instanceMethod yX3_strike, .selects RX3 yX3_strike yX3_strike, .code yX3_heatUp prog_5_method_11_code 2 (some .boolean), .instanceMethod yX3_heatUp, .selects RX3 yX3_heatUp yX3_heatUp, .code yX3_drawTo prog_5_method_12_code 2 (some .boolean), .instanceMethod yX3_drawTo, .selects RX3 yX3_drawTo yX3_drawTo, .code yX3_nail prog_5_method_13_code 1 (some .boolean), .instanceMethod yX3_nail, .selects RX3 yX3_nail yX3_nail, .code yX4_init prog_6_method_1_code 1 none, .initialized RX4, .instanceMethod yX4_init, .code yX4_read prog_6_method_2_code 6 none]
def zW_9 : List Cond := [.instanceMethod yX4_read, .selects RX4 yX4_read yX4_read, .code yX4_allGone prog_6_method_3_code 4 (some .boolean), .instanceMethod yX4_allGone, .selects RX4 yX4_allGone yX4_allGone, .code yX4_goesStage prog_6_method_4_code 6 (some .boolean), .instanceMethod yX4_goesStage, .selects RX4 yX4_goesStage yX4_goesStage, .code yX4_firstWrong prog_6_method_5_code 6 (some .int), .instanceMethod yX4_firstWrong, .selects RX4 yX4_firstWrong yX4_firstWrong, .code yX5_init prog_7_method_1_code 1 none, .initialized RX5, .instanceMethod yX5_init, .code yX5_clear prog_7_method_2_code 1 none, .instanceMethod yX5_clear]
def zW_10 : List Cond := [.selects RX5 yX5_clear yX5_clear, .code yX5_add prog_7_method_3_code 2 none, .instanceMethod yX5_add, .selects RX5 yX5_add yX5_add, .code yX5_addName prog_7_method_4_code 2 none, .instanceMethod yX5_addName, .selects RX5 yX5_addName yX5_addName, .code yX5_addSkip prog_7_method_5_code 1 (some .int), .instanceMethod yX5_addSkip, .selects RX5 yX5_addSkip yX5_addSkip, .code yX5_endSkip prog_7_method_6_code 2 none, .instanceMethod yX5_endSkip, .selects RX5 yX5_endSkip yX5_endSkip, .code yX5_worth prog_7_method_7_code 8 (some .int), .instanceMethod yX5_worth, .selects RX5 yX5_worth yX5_worth]
def zW_11 : List Cond := [.code yX5_isName prog_7_method_8_code 1 (some .boolean), .static yX5_isName, .code yX5_joined prog_7_method_9_code 3 (some .int), .static yX5_joined, .code yX6_init prog_8_method_1_code 1 none, .initialized RX6, .instanceMethod yX6_init, .code yX6_take prog_8_method_2_code 2 (some .boolean), .instanceMethod yX6_take, .selects RX6 yX6_take yX6_take, .code yX6_readInto prog_8_method_3_code 3 (some .int), .instanceMethod yX6_readInto, .selects RX6 yX6_readInto yX6_readInto, .code yX6_readLine prog_8_method_4_code 3 (some .boolean), .instanceMethod yX6_readLine, .selects RX6 yX6_readLine yX6_readLine]
def zW_12 : List Cond := [.code yX6_readLevel prog_8_method_5_code 7 (some .boolean), .instanceMethod yX6_readLevel, .selects RX6 yX6_readLevel yX6_readLevel, .code yX6_readOperand prog_8_method_6_code 5 (some .boolean), .instanceMethod yX6_readOperand, .selects RX6 yX6_readOperand yX6_readOperand, .code yX6_readNumber prog_8_method_7_code 4 (some .boolean), .instanceMethod yX6_readNumber, .selects RX6 yX6_readNumber yX6_readNumber, .code yX6_letter prog_8_method_8_code 1 (some .int), .instanceMethod yX6_letter, .selects RX6 yX6_letter yX6_letter, .code yX6_passes prog_8_method_9_code 2 (some .boolean), .instanceMethod yX6_passes, .selects RX6 yX6_passes yX6_passes, .code yX6_isDigit prog_8_method_10_code 1 (some .boolean)]
def zW_13 : List Cond := [.static yX6_isDigit, .code yX6_nameOf prog_8_method_11_code 1 (some .int), .static yX6_nameOf, .code yX6_levelOf prog_8_method_12_code 1 (some .int), .static yX6_levelOf, .code yX7_init prog_9_method_1_code 1 none, .initialized RX7, .instanceMethod yX7_init, .code yX7_farEnd prog_9_method_2_code 2 (some .int), .instanceMethod yX7_farEnd, .selects RX7 yX7_farEnd yX7_farEnd, .code yX8_init prog_10_method_1_code 1 none, .initialized RX8, .instanceMethod yX8_init, .code yX8_holdSmith prog_10_method_2_code 2 none, .instanceMethod yX8_holdSmith]
def zW_14 : List Cond := [.selects RX8 yX8_holdSmith yX8_holdSmith, .code yX8_holdRow prog_10_method_3_code 3 none, .instanceMethod yX8_holdRow, .selects RX8 yX8_holdRow yX8_holdRow, .code yX8_isBytes prog_10_method_4_code 1 (some .boolean), .instanceMethod yX8_isBytes, .selects RX8 yX8_isBytes yX8_isBytes, .code yX8_hasRange prog_10_method_5_code 3 (some .boolean), .instanceMethod yX8_hasRange, .selects RX8 yX8_hasRange yX8_hasRange, .code yX8_cut prog_10_method_6_code 3 (some .long), .instanceMethod yX8_cut, .selects RX8 yX8_cut yX8_cut, .code yX9_init prog_11_method_1_code 1 none, .initialized RX9, .instanceMethod yX9_init]
def zW_15 : List Cond := [.code yX9_fewestFor prog_11_method_2_code 5 (some .int), .instanceMethod yX9_fewestFor, .selects RX9 yX9_fewestFor yX9_fewestFor, .code yX9_addNext prog_11_method_3_code 5 none, .instanceMethod yX9_addNext, .selects RX9 yX9_addNext yX9_addNext, .code yX9_isFound prog_11_method_4_code 3 (some .boolean), .instanceMethod yX9_isFound, .selects RX9 yX9_isFound yX9_isFound, .code yX9_tellPlan prog_11_method_5_code 5 (some .int), .instanceMethod yX9_tellPlan, .selects RX9 yX9_tellPlan yX9_tellPlan, .code yX9_stateOf prog_11_method_6_code 1 (some .int), .static yX9_stateOf, .code yX9_recall prog_11_method_7_code 3 none, .instanceMethod yX9_recall]
def zW_16 : List Cond := [.selects RX9 yX9_recall yX9_recall, .code yX10_init prog_12_method_1_code 2 none, .initialized RX10, .instanceMethod yX10_init, .code yX10_seek prog_12_method_2_code 5 none, .instanceMethod yX10_seek, .selects RX10 yX10_seek yX10_seek, .code yX10_follow prog_12_method_3_code 9 none, .instanceMethod yX10_follow, .selects RX10 yX10_follow yX10_follow, .code yX10_weigh prog_12_method_4_code 4 none, .instanceMethod yX10_weigh, .selects RX10 yX10_weigh yX10_weigh, .code yX11_init prog_1_method_1_code 2 none, .initialized RX11, .instanceMethod yX11_init]
def zW_17 : List Cond := [.code yX11_head prog_1_method_2_code 2 (some .int), .instanceMethod yX11_head, .selects RX11 yX11_head yX11_head, .code yX11_idea prog_1_method_3_code 4 (some .int), .instanceMethod yX11_idea, .selects RX11 yX11_idea yX11_idea, .code yX11_road prog_1_method_4_code 3 (some .int), .instanceMethod yX11_road, .selects RX11 yX11_road yX11_road, .code yX11_roads prog_1_method_5_code 7 (some .int), .instanceMethod yX11_roads, .selects RX11 yX11_roads yX11_roads, .code yX11_layRoadFrom prog_1_method_6_code 9 (some .boolean), .instanceMethod yX11_layRoadFrom, .selects RX11 yX11_layRoadFrom yX11_layRoadFrom, .code yX11_mend prog_1_method_7_code 5 (some .int)]
def zW_18 : List Cond := [.instanceMethod yX11_mend, .selects RX11 yX11_mend yX11_mend, .code yX11_of prog_1_method_8_code 3 (some .int), .instanceMethod yX11_of, .selects RX11 yX11_of yX11_of, .code yX11_feed prog_1_method_9_code 2 (some .int), .instanceMethod yX11_feed, .selects RX11 yX11_feed yX11_feed, .code yX11_law prog_1_method_10_code 3 (some .int), .instanceMethod yX11_law, .selects RX11 yX11_law yX11_law, .code yX11_wears prog_1_method_11_code 3 (some .int), .instanceMethod yX11_wears, .selects RX11 yX11_wears yX11_wears, .code yX11_journey prog_1_method_12_code 7 (some .int), .instanceMethod yX11_journey]
def zW_19 : List Cond := [.selects RX11 yX11_journey yX11_journey, .code yX11_strokes prog_1_method_13_code 6 (some .int), .instanceMethod yX11_strokes, .selects RX11 yX11_strokes yX11_strokes, .code yX11_way prog_1_method_14_code 4 (some .int), .instanceMethod yX11_way, .selects RX11 yX11_way yX11_way, .code yX11_reach prog_1_method_15_code 9 (some .int), .instanceMethod yX11_reach, .selects RX11 yX11_reach yX11_reach, .code yX11_asks prog_1_method_16_code 2 (some .int), .instanceMethod yX11_asks, .selects RX11 yX11_asks yX11_asks, .code yX11_settled prog_1_method_17_code 1 (some .int), .instanceMethod yX11_settled, .selects RX11 yX11_settled yX11_settled]
def zW_20 : List Cond := [.code yX11_yokes prog_1_method_18_code 3 (some .int), .instanceMethod yX11_yokes, .selects RX11 yX11_yokes yX11_yokes, .code yX11_judge prog_1_method_19_code 4 (some .int), .instanceMethod yX11_judge, .selects RX11 yX11_judge yX11_judge, .code yX11_edge prog_1_method_20_code 9 (some .int), .instanceMethod yX11_edge, .selects RX11 yX11_edge yX11_edge, .code yX11_byTurns prog_1_method_21_code 5 (some .int), .instanceMethod yX11_byTurns, .selects RX11 yX11_byTurns yX11_byTurns, .code yX11_wornAtBest prog_1_method_22_code 3 (some .int), .instanceMethod yX11_wornAtBest, .selects RX11 yX11_wornAtBest yX11_wornAtBest, .code yX11_leastBySmith prog_1_method_23_code 7 (some .int)]
def zW_21 : List Cond := [.instanceMethod yX11_leastBySmith, .selects RX11 yX11_leastBySmith yX11_leastBySmith, .code yX11_mostByKicker prog_1_method_24_code 6 (some .int), .instanceMethod yX11_mostByKicker, .selects RX11 yX11_mostByKicker yX11_mostByKicker, .code yX11_drawn prog_1_method_25_code 14 (some .int), .instanceMethod yX11_drawn, .selects RX11 yX11_drawn yX11_drawn, .code yX11_stroke prog_1_method_26_code 4 (some .int), .instanceMethod yX11_stroke, .selects RX11 yX11_stroke yX11_stroke, .code yX11_goes prog_1_method_27_code 6 (some .int), .instanceMethod yX11_goes, .selects RX11 yX11_goes yX11_goes, .code yX11_deal prog_1_method_28_code 3 (some .int), .instanceMethod yX11_deal]
def zW_22 : List Cond := [.selects RX11 yX11_deal yX11_deal, .code yX11_led prog_1_method_29_code 2 (some .int), .instanceMethod yX11_led, .selects RX11 yX11_led yX11_led, .code yX11_image prog_1_method_30_code 2 (some .int), .instanceMethod yX11_image, .selects RX11 yX11_image yX11_image, .code yX11_back prog_1_method_31_code 2 (some .int), .instanceMethod yX11_back, .selects RX11 yX11_back yX11_back, .code yX11_undo prog_1_method_32_code 1 (some .int), .instanceMethod yX11_undo, .selects RX11 yX11_undo yX11_undo, .code yX11_redo prog_1_method_33_code 1 (some .int), .instanceMethod yX11_redo, .selects RX11 yX11_redo yX11_redo]
def zW_23 : List Cond := [.code yX11_body prog_1_method_34_code 2 (some .int), .instanceMethod yX11_body, .selects RX11 yX11_body yX11_body, .code yX11_act prog_1_method_35_code 4 (some .int), .instanceMethod yX11_act, .selects RX11 yX11_act yX11_act, .code yX11_trace prog_1_method_36_code 2 (some .int), .instanceMethod yX11_trace, .selects RX11 yX11_trace yX11_trace, .code yX11_keep prog_1_method_37_code 3 (some .int), .instanceMethod yX11_keep, .selects RX11 yX11_keep yX11_keep, .code yX11_row prog_1_method_38_code 4 (some .int), .instanceMethod yX11_row, .selects RX11 yX11_row yX11_row, .code yX11_put prog_1_method_39_code 6 (some .int)]
def zW_24 : List Cond := [.instanceMethod yX11_put, .selects RX11 yX11_put yX11_put, .code yX11_element prog_1_method_40_code 3 (some .long), .instanceMethod yX11_element, .selects RX11 yX11_element yX11_element, .code yX11_shift prog_1_method_41_code 8 (some .int), .instanceMethod yX11_shift, .selects RX11 yX11_shift yX11_shift, .code yX11_taken prog_1_method_42_code 5 (some .int), .instanceMethod yX11_taken, .selects RX11 yX11_taken yX11_taken, .code yX11_count prog_1_method_43_code 2 (some .int), .instanceMethod yX11_count, .selects RX11 yX11_count yX11_count, .code yX11_isShelf prog_1_method_44_code 1 (some .boolean), .static yX11_isShelf]
def zW_25 : List Cond := [.code yX11_areShelves prog_1_method_45_code 1 (some .boolean), .static yX11_areShelves, .code yX11_isPlace prog_1_method_46_code 2 (some .boolean), .static yX11_isPlace, .code yX11_areUnlikePlaces prog_1_method_47_code 1 (some .boolean), .static yX11_areUnlikePlaces, .code yX11_thoughtOf prog_1_method_48_code 2 (some (.object "ColdShod$Idea")), .instanceMethod yX11_thoughtOf, .selects RX11 yX11_thoughtOf yX11_thoughtOf, .code yX11_refusalOfBytes prog_1_method_49_code 1 (some .int), .static yX11_refusalOfBytes, .code yX11_refusalOfEdge prog_1_method_50_code 3 (some .int), .instanceMethod yX11_refusalOfEdge, .selects RX11 yX11_refusalOfEdge yX11_refusalOfEdge, .code yX11_refusalOfElement prog_1_method_51_code 3 (some .int), .instanceMethod yX11_refusalOfElement]
def zW_26 : List Cond := [.selects RX11 yX11_refusalOfElement yX11_refusalOfElement, .code yX12_within prog_14_method_1_code 6 (some .boolean), .initialized RX12, .static yX12_within, .code yX12_isIn prog_14_method_2_code 2 (some .boolean), .static yX12_isIn, .code yX12_bitsOf prog_14_method_3_code 3 (some .int), .static yX12_bitsOf, .code yX12_sizeOf prog_14_method_4_code 1 (some .int), .static yX12_sizeOf, .code yX12_init prog_14_method_5_code 2 none, .instanceMethod yX12_init, .code yX12_becomes prog_14_method_6_code 5 (some .int), .instanceMethod yX12_becomes, .selects RX12 yX12_becomes yX12_becomes, .code yX12_undo prog_14_method_7_code 1 (some .int)]
def zW_27 : List Cond := [.instanceMethod yX12_undo, .selects RX12 yX12_undo yX12_undo, .code yX12_redo prog_14_method_8_code 1 (some .int), .instanceMethod yX12_redo, .selects RX12 yX12_redo yX12_redo, .code yX12_isHead prog_14_method_9_code 3 (some .boolean), .instanceMethod yX12_isHead, .selects RX12 yX12_isHead yX12_isHead, .code yX12_isIdea prog_14_method_10_code 3 (some .boolean), .instanceMethod yX12_isIdea, .selects RX12 yX12_isIdea yX12_isIdea, .code yX12_isRoad prog_14_method_11_code 3 (some .boolean), .instanceMethod yX12_isRoad, .selects RX12 yX12_isRoad yX12_isRoad, .code yX12_isPlace prog_14_method_12_code 2 (some .boolean), .static yX12_isPlace]
def zW_28 : List Cond := [.code yX12_head prog_14_method_13_code 2 (some .int), .instanceMethod yX12_head, .selects RX12 yX12_head yX12_head, .code yX12_idea prog_14_method_14_code 3 (some .int), .instanceMethod yX12_idea, .selects RX12 yX12_idea yX12_idea, .code yX12_mayCome prog_14_method_15_code 6 (some .boolean), .static yX12_mayCome, .code yX12_adds prog_14_method_16_code 4 none, .instanceMethod yX12_adds, .selects RX12 yX12_adds yX12_adds, .code yX12_road prog_14_method_17_code 3 (some .int), .instanceMethod yX12_road, .selects RX12 yX12_road yX12_road, .code yX12_roads prog_14_method_18_code 7 (some .int), .instanceMethod yX12_roads]
def zW_29 : List Cond := [.selects RX12 yX12_roads yX12_roads, .code yX12_placeOf prog_14_method_19_code 3 (some .int), .instanceMethod yX12_placeOf, .selects RX12 yX12_placeOf yX12_placeOf, .code yX12_mayBecome prog_14_method_20_code 3 (some .boolean), .instanceMethod yX12_mayBecome, .selects RX12 yX12_mayBecome yX12_mayBecome, .code yX12_mend prog_14_method_21_code 5 (some .int), .instanceMethod yX12_mend, .selects RX12 yX12_mend yX12_mend, .code yX12_of prog_14_method_22_code 4 (some .int), .instanceMethod yX12_of, .selects RX12 yX12_of yX12_of, .code yX12_feed prog_14_method_23_code 2 (some .int), .instanceMethod yX12_feed, .selects RX12 yX12_feed yX12_feed]
def zW_30 : List Cond := [.code yX12_byteAt prog_14_method_24_code 1 (some .int), .instanceMethod yX12_byteAt, .selects RX12 yX12_byteAt yX12_byteAt, .code yX12_wrong prog_14_method_25_code 1 (some .int), .instanceMethod yX12_wrong, .selects RX12 yX12_wrong yX12_wrong, .code yX12_takes prog_14_method_26_code 2 (some .boolean), .instanceMethod yX12_takes, .selects RX12 yX12_takes yX12_takes, .code yX12_either prog_14_method_27_code 3 (some .int), .instanceMethod yX12_either, .selects RX12 yX12_either yX12_either, .code yX12_both prog_14_method_28_code 3 (some .int), .instanceMethod yX12_both, .selects RX12 yX12_both yX12_both, .code yX12_compared prog_14_method_29_code 4 (some .int)]
def zW_31 : List Cond := [.instanceMethod yX12_compared, .selects RX12 yX12_compared yX12_compared, .code yX12_sums prog_14_method_30_code 4 (some .int), .instanceMethod yX12_sums, .selects RX12 yX12_sums yX12_sums, .code yX12_product prog_14_method_31_code 4 (some .int), .instanceMethod yX12_product, .selects RX12 yX12_product yX12_product, .code yX12_nameOf prog_14_method_32_code 1 (some .int), .static yX12_nameOf, .code yX12_one prog_14_method_33_code 5 (some .int), .instanceMethod yX12_one, .selects RX12 yX12_one yX12_one, .code yX12_workOut prog_14_method_34_code 8 (some .int), .instanceMethod yX12_workOut, .selects RX12 yX12_workOut yX12_workOut]
def zW_32 : List Cond := [.code yX12_law prog_14_method_35_code 4 (some .int), .instanceMethod yX12_law, .selects RX12 yX12_law yX12_law, .code yX12_begins prog_14_method_36_code 3 none, .instanceMethod yX12_begins, .selects RX12 yX12_begins yX12_begins, .code yX12_gripOf prog_14_method_37_code 1 (some .int), .static yX12_gripOf, .code yX12_wearsNow prog_14_method_38_code 4 (some .int), .instanceMethod yX12_wearsNow, .selects RX12 yX12_wearsNow yX12_wearsNow, .code yX12_wears prog_14_method_39_code 3 (some .int), .instanceMethod yX12_wears, .selects RX12 yX12_wears yX12_wears, .code yX12_mayGo prog_14_method_40_code 2 (some .boolean), .instanceMethod yX12_mayGo]
def zW_33 : List Cond := [.selects RX12 yX12_mayGo yX12_mayGo, .code yX12_goesRoad prog_14_method_41_code 3 none, .instanceMethod yX12_goesRoad, .selects RX12 yX12_goesRoad yX12_goesRoad, .code yX12_strikes prog_14_method_42_code 2 (some .boolean), .instanceMethod yX12_strikes, .selects RX12 yX12_strikes yX12_strikes, .code yX12_drawsBy prog_14_method_43_code 2 (some .boolean), .instanceMethod yX12_drawsBy, .selects RX12 yX12_drawsBy yX12_drawsBy, .code yX12_bytesIs prog_14_method_44_code 2 (some .int), .instanceMethod yX12_bytesIs, .selects RX12 yX12_bytesIs yX12_bytesIs, .code yX12_roadMany prog_14_method_45_code 3 (some .int), .instanceMethod yX12_roadMany, .selects RX12 yX12_roadMany yX12_roadMany]
def zW_34 : List Cond := [.code yX12_goesJourney prog_14_method_46_code 3 none, .instanceMethod yX12_goesJourney, .selects RX12 yX12_goesJourney yX12_goesJourney, .code yX12_journey prog_14_method_47_code 4 (some .int), .instanceMethod yX12_journey, .selects RX12 yX12_journey yX12_journey, .code yX12_goesBy prog_14_method_48_code 6 (some .boolean), .instanceMethod yX12_goesBy, .selects RX12 yX12_goesBy yX12_goesBy, .code yX12_strokes prog_14_method_49_code 5 (some .int), .instanceMethod yX12_strokes, .selects RX12 yX12_strokes yX12_strokes, .code yX12_triesWay prog_14_method_50_code 8 none, .instanceMethod yX12_triesWay, .selects RX12 yX12_triesWay yX12_triesWay, .code yX12_way prog_14_method_51_code 4 (some .int)]
def zW_35 : List Cond := [.instanceMethod yX12_way, .selects RX12 yX12_way yX12_way, .code yX12_reach prog_14_method_52_code 6 (some .int), .instanceMethod yX12_reach, .selects RX12 yX12_reach yX12_reach, .code yX12_headRather prog_14_method_53_code 6 (some .boolean), .instanceMethod yX12_headRather, .selects RX12 yX12_headRather yX12_headRather, .code yX12_ideaRather prog_14_method_54_code 3 (some .boolean), .instanceMethod yX12_ideaRather, .selects RX12 yX12_ideaRather yX12_ideaRather, .code yX12_ideaOf prog_14_method_55_code 3 (some .int), .instanceMethod yX12_ideaOf, .selects RX12 yX12_ideaOf yX12_ideaOf, .code yX12_allAsk prog_14_method_56_code 5 none, .instanceMethod yX12_allAsk]
def zW_36 : List Cond := [.selects RX12 yX12_allAsk yX12_allAsk, .code yX12_asks prog_14_method_57_code 2 (some .int), .instanceMethod yX12_asks, .selects RX12 yX12_asks yX12_asks, .code yX12_settled prog_14_method_58_code 6 (some .int), .instanceMethod yX12_settled, .selects RX12 yX12_settled yX12_settled, .code yX12_goTogether prog_14_method_59_code 3 (some .boolean), .instanceMethod yX12_goTogether, .selects RX12 yX12_goTogether yX12_goTogether, .code yX12_yokes prog_14_method_60_code 7 (some .int), .instanceMethod yX12_yokes, .selects RX12 yX12_yokes yX12_yokes, .code yX12_rowsAre prog_14_method_61_code 2 (some .int), .instanceMethod yX12_rowsAre, .selects RX12 yX12_rowsAre yX12_rowsAre]
def zW_37 : List Cond := [.code yX12_firstFalse prog_14_method_62_code 5 (some .int), .instanceMethod yX12_firstFalse, .selects RX12 yX12_firstFalse yX12_firstFalse, .code yX12_judge prog_14_method_63_code 3 (some .int), .instanceMethod yX12_judge, .selects RX12 yX12_judge yX12_judge, .code yX12_edge prog_14_method_64_code 8 (some .int), .instanceMethod yX12_edge, .selects RX12 yX12_edge yX12_edge, .code yX12_playsFrom prog_14_method_65_code 7 (some .int), .instanceMethod yX12_playsFrom, .selects RX12 yX12_playsFrom yX12_playsFrom, .code yX12_byTurns prog_14_method_66_code 5 (some .int), .instanceMethod yX12_byTurns, .selects RX12 yX12_byTurns yX12_byTurns, .code yX12_drawn prog_14_method_67_code 11 (some .int)]
def zW_38 : List Cond := [.instanceMethod yX12_drawn, .selects RX12 yX12_drawn yX12_drawn, .code yX12_keepsOwn prog_14_method_68_code 3 none, .instanceMethod yX12_keepsOwn, .selects RX12 yX12_keepsOwn yX12_keepsOwn, .code yX12_stroke prog_14_method_69_code 4 (some .int), .instanceMethod yX12_stroke, .selects RX12 yX12_stroke yX12_stroke, .code yX12_goes prog_14_method_70_code 3 (some .int), .instanceMethod yX12_goes, .selects RX12 yX12_goes yX12_goes, .code yX12_deal prog_14_method_71_code 3 (some .int), .instanceMethod yX12_deal, .selects RX12 yX12_deal yX12_deal, .code yX12_led prog_14_method_72_code 2 (some .int), .instanceMethod yX12_led]
def zW_39 : List Cond := [.selects RX12 yX12_led yX12_led, .code yX12_image prog_14_method_73_code 2 (some .int), .instanceMethod yX12_image, .selects RX12 yX12_image yX12_image, .code yX12_back prog_14_method_74_code 2 (some .int), .instanceMethod yX12_back, .selects RX12 yX12_back yX12_back, .code yX12_isBody prog_14_method_75_code 2 (some .boolean), .instanceMethod yX12_isBody, .selects RX12 yX12_isBody yX12_isBody, .code yX12_kindOf prog_14_method_76_code 2 (some .int), .instanceMethod yX12_kindOf, .selects RX12 yX12_kindOf yX12_kindOf, .code yX12_body prog_14_method_77_code 2 (some .int), .instanceMethod yX12_body, .selects RX12 yX12_body yX12_body]
def zW_40 : List Cond := [.code yX12_above prog_14_method_78_code 1 (some .int), .static yX12_above, .code yX12_runs prog_14_method_79_code 2 none, .instanceMethod yX12_runs, .selects RX12 yX12_runs yX12_runs, .code yX12_heatsAs prog_14_method_80_code 3 (some .int), .instanceMethod yX12_heatsAs, .selects RX12 yX12_heatsAs yX12_heatsAs, .code yX12_drawsAs prog_14_method_81_code 4 (some .int), .instanceMethod yX12_drawsAs, .selects RX12 yX12_drawsAs yX12_drawsAs, .code yX12_nailsAs prog_14_method_82_code 4 (some .int), .instanceMethod yX12_nailsAs, .selects RX12 yX12_nailsAs yX12_nailsAs, .code yX12_tellsAs prog_14_method_83_code 4 (some .int), .instanceMethod yX12_tellsAs]
def zW_41 : List Cond := [.selects RX12 yX12_tellsAs yX12_tellsAs, .code yX12_act prog_14_method_84_code 4 (some .int), .instanceMethod yX12_act, .selects RX12 yX12_act yX12_act, .code yX12_trace prog_14_method_85_code 2 (some .int), .instanceMethod yX12_trace, .selects RX12 yX12_trace yX12_trace, .code yX12_isShelf prog_14_method_86_code 1 (some .boolean), .static yX12_isShelf, .code yX12_keep prog_14_method_87_code 3 (some .int), .instanceMethod yX12_keep, .selects RX12 yX12_keep yX12_keep, .code yX12_row prog_14_method_88_code 5 (some .int), .instanceMethod yX12_row, .selects RX12 yX12_row yX12_row, .code yX12_refusal prog_14_method_89_code 3 (some .int)]
def zW_42 : List Cond := [.instanceMethod yX12_refusal, .selects RX12 yX12_refusal yX12_refusal, .code yX12_asSort prog_14_method_90_code 3 (some .long), .static yX12_asSort, .code yX12_put prog_14_method_91_code 6 (some .int), .instanceMethod yX12_put, .selects RX12 yX12_put yX12_put, .code yX12_element prog_14_method_92_code 3 (some .long), .instanceMethod yX12_element, .selects RX12 yX12_element yX12_element, .code yX12_shift prog_14_method_93_code 7 (some .int), .instanceMethod yX12_shift, .selects RX12 yX12_shift yX12_shift, .code yX12_taken prog_14_method_94_code 4 (some .int), .instanceMethod yX12_taken, .selects RX12 yX12_taken yX12_taken]
def zW_43 : List Cond := [.code yX12_count prog_14_method_95_code 2 (some .int), .instanceMethod yX12_count, .selects RX12 yX12_count yX12_count, .code yJ6_bitCount_0f7a4 prog_15_method_49_code 1 (some .int), .initialized RJ6, .static yJ6_bitCount_0f7a4, .code yJ7_fill_d0a16 prog_18_method_101_code 5 none, .initialized RJ7, .static yJ7_fill_d0a16, .code yJ7_fill_53178 prog_18_method_103_code 4 none, .static yJ7_fill_53178, .instanceMethod objectInit, .code objectInit ⟨#[0xb1]⟩ 1 none, .native arraycopyName, .static arraycopyName, .initialized RJ10]
def zW_44 : List Cond := [.arrayClass .int, .arrayClass .long, .instantiable RX0 6, .instantiable RX1 6, .instantiable RX2 11, .instantiable RX3 7, .instantiable RX4 4, .instantiable RX5 4, .instantiable RX6 3, .instantiable RX7 5, .instantiable RX8 5, .instantiable RX9 7, .instantiable RX10 5, .instantiable RX11 14, .instantiable RX12 49, .methodLink RX0 3 objectInit]
def zW_45 : List Cond := [.fieldLink RX0 11 RX0 "kinds" "[I", .fieldLink RX0 15 RX0 "traced" "[I", .fieldLink RX0 18 RX0 "smiths" "I", .fieldLink RX0 22 RX0 "ABOVE" "[I", .fieldLink RX0 25 RX0 "ran" "I", .methodLink RX0 28 yX0_has, .fieldLink RX0 32 RX0 "number" "I", .fieldLink RX0 35 RX0 "kind" "I", .methodLink RX0 38 yX0_run, .fieldLink RX0 42 RX0 "BODIES" "[I", .methodLink RX0 45 yX0_work, .methodLink RX1 1 objectInit, .fieldLink RX1 9 RX1 "numbers" "[I", .fieldLink RX1 13 RX1 "whats" "[I", .fieldLink RX1 16 RX1 "befores" "[I", .fieldLink RX1 19 RX1 "afters" "[I"]
def zW_46 : List Cond := [.fieldLink RX1 22 RX1 "redoable" "I", .fieldLink RX1 26 RX1 "undoable" "I", .methodLink RX1 29 yX1_forgetFirst, .methodLink RX1 32 arraycopyName, .methodLink RX1 38 yX2_setNumber, .methodLink RX2 3 objectInit, .fieldLink RX2 9 RX2 "forms" "[I", .fieldLink RX2 15 RX2 "wills" "[I", .classLink RX2 18 RX3, .fieldLink RX2 20 RX2 "ideas" "[LColdShod$Idea;", .classLink RX2 24 RX7, .fieldLink RX2 26 RX2 "roads" "[LColdShod$Road;", .fieldLink RX2 30 RX2 "had" "[I", .fieldLink RX2 35 RX2 "names" "[I", .classLink RX2 33 RX5, .fieldLink RX2 39 RX2 "law" "LColdShod$LawCode;"]
def zW_47 : List Cond := [.fieldLink RX2 43 RX2 "spareLaw" "LColdShod$LawCode;", .fieldLink RX2 48 RX2 "headCount" "I", .fieldLink RX2 52 RX2 "ideaCount" "I", .fieldLink RX2 55 RX2 "roadCount" "I", .fieldLink RX2 58 RX7 "from" "I", .fieldLink RX2 61 RX7 "to" "I", .fieldLink RX2 64 RX7 "miles" "I", .methodLink RX2 67 yX2_hasHead, .methodLink RX2 71 yX2_hasIdea, .methodLink RX2 74 yX2_hasRoad, .methodLink RX2 83 yX2_isThere, .constant RX2 87 (-2000000000), .fieldLink RX2 88 RX3 "metal" "I", .fieldLink RX2 91 RX3 "shape" "I", .fieldLink RX2 94 RX3 "worn" "I", .fieldLink RX2 97 RX3 "heat" "I"]
def zW_48 : List Cond := [.fieldLink RX2 100 RX3 "cast" "I", .fieldLink RX2 103 RX3 "heated" "I", .fieldLink RX2 106 RX3 "head" "I", .fieldLink RX2 109 RX7 "steep" "I", .fieldLink RX2 112 RX7 "kind" "I", .methodLink RX2 115 yX3_grip, .methodLink RX2 119 Lib.Math.abs.name, .code Lib.Math.abs.name Lib.Math.abs.code 1 (some .int), .static Lib.Math.abs.name, .initialized RJ9, .methodLink RX2 125 yX5_worth, .methodLink RX2 129 Lib.Math.min.name, .code Lib.Math.min.name Lib.Math.min.code 2 (some .int), .static Lib.Math.min.name, .methodLink RX2 133 Lib.Math.max.name, .code Lib.Math.max.name Lib.Math.max.code 2 (some .int)]
def zW_49 : List Cond := [.static Lib.Math.max.name, .methodLink RX2 136 yX3_setsOutOn, .methodLink RX2 140 yX2_wearOf, .methodLink RX2 144 yX3_wearBy, .methodLink RX2 148 yX3_isLame, .fieldLink RX2 152 RX5 "mindsWorn" "Z", .methodLink RX2 156 yX3_cool, .methodLink RX2 159 yJ7_fill_53178, .methodLink RX2 165 yX2_firstOfOthers, .methodLink RX2 168 yX2_nearestOfOthers, .methodLink RX2 171 yX2_isRatherHead, .methodLink RX2 174 yX2_isRatherIdea, .methodLink RX2 178 yJ6_bitCount_0f7a4, .methodLink RX2 183 yX2_allClash, .methodLink RX3 3 objectInit, .fieldLink RX3 9 RX3 "head" "I"]
def zW_50 : List Cond := [.fieldLink RX3 15 RX3 "metal" "I", .fieldLink RX3 18 RX3 "cast" "I", .methodLink RX3 21 yX3_becomeByDeeds, .fieldLink RX3 25 RX3 "shape" "I", .fieldLink RX3 28 RX3 "worn" "I", .fieldLink RX3 31 RX3 "heat" "I", .fieldLink RX3 34 RX3 "heated" "I", .fieldLink RX3 37 RX7 "steep" "I", .methodLink RX3 42 yX3_grip, .methodLink RX3 46 yX3_isLame, .methodLink RX3 50 yX3_canClimb, .methodLink RX3 54 Lib.Math.min.name, .methodLink RX3 60 Lib.Math.max.name, .methodLink RX3 63 yX3_heatUp, .methodLink RX3 66 yX3_drawTo, .methodLink RX3 70 yX3_nail]
def zW_51 : List Cond := [.methodLink RX3 73 yX3_cool, .methodLink RX4 3 objectInit, .fieldLink RX4 9 RX4 "stages" "[I", .fieldLink RX4 15 RX4 "length" "I", .fieldLink RX4 19 RX8 "length" "I", .fieldLink RX4 22 RX8 "cells" "[J", .fieldLink RX4 26 RX4 "miles" "I", .fieldLink RX4 29 RX4 "ended" "I", .methodLink RX4 32 yX4_goesStage, .fieldLink RX4 36 RX2 "roads" "[LColdShod$Road;", .methodLink RX4 42 yX2_travel, .fieldLink RX4 46 RX7 "miles" "I", .fieldLink RX4 49 RX3 "worn" "I", .methodLink RX5 3 objectInit, .fieldLink RX5 11 RX5 "cells" "[I", .fieldLink RX5 15 RX5 "values" "[I"]
def zW_52 : List Cond := [.fieldLink RX5 18 RX5 "length" "I", .fieldLink RX5 22 RX5 "mindsWorn" "Z", .methodLink RX5 26 yX5_add, .methodLink RX5 30 yX5_isName, .methodLink RX5 34 Lib.Math.max.name, .methodLink RX5 40 yX5_joined, .methodLink RX6 1 objectInit, .fieldLink RX6 9 RX6 "letters" "[I", .fieldLink RX6 13 RX6 "fed" "I", .methodLink RX6 17 yX5_clear, .fieldLink RX6 22 RX6 "at" "I", .methodLink RX6 25 yX6_readLine, .methodLink RX6 29 yX6_passes, .methodLink RX6 33 yX6_readLevel, .methodLink RX6 37 yX5_add, .methodLink RX6 41 yX5_addSkip]
def zW_53 : List Cond := [.methodLink RX6 45 yX5_endSkip, .methodLink RX6 48 yX6_readOperand, .methodLink RX6 52 yX6_letter, .methodLink RX6 55 yX6_levelOf, .methodLink RX6 59 yX6_isDigit, .methodLink RX6 62 yX6_readNumber, .methodLink RX6 65 yX6_nameOf, .methodLink RX6 68 yX5_addName, .methodLink RX7 1 objectInit, .fieldLink RX7 7 RX7 "from" "I", .fieldLink RX7 13 RX7 "to" "I", .methodLink RX8 3 objectInit, .fieldLink RX8 11 RX8 "holds" "I", .fieldLink RX8 15 RX8 "cells" "[J", .fieldLink RX8 19 RX8 "smith" "I", .fieldLink RX8 22 RX8 "sort" "I"]
def zW_54 : List Cond := [.fieldLink RX8 25 RX8 "length" "I", .methodLink RX8 28 yJ7_fill_d0a16, .methodLink RX9 3 objectInit, .fieldLink RX9 11 RX9 "plan" "[I", .fieldLink RX9 15 RX9 "states" "[I", .fieldLink RX9 18 RX9 "earlier" "[I", .fieldLink RX9 21 RX9 "last" "[I", .fieldLink RX9 24 RX9 "lengths" "[I", .classLink RX9 27 RX3, .fieldLink RX9 30 RX9 "thought" "LColdShod$Idea;", .methodLink RX9 34 yX9_stateOf, .fieldLink RX9 38 RX9 "found" "I", .methodLink RX9 42 yX9_recall, .methodLink RX9 46 yX4_allGone, .methodLink RX9 52 yX9_tellPlan, .methodLink RX9 56 yX9_addNext]
def zW_55 : List Cond := [.methodLink RX9 59 yX3_strike, .methodLink RX9 63 yX9_isFound, .fieldLink RX9 66 RX3 "shape" "I", .fieldLink RX9 69 RX3 "worn" "I", .fieldLink RX9 72 RX3 "heat" "I", .fieldLink RX9 75 RX3 "heated" "I", .methodLink RX9 78 yX3_become, .methodLink RX10 3 objectInit, .fieldLink RX10 9 RX10 "best" "[I", .fieldLink RX10 15 RX10 "trail" "[I", .classLink RX10 18 RX3, .fieldLink RX10 20 RX10 "behind" "[LColdShod$Idea;", .fieldLink RX10 25 RX10 "bestLength" "I", .methodLink RX10 29 yX3_become, .methodLink RX10 33 yX10_follow, .methodLink RX10 37 yX10_weigh]
def zW_56 : List Cond := [.fieldLink RX10 41 RX2 "roadCount" "I", .fieldLink RX10 46 RX2 "roads" "[LColdShod$Road;", .methodLink RX10 50 yX7_farEnd, .methodLink RX10 56 yX2_travel, .fieldLink RX10 60 RX7 "miles" "I", .fieldLink RX10 63 RX3 "worn" "I", .fieldLink RX10 66 RX10 "bestWorn" "I", .methodLink RX10 69 arraycopyName, .methodLink RX11 1 objectInit, .classLink RX11 7 RX2, .methodLink RX11 9 yX2_init, .fieldLink RX11 10 RX11 "land" "LColdShod$Country;", .classLink RX11 16 RX6, .fieldLink RX11 19 RX11 "tape" "LColdShod$LawText;", .classLink RX11 23 RX1, .fieldLink RX11 26 RX11 "changes" "LColdShod$Changes;"]
def zW_57 : List Cond := [.classLink RX11 30 RX0, .fieldLink RX11 33 RX11 "acts" "LColdShod$Acts;", .classLink RX11 37 RX4, .fieldLink RX11 40 RX11 "travelled" "LColdShod$Journey;", .classLink RX11 44 RX9, .fieldLink RX11 47 RX11 "strokePlan" "LColdShod$StrokePlan;", .classLink RX11 51 RX10, .methodLink RX11 53 yX10_init, .fieldLink RX11 54 RX11 "wayPlan" "LColdShod$WayPlan;", .classLink RX11 58 RX8, .fieldLink RX11 60 RX11 "shelves" "[LColdShod$Shelf;", .classLink RX11 64 RX3, .fieldLink RX11 66 RX11 "thoughts" "[LColdShod$Idea;", .fieldLink RX11 70 RX11 "ledNumbers" "[I", .fieldLink RX11 74 RX11 "imageIdeas" "[LColdShod$Idea;", .fieldLink RX11 77 RX11 "imageLed" "[I"]
def zW_58 : List Cond := [.fieldLink RX11 80 RX11 "imageCount" "I", .fieldLink RX11 84 RX11 "firstDeed" "I", .fieldLink RX11 89 RX2 "headCount" "I", .fieldLink RX11 92 RX2 "forms" "[I", .fieldLink RX11 95 RX2 "wills" "[I", .fieldLink RX11 98 RX2 "ideaCount" "I", .fieldLink RX11 101 RX2 "ideas" "[LColdShod$Idea;", .fieldLink RX11 104 RX3 "metal" "I", .fieldLink RX11 107 RX3 "shape" "I", .methodLink RX11 110 yX11_areUnlikePlaces, .methodLink RX11 114 yX2_layRoad, .methodLink RX11 118 yX11_isShelf, .fieldLink RX11 121 RX8 "holds" "I", .methodLink RX11 124 yX8_isBytes, .fieldLink RX11 128 RX8 "length" "I", .methodLink RX11 131 yX11_layRoadFrom]
def zW_59 : List Cond := [.fieldLink RX11 135 RX8 "cells" "[J", .methodLink RX11 139 yX11_isPlace, .constantLong RX11 143 (9), .methodLink RX11 145 yX2_isThere, .methodLink RX11 149 yX2_canBe, .constant RX11 152 (-2000000000), .methodLink RX11 153 yX2_numberOf, .methodLink RX11 157 yX2_setNumber, .methodLink RX11 161 yX1_note, .methodLink RX11 165 yX6_take, .fieldLink RX11 168 RX6 "fed" "I", .fieldLink RX11 171 RX2 "spareLaw" "LColdShod$LawCode;", .methodLink RX11 175 yX6_readInto, .fieldLink RX11 179 RX2 "law" "LColdShod$LawCode;", .methodLink RX11 182 yX2_hasIdea, .methodLink RX11 185 yX2_hasRoad]
def zW_60 : List Cond := [.fieldLink RX11 188 RX2 "roads" "[LColdShod$Road;", .methodLink RX11 192 yX2_wearOf, .methodLink RX11 196 yX11_refusalOfBytes, .fieldLink RX11 200 RX2 "roadCount" "I", .methodLink RX11 203 yX4_read, .methodLink RX11 207 yX11_thoughtOf, .methodLink RX11 211 yX4_allGone, .fieldLink RX11 215 RX4 "miles" "I", .fieldLink RX11 218 RX4 "ended" "I", .fieldLink RX11 221 RX3 "worn" "I", .fieldLink RX11 224 RX3 "heat" "I", .methodLink RX11 227 yX9_fewestFor, .fieldLink RX11 231 RX9 "plan" "[I", .methodLink RX11 234 yX10_seek, .fieldLink RX11 238 RX10 "bestLength" "I", .fieldLink RX11 241 RX10 "bestWorn" "I"]
def zW_61 : List Cond := [.fieldLink RX11 244 RX10 "best" "[I", .fieldLink RX11 247 RX7 "from" "I", .fieldLink RX11 252 RX7 "to" "I", .methodLink RX11 255 yX3_canClimb, .methodLink RX11 259 yX2_hasHead, .methodLink RX11 262 yX2_letAllAsk, .fieldLink RX11 265 RX2 "had" "[I", .methodLink RX11 268 yX2_isSettled, .methodLink RX11 271 yX2_fewestYokes, .methodLink RX11 275 yX2_greatestClash, .methodLink RX11 278 yJ6_bitCount_0f7a4, .methodLink RX11 284 yX11_areShelves, .methodLink RX11 287 yX11_refusalOfEdge, .methodLink RX11 290 yX4_firstWrong, .methodLink RX11 294 yX11_wornAtBest, .methodLink RX11 297 yX11_leastBySmith]
def zW_62 : List Cond := [.methodLink RX11 300 yX11_mostByKicker, .fieldLink RX11 303 RX11 "SMITH_DEEDS" "[I", .methodLink RX11 306 yX3_become, .methodLink RX11 310 yX3_strike, .methodLink RX11 313 yX3_wearBy, .methodLink RX11 317 yX3_cool, .methodLink RX11 320 Lib.Math.max.name, .methodLink RX11 325 yX2_willBehind, .constant RX11 329 (1103515245), .methodLink RX11 330 yX2_travel, .methodLink RX11 333 yX3_isLame, .methodLink RX11 336 yX3_setsOutOn, .fieldLink RX11 339 RX7 "miles" "I", .fieldLink RX11 340 RX3 "head" "I", .methodLink RX11 343 arraycopyName, .methodLink RX11 349 yX3_becomeByDeeds]
def zW_63 : List Cond := [.fieldLink RX11 352 RX1 "undoable" "I", .methodLink RX11 355 yX1_takeBack, .fieldLink RX11 359 RX1 "redoable" "I", .methodLink RX11 362 yX1_doAgain, .methodLink RX11 365 yX0_add, .methodLink RX11 368 yX0_perform, .methodLink RX11 371 yX0_bodyThatRan, .methodLink RX11 374 yX0_has, .methodLink RX11 377 yX8_holdSmith, .methodLink RX11 380 yX8_holdRow, .methodLink RX11 384 yX11_refusalOfElement, .methodLink RX11 387 yX8_cut, .constantLong RX11 393 (-9223372036854775808), .fieldLink RX11 395 RX8 "sort" "I", .methodLink RX11 398 yX8_hasRange, .fieldLink RX11 401 RX8 "smith" "I"]
def zW_64 : List Cond := [.fieldLink RX11 404 RX0 "kinds" "[I", .methodLink RX11 407 yX0_isUnder, .fieldLink RX11 410 RX0 "smiths" "I", .fieldLink RX11 413 RX0 "ran" "I", .constantLong RX11 416 (8), .methodLink RX12 3 objectInit, .fieldLink RX12 9 RX12 "may" "[I", .fieldLink RX12 13 RX12 "changeAt" "[I", .fieldLink RX12 16 RX12 "changeWas" "[I", .fieldLink RX12 19 RX12 "changeIs" "[I", .fieldLink RX12 22 RX12 "from" "[I", .fieldLink RX12 25 RX12 "to" "[I", .fieldLink RX12 28 RX12 "tape" "[I", .fieldLink RX12 31 RX12 "text" "[I", .fieldLink RX12 34 RX12 "names" "[I", .fieldLink RX12 37 RX12 "own" "[I"]
def zW_65 : List Cond := [.fieldLink RX12 40 RX12 "struck" "[I", .fieldLink RX12 43 RX12 "walked" "[I", .fieldLink RX12 46 RX12 "bestWay" "[I", .fieldLink RX12 49 RX12 "hadBy" "[I", .fieldLink RX12 52 RX12 "asked" "[I", .fieldLink RX12 55 RX12 "did" "[I", .fieldLink RX12 58 RX12 "ledNow" "[I", .fieldLink RX12 61 RX12 "imageMay" "[I", .fieldLink RX12 64 RX12 "imageLed" "[I", .fieldLink RX12 67 RX12 "bodyKind" "[I", .fieldLink RX12 70 RX12 "trace" "[I", .fieldLink RX12 73 RX12 "shelf" "[I", .fieldLink RX12 76 RX12 "many" "[I", .fieldLink RX12 79 RX12 "items" "[J", .fieldLink RX12 83 RX12 "carried" "[J", .fieldLink RX12 86 RX12 "textMany" "I"]
def zW_66 : List Cond := [.fieldLink RX12 90 RX12 "done" "I", .fieldLink RX12 93 RX12 "keptMany" "I", .fieldLink RX12 96 RX12 "heads" "I", .methodLink RX12 99 yX12_within, .fieldLink RX12 103 RX12 "ideas" "I", .fieldLink RX12 106 RX12 "roads" "I", .constantLong RX12 109 (7), .constantLong RX12 111 (5), .constantLong RX12 113 (3), .methodLink RX12 115 yX12_isPlace, .constantLong RX12 119 (9), .methodLink RX12 121 yX12_mayCome, .methodLink RX12 124 yX12_adds, .methodLink RX12 128 yX12_isShelf, .constantLong RX12 132 (12), .methodLink RX12 134 yX12_isHead]
def zW_67 : List Cond := [.constantLong RX12 137 (2), .constantLong RX12 139 (8), .methodLink RX12 141 yX12_isIdea, .constantLong RX12 144 (11), .methodLink RX12 146 yX12_isRoad, .constantLong RX12 149 (99), .methodLink RX12 151 yX12_placeOf, .methodLink RX12 155 yX12_mayBecome, .methodLink RX12 159 yX12_becomes, .constant RX12 162 (-2000000000), .methodLink RX12 163 yX12_gripOf, .constantLong RX12 167 (255), .fieldLink RX12 169 RX12 "tapeMany" "I", .fieldLink RX12 172 RX12 "at" "I", .fieldLink RX12 175 RX12 "ends" "I", .fieldLink RX12 178 RX12 "base" "I"]
def zW_68 : List Cond := [.fieldLink RX12 181 RX12 "fault" "I", .methodLink RX12 184 yX12_byteAt, .methodLink RX12 188 yX12_both, .methodLink RX12 191 yX12_takes, .methodLink RX12 194 yX12_compared, .methodLink RX12 197 yX12_sums, .methodLink RX12 200 yX12_product, .methodLink RX12 203 yX12_one, .fieldLink RX12 206 RX12 "opened" "I", .methodLink RX12 209 yX12_wrong, .methodLink RX12 212 yX12_either, .methodLink RX12 215 yX12_nameOf, .methodLink RX12 218 yX12_workOut, .methodLink RX12 221 yX12_sizeOf, .methodLink RX12 224 yX12_begins, .methodLink RX12 228 yX12_wearsNow]
def zW_69 : List Cond := [.fieldLink RX12 231 RX12 "wentMiles" "I", .fieldLink RX12 234 RX12 "wentAll" "Z", .methodLink RX12 238 yX12_mayGo, .methodLink RX12 241 yX12_drawsBy, .fieldLink RX12 244 RX12 "allMiles" "I", .fieldLink RX12 247 RX12 "allRoads" "I", .methodLink RX12 250 yX12_roadMany, .methodLink RX12 253 yX12_goesRoad, .methodLink RX12 256 yX12_bytesIs, .constantLong RX12 259 (4), .methodLink RX12 261 yX12_goesJourney, .methodLink RX12 264 yX12_strikes, .methodLink RX12 267 yX12_goesBy, .fieldLink RX12 271 RX12 "bestWorn" "I", .fieldLink RX12 274 RX12 "bestMany" "I", .methodLink RX12 277 yX12_isIn]
def zW_70 : List Cond := [.methodLink RX12 280 yX12_triesWay, .constant RX12 284 (1000000), .methodLink RX12 285 yX12_headRather, .methodLink RX12 289 yX12_ideaOf, .methodLink RX12 292 yX12_ideaRather, .methodLink RX12 295 yX12_allAsk, .methodLink RX12 298 yX12_bitsOf, .methodLink RX12 301 yX12_goTogether, .methodLink RX12 304 yX12_rowsAre, .methodLink RX12 307 yX12_firstFalse, .methodLink RX12 310 yX12_playsFrom, .constantLong RX12 314 (30), .constantLong RX12 316 (40), .constant RX12 318 (1103515245), .methodLink RX12 319 yX12_keepsOwn, .fieldLink RX12 322 RX12 "isKept" "Z"]
def zW_71 : List Cond := [.fieldLink RX12 325 RX12 "imageIdeas" "I", .fieldLink RX12 328 RX12 "bodies" "I", .fieldLink RX12 331 RX12 "ran" "I", .methodLink RX12 334 yX12_runs, .methodLink RX12 337 yX12_heatsAs, .fieldLink RX12 340 RX12 "ownNumber" "I", .methodLink RX12 343 yX12_drawsAs, .fieldLink RX12 346 RX12 "ownKind" "I", .methodLink RX12 349 yX12_nailsAs, .methodLink RX12 352 yX12_tellsAs, .methodLink RX12 355 yX12_isBody, .methodLink RX12 358 yX12_refusal, .methodLink RX12 361 yX12_asSort, .constantLong RX12 367 (-9223372036854775808), .methodLink RX12 369 yX12_kindOf, .methodLink RX12 372 yX12_above]
def zW_72 : List Cond := [.constant RJ6 265 (1431655765), .constant RJ6 266 (858993459), .constant RJ6 267 (252645135), .classLink RL 7 RX11, .methodLink RL 9 yX11_init, .classLink RL 10 RX12, .methodLink RL 12 yX12_init, .methodLink RL 13 yX11_head, .methodLink RL 17 yX12_head, .methodLink RL 18 yX11_idea, .methodLink RL 22 yX12_idea, .methodLink RL 23 yX11_road, .methodLink RL 26 yX12_road, .methodLink RL 27 yX11_roads, .methodLink RL 31 yX12_roads, .methodLink RL 32 yX11_mend]
def zW_73 : List Cond := [.methodLink RL 35 yX12_mend, .methodLink RL 36 yX11_of, .methodLink RL 39 yX12_of, .methodLink RL 40 yX11_feed, .methodLink RL 43 yX12_feed, .methodLink RL 44 yX11_law, .methodLink RL 48 yX12_law, .methodLink RL 49 yX11_wears, .methodLink RL 52 yX12_wears, .methodLink RL 53 yX11_journey, .methodLink RL 56 yX12_journey, .methodLink RL 57 yX11_strokes, .methodLink RL 60 yX12_strokes, .methodLink RL 61 yX11_way, .methodLink RL 64 yX12_way, .methodLink RL 65 yX11_reach]
def zW_74 : List Cond := [.methodLink RL 68 yX12_reach, .methodLink RL 69 yX11_asks, .methodLink RL 72 yX12_asks, .methodLink RL 73 yX11_settled, .methodLink RL 76 yX12_settled, .methodLink RL 77 yX11_yokes, .methodLink RL 80 yX12_yokes, .methodLink RL 81 yX11_judge, .methodLink RL 84 yX12_judge, .methodLink RL 85 yX11_edge, .methodLink RL 88 yX12_edge, .methodLink RL 89 yX11_byTurns, .methodLink RL 92 yX12_byTurns, .methodLink RL 93 yX11_drawn, .methodLink RL 97 yX12_drawn, .methodLink RL 98 yX11_stroke]
def zW_75 : List Cond := [.methodLink RL 101 yX12_stroke, .methodLink RL 102 yX11_goes, .methodLink RL 105 yX12_goes, .methodLink RL 106 yX11_deal, .methodLink RL 109 yX12_deal, .methodLink RL 110 yX11_led, .methodLink RL 113 yX12_led, .methodLink RL 114 yX11_image, .methodLink RL 117 yX12_image, .methodLink RL 118 yX11_back, .methodLink RL 121 yX12_back, .methodLink RL 122 yX11_undo, .methodLink RL 125 yX12_undo, .methodLink RL 126 yX11_redo, .methodLink RL 129 yX12_redo, .methodLink RL 130 yX11_body]
def zW_76 : List Cond := [.methodLink RL 133 yX12_body, .methodLink RL 134 yX11_act, .methodLink RL 137 yX12_act, .methodLink RL 138 yX11_trace, .methodLink RL 141 yX12_trace, .methodLink RL 142 yX11_keep, .methodLink RL 145 yX12_keep, .methodLink RL 146 yX11_row, .methodLink RL 149 yX12_row, .constantLong RL 150 (4294967295), .methodLink RL 152 yX11_put, .methodLink RL 156 yX12_put, .methodLink RL 157 yX11_element, .methodLink RL 161 yX12_element, .methodLink RL 162 yX11_shift, .methodLink RL 166 yX12_shift]
def zW_77 : List Cond := [.methodLink RL 167 yX11_taken, .methodLink RL 170 yX12_taken, .methodLink RL 171 yX11_count, .methodLink RL 174 yX12_count]
def zW : List (List Cond) := [zW_0, zW_1, zW_2, zW_3, zW_4, zW_5, zW_6, zW_7, zW_8, zW_9, zW_10, zW_11, zW_12, zW_13, zW_14, zW_15, zW_16, zW_17, zW_18, zW_19, zW_20, zW_21, zW_22, zW_23, zW_24, zW_25, zW_26, zW_27, zW_28, zW_29, zW_30, zW_31, zW_32, zW_33, zW_34, zW_35, zW_36, zW_37, zW_38, zW_39, zW_40, zW_41, zW_42, zW_43, zW_44, zW_45, zW_46, zW_47, zW_48, zW_49, zW_50, zW_51, zW_52, zW_53, zW_54, zW_55, zW_56, zW_57, zW_58, zW_59, zW_60, zW_61, zW_62, zW_63, zW_64, zW_65, zW_66, zW_67, zW_68, zW_69, zW_70, zW_71, zW_72, zW_73, zW_74, zW_75, zW_76, zW_77]
def zN : List Cond := [.methodLinkNest RX2 38 yX5_init RX11, .methodLinkNest RX2 46 yX3_init RX11, .methodLinkNest RX2 47 yX7_init RX11, .fieldLinkNest RX2 77 RX11 "MOST" "[I" RX11, .fieldLinkNest RX2 80 RX11 "LEAST" "[I" RX11, .methodLinkNest RX9 29 yX3_init RX11, .methodLinkNest RX10 24 yX3_init RX11, .methodLinkNest RX11 18 yX6_init RX11, .methodLinkNest RX11 25 yX1_init RX11, .methodLinkNest RX11 32 yX0_init RX11, .methodLinkNest RX11 39 yX4_init RX11, .methodLinkNest RX11 46 yX9_init RX11, .methodLinkNest RX11 87 yX8_init RX11, .methodLinkNest RX11 88 yX3_init RX11]
/-- ColdShod$Acts.<init>()V -/
def zi_0 : List (List (Option zI)) := [[some (3, 1, 0, 0, 0, .null, []), some (33, 3, 0, 0, 0, .null, [(0, 719)]), none, none, some (3, 1, 0, 0, 0, .null, []), some (0, 2, 0, 0, 0, .int 50, []), none, some (30, 2, 0, 0, 0, .null, [(0, 704)]), none, some (21, 3, 0, 0, 1, .null, [(0, 720)]), none, none, some (3, 1, 0, 0, 0, .null, []), some (0, 2, 0, 0, 0, .int 24, []), none, some (30, 2, 0, 0, 0, .null, [(0, 704)])],
  [none, some (21, 3, 0, 3, 1, .null, [(0, 721)]), none, none, some (38, 1, 0, 0, 0, .null, [])]]
/-- ColdShod$Acts.has(I)Z -/
def zi_1 : List (List (Option zI)) := [[some (1, 1, 1, 0, 0, .null, []), some (15, 3, 16, 2, 0, .null, []), none, none, some (1, 1, 1, 0, 0, .null, []), some (3, 1, 0, 0, 0, .null, []), some (20, 3, 0, 1, 0, .null, [(0, 722)]), none, none, some (16, 3, 16, 3, 0, .null, []), none, none, some (0, 1, 0, 0, 0, .int 1, []), some (17, 3, 17, 0, 0, .null, []), none, none],
  [some (0, 1, 0, 0, 0, .int 0, []), some (35, 1, 0, 0, 1, .null, [])]]
/-- ColdShod$Acts.add(I)I -/
def zi_2 : List (List (Option zI)) := [[some (3, 1, 0, 0, 0, .null, []), some (20, 3, 0, 1, 0, .null, [(0, 722)]), none, none, some (0, 2, 0, 0, 0, .int 50, []), none, some (16, 3, 12, 2, 0, .null, []), none, none, some (0, 2, 0, 0, 0, .int (-3), []), none, some (35, 1, 0, 0, 0, .null, []), some (3, 1, 0, 0, 0, .null, []), some (20, 3, 0, 0, 1, .null, [(0, 720)]), none, none],
  [some (3, 1, 0, 0, 0, .null, []), some (20, 3, 0, 1, 0, .null, [(0, 722)]), none, none, some (1, 1, 1, 0, 0, .null, []), some (25, 1, 0, 0, 0, .null, []), some (3, 1, 0, 0, 0, .null, []), some (39, 1, 0, 0, 0, .null, []), some (20, 3, 0, 1, 0, .null, [(0, 722)]), none, none, some (40, 1, 0, 0, 0, .null, []), some (0, 1, 0, 0, 0, .int 1, []), some (7, 1, 0, 0, 0, .null, []), some (21, 3, 0, 1, 0, .null, [(0, 722)]), none],
  [none, some (35, 1, 0, 0, 0, .null, [])]]
/-- ColdShod$Acts.isUnder(II)Z -/
def zi_3 : List (List (Option zI)) := [[some (1, 1, 0, 0, 0, .null, []), some (4, 1, 2, 0, 0, .null, []), some (0, 1, 0, 0, 0, .int 0, []), some (4, 1, 3, 0, 0, .null, []), some (1, 1, 3, 0, 0, .null, []), some (0, 2, 0, 0, 0, .int 8, []), none, some (16, 3, 39, 3, 0, .null, []), none, none, some (1, 1, 2, 0, 0, .null, []), some (15, 3, 39, 2, 0, .null, []), none, none, some (1, 1, 2, 0, 0, .null, []), some (0, 2, 0, 0, 0, .int 8, [])],
  [none, some (16, 3, 39, 3, 0, .null, []), none, none, some (1, 1, 2, 0, 0, .null, []), some (1, 1, 1, 0, 0, .null, []), some (16, 3, 27, 1, 0, .null, []), none, none, some (0, 1, 0, 0, 0, .int 1, []), some (35, 1, 0, 0, 1, .null, []), some (43, 3, 4, 0, 0, .null, [(0, 723)]), none, none, some (1, 1, 2, 0, 0, .null, []), some (22, 1, 0, 0, 0, .null, [])],
  [some (4, 1, 2, 0, 0, .null, []), some (19, 3, 3, 0, 0, .int 1, []), none, none, some (17, 3, 4, 0, 0, .null, []), none, none, some (0, 1, 0, 0, 0, .int 0, []), some (35, 1, 0, 0, 1, .null, [])]]
/-- ColdShod$Acts.bodyThatRan(I)I -/
def zi_4 : List (List (Option zI)) := [[some (1, 1, 1, 0, 0, .null, []), some (15, 3, 18, 2, 0, .null, []), none, none, some (1, 1, 1, 0, 0, .null, []), some (3, 1, 0, 0, 0, .null, []), some (20, 3, 0, 2, 0, .null, [(0, 724)]), none, none, some (16, 3, 18, 3, 0, .null, []), none, none, some (1, 1, 1, 0, 0, .null, []), some (0, 2, 0, 0, 0, .int 24, []), none, some (16, 3, 22, 2, 0, .null, [])],
  [none, none, some (0, 1, 0, 0, 0, .int (-1), []), some (17, 3, 28, 0, 0, .null, []), none, none, some (3, 1, 0, 0, 0, .null, []), some (20, 3, 0, 3, 1, .null, [(0, 721)]), none, none, some (1, 1, 1, 0, 0, .null, []), some (22, 1, 0, 0, 0, .null, []), some (35, 1, 0, 0, 0, .null, [])]]
/-- ColdShod$Acts.perform(III)I -/
def zi_5 : List (List (Option zI)) := [[some (3, 1, 0, 0, 0, .null, []), some (0, 1, 0, 0, 0, .int 0, []), some (21, 3, 0, 2, 0, .null, [(0, 724)]), none, none, some (3, 1, 0, 0, 0, .null, []), some (1, 1, 1, 0, 0, .null, []), some (32, 3, 1, 2, 0, .null, [(0, 725)]), none, none, some (15, 3, 22, 0, 0, .null, []), none, none, some (1, 1, 2, 0, 0, .null, []), some (15, 3, 22, 2, 0, .null, []), none],
  [none, some (1, 1, 2, 0, 0, .null, []), some (0, 1, 0, 0, 0, .int 3, []), some (16, 3, 24, 5, 0, .null, []), none, none, some (0, 1, 0, 0, 0, .int 0, []), some (35, 1, 0, 0, 0, .null, []), some (3, 1, 0, 0, 0, .null, []), some (1, 1, 1, 0, 0, .null, []), some (21, 3, 0, 4, 0, .null, [(0, 726)]), none, none, some (3, 1, 0, 0, 0, .null, []), some (3, 1, 0, 0, 0, .null, []), some (20, 3, 0, 0, 1, .null, [(0, 720)])],
  [none, none, some (1, 1, 1, 0, 0, .null, []), some (22, 1, 0, 0, 0, .null, []), some (21, 3, 0, 5, 0, .null, [(0, 727)]), none, none, some (3, 1, 0, 0, 0, .null, []), some (3, 1, 0, 0, 0, .null, []), some (20, 3, 0, 5, 0, .null, [(0, 727)]), none, none, some (1, 1, 2, 0, 0, .null, []), some (1, 1, 3, 0, 0, .null, []), some (0, 1, 0, 0, 0, .int 0, []), some (32, 3, 6, 5, 0, .null, [(0, 728)])],
  [none, none, some (35, 1, 0, 0, 0, .null, [])]]
/-- ColdShod$Acts.run(IIII)I -/
def zi_6 : List (List (Option zI)) := [[some (1, 1, 1, 0, 0, .null, []), some (4, 2, 5, 0, 0, .null, []), none, some (0, 1, 0, 0, 0, .int 0, []), some (4, 2, 6, 0, 0, .null, []), none, some (1, 2, 6, 0, 0, .null, []), none, some (0, 2, 0, 0, 0, .int 8, []), none, some (16, 3, 45, 3, 0, .null, []), none, none, some (1, 2, 5, 0, 0, .null, []), none, some (15, 3, 45, 5, 0, .null, [])],
  [none, none, some (43, 3, 5, 0, 0, .null, [(0, 729)]), none, none, some (1, 2, 5, 0, 0, .null, []), none, some (0, 1, 0, 0, 0, .int 4, []), some (7, 1, 0, 2, 0, .null, []), some (1, 1, 2, 0, 0, .null, []), some (7, 1, 0, 0, 0, .null, []), some (22, 1, 0, 0, 0, .null, []), some (15, 3, 45, 1, 0, .null, []), none, none, some (43, 3, 4, 0, 0, .null, [(0, 723)])],
  [none, none, some (1, 2, 5, 0, 0, .null, []), none, some (22, 1, 0, 0, 0, .null, []), some (4, 2, 5, 0, 0, .null, []), none, some (19, 3, 6, 0, 0, .int 1, []), none, none, some (17, 3, 6, 0, 0, .null, []), none, none, some (1, 2, 5, 0, 0, .null, []), none, some (15, 3, 57, 2, 0, .null, [])],
  [none, none, some (1, 2, 4, 0, 0, .null, []), none, some (0, 2, 0, 0, 0, .int 30, []), none, some (16, 3, 59, 5, 0, .null, []), none, none, some (0, 1, 0, 0, 0, .int 0, []), some (35, 1, 0, 0, 0, .null, []), some (43, 3, 5, 0, 0, .null, [(0, 729)]), none, none, some (1, 2, 5, 0, 0, .null, []), none],
  [some (0, 1, 0, 0, 0, .int 4, []), some (7, 1, 0, 2, 0, .null, []), some (1, 1, 2, 0, 0, .null, []), some (7, 1, 0, 0, 0, .null, []), some (22, 1, 0, 0, 0, .null, []), some (4, 2, 6, 0, 0, .null, []), none, some (3, 1, 0, 0, 0, .null, []), some (20, 3, 0, 2, 0, .null, [(0, 724)]), none, none, some (0, 2, 0, 0, 0, .int 24, []), none, some (16, 3, 91, 3, 0, .null, []), none, none],
  [some (3, 1, 0, 0, 0, .null, []), some (20, 3, 0, 3, 1, .null, [(0, 721)]), none, none, some (3, 1, 0, 0, 0, .null, []), some (20, 3, 0, 2, 0, .null, [(0, 724)]), none, none, some (1, 2, 6, 0, 0, .null, []), none, some (25, 1, 0, 0, 0, .null, []), some (3, 1, 0, 0, 0, .null, []), some (39, 1, 0, 0, 0, .null, []), some (20, 3, 0, 2, 0, .null, [(0, 724)]), none, none],
  [some (0, 1, 0, 0, 0, .int 1, []), some (7, 1, 0, 0, 0, .null, []), some (21, 3, 0, 2, 0, .null, [(0, 724)]), none, none, some (3, 1, 0, 0, 0, .null, []), some (1, 2, 6, 0, 0, .null, []), none, some (43, 3, 4, 0, 0, .null, [(0, 723)]), none, none, some (1, 2, 5, 0, 0, .null, []), none, some (22, 1, 0, 0, 0, .null, []), some (1, 1, 3, 0, 0, .null, []), some (1, 2, 4, 0, 0, .null, [])],
  [none, some (0, 1, 0, 0, 0, .int 1, []), some (7, 1, 0, 0, 0, .null, []), some (32, 3, 7, 5, 0, .null, [(0, 730)]), none, none, some (35, 1, 0, 0, 0, .null, [])]]
/-- ColdShod$Acts.work(IIII)I -/
def zi_7 : List (List (Option zI)) := [[some (1, 1, 1, 0, 0, .null, []), some (18, 115, 300, 0, 1, .null, [(1, 116), (2, 123), (10, 149), (11, 164), (20, 171), (30, 183), (40, 194), (41, 206), (50, 218), (60, 241), (70, 253), (80, 265), (81, 288)]), none, none, none, none, none, none, none, none, none, none, none, none, none, none],
  [none, none, none, none, none, none, none, none, none, none, none, none, none, none, none, none],
  [none, none, none, none, none, none, none, none, none, none, none, none, none, none, none, none],
  [none, none, none, none, none, none, none, none, none, none, none, none, none, none, none, none],
  [none, none, none, none, none, none, none, none, none, none, none, none, none, none, none, none],
  [none, none, none, none, none, none, none, none, none, none, none, none, none, none, none, none],
  [none, none, none, none, none, none, none, none, none, none, none, none, none, none, none, none],
  [none, none, none, none, some (1, 1, 3, 0, 0, .null, []), some (3, 1, 0, 0, 0, .null, []), some (20, 3, 0, 4, 0, .null, [(0, 726)]), none, none, some (7, 1, 0, 0, 0, .null, []), some (35, 1, 0, 0, 0, .null, []), some (3, 1, 0, 0, 0, .null, []), some (3, 1, 0, 0, 0, .null, []), some (20, 3, 0, 5, 0, .null, [(0, 727)]), none, none],
  [some (0, 1, 0, 0, 0, .int 1, []), some (1, 1, 3, 0, 0, .null, []), some (1, 2, 4, 0, 0, .null, []), none, some (32, 3, 6, 5, 0, .null, [(0, 728)]), none, none, some (3, 1, 0, 0, 0, .null, []), some (3, 1, 0, 0, 0, .null, []), some (20, 3, 0, 5, 0, .null, [(0, 727)]), none, none, some (0, 1, 0, 0, 0, .int 2, []), some (0, 1, 0, 0, 0, .int 1, []), some (1, 2, 4, 0, 0, .null, []), none],
  [some (32, 3, 6, 5, 0, .null, [(0, 728)]), none, none, some (7, 1, 0, 1, 0, .null, []), some (35, 1, 0, 0, 0, .null, []), some (3, 1, 0, 0, 0, .null, []), some (3, 1, 0, 0, 0, .null, []), some (20, 3, 0, 5, 0, .null, [(0, 727)]), none, none, some (0, 1, 0, 0, 0, .int 0, []), some (1, 1, 3, 0, 0, .null, []), some (1, 2, 4, 0, 0, .null, []), none, some (32, 3, 6, 5, 0, .null, [(0, 728)]), none],
  [none, some (0, 1, 0, 0, 0, .int 2, []), some (7, 1, 0, 2, 0, .null, []), some (35, 1, 0, 0, 0, .null, []), some (1, 1, 3, 0, 0, .null, []), some (3, 1, 0, 0, 0, .null, []), some (20, 3, 0, 4, 0, .null, [(0, 726)]), none, none, some (7, 1, 0, 5, 0, .null, []), some (35, 1, 0, 0, 0, .null, []), some (3, 1, 0, 0, 0, .null, []), some (1, 1, 2, 0, 0, .null, []), some (0, 1, 0, 0, 0, .int 0, []), some (1, 1, 3, 0, 0, .null, []), some (1, 2, 4, 0, 0, .null, [])],
  [none, some (32, 3, 6, 5, 0, .null, [(0, 728)]), none, none, some (0, 1, 0, 0, 0, .int 3, []), some (7, 1, 0, 0, 0, .null, []), some (35, 1, 0, 0, 0, .null, []), some (3, 1, 0, 0, 0, .null, []), some (1, 1, 2, 0, 0, .null, []), some (0, 1, 0, 0, 0, .int 1, []), some (1, 1, 3, 0, 0, .null, []), some (1, 2, 4, 0, 0, .null, []), none, some (32, 3, 6, 5, 0, .null, [(0, 728)]), none, none],
  [some (9, 1, 0, 0, 0, .null, []), some (35, 1, 0, 0, 0, .null, []), some (3, 1, 0, 0, 0, .null, []), some (1, 1, 2, 0, 0, .null, []), some (0, 1, 0, 0, 0, .int 2, []), some (1, 1, 3, 0, 0, .null, []), some (1, 2, 4, 0, 0, .null, []), none, some (32, 3, 6, 5, 0, .null, [(0, 728)]), none, none, some (0, 1, 0, 0, 0, .int 3, []), some (7, 1, 0, 2, 0, .null, []), some (35, 1, 0, 0, 0, .null, []), some (3, 1, 0, 0, 0, .null, []), some (1, 1, 2, 0, 0, .null, [])],
  [some (0, 1, 0, 0, 0, .int 1, []), some (1, 1, 3, 0, 0, .null, []), some (0, 1, 0, 0, 0, .int 1, []), some (7, 1, 0, 0, 0, .null, []), some (1, 2, 4, 0, 0, .null, []), none, some (32, 3, 6, 5, 0, .null, [(0, 728)]), none, none, some (35, 1, 0, 0, 0, .null, []), some (3, 1, 0, 0, 0, .null, []), some (1, 1, 2, 0, 0, .null, []), some (0, 1, 0, 0, 0, .int 2, []), some (1, 1, 3, 0, 0, .null, []), some (1, 2, 4, 0, 0, .null, []), none],
  [some (32, 3, 6, 5, 0, .null, [(0, 728)]), none, none, some (3, 1, 0, 0, 0, .null, []), some (3, 1, 0, 0, 0, .null, []), some (20, 3, 0, 5, 0, .null, [(0, 727)]), none, none, some (0, 1, 0, 0, 0, .int 0, []), some (0, 1, 0, 0, 0, .int 2, []), some (1, 2, 4, 0, 0, .null, []), none, some (32, 3, 6, 5, 0, .null, [(0, 728)]), none, none, some (7, 1, 0, 1, 0, .null, [])],
  [some (35, 1, 0, 0, 0, .null, []), some (3, 1, 0, 0, 0, .null, []), some (1, 1, 2, 0, 0, .null, []), some (0, 1, 0, 0, 0, .int 3, []), some (1, 1, 3, 0, 0, .null, []), some (1, 2, 4, 0, 0, .null, []), none, some (32, 3, 6, 5, 0, .null, [(0, 728)]), none, none, some (0, 1, 0, 0, 0, .int 5, []), some (7, 1, 0, 5, 0, .null, []), some (35, 1, 0, 0, 0, .null, []), some (3, 1, 0, 0, 0, .null, []), some (1, 1, 2, 0, 0, .null, []), some (0, 1, 0, 0, 0, .int 0, [])],
  [some (1, 1, 3, 0, 0, .null, []), some (1, 2, 4, 0, 0, .null, []), none, some (32, 3, 6, 5, 0, .null, [(0, 728)]), none, none, some (0, 1, 0, 0, 0, .int 2, []), some (7, 1, 0, 2, 0, .null, []), some (35, 1, 0, 0, 0, .null, []), some (3, 1, 0, 0, 0, .null, []), some (1, 1, 2, 0, 0, .null, []), some (0, 1, 0, 0, 0, .int 1, []), some (1, 1, 3, 0, 0, .null, []), some (1, 2, 4, 0, 0, .null, []), none, some (32, 3, 6, 5, 0, .null, [(0, 728)])],
  [none, none, some (3, 1, 0, 0, 0, .null, []), some (3, 1, 0, 0, 0, .null, []), some (20, 3, 0, 5, 0, .null, [(0, 727)]), none, none, some (0, 1, 0, 0, 0, .int 2, []), some (0, 1, 0, 0, 0, .int 2, []), some (1, 2, 4, 0, 0, .null, []), none, some (32, 3, 6, 5, 0, .null, [(0, 728)]), none, none, some (7, 1, 0, 0, 0, .null, []), some (35, 1, 0, 0, 0, .null, [])],
  [some (3, 1, 0, 0, 0, .null, []), some (1, 1, 2, 0, 0, .null, []), some (0, 1, 0, 0, 0, .int 3, []), some (1, 1, 3, 0, 0, .null, []), some (1, 2, 4, 0, 0, .null, []), none, some (32, 3, 6, 5, 0, .null, [(0, 728)]), none, none, some (0, 1, 0, 0, 0, .int 1, []), some (7, 1, 0, 1, 0, .null, []), some (35, 1, 0, 0, 0, .null, []), some (0, 1, 0, 0, 0, .int 0, []), some (35, 1, 0, 0, 0, .null, [])]]
/-- ColdShod$Changes.<init>()V -/
def zi_8 : List (List (Option zI)) := [[some (3, 1, 0, 0, 0, .null, []), some (33, 3, 0, 0, 0, .null, [(0, 731)]), none, none, some (3, 1, 0, 0, 0, .null, []), some (0, 2, 0, 0, 0, .int 40, []), none, some (30, 2, 0, 0, 0, .null, [(0, 704)]), none, some (21, 3, 1, 2, 1, .null, [(0, 732)]), none, none, some (3, 1, 0, 0, 0, .null, []), some (0, 2, 0, 0, 0, .int 40, []), none, some (30, 2, 0, 0, 0, .null, [(0, 704)])],
  [none, some (21, 3, 1, 3, 1, .null, [(0, 733)]), none, none, some (3, 1, 0, 0, 0, .null, []), some (0, 2, 0, 0, 0, .int 40, []), none, some (30, 2, 0, 0, 0, .null, [(0, 704)]), none, some (21, 3, 1, 4, 1, .null, [(0, 734)]), none, none, some (3, 1, 0, 0, 0, .null, []), some (0, 2, 0, 0, 0, .int 40, []), none, some (30, 2, 0, 0, 0, .null, [(0, 704)])],
  [none, some (21, 3, 1, 5, 1, .null, [(0, 735)]), none, none, some (38, 1, 0, 0, 0, .null, [])]]
/-- ColdShod$Changes.note(IIII)V -/
def zi_9 : List (List (Option zI)) := [[some (3, 1, 0, 0, 0, .null, []), some (0, 1, 0, 0, 0, .int 0, []), some (21, 3, 1, 1, 0, .null, [(0, 736)]), none, none, some (3, 1, 0, 0, 0, .null, []), some (20, 3, 1, 0, 0, .null, [(0, 737)]), none, none, some (0, 2, 0, 0, 0, .int 40, []), none, some (16, 3, 18, 2, 0, .null, []), none, none, some (3, 1, 0, 0, 0, .null, []), some (32, 3, 10, 1, 4, .null, [(0, 738)])],
  [none, none, some (3, 1, 0, 0, 0, .null, []), some (20, 3, 1, 2, 1, .null, [(0, 732)]), none, none, some (3, 1, 0, 0, 0, .null, []), some (20, 3, 1, 0, 0, .null, [(0, 737)]), none, none, some (1, 1, 1, 0, 0, .null, []), some (25, 1, 0, 0, 0, .null, []), some (3, 1, 0, 0, 0, .null, []), some (20, 3, 1, 3, 1, .null, [(0, 733)]), none, none],
  [some (3, 1, 0, 0, 0, .null, []), some (20, 3, 1, 0, 0, .null, [(0, 737)]), none, none, some (1, 1, 2, 0, 0, .null, []), some (25, 1, 0, 0, 0, .null, []), some (3, 1, 0, 0, 0, .null, []), some (20, 3, 1, 4, 1, .null, [(0, 734)]), none, none, some (3, 1, 0, 0, 0, .null, []), some (20, 3, 1, 0, 0, .null, [(0, 737)]), none, none, some (1, 1, 3, 0, 0, .null, []), some (25, 1, 0, 0, 0, .null, [])],
  [some (3, 1, 0, 0, 0, .null, []), some (20, 3, 1, 5, 1, .null, [(0, 735)]), none, none, some (3, 1, 0, 0, 0, .null, []), some (20, 3, 1, 0, 0, .null, [(0, 737)]), none, none, some (1, 2, 4, 0, 0, .null, []), none, some (25, 1, 0, 0, 0, .null, []), some (3, 1, 0, 0, 0, .null, []), some (39, 1, 0, 0, 0, .null, []), some (20, 3, 1, 0, 0, .null, [(0, 737)]), none, none],
  [some (0, 1, 0, 0, 0, .int 1, []), some (7, 1, 0, 0, 0, .null, []), some (21, 3, 1, 0, 0, .null, [(0, 737)]), none, none, some (38, 1, 0, 0, 0, .null, [])]]
/-- ColdShod$Changes.forgetFirst()V -/
def zi_10 : List (List (Option zI)) := [[some (3, 1, 0, 0, 0, .null, []), some (0, 2, 0, 0, 0, .int 39, []), none, some (21, 3, 1, 0, 0, .null, [(0, 737)]), none, none, some (3, 1, 0, 0, 0, .null, []), some (20, 3, 1, 2, 1, .null, [(0, 732)]), none, none, some (0, 1, 0, 0, 0, .int 1, []), some (3, 1, 0, 0, 0, .null, []), some (20, 3, 1, 2, 1, .null, [(0, 732)]), none, none, some (0, 1, 0, 0, 0, .int 0, [])],
  [some (3, 1, 0, 0, 0, .null, []), some (20, 3, 1, 0, 0, .null, [(0, 737)]), none, none, some (34, 3, 0, 0, 0, .null, [(0, 739)]), none, none, some (3, 1, 0, 0, 0, .null, []), some (20, 3, 1, 3, 1, .null, [(0, 733)]), none, none, some (0, 1, 0, 0, 0, .int 1, []), some (3, 1, 0, 0, 0, .null, []), some (20, 3, 1, 3, 1, .null, [(0, 733)]), none, none],
  [some (0, 1, 0, 0, 0, .int 0, []), some (3, 1, 0, 0, 0, .null, []), some (20, 3, 1, 0, 0, .null, [(0, 737)]), none, none, some (34, 3, 0, 0, 0, .null, [(0, 739)]), none, none, some (3, 1, 0, 0, 0, .null, []), some (20, 3, 1, 4, 1, .null, [(0, 734)]), none, none, some (0, 1, 0, 0, 0, .int 1, []), some (3, 1, 0, 0, 0, .null, []), some (20, 3, 1, 4, 1, .null, [(0, 734)]), none],
  [none, some (0, 1, 0, 0, 0, .int 0, []), some (3, 1, 0, 0, 0, .null, []), some (20, 3, 1, 0, 0, .null, [(0, 737)]), none, none, some (34, 3, 0, 0, 0, .null, [(0, 739)]), none, none, some (3, 1, 0, 0, 0, .null, []), some (20, 3, 1, 5, 1, .null, [(0, 735)]), none, none, some (0, 1, 0, 0, 0, .int 1, []), some (3, 1, 0, 0, 0, .null, []), some (20, 3, 1, 5, 1, .null, [(0, 735)])],
  [none, none, some (0, 1, 0, 0, 0, .int 0, []), some (3, 1, 0, 0, 0, .null, []), some (20, 3, 1, 0, 0, .null, [(0, 737)]), none, none, some (34, 3, 0, 0, 0, .null, [(0, 739)]), none, none, some (38, 1, 0, 0, 0, .null, [])]]
/-- ColdShod$Changes.takeBack(LColdShod$Country;)V -/
def zi_11 : List (List (Option zI)) := [[some (3, 1, 0, 0, 0, .null, []), some (20, 3, 1, 0, 0, .null, [(0, 737)]), none, none, some (15, 3, 8, 4, 0, .null, []), none, none, some (38, 1, 0, 0, 0, .null, []), some (3, 1, 0, 0, 0, .null, []), some (39, 1, 0, 0, 0, .null, []), some (20, 3, 1, 0, 0, .null, [(0, 737)]), none, none, some (0, 1, 0, 0, 0, .int 1, []), some (7, 1, 0, 1, 0, .null, []), some (21, 3, 1, 0, 0, .null, [(0, 737)])],
  [none, none, some (3, 1, 0, 0, 0, .null, []), some (39, 1, 0, 0, 0, .null, []), some (20, 3, 1, 1, 0, .null, [(0, 736)]), none, none, some (0, 1, 0, 0, 0, .int 1, []), some (7, 1, 0, 0, 0, .null, []), some (21, 3, 1, 1, 0, .null, [(0, 736)]), none, none, some (3, 1, 1, 0, 0, .null, []), some (3, 1, 0, 0, 0, .null, []), some (20, 3, 1, 2, 1, .null, [(0, 732)]), none],
  [none, some (3, 1, 0, 0, 0, .null, []), some (20, 3, 1, 0, 0, .null, [(0, 737)]), none, none, some (22, 1, 0, 0, 0, .null, []), some (3, 1, 0, 0, 0, .null, []), some (20, 3, 1, 3, 1, .null, [(0, 733)]), none, none, some (3, 1, 0, 0, 0, .null, []), some (20, 3, 1, 0, 0, .null, [(0, 737)]), none, none, some (22, 1, 0, 0, 0, .null, []), some (3, 1, 0, 0, 0, .null, [])],
  [some (20, 3, 1, 4, 1, .null, [(0, 734)]), none, none, some (3, 1, 0, 0, 0, .null, []), some (20, 3, 1, 0, 0, .null, [(0, 737)]), none, none, some (22, 1, 0, 0, 0, .null, []), some (32, 3, 21, 4, 8, .null, [(0, 740)]), none, none, some (38, 1, 0, 0, 0, .null, [])]]
/-- ColdShod$Changes.doAgain(LColdShod$Country;)V -/
def zi_12 : List (List (Option zI)) := [[some (3, 1, 0, 0, 0, .null, []), some (20, 3, 1, 1, 0, .null, [(0, 736)]), none, none, some (15, 3, 16, 5, 0, .null, []), none, none, some (3, 1, 0, 0, 0, .null, []), some (20, 3, 1, 0, 0, .null, [(0, 737)]), none, none, some (0, 2, 0, 0, 0, .int 40, []), none, some (16, 3, 17, 2, 0, .null, []), none, none],
  [some (38, 1, 0, 0, 0, .null, []), some (3, 1, 1, 0, 0, .null, []), some (3, 1, 0, 0, 0, .null, []), some (20, 3, 1, 2, 1, .null, [(0, 732)]), none, none, some (3, 1, 0, 0, 0, .null, []), some (20, 3, 1, 0, 0, .null, [(0, 737)]), none, none, some (22, 1, 0, 0, 0, .null, []), some (3, 1, 0, 0, 0, .null, []), some (20, 3, 1, 3, 1, .null, [(0, 733)]), none, none, some (3, 1, 0, 0, 0, .null, [])],
  [some (20, 3, 1, 0, 0, .null, [(0, 737)]), none, none, some (22, 1, 0, 0, 0, .null, []), some (3, 1, 0, 0, 0, .null, []), some (20, 3, 1, 5, 1, .null, [(0, 735)]), none, none, some (3, 1, 0, 0, 0, .null, []), some (20, 3, 1, 0, 0, .null, [(0, 737)]), none, none, some (22, 1, 0, 0, 0, .null, []), some (32, 3, 21, 4, 8, .null, [(0, 740)]), none, none],
  [some (3, 1, 0, 0, 0, .null, []), some (39, 1, 0, 0, 0, .null, []), some (20, 3, 1, 0, 0, .null, [(0, 737)]), none, none, some (0, 1, 0, 0, 0, .int 1, []), some (7, 1, 0, 0, 0, .null, []), some (21, 3, 1, 0, 0, .null, [(0, 737)]), none, none, some (3, 1, 0, 0, 0, .null, []), some (39, 1, 0, 0, 0, .null, []), some (20, 3, 1, 1, 0, .null, [(0, 736)]), none, none, some (0, 1, 0, 0, 0, .int 1, [])],
  [some (7, 1, 0, 1, 0, .null, []), some (21, 3, 1, 1, 0, .null, [(0, 736)]), none, none, some (38, 1, 0, 0, 0, .null, [])]]
/-- ColdShod$Country.<init>()V -/
def zi_13 : List (List (Option zI)) := [[some (3, 1, 0, 0, 0, .null, []), some (33, 3, 0, 0, 0, .null, [(0, 741)]), none, none, some (3, 1, 0, 0, 0, .null, []), some (0, 2, 0, 0, 0, .int 6, []), none, some (30, 2, 0, 0, 0, .null, [(0, 704)]), none, some (21, 3, 2, 0, 1, .null, [(0, 742)]), none, none, some (3, 1, 0, 0, 0, .null, []), some (0, 2, 0, 0, 0, .int 6, []), none, some (30, 2, 0, 0, 0, .null, [(0, 704)])],
  [none, some (21, 3, 2, 1, 1, .null, [(0, 743)]), none, none, some (3, 1, 0, 0, 0, .null, []), some (0, 2, 0, 0, 0, .int 8, []), none, some (30, 3, 2, 0, 0, .null, [(0, 744)]), none, none, some (21, 3, 2, 2, 1, .null, [(0, 745)]), none, none, some (3, 1, 0, 0, 0, .null, []), some (0, 2, 0, 0, 0, .int 12, []), none],
  [some (30, 3, 3, 0, 0, .null, [(0, 746)]), none, none, some (21, 3, 2, 3, 1, .null, [(0, 747)]), none, none, some (3, 1, 0, 0, 0, .null, []), some (0, 2, 0, 0, 0, .int 6, []), none, some (30, 2, 0, 0, 0, .null, [(0, 704)]), none, some (21, 3, 2, 4, 1, .null, [(0, 748)]), none, none, some (3, 1, 0, 0, 0, .null, []), some (0, 2, 0, 0, 0, .int 6, [])],
  [none, some (30, 2, 0, 0, 0, .null, [(0, 704)]), none, some (21, 3, 2, 5, 1, .null, [(0, 749)]), none, none, some (3, 1, 0, 0, 0, .null, []), some (29, 3, 5, 4, 0, .null, [(0, 750), (0, 711), (0, 156)]), none, none, some (39, 1, 0, 0, 0, .null, []), some (32, 3, 52, 1, 23, .null, [(0, 0)]), none, none, some (21, 3, 2, 9, 1, .null, [(0, 751)]), none],
  [none, some (3, 1, 0, 0, 0, .null, []), some (29, 3, 5, 4, 0, .null, [(0, 750), (0, 711), (0, 156)]), none, none, some (39, 1, 0, 0, 0, .null, []), some (32, 3, 52, 1, 23, .null, [(0, 0)]), none, none, some (21, 3, 2, 10, 1, .null, [(0, 752)]), none, none, some (0, 1, 0, 0, 0, .int 0, []), some (4, 1, 1, 0, 0, .null, []), some (1, 1, 1, 0, 0, .null, []), some (3, 1, 0, 0, 0, .null, [])],
  [some (20, 3, 2, 2, 1, .null, [(0, 745)]), none, none, some (28, 1, 0, 0, 0, .null, []), some (16, 3, 106, 3, 0, .null, []), none, none, some (3, 1, 0, 0, 0, .null, []), some (20, 3, 2, 2, 1, .null, [(0, 745)]), none, none, some (1, 1, 1, 0, 0, .null, []), some (29, 3, 3, 7, 0, .null, [(0, 744), (0, 709), (0, 102)]), none, none, some (39, 1, 0, 0, 0, .null, [])],
  [some (32, 3, 34, 1, 15, .null, [(0, 1)]), none, none, some (27, 1, 0, 0, 0, .null, []), some (19, 3, 1, 0, 0, .int 1, []), none, none, some (17, 3, 78, 0, 0, .null, []), none, none, some (0, 1, 0, 0, 0, .int 0, []), some (4, 1, 1, 0, 0, .null, []), some (1, 1, 1, 0, 0, .null, []), some (3, 1, 0, 0, 0, .null, []), some (20, 3, 2, 3, 1, .null, [(0, 747)]), none],
  [none, some (28, 1, 0, 0, 0, .null, []), some (16, 3, 136, 3, 0, .null, []), none, none, some (3, 1, 0, 0, 0, .null, []), some (20, 3, 2, 3, 1, .null, [(0, 747)]), none, none, some (1, 1, 1, 0, 0, .null, []), some (29, 3, 7, 5, 0, .null, [(0, 746), (0, 713), (0, 214)]), none, none, some (39, 1, 0, 0, 0, .null, []), some (32, 3, 73, 1, 31, .null, [(0, 2)]), none],
  [none, some (27, 1, 0, 0, 0, .null, []), some (19, 3, 1, 0, 0, .int 1, []), none, none, some (17, 3, 108, 0, 0, .null, []), none, none, some (38, 1, 0, 0, 0, .null, [])]]
/-- ColdShod$Country.hasHead(I)Z -/
def zi_14 : List (List (Option zI)) := [[some (1, 1, 1, 0, 0, .null, []), some (15, 3, 16, 2, 0, .null, []), none, none, some (1, 1, 1, 0, 0, .null, []), some (3, 1, 0, 0, 0, .null, []), some (20, 3, 2, 6, 0, .null, [(0, 753)]), none, none, some (16, 3, 16, 3, 0, .null, []), none, none, some (0, 1, 0, 0, 0, .int 1, []), some (17, 3, 17, 0, 0, .null, []), none, none],
  [some (0, 1, 0, 0, 0, .int 0, []), some (35, 1, 0, 0, 1, .null, [])]]
/-- ColdShod$Country.hasIdea(I)Z -/
def zi_15 : List (List (Option zI)) := [[some (1, 1, 1, 0, 0, .null, []), some (15, 3, 16, 2, 0, .null, []), none, none, some (1, 1, 1, 0, 0, .null, []), some (3, 1, 0, 0, 0, .null, []), some (20, 3, 2, 7, 0, .null, [(0, 754)]), none, none, some (16, 3, 16, 3, 0, .null, []), none, none, some (0, 1, 0, 0, 0, .int 1, []), some (17, 3, 17, 0, 0, .null, []), none, none],
  [some (0, 1, 0, 0, 0, .int 0, []), some (35, 1, 0, 0, 1, .null, [])]]
/-- ColdShod$Country.hasRoad(I)Z -/
def zi_16 : List (List (Option zI)) := [[some (1, 1, 1, 0, 0, .null, []), some (15, 3, 16, 2, 0, .null, []), none, none, some (1, 1, 1, 0, 0, .null, []), some (3, 1, 0, 0, 0, .null, []), some (20, 3, 2, 8, 0, .null, [(0, 755)]), none, none, some (16, 3, 16, 3, 0, .null, []), none, none, some (0, 1, 0, 0, 0, .int 1, []), some (17, 3, 17, 0, 0, .null, []), none, none],
  [some (0, 1, 0, 0, 0, .int 0, []), some (35, 1, 0, 0, 1, .null, [])]]
/-- ColdShod$Country.layRoad(III)I -/
def zi_17 : List (List (Option zI)) := [[some (3, 1, 0, 0, 0, .null, []), some (20, 3, 2, 8, 0, .null, [(0, 755)]), none, none, some (0, 2, 0, 0, 0, .int 12, []), none, some (16, 3, 12, 2, 0, .null, []), none, none, some (0, 2, 0, 0, 0, .int (-3), []), none, some (35, 1, 0, 0, 0, .null, []), some (3, 1, 0, 0, 0, .null, []), some (20, 3, 2, 3, 1, .null, [(0, 747)]), none, none],
  [some (3, 1, 0, 0, 0, .null, []), some (20, 3, 2, 8, 0, .null, [(0, 755)]), none, none, some (24, 1, 0, 0, 0, .null, []), some (6, 2, 4, 0, 0, .null, []), none, some (3, 2, 4, 0, 0, .null, []), none, some (1, 1, 1, 0, 0, .null, []), some (21, 3, 7, 0, 0, .null, [(0, 756)]), none, none, some (3, 2, 4, 0, 0, .null, []), none, some (1, 1, 2, 0, 0, .null, [])],
  [some (21, 3, 7, 1, 0, .null, [(0, 757)]), none, none, some (3, 2, 4, 0, 0, .null, []), none, some (1, 1, 3, 0, 0, .null, []), some (21, 3, 7, 2, 0, .null, [(0, 758)]), none, none, some (3, 1, 0, 0, 0, .null, []), some (39, 1, 0, 0, 0, .null, []), some (20, 3, 2, 8, 0, .null, [(0, 755)]), none, none, some (40, 1, 0, 0, 0, .null, []), some (0, 1, 0, 0, 0, .int 1, [])],
  [some (7, 1, 0, 0, 0, .null, []), some (21, 3, 2, 8, 0, .null, [(0, 755)]), none, none, some (35, 1, 0, 0, 0, .null, [])]]
/-- ColdShod$Country.isThere(II)Z -/
def zi_18 : List (List (Option zI)) := [[some (1, 1, 2, 0, 0, .null, []), some (15, 3, 10, 2, 0, .null, []), none, none, some (1, 1, 2, 0, 0, .null, []), some (0, 2, 0, 0, 0, .int 14, []), none, some (16, 3, 12, 5, 0, .null, []), none, none, some (0, 1, 0, 0, 0, .int 0, []), some (35, 1, 0, 0, 1, .null, []), some (1, 1, 2, 0, 0, .null, []), some (0, 1, 0, 0, 0, .int 1, []), some (16, 3, 23, 4, 0, .null, []), none],
  [none, some (3, 1, 0, 0, 0, .null, []), some (1, 1, 1, 0, 0, .null, []), some (32, 3, 14, 2, 8, .null, [(0, 759)]), none, none, some (35, 1, 0, 0, 1, .null, []), some (1, 1, 2, 0, 0, .null, []), some (0, 2, 0, 0, 0, .int 8, []), none, some (16, 3, 35, 5, 0, .null, []), none, none, some (1, 1, 2, 0, 0, .null, []), some (0, 2, 0, 0, 0, .int 14, []), none],
  [some (16, 3, 43, 1, 0, .null, []), none, none, some (3, 1, 0, 0, 0, .null, []), some (1, 1, 1, 0, 0, .null, []), some (32, 3, 15, 2, 8, .null, [(0, 760)]), none, none, some (17, 3, 48, 0, 0, .null, []), none, none, some (3, 1, 0, 0, 0, .null, []), some (1, 1, 1, 0, 0, .null, []), some (32, 3, 16, 2, 8, .null, [(0, 761)]), none, none],
  [some (35, 1, 0, 0, 1, .null, [])]]
/-- ColdShod$Country.canBe(II)Z -/
def zi_19 : List (List (Option zI)) := [[some (1, 1, 1, 0, 0, .null, []), some (15, 3, 10, 2, 0, .null, []), none, none, some (1, 1, 1, 0, 0, .null, []), some (0, 2, 0, 0, 0, .int 11, []), none, some (16, 3, 12, 5, 0, .null, []), none, none, some (0, 1, 0, 0, 0, .int 0, []), some (35, 1, 0, 0, 1, .null, []), some (1, 1, 1, 0, 0, .null, []), some (0, 2, 0, 0, 0, .int 8, []), none, some (16, 3, 27, 1, 0, .null, [])],
  [none, none, some (3, 1, 0, 0, 0, .null, []), some (20, 3, 2, 6, 0, .null, [(0, 753)]), none, none, some (0, 1, 0, 0, 0, .int 1, []), some (7, 1, 0, 1, 0, .null, []), some (17, 3, 32, 0, 0, .null, []), none, none, some (43, 3, 1, 0, 1, .null, [(0, 3)]), none, none, some (1, 1, 1, 0, 0, .null, []), some (22, 1, 0, 0, 0, .null, [])],
  [some (4, 1, 3, 0, 0, .null, []), some (1, 1, 2, 0, 0, .null, []), some (43, 3, 2, 0, 1, .null, [(0, 4)]), none, none, some (1, 1, 1, 0, 0, .null, []), some (22, 1, 0, 0, 0, .null, []), some (16, 3, 51, 2, 0, .null, []), none, none, some (1, 1, 2, 0, 0, .null, []), some (1, 1, 3, 0, 0, .null, []), some (16, 3, 51, 4, 0, .null, []), none, none, some (0, 1, 0, 0, 0, .int 1, [])],
  [some (17, 3, 52, 0, 0, .null, []), none, none, some (0, 1, 0, 0, 0, .int 0, []), some (35, 1, 0, 0, 1, .null, [])]]
/-- ColdShod$Country.numberOf(II)I -/
def zi_20 : List (List (Option zI)) := [[some (3, 1, 0, 0, 0, .null, []), some (1, 1, 1, 0, 0, .null, []), some (1, 1, 2, 0, 0, .null, []), some (32, 3, 18, 3, 8, .null, [(0, 762)]), none, none, some (15, 3, 12, 1, 0, .null, []), none, none, some (0, 2, 0, 0, 0, .int (-2000000000), [(0, 763)]), none, some (35, 1, 0, 0, 0, .null, []), some (1, 1, 2, 0, 0, .null, []), some (18, 75, 232, 0, 0, .null, [(0, 88), (1, 95), (2, 102), (3, 112), (4, 122), (5, 132), (6, 142), (7, 152), (8, 162), (9, 172), (10, 182), (11, 192), (12, 202), (13, 212), (14, 222)]), none, none],
  [none, none, none, none, none, none, none, none, none, none, none, none, none, none, none, none],
  [none, none, none, none, none, none, none, none, none, none, none, none, none, none, none, none],
  [none, none, none, none, none, none, none, none, none, none, none, none, none, none, none, none],
  [none, none, none, none, none, none, none, none, none, none, none, none, none, none, none, none],
  [none, none, none, none, none, none, none, none, some (3, 1, 0, 0, 0, .null, []), some (20, 3, 2, 0, 1, .null, [(0, 742)]), none, none, some (1, 1, 1, 0, 0, .null, []), some (22, 1, 0, 0, 0, .null, []), some (35, 1, 0, 0, 0, .null, []), some (3, 1, 0, 0, 0, .null, [])],
  [some (20, 3, 2, 1, 1, .null, [(0, 743)]), none, none, some (1, 1, 1, 0, 0, .null, []), some (22, 1, 0, 0, 0, .null, []), some (35, 1, 0, 0, 0, .null, []), some (3, 1, 0, 0, 0, .null, []), some (20, 3, 2, 2, 1, .null, [(0, 745)]), none, none, some (1, 1, 1, 0, 0, .null, []), some (24, 1, 0, 0, 0, .null, []), some (20, 3, 3, 0, 0, .null, [(0, 764)]), none, none, some (35, 1, 0, 0, 0, .null, [])],
  [some (3, 1, 0, 0, 0, .null, []), some (20, 3, 2, 2, 1, .null, [(0, 745)]), none, none, some (1, 1, 1, 0, 0, .null, []), some (24, 1, 0, 0, 0, .null, []), some (20, 3, 3, 1, 0, .null, [(0, 765)]), none, none, some (35, 1, 0, 0, 0, .null, []), some (3, 1, 0, 0, 0, .null, []), some (20, 3, 2, 2, 1, .null, [(0, 745)]), none, none, some (1, 1, 1, 0, 0, .null, []), some (24, 1, 0, 0, 0, .null, [])],
  [some (20, 3, 3, 2, 0, .null, [(0, 766)]), none, none, some (35, 1, 0, 0, 0, .null, []), some (3, 1, 0, 0, 0, .null, []), some (20, 3, 2, 2, 1, .null, [(0, 745)]), none, none, some (1, 1, 1, 0, 0, .null, []), some (24, 1, 0, 0, 0, .null, []), some (20, 3, 3, 3, 0, .null, [(0, 767)]), none, none, some (35, 1, 0, 0, 0, .null, []), some (3, 1, 0, 0, 0, .null, []), some (20, 3, 2, 2, 1, .null, [(0, 745)])],
  [none, none, some (1, 1, 1, 0, 0, .null, []), some (24, 1, 0, 0, 0, .null, []), some (20, 3, 3, 4, 0, .null, [(0, 768)]), none, none, some (35, 1, 0, 0, 0, .null, []), some (3, 1, 0, 0, 0, .null, []), some (20, 3, 2, 2, 1, .null, [(0, 745)]), none, none, some (1, 1, 1, 0, 0, .null, []), some (24, 1, 0, 0, 0, .null, []), some (20, 3, 3, 5, 0, .null, [(0, 769)]), none],
  [none, some (35, 1, 0, 0, 0, .null, []), some (3, 1, 0, 0, 0, .null, []), some (20, 3, 2, 2, 1, .null, [(0, 745)]), none, none, some (1, 1, 1, 0, 0, .null, []), some (24, 1, 0, 0, 0, .null, []), some (20, 3, 3, 6, 0, .null, [(0, 770)]), none, none, some (35, 1, 0, 0, 0, .null, []), some (3, 1, 0, 0, 0, .null, []), some (20, 3, 2, 3, 1, .null, [(0, 747)]), none, none],
  [some (1, 1, 1, 0, 0, .null, []), some (24, 1, 0, 0, 0, .null, []), some (20, 3, 7, 2, 0, .null, [(0, 758)]), none, none, some (35, 1, 0, 0, 0, .null, []), some (3, 1, 0, 0, 0, .null, []), some (20, 3, 2, 3, 1, .null, [(0, 747)]), none, none, some (1, 1, 1, 0, 0, .null, []), some (24, 1, 0, 0, 0, .null, []), some (20, 3, 7, 3, 0, .null, [(0, 771)]), none, none, some (35, 1, 0, 0, 0, .null, [])],
  [some (3, 1, 0, 0, 0, .null, []), some (20, 3, 2, 3, 1, .null, [(0, 747)]), none, none, some (1, 1, 1, 0, 0, .null, []), some (24, 1, 0, 0, 0, .null, []), some (20, 3, 7, 4, 0, .null, [(0, 772)]), none, none, some (35, 1, 0, 0, 0, .null, []), some (3, 1, 0, 0, 0, .null, []), some (20, 3, 2, 3, 1, .null, [(0, 747)]), none, none, some (1, 1, 1, 0, 0, .null, []), some (24, 1, 0, 0, 0, .null, [])],
  [some (20, 3, 7, 0, 0, .null, [(0, 756)]), none, none, some (35, 1, 0, 0, 0, .null, []), some (3, 1, 0, 0, 0, .null, []), some (20, 3, 2, 3, 1, .null, [(0, 747)]), none, none, some (1, 1, 1, 0, 0, .null, []), some (24, 1, 0, 0, 0, .null, []), some (20, 3, 7, 1, 0, .null, [(0, 757)]), none, none, some (35, 1, 0, 0, 0, .null, []), some (3, 1, 0, 0, 0, .null, []), some (20, 3, 2, 2, 1, .null, [(0, 745)])],
  [none, none, some (1, 1, 1, 0, 0, .null, []), some (24, 1, 0, 0, 0, .null, []), some (32, 3, 37, 1, 12, .null, [(0, 773)]), none, none, some (35, 1, 0, 0, 0, .null, []), some (0, 2, 0, 0, 0, .int (-2000000000), [(0, 763)]), none, some (35, 1, 0, 0, 0, .null, [])]]
/-- ColdShod$Country.setNumber(III)V -/
def zi_21 : List (List (Option zI)) := [[some (3, 1, 0, 0, 0, .null, []), some (1, 1, 1, 0, 0, .null, []), some (1, 1, 2, 0, 0, .null, []), some (32, 3, 18, 3, 8, .null, [(0, 762)]), none, none, some (15, 3, 10, 1, 0, .null, []), none, none, some (38, 1, 0, 0, 0, .null, []), some (1, 1, 2, 0, 0, .null, []), some (18, 61, 222, 0, 0, .null, [(0, 72), (1, 82), (2, 92), (3, 105), (4, 118), (5, 131), (6, 144), (7, 157), (8, 170), (9, 183), (10, 196), (11, 209)]), none, none, none, none],
  [none, none, none, none, none, none, none, none, none, none, none, none, none, none, none, none],
  [none, none, none, none, none, none, none, none, none, none, none, none, none, none, none, none],
  [none, none, none, none, none, none, none, none, none, none, none, none, none, none, none, none],
  [none, none, none, none, none, none, none, none, some (3, 1, 0, 0, 0, .null, []), some (20, 3, 2, 0, 1, .null, [(0, 742)]), none, none, some (1, 1, 1, 0, 0, .null, []), some (1, 1, 3, 0, 0, .null, []), some (25, 1, 0, 0, 0, .null, []), some (17, 3, 222, 0, 0, .null, [])],
  [none, none, some (3, 1, 0, 0, 0, .null, []), some (20, 3, 2, 1, 1, .null, [(0, 743)]), none, none, some (1, 1, 1, 0, 0, .null, []), some (1, 1, 3, 0, 0, .null, []), some (25, 1, 0, 0, 0, .null, []), some (17, 3, 222, 0, 0, .null, []), none, none, some (3, 1, 0, 0, 0, .null, []), some (20, 3, 2, 2, 1, .null, [(0, 745)]), none, none],
  [some (1, 1, 1, 0, 0, .null, []), some (24, 1, 0, 0, 0, .null, []), some (1, 1, 3, 0, 0, .null, []), some (21, 3, 3, 0, 0, .null, [(0, 764)]), none, none, some (17, 3, 222, 0, 0, .null, []), none, none, some (3, 1, 0, 0, 0, .null, []), some (20, 3, 2, 2, 1, .null, [(0, 745)]), none, none, some (1, 1, 1, 0, 0, .null, []), some (24, 1, 0, 0, 0, .null, []), some (1, 1, 3, 0, 0, .null, [])],
  [some (21, 3, 3, 1, 0, .null, [(0, 765)]), none, none, some (17, 3, 222, 0, 0, .null, []), none, none, some (3, 1, 0, 0, 0, .null, []), some (20, 3, 2, 2, 1, .null, [(0, 745)]), none, none, some (1, 1, 1, 0, 0, .null, []), some (24, 1, 0, 0, 0, .null, []), some (1, 1, 3, 0, 0, .null, []), some (21, 3, 3, 2, 0, .null, [(0, 766)]), none, none],
  [some (17, 3, 222, 0, 0, .null, []), none, none, some (3, 1, 0, 0, 0, .null, []), some (20, 3, 2, 2, 1, .null, [(0, 745)]), none, none, some (1, 1, 1, 0, 0, .null, []), some (24, 1, 0, 0, 0, .null, []), some (1, 1, 3, 0, 0, .null, []), some (21, 3, 3, 3, 0, .null, [(0, 767)]), none, none, some (17, 3, 222, 0, 0, .null, []), none, none],
  [some (3, 1, 0, 0, 0, .null, []), some (20, 3, 2, 2, 1, .null, [(0, 745)]), none, none, some (1, 1, 1, 0, 0, .null, []), some (24, 1, 0, 0, 0, .null, []), some (1, 1, 3, 0, 0, .null, []), some (21, 3, 3, 4, 0, .null, [(0, 768)]), none, none, some (17, 3, 222, 0, 0, .null, []), none, none, some (3, 1, 0, 0, 0, .null, []), some (20, 3, 2, 2, 1, .null, [(0, 745)]), none],
  [none, some (1, 1, 1, 0, 0, .null, []), some (24, 1, 0, 0, 0, .null, []), some (1, 1, 3, 0, 0, .null, []), some (21, 3, 3, 5, 0, .null, [(0, 769)]), none, none, some (17, 3, 222, 0, 0, .null, []), none, none, some (3, 1, 0, 0, 0, .null, []), some (20, 3, 2, 2, 1, .null, [(0, 745)]), none, none, some (1, 1, 1, 0, 0, .null, []), some (24, 1, 0, 0, 0, .null, [])],
  [some (1, 1, 3, 0, 0, .null, []), some (21, 3, 3, 6, 0, .null, [(0, 770)]), none, none, some (17, 3, 222, 0, 0, .null, []), none, none, some (3, 1, 0, 0, 0, .null, []), some (20, 3, 2, 3, 1, .null, [(0, 747)]), none, none, some (1, 1, 1, 0, 0, .null, []), some (24, 1, 0, 0, 0, .null, []), some (1, 1, 3, 0, 0, .null, []), some (21, 3, 7, 2, 0, .null, [(0, 758)]), none],
  [none, some (17, 3, 222, 0, 0, .null, []), none, none, some (3, 1, 0, 0, 0, .null, []), some (20, 3, 2, 3, 1, .null, [(0, 747)]), none, none, some (1, 1, 1, 0, 0, .null, []), some (24, 1, 0, 0, 0, .null, []), some (1, 1, 3, 0, 0, .null, []), some (21, 3, 7, 3, 0, .null, [(0, 771)]), none, none, some (17, 3, 222, 0, 0, .null, []), none],
  [none, some (3, 1, 0, 0, 0, .null, []), some (20, 3, 2, 3, 1, .null, [(0, 747)]), none, none, some (1, 1, 1, 0, 0, .null, []), some (24, 1, 0, 0, 0, .null, []), some (1, 1, 3, 0, 0, .null, []), some (21, 3, 7, 4, 0, .null, [(0, 772)]), none, none, some (17, 3, 222, 0, 0, .null, []), none, none, some (38, 1, 0, 0, 0, .null, [])]]
/-- ColdShod$Country.willBehind(LColdShod$Idea;)I -/
def zi_22 : List (List (Option zI)) := [[some (3, 1, 0, 0, 0, .null, []), some (3, 1, 1, 0, 0, .null, []), some (20, 3, 3, 6, 0, .null, [(0, 770)]), none, none, some (32, 3, 14, 2, 8, .null, [(0, 759)]), none, none, some (15, 3, 23, 0, 0, .null, []), none, none, some (3, 1, 0, 0, 0, .null, []), some (20, 3, 2, 1, 1, .null, [(0, 743)]), none, none, some (3, 1, 1, 0, 0, .null, [])],
  [some (20, 3, 3, 6, 0, .null, [(0, 770)]), none, none, some (22, 1, 0, 0, 0, .null, []), some (17, 3, 25, 0, 0, .null, []), none, none, some (0, 2, 0, 0, 0, .int 6, []), none, some (35, 1, 0, 0, 0, .null, [])]]
/-- ColdShod$Country.wearOf(LColdShod$Idea;LColdShod$Road;)I -/
def zi_23 : List (List (Option zI)) := [[some (3, 1, 0, 0, 0, .null, []), some (20, 3, 2, 5, 1, .null, [(0, 749)]), none, none, some (0, 1, 0, 0, 0, .int 0, []), some (3, 1, 1, 0, 0, .null, []), some (20, 3, 3, 0, 0, .null, [(0, 764)]), none, none, some (25, 1, 0, 0, 0, .null, []), some (3, 1, 0, 0, 0, .null, []), some (20, 3, 2, 5, 1, .null, [(0, 749)]), none, none, some (0, 1, 0, 0, 0, .int 1, []), some (3, 1, 1, 0, 0, .null, [])],
  [some (20, 3, 3, 2, 0, .null, [(0, 766)]), none, none, some (25, 1, 0, 0, 0, .null, []), some (3, 1, 0, 0, 0, .null, []), some (20, 3, 2, 5, 1, .null, [(0, 749)]), none, none, some (0, 1, 0, 0, 0, .int 2, []), some (3, 1, 1, 0, 0, .null, []), some (20, 3, 3, 3, 0, .null, [(0, 767)]), none, none, some (25, 1, 0, 0, 0, .null, []), some (3, 1, 0, 0, 0, .null, []), some (20, 3, 2, 5, 1, .null, [(0, 749)])],
  [none, none, some (0, 1, 0, 0, 0, .int 3, []), some (3, 1, 0, 0, 0, .null, []), some (3, 1, 1, 0, 0, .null, []), some (20, 3, 3, 6, 0, .null, [(0, 770)]), none, none, some (32, 3, 14, 2, 8, .null, [(0, 759)]), none, none, some (15, 3, 66, 0, 0, .null, []), none, none, some (3, 1, 1, 0, 0, .null, []), some (20, 3, 3, 1, 0, .null, [(0, 765)])],
  [none, none, some (3, 1, 0, 0, 0, .null, []), some (20, 3, 2, 0, 1, .null, [(0, 742)]), none, none, some (3, 1, 1, 0, 0, .null, []), some (20, 3, 3, 6, 0, .null, [(0, 770)]), none, none, some (22, 1, 0, 0, 0, .null, []), some (7, 1, 0, 1, 0, .null, []), some (31, 3, 0, 2, 0, .null, [(0, 774), (0, 775), (0, 776), (0, 777)]), none, none, some (17, 3, 68, 0, 0, .null, [])],
  [none, none, some (0, 2, 0, 0, 0, .int 9, []), none, some (25, 1, 0, 0, 0, .null, []), some (3, 1, 0, 0, 0, .null, []), some (20, 3, 2, 5, 1, .null, [(0, 749)]), none, none, some (0, 1, 0, 0, 0, .int 4, []), some (3, 1, 2, 0, 0, .null, []), some (20, 3, 7, 3, 0, .null, [(0, 771)]), none, none, some (25, 1, 0, 0, 0, .null, []), some (3, 1, 0, 0, 0, .null, [])],
  [some (20, 3, 2, 5, 1, .null, [(0, 749)]), none, none, some (0, 1, 0, 0, 0, .int 5, []), some (3, 1, 2, 0, 0, .null, []), some (20, 3, 7, 4, 0, .null, [(0, 772)]), none, none, some (25, 1, 0, 0, 0, .null, []), some (0, 1, 0, 0, 0, .int 0, []), some (0, 2, 0, 0, 0, .int 9, []), none, some (3, 1, 0, 0, 0, .null, []), some (20, 3, 2, 9, 1, .null, [(0, 751)]), none, none],
  [some (3, 1, 0, 0, 0, .null, []), some (20, 3, 2, 5, 1, .null, [(0, 749)]), none, none, some (32, 3, 58, 2, 20, .null, [(0, 778)]), none, none, some (31, 3, 0, 1, 0, .null, [(0, 779), (0, 780), (0, 781), (0, 777)]), none, none, some (31, 3, 0, 0, 0, .null, [(0, 782), (0, 783), (0, 784), (0, 777)]), none, none, some (35, 1, 0, 0, 0, .null, [])]]
/-- ColdShod$Country.travel(LColdShod$Idea;LColdShod$Road;)I -/
def zi_24 : List (List (Option zI)) := [[some (3, 1, 1, 0, 0, .null, []), some (3, 1, 2, 0, 0, .null, []), some (32, 3, 40, 2, 12, .null, [(0, 785)]), none, none, some (15, 3, 10, 1, 0, .null, []), none, none, some (0, 1, 0, 0, 0, .int 0, []), some (35, 1, 0, 0, 0, .null, []), some (3, 1, 0, 0, 0, .null, []), some (3, 1, 1, 0, 0, .null, []), some (3, 1, 2, 0, 0, .null, []), some (32, 3, 23, 3, 8, .null, [(0, 786)]), none, none],
  [some (4, 1, 3, 0, 0, .null, []), some (0, 1, 0, 0, 0, .int 1, []), some (4, 2, 4, 0, 0, .null, []), none, some (1, 2, 4, 0, 0, .null, []), none, some (3, 1, 2, 0, 0, .null, []), some (20, 3, 7, 2, 0, .null, [(0, 758)]), none, none, some (16, 3, 89, 4, 0, .null, []), none, none, some (3, 1, 1, 0, 0, .null, []), some (1, 1, 3, 0, 0, .null, []), some (32, 3, 41, 2, 12, .null, [(0, 787)])],
  [none, none, some (3, 1, 1, 0, 0, .null, []), some (32, 3, 38, 1, 12, .null, [(0, 788)]), none, none, some (15, 3, 53, 0, 0, .null, []), none, none, some (1, 2, 4, 0, 0, .null, []), none, some (3, 1, 2, 0, 0, .null, []), some (20, 3, 7, 2, 0, .null, [(0, 758)]), none, none, some (16, 3, 53, 3, 0, .null, [])],
  [none, none, some (1, 2, 4, 0, 0, .null, []), none, some (35, 1, 0, 0, 0, .null, []), some (3, 1, 0, 0, 0, .null, []), some (20, 3, 2, 9, 1, .null, [(0, 751)]), none, none, some (20, 3, 5, 0, 0, .null, [(0, 789)]), none, none, some (15, 3, 83, 0, 0, .null, []), none, none, some (1, 1, 3, 0, 0, .null, [])],
  [some (15, 3, 83, 5, 0, .null, []), none, none, some (1, 2, 4, 0, 0, .null, []), none, some (3, 1, 2, 0, 0, .null, []), some (20, 3, 7, 2, 0, .null, [(0, 758)]), none, none, some (16, 3, 83, 3, 0, .null, []), none, none, some (3, 1, 0, 0, 0, .null, []), some (3, 1, 1, 0, 0, .null, []), some (3, 1, 2, 0, 0, .null, []), some (32, 3, 23, 3, 8, .null, [(0, 786)])],
  [none, none, some (4, 1, 3, 0, 0, .null, []), some (19, 3, 4, 0, 0, .int 1, []), none, none, some (17, 3, 20, 0, 0, .null, []), none, none, some (3, 1, 1, 0, 0, .null, []), some (0, 1, 0, 0, 0, .int 1, []), some (32, 3, 42, 2, 12, .null, [(0, 790)]), none, none, some (3, 1, 2, 0, 0, .null, []), some (20, 3, 7, 2, 0, .null, [(0, 758)])],
  [none, none, some (35, 1, 0, 0, 0, .null, [])]]
/-- ColdShod$Country.letAllAsk()V -/
def zi_25 : List (List (Option zI)) := [[some (3, 1, 0, 0, 0, .null, []), some (20, 3, 2, 4, 1, .null, [(0, 748)]), none, none, some (0, 2, 0, 0, 0, .int (-2), []), none, some (32, 3, 240, 2, 1, .null, [(0, 791)]), none, none, some (0, 1, 0, 0, 0, .int 0, []), some (4, 1, 1, 0, 0, .null, []), some (0, 1, 0, 0, 0, .int 0, []), some (4, 1, 2, 0, 0, .null, []), some (0, 1, 0, 0, 0, .int 0, []), some (4, 1, 3, 0, 0, .null, []), some (1, 1, 3, 0, 0, .null, [])],
  [some (3, 1, 0, 0, 0, .null, []), some (20, 3, 2, 6, 0, .null, [(0, 753)]), none, none, some (16, 3, 91, 3, 0, .null, []), none, none, some (3, 1, 0, 0, 0, .null, []), some (1, 1, 1, 0, 0, .null, []), some (32, 3, 26, 2, 8, .null, [(0, 792)]), none, none, some (4, 2, 4, 0, 0, .null, []), none, some (3, 1, 0, 0, 0, .null, []), some (1, 2, 4, 0, 0, .null, [])],
  [none, some (32, 3, 14, 2, 8, .null, [(0, 759)]), none, none, some (15, 3, 40, 1, 0, .null, []), none, none, some (38, 1, 0, 0, 0, .null, []), some (1, 1, 1, 0, 0, .null, []), some (0, 1, 0, 0, 0, .int 1, []), some (1, 2, 4, 0, 0, .null, []), none, some (7, 1, 0, 6, 0, .null, []), some (7, 1, 0, 4, 0, .null, []), some (4, 1, 1, 0, 0, .null, []), some (3, 1, 0, 0, 0, .null, [])],
  [some (20, 3, 2, 4, 1, .null, [(0, 748)]), none, none, some (1, 2, 4, 0, 0, .null, []), none, some (3, 1, 0, 0, 0, .null, []), some (1, 2, 4, 0, 0, .null, []), none, some (1, 1, 2, 0, 0, .null, []), some (32, 3, 27, 3, 8, .null, [(0, 793)]), none, none, some (25, 1, 0, 0, 0, .null, []), some (3, 1, 0, 0, 0, .null, []), some (20, 3, 2, 4, 1, .null, [(0, 748)]), none],
  [none, some (1, 2, 4, 0, 0, .null, []), none, some (22, 1, 0, 0, 0, .null, []), some (0, 2, 0, 0, 0, .int (-2), []), none, some (16, 3, 85, 0, 0, .null, []), none, none, some (1, 1, 2, 0, 0, .null, []), some (0, 1, 0, 0, 0, .int 1, []), some (3, 1, 0, 0, 0, .null, []), some (20, 3, 2, 4, 1, .null, [(0, 748)]), none, none, some (1, 2, 4, 0, 0, .null, [])],
  [none, some (22, 1, 0, 0, 0, .null, []), some (7, 1, 0, 6, 0, .null, []), some (7, 1, 0, 4, 0, .null, []), some (4, 1, 2, 0, 0, .null, []), some (19, 3, 3, 0, 0, .int 1, []), none, none, some (17, 3, 15, 0, 0, .null, []), none, none, some (38, 1, 0, 0, 0, .null, [])]]
/-- ColdShod$Country.firstOfOthers(I)I -/
def zi_26 : List (List (Option zI)) := [[some (0, 1, 0, 0, 0, .int (-1), []), some (4, 1, 2, 0, 0, .null, []), some (0, 1, 0, 0, 0, .int 0, []), some (4, 1, 3, 0, 0, .null, []), some (1, 1, 3, 0, 0, .null, []), some (3, 1, 0, 0, 0, .null, []), some (20, 3, 2, 6, 0, .null, [(0, 753)]), none, none, some (16, 3, 37, 3, 0, .null, []), none, none, some (1, 1, 1, 0, 0, .null, []), some (1, 1, 3, 0, 0, .null, []), some (7, 1, 0, 7, 0, .null, []), some (0, 1, 0, 0, 0, .int 1, [])],
  [some (7, 1, 0, 3, 0, .null, []), some (15, 3, 31, 1, 0, .null, []), none, none, some (3, 1, 0, 0, 0, .null, []), some (1, 1, 3, 0, 0, .null, []), some (1, 1, 2, 0, 0, .null, []), some (32, 3, 28, 3, 8, .null, [(0, 794)]), none, none, some (15, 3, 31, 0, 0, .null, []), none, none, some (1, 1, 3, 0, 0, .null, []), some (4, 1, 2, 0, 0, .null, []), some (19, 3, 3, 0, 0, .int 1, [])],
  [none, none, some (17, 3, 4, 0, 0, .null, []), none, none, some (1, 1, 2, 0, 0, .null, []), some (35, 1, 0, 0, 0, .null, [])]]
/-- ColdShod$Country.nearestOfOthers(II)I -/
def zi_27 : List (List (Option zI)) := [[some (0, 2, 0, 0, 0, .int (-2), []), none, some (4, 1, 3, 0, 0, .null, []), some (0, 1, 0, 0, 0, .int 0, []), some (4, 2, 4, 0, 0, .null, []), none, some (1, 2, 4, 0, 0, .null, []), none, some (3, 1, 0, 0, 0, .null, []), some (20, 3, 2, 7, 0, .null, [(0, 754)]), none, none, some (16, 3, 44, 3, 0, .null, []), none, none, some (1, 1, 2, 0, 0, .null, [])],
  [some (1, 2, 4, 0, 0, .null, []), none, some (7, 1, 0, 7, 0, .null, []), some (0, 1, 0, 0, 0, .int 1, []), some (7, 1, 0, 3, 0, .null, []), some (15, 3, 38, 1, 0, .null, []), none, none, some (3, 1, 0, 0, 0, .null, []), some (1, 1, 1, 0, 0, .null, []), some (1, 2, 4, 0, 0, .null, []), none, some (1, 1, 3, 0, 0, .null, []), some (32, 3, 29, 4, 8, .null, [(0, 795)]), none, none],
  [some (15, 3, 38, 0, 0, .null, []), none, none, some (1, 2, 4, 0, 0, .null, []), none, some (4, 1, 3, 0, 0, .null, []), some (19, 3, 4, 0, 0, .int 1, []), none, none, some (17, 3, 6, 0, 0, .null, []), none, none, some (1, 1, 3, 0, 0, .null, []), some (35, 1, 0, 0, 0, .null, [])]]
/-- ColdShod$Country.isRatherHead(II)Z -/
def zi_28 : List (List (Option zI)) := [[some (3, 1, 0, 0, 0, .null, []), some (1, 1, 2, 0, 0, .null, []), some (32, 3, 14, 2, 8, .null, [(0, 759)]), none, none, some (15, 3, 10, 1, 0, .null, []), none, none, some (0, 1, 0, 0, 0, .int 1, []), some (35, 1, 0, 0, 1, .null, []), some (3, 1, 0, 0, 0, .null, []), some (20, 3, 2, 1, 1, .null, [(0, 743)]), none, none, some (1, 1, 1, 0, 0, .null, []), some (22, 1, 0, 0, 0, .null, [])],
  [some (3, 1, 0, 0, 0, .null, []), some (20, 3, 2, 1, 1, .null, [(0, 743)]), none, none, some (1, 1, 2, 0, 0, .null, []), some (22, 1, 0, 0, 0, .null, []), some (16, 3, 48, 0, 0, .null, []), none, none, some (3, 1, 0, 0, 0, .null, []), some (20, 3, 2, 1, 1, .null, [(0, 743)]), none, none, some (1, 1, 1, 0, 0, .null, []), some (22, 1, 0, 0, 0, .null, []), some (3, 1, 0, 0, 0, .null, [])],
  [some (20, 3, 2, 1, 1, .null, [(0, 743)]), none, none, some (1, 1, 2, 0, 0, .null, []), some (22, 1, 0, 0, 0, .null, []), some (16, 3, 44, 5, 0, .null, []), none, none, some (0, 1, 0, 0, 0, .int 1, []), some (17, 3, 58, 0, 0, .null, []), none, none, some (0, 1, 0, 0, 0, .int 0, []), some (17, 3, 58, 0, 0, .null, []), none, none],
  [some (1, 1, 1, 0, 0, .null, []), some (1, 1, 2, 0, 0, .null, []), some (16, 3, 57, 3, 0, .null, []), none, none, some (0, 1, 0, 0, 0, .int 1, []), some (17, 3, 58, 0, 0, .null, []), none, none, some (0, 1, 0, 0, 0, .int 0, []), some (35, 1, 0, 0, 1, .null, [])]]
/-- ColdShod$Country.isRatherIdea(III)Z -/
def zi_29 : List (List (Option zI)) := [[some (3, 1, 0, 0, 0, .null, []), some (1, 1, 3, 0, 0, .null, []), some (32, 3, 15, 2, 8, .null, [(0, 760)]), none, none, some (15, 3, 10, 1, 0, .null, []), none, none, some (0, 1, 0, 0, 0, .int 1, []), some (35, 1, 0, 0, 1, .null, []), some (3, 1, 0, 0, 0, .null, []), some (20, 3, 2, 2, 1, .null, [(0, 745)]), none, none, some (1, 1, 2, 0, 0, .null, []), some (24, 1, 0, 0, 0, .null, [])],
  [some (20, 3, 3, 1, 0, .null, [(0, 765)]), none, none, some (3, 1, 0, 0, 0, .null, []), some (20, 3, 2, 0, 1, .null, [(0, 742)]), none, none, some (1, 1, 1, 0, 0, .null, []), some (22, 1, 0, 0, 0, .null, []), some (7, 1, 0, 1, 0, .null, []), some (31, 3, 0, 2, 0, .null, [(0, 774), (0, 775), (0, 776), (0, 777)]), none, none, some (4, 2, 4, 0, 0, .null, []), none, some (3, 1, 0, 0, 0, .null, [])],
  [some (20, 3, 2, 2, 1, .null, [(0, 745)]), none, none, some (1, 1, 3, 0, 0, .null, []), some (24, 1, 0, 0, 0, .null, []), some (20, 3, 3, 1, 0, .null, [(0, 765)]), none, none, some (3, 1, 0, 0, 0, .null, []), some (20, 3, 2, 0, 1, .null, [(0, 742)]), none, none, some (1, 1, 1, 0, 0, .null, []), some (22, 1, 0, 0, 0, .null, []), some (7, 1, 0, 1, 0, .null, []), some (31, 3, 0, 2, 0, .null, [(0, 774), (0, 775), (0, 776), (0, 777)])],
  [none, none, some (4, 2, 5, 0, 0, .null, []), none, some (1, 2, 4, 0, 0, .null, []), none, some (1, 2, 5, 0, 0, .null, []), none, some (16, 3, 72, 0, 0, .null, []), none, none, some (1, 2, 4, 0, 0, .null, []), none, some (1, 2, 5, 0, 0, .null, []), none, some (16, 3, 70, 3, 0, .null, [])],
  [none, none, some (0, 1, 0, 0, 0, .int 1, []), some (17, 3, 71, 0, 0, .null, []), none, none, some (0, 1, 0, 0, 0, .int 0, []), some (35, 1, 0, 0, 1, .null, []), some (3, 1, 0, 0, 0, .null, []), some (20, 3, 2, 2, 1, .null, [(0, 745)]), none, none, some (1, 1, 2, 0, 0, .null, []), some (24, 1, 0, 0, 0, .null, []), some (20, 3, 3, 2, 0, .null, [(0, 766)]), none],
  [none, some (3, 1, 0, 0, 0, .null, []), some (20, 3, 2, 2, 1, .null, [(0, 745)]), none, none, some (1, 1, 3, 0, 0, .null, []), some (24, 1, 0, 0, 0, .null, []), some (20, 3, 3, 2, 0, .null, [(0, 766)]), none, none, some (16, 3, 120, 0, 0, .null, []), none, none, some (3, 1, 0, 0, 0, .null, []), some (20, 3, 2, 2, 1, .null, [(0, 745)]), none],
  [none, some (1, 1, 2, 0, 0, .null, []), some (24, 1, 0, 0, 0, .null, []), some (20, 3, 3, 2, 0, .null, [(0, 766)]), none, none, some (3, 1, 0, 0, 0, .null, []), some (20, 3, 2, 2, 1, .null, [(0, 745)]), none, none, some (1, 1, 3, 0, 0, .null, []), some (24, 1, 0, 0, 0, .null, []), some (20, 3, 3, 2, 0, .null, [(0, 766)]), none, none, some (16, 3, 118, 3, 0, .null, [])],
  [none, none, some (0, 1, 0, 0, 0, .int 1, []), some (17, 3, 119, 0, 0, .null, []), none, none, some (0, 1, 0, 0, 0, .int 0, []), some (35, 1, 0, 0, 1, .null, []), some (1, 1, 2, 0, 0, .null, []), some (1, 1, 3, 0, 0, .null, []), some (16, 3, 129, 3, 0, .null, []), none, none, some (0, 1, 0, 0, 0, .int 1, []), some (17, 3, 130, 0, 0, .null, []), none],
  [none, some (0, 1, 0, 0, 0, .int 0, []), some (35, 1, 0, 0, 1, .null, [])]]
/-- ColdShod$Country.isSettled()Z -/
def zi_30 : List (List (Option zI)) := [[some (3, 1, 0, 0, 0, .null, []), some (20, 3, 2, 4, 1, .null, [(0, 748)]), none, none, some (0, 2, 0, 0, 0, .int (-2), []), none, some (32, 3, 240, 2, 1, .null, [(0, 791)]), none, none, some (0, 1, 0, 0, 0, .int 0, []), some (4, 1, 1, 0, 0, .null, []), some (1, 1, 1, 0, 0, .null, []), some (3, 1, 0, 0, 0, .null, []), some (20, 3, 2, 7, 0, .null, [(0, 754)]), none, none],
  [some (16, 3, 66, 3, 0, .null, []), none, none, some (3, 1, 0, 0, 0, .null, []), some (20, 3, 2, 2, 1, .null, [(0, 745)]), none, none, some (1, 1, 1, 0, 0, .null, []), some (24, 1, 0, 0, 0, .null, []), some (20, 3, 3, 6, 0, .null, [(0, 770)]), none, none, some (4, 1, 2, 0, 0, .null, []), some (3, 1, 0, 0, 0, .null, []), some (1, 1, 2, 0, 0, .null, []), some (32, 3, 14, 2, 8, .null, [(0, 759)])],
  [none, none, some (15, 3, 40, 1, 0, .null, []), none, none, some (17, 3, 60, 0, 0, .null, []), none, none, some (3, 1, 0, 0, 0, .null, []), some (20, 3, 2, 4, 1, .null, [(0, 748)]), none, none, some (1, 1, 2, 0, 0, .null, []), some (22, 1, 0, 0, 0, .null, []), some (0, 2, 0, 0, 0, .int (-2), []), none],
  [some (16, 3, 53, 0, 0, .null, []), none, none, some (0, 1, 0, 0, 0, .int 0, []), some (35, 1, 0, 0, 1, .null, []), some (3, 1, 0, 0, 0, .null, []), some (20, 3, 2, 4, 1, .null, [(0, 748)]), none, none, some (1, 1, 2, 0, 0, .null, []), some (1, 1, 1, 0, 0, .null, []), some (25, 1, 0, 0, 0, .null, []), some (19, 3, 1, 0, 0, .int 1, []), none, none, some (17, 3, 11, 0, 0, .null, [])],
  [none, none, some (0, 1, 0, 0, 0, .int 0, []), some (4, 1, 1, 0, 0, .null, []), some (1, 1, 1, 0, 0, .null, []), some (3, 1, 0, 0, 0, .null, []), some (20, 3, 2, 6, 0, .null, [(0, 753)]), none, none, some (16, 3, 155, 3, 0, .null, []), none, none, some (0, 1, 0, 0, 0, .int 0, []), some (4, 1, 2, 0, 0, .null, []), some (1, 1, 2, 0, 0, .null, []), some (3, 1, 0, 0, 0, .null, [])],
  [some (20, 3, 2, 7, 0, .null, [(0, 754)]), none, none, some (16, 3, 149, 3, 0, .null, []), none, none, some (3, 1, 0, 0, 0, .null, []), some (20, 3, 2, 2, 1, .null, [(0, 745)]), none, none, some (1, 1, 2, 0, 0, .null, []), some (24, 1, 0, 0, 0, .null, []), some (20, 3, 3, 6, 0, .null, [(0, 770)]), none, none, some (1, 1, 1, 0, 0, .null, [])],
  [some (16, 3, 103, 0, 0, .null, []), none, none, some (0, 1, 0, 0, 0, .int 1, []), some (17, 3, 104, 0, 0, .null, []), none, none, some (0, 1, 0, 0, 0, .int 0, []), some (4, 1, 3, 0, 0, .null, []), some (1, 1, 3, 0, 0, .null, []), some (15, 3, 143, 0, 0, .null, []), none, none, some (3, 1, 0, 0, 0, .null, []), some (1, 1, 1, 0, 0, .null, []), some (1, 1, 2, 0, 0, .null, [])],
  [some (3, 1, 0, 0, 0, .null, []), some (20, 3, 2, 4, 1, .null, [(0, 748)]), none, none, some (1, 1, 1, 0, 0, .null, []), some (22, 1, 0, 0, 0, .null, []), some (32, 3, 29, 4, 8, .null, [(0, 795)]), none, none, some (15, 3, 143, 0, 0, .null, []), none, none, some (3, 1, 0, 0, 0, .null, []), some (1, 1, 1, 0, 0, .null, []), some (3, 1, 0, 0, 0, .null, []), some (20, 3, 2, 2, 1, .null, [(0, 745)])],
  [none, none, some (1, 1, 2, 0, 0, .null, []), some (24, 1, 0, 0, 0, .null, []), some (20, 3, 3, 6, 0, .null, [(0, 770)]), none, none, some (32, 3, 28, 3, 8, .null, [(0, 794)]), none, none, some (15, 3, 143, 0, 0, .null, []), none, none, some (0, 1, 0, 0, 0, .int 0, []), some (35, 1, 0, 0, 1, .null, []), some (19, 3, 2, 0, 0, .int 1, [])],
  [none, none, some (17, 3, 78, 0, 0, .null, []), none, none, some (19, 3, 1, 0, 0, .int 1, []), none, none, some (17, 3, 68, 0, 0, .null, []), none, none, some (0, 1, 0, 0, 0, .int 1, []), some (35, 1, 0, 0, 1, .null, [])]]
/-- ColdShod$Country.fewestYokes()I -/
def zi_31 : List (List (Option zI)) := [[some (0, 1, 0, 0, 0, .int 0, []), some (4, 1, 1, 0, 0, .null, []), some (0, 1, 0, 0, 0, .int 0, []), some (4, 1, 2, 0, 0, .null, []), some (1, 1, 2, 0, 0, .null, []), some (3, 1, 0, 0, 0, .null, []), some (20, 3, 2, 7, 0, .null, [(0, 754)]), none, none, some (16, 3, 32, 3, 0, .null, []), none, none, some (1, 1, 1, 0, 0, .null, []), some (0, 1, 0, 0, 0, .int 1, []), some (3, 1, 0, 0, 0, .null, []), some (20, 3, 2, 2, 1, .null, [(0, 745)])],
  [none, none, some (1, 1, 2, 0, 0, .null, []), some (24, 1, 0, 0, 0, .null, []), some (20, 3, 3, 1, 0, .null, [(0, 765)]), none, none, some (7, 1, 0, 6, 0, .null, []), some (7, 1, 0, 4, 0, .null, []), some (4, 1, 1, 0, 0, .null, []), some (19, 3, 2, 0, 0, .int 1, []), none, none, some (17, 3, 4, 0, 0, .null, []), none, none],
  [some (0, 1, 0, 0, 0, .int 0, []), some (4, 1, 2, 0, 0, .null, []), some (0, 1, 0, 0, 0, .int 0, []), some (4, 1, 3, 0, 0, .null, []), some (1, 1, 3, 0, 0, .null, []), some (0, 1, 0, 0, 0, .int 5, []), some (16, 3, 69, 4, 0, .null, []), none, none, some (1, 1, 1, 0, 0, .null, []), some (1, 1, 3, 0, 0, .null, []), some (7, 1, 0, 7, 0, .null, []), some (0, 1, 0, 0, 0, .int 1, []), some (7, 1, 0, 3, 0, .null, []), some (15, 3, 52, 1, 0, .null, []), none],
  [none, some (17, 3, 63, 0, 0, .null, []), none, none, some (19, 3, 2, 0, 0, .int 1, []), none, none, some (1, 1, 1, 0, 0, .null, []), some (0, 1, 0, 0, 0, .int 3, []), some (1, 1, 3, 0, 0, .null, []), some (7, 1, 0, 6, 0, .null, []), some (0, 1, 0, 0, 0, .int (-1), []), some (7, 1, 0, 5, 0, .null, []), some (7, 1, 0, 3, 0, .null, []), some (4, 1, 1, 0, 0, .null, []), some (19, 3, 3, 0, 0, .int 1, [])],
  [none, none, some (17, 3, 36, 0, 0, .null, []), none, none, some (1, 1, 2, 0, 0, .null, []), some (35, 1, 0, 0, 0, .null, [])]]
/-- ColdShod$Country.greatestClash()I -/
def zi_32 : List (List (Option zI)) := [[some (0, 1, 0, 0, 0, .int 0, []), some (4, 1, 1, 0, 0, .null, []), some (0, 1, 0, 0, 0, .int 1, []), some (4, 1, 2, 0, 0, .null, []), some (1, 1, 2, 0, 0, .null, []), some (0, 1, 0, 0, 0, .int 1, []), some (3, 1, 0, 0, 0, .null, []), some (20, 3, 2, 7, 0, .null, [(0, 754)]), none, none, some (7, 1, 0, 6, 0, .null, []), some (16, 3, 41, 3, 0, .null, []), none, none, some (1, 1, 2, 0, 0, .null, []), some (32, 3, 238, 1, 1, .null, [(0, 796)])],
  [none, none, some (1, 1, 1, 0, 0, .null, []), some (32, 3, 238, 1, 1, .null, [(0, 796)]), none, none, some (16, 3, 35, 5, 0, .null, []), none, none, some (3, 1, 0, 0, 0, .null, []), some (1, 1, 2, 0, 0, .null, []), some (32, 3, 33, 2, 8, .null, [(0, 797)]), none, none, some (15, 3, 35, 0, 0, .null, []), none],
  [none, some (1, 1, 2, 0, 0, .null, []), some (4, 1, 1, 0, 0, .null, []), some (19, 3, 2, 0, 0, .int 1, []), none, none, some (17, 3, 4, 0, 0, .null, []), none, none, some (1, 1, 1, 0, 0, .null, []), some (35, 1, 0, 0, 0, .null, [])]]
/-- ColdShod$Country.allClash(I)Z -/
def zi_33 : List (List (Option zI)) := [[some (0, 1, 0, 0, 0, .int 0, []), some (4, 1, 2, 0, 0, .null, []), some (0, 1, 0, 0, 0, .int 0, []), some (4, 1, 3, 0, 0, .null, []), some (1, 1, 3, 0, 0, .null, []), some (3, 1, 0, 0, 0, .null, []), some (20, 3, 2, 7, 0, .null, [(0, 754)]), none, none, some (16, 3, 61, 3, 0, .null, []), none, none, some (1, 1, 1, 0, 0, .null, []), some (1, 1, 3, 0, 0, .null, []), some (7, 1, 0, 7, 0, .null, []), some (0, 1, 0, 0, 0, .int 1, [])],
  [some (7, 1, 0, 3, 0, .null, []), some (15, 3, 23, 1, 0, .null, []), none, none, some (17, 3, 55, 0, 0, .null, []), none, none, some (3, 1, 0, 0, 0, .null, []), some (20, 3, 2, 2, 1, .null, [(0, 745)]), none, none, some (1, 1, 3, 0, 0, .null, []), some (24, 1, 0, 0, 0, .null, []), some (20, 3, 3, 1, 0, .null, [(0, 765)]), none, none],
  [some (4, 2, 4, 0, 0, .null, []), none, some (1, 1, 2, 0, 0, .null, []), some (1, 2, 4, 0, 0, .null, []), none, some (7, 1, 0, 7, 0, .null, []), some (0, 1, 0, 0, 0, .int 1, []), some (7, 1, 0, 3, 0, .null, []), some (15, 3, 45, 0, 0, .null, []), none, none, some (0, 1, 0, 0, 0, .int 0, []), some (35, 1, 0, 0, 1, .null, []), some (1, 1, 2, 0, 0, .null, []), some (0, 2, 0, 0, 0, .int 7, []), none],
  [some (1, 2, 4, 0, 0, .null, []), none, some (7, 1, 0, 6, 0, .null, []), some (0, 1, 0, 0, 0, .int 1, []), some (7, 1, 0, 7, 0, .null, []), some (7, 1, 0, 4, 0, .null, []), some (4, 1, 2, 0, 0, .null, []), some (19, 3, 3, 0, 0, .int 1, []), none, none, some (17, 3, 4, 0, 0, .null, []), none, none, some (0, 1, 0, 0, 0, .int 1, []), some (35, 1, 0, 0, 1, .null, [])]]
/-- ColdShod$Idea.<init>()V -/
def zi_34 : List (List (Option zI)) := [[some (3, 1, 0, 0, 0, .null, []), some (33, 3, 0, 0, 0, .null, [(0, 798)]), none, none, some (3, 1, 0, 0, 0, .null, []), some (0, 1, 0, 0, 0, .int (-1), []), some (21, 3, 3, 6, 0, .null, [(0, 799)]), none, none, some (38, 1, 0, 0, 0, .null, [])]]
/-- ColdShod$Idea.become(LColdShod$Idea;)V -/
def zi_35 : List (List (Option zI)) := [[some (3, 1, 0, 0, 0, .null, []), some (3, 1, 1, 0, 0, .null, []), some (20, 3, 3, 0, 0, .null, [(0, 800)]), none, none, some (21, 3, 3, 0, 0, .null, [(0, 800)]), none, none, some (3, 1, 0, 0, 0, .null, []), some (3, 1, 1, 0, 0, .null, []), some (20, 3, 3, 4, 0, .null, [(0, 801)]), none, none, some (21, 3, 3, 4, 0, .null, [(0, 801)]), none, none],
  [some (3, 1, 0, 0, 0, .null, []), some (3, 1, 1, 0, 0, .null, []), some (32, 3, 36, 2, 12, .null, [(0, 802)]), none, none, some (38, 1, 0, 0, 0, .null, [])]]
/-- ColdShod$Idea.becomeByDeeds(LColdShod$Idea;)V -/
def zi_36 : List (List (Option zI)) := [[some (3, 1, 0, 0, 0, .null, []), some (3, 1, 1, 0, 0, .null, []), some (20, 3, 3, 1, 0, .null, [(0, 803)]), none, none, some (21, 3, 3, 1, 0, .null, [(0, 803)]), none, none, some (3, 1, 0, 0, 0, .null, []), some (3, 1, 1, 0, 0, .null, []), some (20, 3, 3, 2, 0, .null, [(0, 804)]), none, none, some (21, 3, 3, 2, 0, .null, [(0, 804)]), none, none],
  [some (3, 1, 0, 0, 0, .null, []), some (3, 1, 1, 0, 0, .null, []), some (20, 3, 3, 3, 0, .null, [(0, 805)]), none, none, some (21, 3, 3, 3, 0, .null, [(0, 805)]), none, none, some (3, 1, 0, 0, 0, .null, []), some (3, 1, 1, 0, 0, .null, []), some (20, 3, 3, 5, 0, .null, [(0, 806)]), none, none, some (21, 3, 3, 5, 0, .null, [(0, 806)]), none, none],
  [some (3, 1, 0, 0, 0, .null, []), some (3, 1, 1, 0, 0, .null, []), some (20, 3, 3, 6, 0, .null, [(0, 799)]), none, none, some (21, 3, 3, 6, 0, .null, [(0, 799)]), none, none, some (38, 1, 0, 0, 0, .null, [])]]
/-- ColdShod$Idea.grip()I -/
def zi_37 : List (List (Option zI)) := [[some (0, 2, 0, 0, 0, .int 9, []), none, some (3, 1, 0, 0, 0, .null, []), some (20, 3, 3, 2, 0, .null, [(0, 804)]), none, none, some (0, 2, 0, 0, 0, .int 11, []), none, some (8, 1, 0, 0, 0, .null, []), some (7, 1, 0, 1, 0, .null, []), some (35, 1, 0, 0, 0, .null, [])]]
/-- ColdShod$Idea.isLame()Z -/
def zi_38 : List (List (Option zI)) := [[some (3, 1, 0, 0, 0, .null, []), some (20, 3, 3, 2, 0, .null, [(0, 804)]), none, none, some (0, 2, 0, 0, 0, .int 99, []), none, some (16, 3, 13, 2, 0, .null, []), none, none, some (0, 1, 0, 0, 0, .int 1, []), some (17, 3, 14, 0, 0, .null, []), none, none, some (0, 1, 0, 0, 0, .int 0, []), some (35, 1, 0, 0, 1, .null, [])]]
/-- ColdShod$Idea.canClimb(LColdShod$Road;)Z -/
def zi_39 : List (List (Option zI)) := [[some (3, 1, 1, 0, 0, .null, []), some (20, 3, 7, 3, 0, .null, [(0, 807)]), none, none, some (3, 1, 0, 0, 0, .null, []), some (32, 3, 37, 1, 12, .null, [(0, 808)]), none, none, some (16, 3, 15, 4, 0, .null, []), none, none, some (0, 1, 0, 0, 0, .int 1, []), some (17, 3, 16, 0, 0, .null, []), none, none, some (0, 1, 0, 0, 0, .int 0, [])],
  [some (35, 1, 0, 0, 1, .null, [])]]
/-- ColdShod$Idea.setsOutOn(LColdShod$Road;)Z -/
def zi_40 : List (List (Option zI)) := [[some (3, 1, 0, 0, 0, .null, []), some (32, 3, 38, 1, 12, .null, [(0, 809)]), none, none, some (15, 3, 19, 1, 0, .null, []), none, none, some (3, 1, 0, 0, 0, .null, []), some (3, 1, 1, 0, 0, .null, []), some (32, 3, 39, 2, 12, .null, [(0, 810)]), none, none, some (15, 3, 19, 0, 0, .null, []), none, none, some (0, 1, 0, 0, 0, .int 1, [])],
  [some (17, 3, 20, 0, 0, .null, []), none, none, some (0, 1, 0, 0, 0, .int 0, []), some (35, 1, 0, 0, 1, .null, [])]]
/-- ColdShod$Idea.wearBy(I)V -/
def zi_41 : List (List (Option zI)) := [[some (3, 1, 0, 0, 0, .null, []), some (0, 2, 0, 0, 0, .int 99, []), none, some (3, 1, 0, 0, 0, .null, []), some (20, 3, 3, 2, 0, .null, [(0, 804)]), none, none, some (1, 1, 1, 0, 0, .null, []), some (7, 1, 0, 0, 0, .null, []), some (31, 3, 0, 1, 0, .null, [(0, 811), (0, 780), (0, 781), (0, 777)]), none, none, some (21, 3, 3, 2, 0, .null, [(0, 804)]), none, none, some (38, 1, 0, 0, 0, .null, [])]]
/-- ColdShod$Idea.cool(I)V -/
def zi_42 : List (List (Option zI)) := [[some (3, 1, 0, 0, 0, .null, []), some (0, 1, 0, 0, 0, .int 0, []), some (3, 1, 0, 0, 0, .null, []), some (20, 3, 3, 3, 0, .null, [(0, 805)]), none, none, some (1, 1, 1, 0, 0, .null, []), some (7, 1, 0, 1, 0, .null, []), some (31, 3, 0, 0, 0, .null, [(0, 812), (0, 783), (0, 784), (0, 777)]), none, none, some (21, 3, 3, 3, 0, .null, [(0, 805)]), none, none, some (38, 1, 0, 0, 0, .null, [])]]
/-- ColdShod$Idea.strike(I)Z -/
def zi_43 : List (List (Option zI)) := [[some (1, 1, 1, 0, 0, .null, []), some (18, 31, 64, 0, 0, .null, [(0, 32), (1, 37), (2, 48), (3, 59)]), none, none, none, none, none, none, none, none, none, none, none, none, none, none],
  [none, none, none, none, none, none, none, none, none, none, none, none, none, none, none, none],
  [some (3, 1, 0, 0, 0, .null, []), some (32, 3, 44, 1, 12, .null, [(0, 813)]), none, none, some (35, 1, 0, 0, 1, .null, []), some (3, 1, 0, 0, 0, .null, []), some (3, 1, 0, 0, 0, .null, []), some (20, 3, 3, 1, 0, .null, [(0, 803)]), none, none, some (0, 1, 0, 0, 0, .int 1, []), some (7, 1, 0, 0, 0, .null, []), some (32, 3, 45, 2, 12, .null, [(0, 814)]), none, none, some (35, 1, 0, 0, 1, .null, [])],
  [some (3, 1, 0, 0, 0, .null, []), some (3, 1, 0, 0, 0, .null, []), some (20, 3, 3, 1, 0, .null, [(0, 803)]), none, none, some (0, 1, 0, 0, 0, .int 1, []), some (7, 1, 0, 1, 0, .null, []), some (32, 3, 45, 2, 12, .null, [(0, 814)]), none, none, some (35, 1, 0, 0, 1, .null, []), some (3, 1, 0, 0, 0, .null, []), some (32, 3, 46, 1, 12, .null, [(0, 815)]), none, none, some (35, 1, 0, 0, 1, .null, [])],
  [some (0, 1, 0, 0, 0, .int 0, []), some (35, 1, 0, 0, 1, .null, [])]]
/-- ColdShod$Idea.heatUp()Z -/
def zi_44 : List (List (Option zI)) := [[some (3, 1, 0, 0, 0, .null, []), some (20, 3, 3, 4, 0, .null, [(0, 801)]), none, none, some (0, 1, 0, 0, 0, .int 1, []), some (16, 3, 20, 1, 0, .null, []), none, none, some (3, 1, 0, 0, 0, .null, []), some (20, 3, 3, 5, 0, .null, [(0, 806)]), none, none, some (0, 1, 0, 0, 0, .int 1, []), some (16, 3, 20, 2, 0, .null, []), none, none],
  [some (0, 1, 0, 0, 0, .int 1, []), some (17, 3, 21, 0, 0, .null, []), none, none, some (0, 1, 0, 0, 0, .int 0, []), some (4, 1, 1, 0, 0, .null, []), some (1, 1, 1, 0, 0, .null, []), some (15, 3, 44, 1, 0, .null, []), none, none, some (3, 1, 0, 0, 0, .null, []), some (20, 3, 3, 3, 0, .null, [(0, 805)]), none, none, some (0, 2, 0, 0, 0, .int 9, []), none],
  [some (16, 3, 46, 1, 0, .null, []), none, none, some (3, 1, 0, 0, 0, .null, []), some (20, 3, 3, 5, 0, .null, [(0, 806)]), none, none, some (0, 2, 0, 0, 0, .int 9, []), none, some (16, 3, 46, 1, 0, .null, []), none, none, some (0, 1, 0, 0, 0, .int 0, []), some (35, 1, 0, 0, 1, .null, []), some (3, 1, 0, 0, 0, .null, []), some (0, 2, 0, 0, 0, .int 9, [])],
  [none, some (3, 1, 0, 0, 0, .null, []), some (20, 3, 3, 3, 0, .null, [(0, 805)]), none, none, some (0, 1, 0, 0, 0, .int 3, []), some (7, 1, 0, 0, 0, .null, []), some (31, 3, 0, 1, 0, .null, [(0, 811), (0, 780), (0, 781), (0, 777)]), none, none, some (21, 3, 3, 3, 0, .null, [(0, 805)]), none, none, some (3, 1, 0, 0, 0, .null, []), some (0, 2, 0, 0, 0, .int 9, []), none],
  [some (3, 1, 0, 0, 0, .null, []), some (20, 3, 3, 5, 0, .null, [(0, 806)]), none, none, some (0, 1, 0, 0, 0, .int 1, []), some (7, 1, 0, 0, 0, .null, []), some (31, 3, 0, 1, 0, .null, [(0, 811), (0, 780), (0, 781), (0, 777)]), none, none, some (21, 3, 3, 5, 0, .null, [(0, 806)]), none, none, some (0, 1, 0, 0, 0, .int 1, []), some (35, 1, 0, 0, 1, .null, [])]]
/-- ColdShod$Idea.drawTo(I)Z -/
def zi_45 : List (List (Option zI)) := [[some (3, 1, 0, 0, 0, .null, []), some (20, 3, 3, 3, 0, .null, [(0, 805)]), none, none, some (0, 1, 0, 0, 0, .int 2, []), some (16, 3, 17, 2, 0, .null, []), none, none, some (1, 1, 1, 0, 0, .null, []), some (15, 3, 17, 2, 0, .null, []), none, none, some (1, 1, 1, 0, 0, .null, []), some (0, 1, 0, 0, 0, .int 5, []), some (16, 3, 19, 5, 0, .null, []), none],
  [none, some (0, 1, 0, 0, 0, .int 0, []), some (35, 1, 0, 0, 1, .null, []), some (3, 1, 0, 0, 0, .null, []), some (1, 1, 1, 0, 0, .null, []), some (21, 3, 3, 1, 0, .null, [(0, 803)]), none, none, some (3, 1, 0, 0, 0, .null, []), some (0, 1, 0, 0, 0, .int 2, []), some (32, 3, 42, 2, 12, .null, [(0, 816)]), none, none, some (0, 1, 0, 0, 0, .int 1, []), some (35, 1, 0, 0, 1, .null, [])]]
/-- ColdShod$Idea.nail()Z -/
def zi_46 : List (List (Option zI)) := [[some (3, 1, 0, 0, 0, .null, []), some (20, 3, 3, 3, 0, .null, [(0, 805)]), none, none, some (0, 1, 0, 0, 0, .int 1, []), some (16, 3, 10, 3, 0, .null, []), none, none, some (0, 1, 0, 0, 0, .int 0, []), some (35, 1, 0, 0, 1, .null, []), some (3, 1, 0, 0, 0, .null, []), some (0, 1, 0, 0, 0, .int 0, []), some (3, 1, 0, 0, 0, .null, []), some (20, 3, 3, 2, 0, .null, [(0, 804)]), none, none],
  [some (0, 2, 0, 0, 0, .int 10, []), none, some (7, 1, 0, 1, 0, .null, []), some (31, 3, 0, 0, 0, .null, [(0, 812), (0, 783), (0, 784), (0, 777)]), none, none, some (21, 3, 3, 2, 0, .null, [(0, 804)]), none, none, some (3, 1, 0, 0, 0, .null, []), some (0, 1, 0, 0, 0, .int 1, []), some (32, 3, 42, 2, 12, .null, [(0, 816)]), none, none, some (0, 1, 0, 0, 0, .int 1, []), some (35, 1, 0, 0, 1, .null, [])]]
/-- ColdShod$Journey.<init>()V -/
def zi_47 : List (List (Option zI)) := [[some (3, 1, 0, 0, 0, .null, []), some (33, 3, 0, 0, 0, .null, [(0, 817)]), none, none, some (3, 1, 0, 0, 0, .null, []), some (0, 2, 0, 0, 0, .int 20, []), none, some (30, 2, 0, 0, 0, .null, [(0, 704)]), none, some (21, 3, 4, 0, 1, .null, [(0, 818)]), none, none, some (38, 1, 0, 0, 0, .null, [])]]
/-- ColdShod$Journey.read(LColdShod$Shelf;I)V -/
def zi_48 : List (List (Option zI)) := [[some (3, 1, 0, 0, 0, .null, []), some (0, 1, 0, 0, 0, .int 0, []), some (21, 3, 4, 1, 0, .null, [(0, 819)]), none, none, some (0, 1, 0, 0, 0, .int 0, []), some (4, 1, 3, 0, 0, .null, []), some (1, 1, 3, 0, 0, .null, []), some (3, 1, 0, 0, 0, .null, []), some (20, 3, 4, 0, 1, .null, [(0, 818)]), none, none, some (28, 1, 0, 0, 0, .null, []), some (16, 3, 70, 3, 0, .null, []), none, none],
  [some (1, 1, 3, 0, 0, .null, []), some (3, 1, 1, 0, 0, .null, []), some (20, 3, 8, 3, 0, .null, [(0, 820)]), none, none, some (16, 3, 70, 3, 0, .null, []), none, none, some (3, 1, 1, 0, 0, .null, []), some (20, 3, 8, 4, 1, .null, [(0, 821)]), none, none, some (1, 1, 3, 0, 0, .null, []), some (23, 1, 0, 0, 0, .null, []), some (5, 2, 4, 0, 0, .null, []), none],
  [some (2, 2, 4, 0, 0, .null, []), none, some (0, 1, 0, 0, 0, .long 0, []), some (14, 1, 0, 0, 0, .null, []), some (15, 3, 47, 2, 0, .null, []), none, none, some (2, 2, 4, 0, 0, .null, []), none, some (1, 1, 2, 0, 0, .null, []), some (10, 1, 0, 0, 0, .null, []), some (14, 1, 0, 0, 0, .null, []), some (15, 3, 48, 2, 0, .null, []), none, none, some (38, 1, 0, 0, 0, .null, [])],
  [some (3, 1, 0, 0, 0, .null, []), some (20, 3, 4, 0, 1, .null, [(0, 818)]), none, none, some (1, 1, 3, 0, 0, .null, []), some (2, 2, 4, 0, 0, .null, []), none, some (11, 1, 0, 0, 0, .null, []), some (25, 1, 0, 0, 0, .null, []), some (3, 1, 0, 0, 0, .null, []), some (1, 1, 3, 0, 0, .null, []), some (0, 1, 0, 0, 0, .int 1, []), some (7, 1, 0, 0, 0, .null, []), some (21, 3, 4, 1, 0, .null, [(0, 819)]), none, none],
  [some (19, 3, 3, 0, 0, .int 1, []), none, none, some (17, 3, 7, 0, 0, .null, []), none, none, some (38, 1, 0, 0, 0, .null, [])]]
/-- ColdShod$Journey.allGone(LColdShod$Idea;LColdShod$Country;)Z -/
def zi_49 : List (List (Option zI)) := [[some (3, 1, 0, 0, 0, .null, []), some (0, 1, 0, 0, 0, .int 0, []), some (21, 3, 4, 2, 0, .null, [(0, 822)]), none, none, some (3, 1, 0, 0, 0, .null, []), some (0, 1, 0, 0, 0, .int 0, []), some (21, 3, 4, 3, 0, .null, [(0, 823)]), none, none, some (0, 1, 0, 0, 0, .int 0, []), some (4, 1, 3, 0, 0, .null, []), some (1, 1, 3, 0, 0, .null, []), some (3, 1, 0, 0, 0, .null, []), some (20, 3, 4, 1, 0, .null, [(0, 819)]), none],
  [none, some (16, 3, 38, 3, 0, .null, []), none, none, some (3, 1, 0, 0, 0, .null, []), some (1, 1, 3, 0, 0, .null, []), some (3, 1, 1, 0, 0, .null, []), some (3, 1, 2, 0, 0, .null, []), some (32, 3, 50, 4, 16, .null, [(0, 824)]), none, none, some (15, 3, 32, 1, 0, .null, []), none, none, some (0, 1, 0, 0, 0, .int 0, []), some (35, 1, 0, 0, 1, .null, [])],
  [some (19, 3, 3, 0, 0, .int 1, []), none, none, some (17, 3, 12, 0, 0, .null, []), none, none, some (0, 1, 0, 0, 0, .int 1, []), some (35, 1, 0, 0, 1, .null, [])]]
/-- ColdShod$Journey.goesStage(ILColdShod$Idea;LColdShod$Country;)Z -/
def zi_50 : List (List (Option zI)) := [[some (3, 1, 3, 0, 0, .null, []), some (20, 3, 2, 3, 1, .null, [(0, 825)]), none, none, some (3, 1, 0, 0, 0, .null, []), some (20, 3, 4, 0, 1, .null, [(0, 818)]), none, none, some (1, 1, 1, 0, 0, .null, []), some (22, 1, 0, 0, 0, .null, []), some (24, 1, 0, 0, 0, .null, []), some (6, 2, 4, 0, 0, .null, []), none, some (3, 1, 3, 0, 0, .null, []), some (3, 1, 2, 0, 0, .null, []), some (3, 2, 4, 0, 0, .null, [])],
  [none, some (32, 3, 24, 3, 8, .null, [(0, 826)]), none, none, some (4, 2, 5, 0, 0, .null, []), none, some (3, 1, 0, 0, 0, .null, []), some (39, 1, 0, 0, 0, .null, []), some (20, 3, 4, 2, 0, .null, [(0, 822)]), none, none, some (1, 2, 5, 0, 0, .null, []), none, some (7, 1, 0, 0, 0, .null, []), some (21, 3, 4, 2, 0, .null, [(0, 822)]), none],
  [none, some (1, 2, 5, 0, 0, .null, []), none, some (3, 2, 4, 0, 0, .null, []), none, some (20, 3, 7, 2, 0, .null, [(0, 827)]), none, none, some (16, 3, 45, 3, 0, .null, []), none, none, some (0, 1, 0, 0, 0, .int 0, []), some (35, 1, 0, 0, 1, .null, []), some (3, 1, 0, 0, 0, .null, []), some (39, 1, 0, 0, 0, .null, []), some (20, 3, 4, 3, 0, .null, [(0, 823)])],
  [none, none, some (0, 1, 0, 0, 0, .int 1, []), some (7, 1, 0, 0, 0, .null, []), some (21, 3, 4, 3, 0, .null, [(0, 823)]), none, none, some (0, 1, 0, 0, 0, .int 1, []), some (35, 1, 0, 0, 1, .null, [])]]
/-- ColdShod$Journey.firstWrong(LColdShod$Idea;LColdShod$Shelf;LColdShod$Country;)I -/
def zi_51 : List (List (Option zI)) := [[some (0, 1, 0, 0, 0, .int 0, []), some (4, 2, 4, 0, 0, .null, []), none, some (1, 2, 4, 0, 0, .null, []), none, some (3, 1, 2, 0, 0, .null, []), some (20, 3, 8, 3, 0, .null, [(0, 820)]), none, none, some (16, 3, 76, 3, 0, .null, []), none, none, some (1, 2, 4, 0, 0, .null, []), none, some (15, 3, 39, 0, 0, .null, []), none],
  [none, some (1, 2, 4, 0, 0, .null, []), none, some (3, 1, 0, 0, 0, .null, []), some (20, 3, 4, 1, 0, .null, [(0, 819)]), none, none, some (16, 3, 43, 4, 0, .null, []), none, none, some (3, 1, 0, 0, 0, .null, []), some (1, 2, 4, 0, 0, .null, []), none, some (0, 1, 0, 0, 0, .int 1, []), some (7, 1, 0, 1, 0, .null, []), some (3, 1, 1, 0, 0, .null, [])],
  [some (3, 1, 3, 0, 0, .null, []), some (32, 3, 50, 4, 16, .null, [(0, 824)]), none, none, some (15, 3, 43, 0, 0, .null, []), none, none, some (0, 1, 0, 0, 0, .int 1, []), some (17, 3, 44, 0, 0, .null, []), none, none, some (0, 1, 0, 0, 0, .int 0, []), some (4, 2, 5, 0, 0, .null, []), none, some (1, 2, 5, 0, 0, .null, []), none],
  [some (15, 3, 67, 0, 0, .null, []), none, none, some (3, 1, 2, 0, 0, .null, []), some (20, 3, 8, 4, 1, .null, [(0, 821)]), none, none, some (1, 2, 4, 0, 0, .null, []), none, some (23, 1, 0, 0, 0, .null, []), some (3, 1, 1, 0, 0, .null, []), some (20, 3, 3, 2, 0, .null, [(0, 828)]), none, none, some (10, 1, 0, 0, 0, .null, []), some (14, 1, 0, 0, 0, .null, [])],
  [some (15, 3, 70, 0, 0, .null, []), none, none, some (1, 2, 4, 0, 0, .null, []), none, some (35, 1, 0, 0, 0, .null, []), some (19, 3, 4, 0, 0, .int 1, []), none, none, some (17, 3, 3, 0, 0, .null, []), none, none, some (0, 2, 0, 0, 0, .int (-2), []), none, some (35, 1, 0, 0, 0, .null, [])]]
/-- ColdShod$LawCode.<init>()V -/
def zi_52 : List (List (Option zI)) := [[some (3, 1, 0, 0, 0, .null, []), some (33, 3, 0, 0, 0, .null, [(0, 829)]), none, none, some (3, 1, 0, 0, 0, .null, []), some (0, 3, 0, 0, 0, .int 242, []), none, none, some (30, 2, 0, 0, 0, .null, [(0, 704)]), none, some (21, 3, 5, 1, 1, .null, [(0, 830)]), none, none, some (3, 1, 0, 0, 0, .null, []), some (0, 2, 0, 0, 0, .int 64, []), none],
  [some (30, 2, 0, 0, 0, .null, [(0, 704)]), none, some (21, 3, 5, 3, 1, .null, [(0, 831)]), none, none, some (38, 1, 0, 0, 0, .null, [])]]
/-- ColdShod$LawCode.clear()V -/
def zi_53 : List (List (Option zI)) := [[some (3, 1, 0, 0, 0, .null, []), some (0, 1, 0, 0, 0, .int 0, []), some (21, 3, 5, 2, 0, .null, [(0, 832)]), none, none, some (3, 1, 0, 0, 0, .null, []), some (0, 1, 0, 0, 0, .int 0, []), some (21, 3, 5, 0, 2, .null, [(0, 833)]), none, none, some (38, 1, 0, 0, 0, .null, [])]]
/-- ColdShod$LawCode.add(I)V -/
def zi_54 : List (List (Option zI)) := [[some (3, 1, 0, 0, 0, .null, []), some (20, 3, 5, 2, 0, .null, [(0, 832)]), none, none, some (0, 3, 0, 0, 0, .int 242, []), none, none, some (16, 3, 11, 2, 0, .null, []), none, none, some (38, 1, 0, 0, 0, .null, []), some (3, 1, 0, 0, 0, .null, []), some (20, 3, 5, 1, 1, .null, [(0, 830)]), none, none, some (3, 1, 0, 0, 0, .null, [])],
  [some (20, 3, 5, 2, 0, .null, [(0, 832)]), none, none, some (1, 1, 1, 0, 0, .null, []), some (25, 1, 0, 0, 0, .null, []), some (3, 1, 0, 0, 0, .null, []), some (39, 1, 0, 0, 0, .null, []), some (20, 3, 5, 2, 0, .null, [(0, 832)]), none, none, some (0, 1, 0, 0, 0, .int 1, []), some (7, 1, 0, 0, 0, .null, []), some (21, 3, 5, 2, 0, .null, [(0, 832)]), none, none, some (38, 1, 0, 0, 0, .null, [])]]
/-- ColdShod$LawCode.addName(I)V -/
def zi_55 : List (List (Option zI)) := [[some (3, 1, 0, 0, 0, .null, []), some (0, 2, 0, 0, 0, .int 109, []), none, some (32, 3, 54, 2, 20, .null, [(0, 834)]), none, none, some (3, 1, 0, 0, 0, .null, []), some (1, 1, 1, 0, 0, .null, []), some (32, 3, 54, 2, 20, .null, [(0, 834)]), none, none, some (1, 1, 1, 0, 0, .null, []), some (0, 1, 0, 0, 0, .int 1, []), some (16, 3, 21, 1, 0, .null, []), none, none],
  [some (3, 1, 0, 0, 0, .null, []), some (0, 1, 0, 0, 0, .int 1, []), some (21, 3, 5, 0, 2, .null, [(0, 833)]), none, none, some (38, 1, 0, 0, 0, .null, [])]]
/-- ColdShod$LawCode.addSkip()I -/
def zi_56 : List (List (Option zI)) := [[some (3, 1, 0, 0, 0, .null, []), some (0, 2, 0, 0, 0, .int 63, []), none, some (32, 3, 54, 2, 20, .null, [(0, 834)]), none, none, some (3, 1, 0, 0, 0, .null, []), some (0, 1, 0, 0, 0, .int 0, []), some (32, 3, 54, 2, 20, .null, [(0, 834)]), none, none, some (3, 1, 0, 0, 0, .null, []), some (20, 3, 5, 2, 0, .null, [(0, 832)]), none, none, some (0, 1, 0, 0, 0, .int 1, [])],
  [some (7, 1, 0, 1, 0, .null, []), some (35, 1, 0, 0, 0, .null, [])]]
/-- ColdShod$LawCode.endSkip(I)V -/
def zi_57 : List (List (Option zI)) := [[some (1, 1, 1, 0, 0, .null, []), some (15, 3, 21, 2, 0, .null, []), none, none, some (1, 1, 1, 0, 0, .null, []), some (0, 3, 0, 0, 0, .int 242, []), none, none, some (16, 3, 21, 3, 0, .null, []), none, none, some (3, 1, 0, 0, 0, .null, []), some (20, 3, 5, 1, 1, .null, [(0, 830)]), none, none, some (1, 1, 1, 0, 0, .null, [])],
  [some (3, 1, 0, 0, 0, .null, []), some (20, 3, 5, 2, 0, .null, [(0, 832)]), none, none, some (25, 1, 0, 0, 0, .null, []), some (38, 1, 0, 0, 0, .null, [])]]
/-- ColdShod$LawCode.worth([I)I -/
def zi_58 : List (List (Option zI)) := [[some (3, 1, 0, 0, 0, .null, []), some (20, 3, 5, 2, 0, .null, [(0, 832)]), none, none, some (15, 3, 25, 1, 0, .null, []), none, none, some (0, 1, 0, 0, 0, .int 1, []), some (3, 1, 1, 0, 0, .null, []), some (0, 1, 0, 0, 0, .int 5, []), some (22, 1, 0, 0, 0, .null, []), some (7, 1, 0, 0, 0, .null, []), some (3, 1, 1, 0, 0, .null, []), some (0, 1, 0, 0, 0, .int 3, []), some (22, 1, 0, 0, 0, .null, []), some (0, 1, 0, 0, 0, .int 3, [])],
  [some (8, 1, 0, 0, 0, .null, []), some (7, 1, 0, 0, 0, .null, []), some (3, 1, 1, 0, 0, .null, []), some (0, 1, 0, 0, 0, .int 0, []), some (22, 1, 0, 0, 0, .null, []), some (0, 1, 0, 0, 0, .int 2, []), some (8, 1, 0, 0, 0, .null, []), some (7, 1, 0, 1, 0, .null, []), some (35, 1, 0, 0, 0, .null, []), some (0, 1, 0, 0, 0, .int 0, []), some (4, 1, 2, 0, 0, .null, []), some (0, 1, 0, 0, 0, .int 0, []), some (4, 1, 3, 0, 0, .null, []), some (0, 1, 0, 0, 0, .int 0, []), some (4, 2, 4, 0, 0, .null, []), none],
  [some (1, 2, 4, 0, 0, .null, []), none, some (0, 3, 0, 0, 0, .int 242, []), none, none, some (16, 3, 313, 3, 0, .null, []), none, none, some (1, 1, 3, 0, 0, .null, []), some (3, 1, 0, 0, 0, .null, []), some (20, 3, 5, 2, 0, .null, [(0, 832)]), none, none, some (16, 3, 313, 3, 0, .null, []), none, none],
  [some (3, 1, 0, 0, 0, .null, []), some (20, 3, 5, 1, 1, .null, [(0, 830)]), none, none, some (1, 1, 3, 0, 0, .null, []), some (22, 1, 0, 0, 0, .null, []), some (4, 2, 5, 0, 0, .null, []), none, some (1, 1, 3, 0, 0, .null, []), some (0, 1, 0, 0, 0, .int 1, []), some (7, 1, 0, 0, 0, .null, []), some (3, 1, 0, 0, 0, .null, []), some (20, 3, 5, 2, 0, .null, [(0, 832)]), none, none, some (16, 3, 77, 3, 0, .null, [])],
  [none, none, some (3, 1, 0, 0, 0, .null, []), some (20, 3, 5, 1, 1, .null, [(0, 830)]), none, none, some (1, 1, 3, 0, 0, .null, []), some (0, 1, 0, 0, 0, .int 1, []), some (7, 1, 0, 0, 0, .null, []), some (22, 1, 0, 0, 0, .null, []), some (17, 3, 78, 0, 0, .null, []), none, none, some (0, 1, 0, 0, 0, .int 0, []), some (4, 2, 6, 0, 0, .null, []), none],
  [some (19, 3, 3, 0, 0, .int 1, []), none, none, some (1, 2, 5, 0, 0, .null, []), none, some (0, 2, 0, 0, 0, .int 48, []), none, some (16, 3, 97, 0, 0, .null, []), none, none, some (1, 2, 5, 0, 0, .null, []), none, some (0, 2, 0, 0, 0, .int 109, []), none, some (16, 3, 151, 1, 0, .null, []), none],
  [none, some (1, 1, 2, 0, 0, .null, []), some (0, 2, 0, 0, 0, .int 64, []), none, some (16, 3, 118, 3, 0, .null, []), none, none, some (1, 2, 5, 0, 0, .null, []), none, some (0, 2, 0, 0, 0, .int 109, []), none, some (16, 3, 120, 1, 0, .null, []), none, none, some (1, 2, 6, 0, 0, .null, []), none],
  [some (32, 3, 59, 1, 21, .null, [(0, 835)]), none, none, some (15, 3, 120, 1, 0, .null, []), none, none, some (0, 1, 0, 0, 0, .int 0, []), some (35, 1, 0, 0, 0, .null, []), some (3, 1, 0, 0, 0, .null, []), some (20, 3, 5, 3, 1, .null, [(0, 831)]), none, none, some (1, 1, 2, 0, 0, .null, []), some (1, 2, 5, 0, 0, .null, []), none, some (0, 2, 0, 0, 0, .int 48, [])],
  [none, some (16, 3, 137, 1, 0, .null, []), none, none, some (1, 2, 6, 0, 0, .null, []), none, some (17, 3, 141, 0, 0, .null, []), none, none, some (3, 1, 1, 0, 0, .null, []), some (1, 2, 6, 0, 0, .null, []), none, some (22, 1, 0, 0, 0, .null, []), some (25, 1, 0, 0, 0, .null, []), some (19, 3, 2, 0, 0, .int 1, []), none],
  [none, some (19, 3, 3, 0, 0, .int 1, []), none, none, some (17, 3, 307, 0, 0, .null, []), none, none, some (1, 1, 2, 0, 0, .null, []), some (0, 1, 0, 0, 0, .int 1, []), some (16, 3, 158, 3, 0, .null, []), none, none, some (0, 1, 0, 0, 0, .int 0, []), some (35, 1, 0, 0, 0, .null, []), some (3, 1, 0, 0, 0, .null, []), some (20, 3, 5, 3, 1, .null, [(0, 831)])],
  [none, none, some (1, 1, 2, 0, 0, .null, []), some (0, 1, 0, 0, 0, .int 1, []), some (7, 1, 0, 1, 0, .null, []), some (22, 1, 0, 0, 0, .null, []), some (4, 2, 7, 0, 0, .null, []), none, some (1, 2, 5, 0, 0, .null, []), none, some (18, 42, 274, 0, 1, .null, [(33, 212), (59, 271), (63, 247), (126, 233)]), none, none, none, none, none],
  [none, none, none, none, none, none, none, none, none, none, none, none, none, none, none, none],
  [none, none, none, none, none, none, none, none, none, none, none, none, none, none, none, none],
  [none, none, none, none, some (3, 1, 0, 0, 0, .null, []), some (20, 3, 5, 3, 1, .null, [(0, 831)]), none, none, some (1, 1, 2, 0, 0, .null, []), some (0, 1, 0, 0, 0, .int 1, []), some (7, 1, 0, 1, 0, .null, []), some (1, 2, 7, 0, 0, .null, []), none, some (15, 3, 228, 1, 0, .null, []), none, none],
  [some (0, 1, 0, 0, 0, .int 1, []), some (17, 3, 229, 0, 0, .null, []), none, none, some (0, 1, 0, 0, 0, .int 0, []), some (25, 1, 0, 0, 0, .null, []), some (17, 3, 307, 0, 0, .null, []), none, none, some (3, 1, 0, 0, 0, .null, []), some (20, 3, 5, 3, 1, .null, [(0, 831)]), none, none, some (1, 1, 2, 0, 0, .null, []), some (0, 1, 0, 0, 0, .int 1, []), some (7, 1, 0, 1, 0, .null, [])],
  [some (1, 2, 7, 0, 0, .null, []), none, some (9, 1, 0, 0, 0, .null, []), some (25, 1, 0, 0, 0, .null, []), some (17, 3, 307, 0, 0, .null, []), none, none, some (19, 3, 2, 0, 0, .int (-1), []), none, none, some (1, 2, 7, 0, 0, .null, []), none, some (15, 3, 264, 1, 0, .null, []), none, none, some (1, 1, 3, 0, 0, .null, [])],
  [some (1, 2, 6, 0, 0, .null, []), none, some (31, 3, 0, 0, 0, .null, [(0, 836), (0, 783), (0, 784), (0, 777)]), none, none, some (17, 3, 267, 0, 0, .null, []), none, none, some (1, 1, 3, 0, 0, .null, []), some (0, 1, 0, 0, 0, .int 1, []), some (7, 1, 0, 0, 0, .null, []), some (4, 1, 3, 0, 0, .null, []), some (17, 3, 307, 0, 0, .null, []), none, none, some (1, 2, 7, 0, 0, .null, [])],
  [none, some (35, 1, 0, 0, 0, .null, []), some (1, 1, 2, 0, 0, .null, []), some (0, 1, 0, 0, 0, .int 2, []), some (16, 3, 281, 3, 0, .null, []), none, none, some (0, 1, 0, 0, 0, .int 0, []), some (35, 1, 0, 0, 0, .null, []), some (19, 3, 2, 0, 0, .int (-1), []), none, none, some (3, 1, 0, 0, 0, .null, []), some (20, 3, 5, 3, 1, .null, [(0, 831)]), none, none],
  [some (1, 1, 2, 0, 0, .null, []), some (0, 1, 0, 0, 0, .int 1, []), some (7, 1, 0, 1, 0, .null, []), some (3, 1, 0, 0, 0, .null, []), some (20, 3, 5, 3, 1, .null, [(0, 831)]), none, none, some (1, 1, 2, 0, 0, .null, []), some (0, 1, 0, 0, 0, .int 1, []), some (7, 1, 0, 1, 0, .null, []), some (22, 1, 0, 0, 0, .null, []), some (1, 2, 5, 0, 0, .null, []), none, some (1, 2, 7, 0, 0, .null, []), none, some (32, 3, 60, 3, 21, .null, [(0, 837)])],
  [none, none, some (25, 1, 0, 0, 0, .null, []), some (19, 3, 4, 0, 0, .int 1, []), none, none, some (17, 3, 32, 0, 0, .null, []), none, none, some (0, 1, 0, 0, 0, .int 0, []), some (35, 1, 0, 0, 0, .null, [])]]
/-- ColdShod$LawCode.isName(I)Z -/
def zi_59 : List (List (Option zI)) := [[some (1, 1, 0, 0, 0, .null, []), some (15, 3, 14, 2, 0, .null, []), none, none, some (1, 1, 0, 0, 0, .null, []), some (0, 2, 0, 0, 0, .int 6, []), none, some (16, 3, 14, 3, 0, .null, []), none, none, some (0, 1, 0, 0, 0, .int 1, []), some (17, 3, 15, 0, 0, .null, []), none, none, some (0, 1, 0, 0, 0, .int 0, []), some (35, 1, 0, 0, 1, .null, [])]]
/-- ColdShod$LawCode.joined(III)I -/
def zi_60 : List (List (Option zI)) := [[some (1, 1, 1, 0, 0, .null, []), some (18, 91, 189, 0, 1, .null, [(37, 177), (38, 106), (42, 161), (43, 153), (45, 157), (47, 165), (60, 120), (61, 131), (62, 142), (124, 92)]), none, none, none, none, none, none, none, none, none, none, none, none, none, none],
  [none, none, none, none, none, none, none, none, none, none, none, none, none, none, none, none],
  [none, none, none, none, none, none, none, none, none, none, none, none, none, none, none, none],
  [none, none, none, none, none, none, none, none, none, none, none, none, none, none, none, none],
  [none, none, none, none, none, none, none, none, none, none, none, none, none, none, none, none],
  [none, none, none, none, none, none, none, none, none, none, none, none, some (1, 1, 0, 0, 0, .null, []), some (15, 3, 100, 1, 0, .null, []), none, none],
  [some (1, 1, 2, 0, 0, .null, []), some (15, 3, 104, 0, 0, .null, []), none, none, some (0, 1, 0, 0, 0, .int 1, []), some (17, 3, 105, 0, 0, .null, []), none, none, some (0, 1, 0, 0, 0, .int 0, []), some (35, 1, 0, 0, 0, .null, []), some (1, 1, 0, 0, 0, .null, []), some (15, 3, 118, 0, 0, .null, []), none, none, some (1, 1, 2, 0, 0, .null, []), some (15, 3, 118, 0, 0, .null, [])],
  [none, none, some (0, 1, 0, 0, 0, .int 1, []), some (17, 3, 119, 0, 0, .null, []), none, none, some (0, 1, 0, 0, 0, .int 0, []), some (35, 1, 0, 0, 0, .null, []), some (1, 1, 0, 0, 0, .null, []), some (1, 1, 2, 0, 0, .null, []), some (16, 3, 129, 3, 0, .null, []), none, none, some (0, 1, 0, 0, 0, .int 1, []), some (17, 3, 130, 0, 0, .null, []), none],
  [none, some (0, 1, 0, 0, 0, .int 0, []), some (35, 1, 0, 0, 0, .null, []), some (1, 1, 0, 0, 0, .null, []), some (1, 1, 2, 0, 0, .null, []), some (16, 3, 140, 1, 0, .null, []), none, none, some (0, 1, 0, 0, 0, .int 1, []), some (17, 3, 141, 0, 0, .null, []), none, none, some (0, 1, 0, 0, 0, .int 0, []), some (35, 1, 0, 0, 0, .null, []), some (1, 1, 0, 0, 0, .null, []), some (1, 1, 2, 0, 0, .null, [])],
  [some (16, 3, 151, 5, 0, .null, []), none, none, some (0, 1, 0, 0, 0, .int 1, []), some (17, 3, 152, 0, 0, .null, []), none, none, some (0, 1, 0, 0, 0, .int 0, []), some (35, 1, 0, 0, 0, .null, []), some (1, 1, 0, 0, 0, .null, []), some (1, 1, 2, 0, 0, .null, []), some (7, 1, 0, 0, 0, .null, []), some (35, 1, 0, 0, 0, .null, []), some (1, 1, 0, 0, 0, .null, []), some (1, 1, 2, 0, 0, .null, []), some (7, 1, 0, 1, 0, .null, [])],
  [some (35, 1, 0, 0, 0, .null, []), some (1, 1, 0, 0, 0, .null, []), some (1, 1, 2, 0, 0, .null, []), some (7, 1, 0, 2, 0, .null, []), some (35, 1, 0, 0, 0, .null, []), some (1, 1, 2, 0, 0, .null, []), some (15, 3, 173, 1, 0, .null, []), none, none, some (0, 1, 0, 0, 0, .int 0, []), some (17, 3, 176, 0, 0, .null, []), none, none, some (1, 1, 0, 0, 0, .null, []), some (1, 1, 2, 0, 0, .null, []), some (8, 1, 0, 0, 0, .null, [])],
  [some (35, 1, 0, 0, 0, .null, []), some (1, 1, 2, 0, 0, .null, []), some (15, 3, 185, 1, 0, .null, []), none, none, some (0, 1, 0, 0, 0, .int 0, []), some (17, 3, 188, 0, 0, .null, []), none, none, some (1, 1, 0, 0, 0, .null, []), some (1, 1, 2, 0, 0, .null, []), some (8, 1, 0, 1, 0, .null, []), some (35, 1, 0, 0, 0, .null, []), some (0, 1, 0, 0, 0, .int 0, []), some (35, 1, 0, 0, 0, .null, [])]]
/-- ColdShod$LawText.<init>()V -/
def zi_61 : List (List (Option zI)) := [[some (3, 1, 0, 0, 0, .null, []), some (33, 3, 0, 0, 0, .null, [(0, 838)]), none, none, some (3, 1, 0, 0, 0, .null, []), some (0, 2, 0, 0, 0, .int 120, []), none, some (30, 2, 0, 0, 0, .null, [(0, 704)]), none, some (21, 3, 6, 0, 1, .null, [(0, 839)]), none, none, some (38, 1, 0, 0, 0, .null, [])]]
/-- ColdShod$LawText.take(I)Z -/
def zi_62 : List (List (Option zI)) := [[some (3, 1, 0, 0, 0, .null, []), some (20, 3, 6, 1, 0, .null, [(0, 840)]), none, none, some (0, 2, 0, 0, 0, .int 120, []), none, some (16, 3, 11, 2, 0, .null, []), none, none, some (0, 1, 0, 0, 0, .int 0, []), some (35, 1, 0, 0, 1, .null, []), some (3, 1, 0, 0, 0, .null, []), some (20, 3, 6, 0, 1, .null, [(0, 839)]), none, none, some (3, 1, 0, 0, 0, .null, [])],
  [some (20, 3, 6, 1, 0, .null, [(0, 840)]), none, none, some (1, 1, 1, 0, 0, .null, []), some (25, 1, 0, 0, 0, .null, []), some (3, 1, 0, 0, 0, .null, []), some (39, 1, 0, 0, 0, .null, []), some (20, 3, 6, 1, 0, .null, [(0, 840)]), none, none, some (0, 1, 0, 0, 0, .int 1, []), some (7, 1, 0, 0, 0, .null, []), some (21, 3, 6, 1, 0, .null, [(0, 840)]), none, none, some (0, 1, 0, 0, 0, .int 1, [])],
  [some (35, 1, 0, 0, 1, .null, [])]]
/-- ColdShod$LawText.readInto(LColdShod$LawCode;)I -/
def zi_63 : List (List (Option zI)) := [[some (3, 1, 1, 0, 0, .null, []), some (32, 3, 53, 1, 20, .null, [(0, 841)]), none, none, some (3, 1, 0, 0, 0, .null, []), some (0, 1, 0, 0, 0, .int 0, []), some (21, 3, 6, 2, 0, .null, [(0, 842)]), none, none, some (0, 1, 0, 0, 0, .int 0, []), some (4, 1, 2, 0, 0, .null, []), some (1, 1, 2, 0, 0, .null, []), some (0, 2, 0, 0, 0, .int 120, []), none, some (16, 3, 63, 4, 0, .null, []), none],
  [none, some (3, 1, 0, 0, 0, .null, []), some (3, 1, 1, 0, 0, .null, []), some (32, 3, 64, 2, 24, .null, [(0, 843)]), none, none, some (15, 3, 30, 1, 0, .null, []), none, none, some (3, 1, 0, 0, 0, .null, []), some (20, 3, 6, 2, 0, .null, [(0, 842)]), none, none, some (35, 1, 0, 0, 0, .null, []), some (3, 1, 0, 0, 0, .null, []), some (20, 3, 6, 2, 0, .null, [(0, 842)])],
  [none, none, some (3, 1, 0, 0, 0, .null, []), some (20, 3, 6, 1, 0, .null, [(0, 840)]), none, none, some (16, 3, 43, 2, 0, .null, []), none, none, some (0, 1, 0, 0, 0, .int (-1), []), some (35, 1, 0, 0, 0, .null, []), some (3, 1, 0, 0, 0, .null, []), some (0, 2, 0, 0, 0, .int 59, []), none, some (32, 3, 69, 2, 24, .null, [(0, 844)]), none],
  [none, some (15, 3, 57, 1, 0, .null, []), none, none, some (3, 1, 0, 0, 0, .null, []), some (20, 3, 6, 2, 0, .null, [(0, 842)]), none, none, some (35, 1, 0, 0, 0, .null, []), some (19, 3, 2, 0, 0, .int 1, []), none, none, some (17, 3, 11, 0, 0, .null, []), none, none, some (3, 1, 0, 0, 0, .null, [])],
  [some (20, 3, 6, 2, 0, .null, [(0, 842)]), none, none, some (35, 1, 0, 0, 0, .null, [])]]
/-- ColdShod$LawText.readLine(LColdShod$LawCode;)Z -/
def zi_64 : List (List (Option zI)) := [[some (3, 1, 0, 0, 0, .null, []), some (3, 1, 1, 0, 0, .null, []), some (0, 1, 0, 0, 0, .int 0, []), some (0, 1, 0, 0, 0, .int 0, []), some (32, 3, 65, 4, 24, .null, [(0, 845)]), none, none, some (15, 3, 12, 1, 0, .null, []), none, none, some (0, 1, 0, 0, 0, .int 0, []), some (35, 1, 0, 0, 1, .null, []), some (3, 1, 0, 0, 0, .null, []), some (0, 2, 0, 0, 0, .int 63, []), none, some (32, 3, 69, 2, 24, .null, [(0, 844)])],
  [none, none, some (15, 3, 29, 1, 0, .null, []), none, none, some (3, 1, 1, 0, 0, .null, []), some (0, 2, 0, 0, 0, .int 59, []), none, some (32, 3, 54, 2, 20, .null, [(0, 846)]), none, none, some (0, 1, 0, 0, 0, .int 1, []), some (35, 1, 0, 0, 1, .null, []), some (3, 1, 1, 0, 0, .null, []), some (32, 3, 56, 1, 20, .null, [(0, 847)]), none],
  [none, some (4, 1, 2, 0, 0, .null, []), some (3, 1, 0, 0, 0, .null, []), some (3, 1, 1, 0, 0, .null, []), some (0, 1, 0, 0, 0, .int 0, []), some (0, 1, 0, 0, 0, .int 0, []), some (32, 3, 65, 4, 24, .null, [(0, 845)]), none, none, some (15, 3, 46, 1, 0, .null, []), none, none, some (0, 1, 0, 0, 0, .int 0, []), some (35, 1, 0, 0, 1, .null, []), some (3, 1, 1, 0, 0, .null, []), some (0, 2, 0, 0, 0, .int 59, [])],
  [none, some (32, 3, 54, 2, 20, .null, [(0, 846)]), none, none, some (3, 1, 1, 0, 0, .null, []), some (1, 1, 2, 0, 0, .null, []), some (32, 3, 57, 2, 20, .null, [(0, 848)]), none, none, some (0, 1, 0, 0, 0, .int 1, []), some (35, 1, 0, 0, 1, .null, [])]]
/-- ColdShod$LawText.readLevel(LColdShod$LawCode;II)Z -/
def zi_65 : List (List (Option zI)) := [[some (1, 1, 2, 0, 0, .null, []), some (0, 1, 0, 0, 0, .int 5, []), some (16, 3, 12, 2, 0, .null, []), none, none, some (3, 1, 0, 0, 0, .null, []), some (3, 1, 1, 0, 0, .null, []), some (1, 1, 3, 0, 0, .null, []), some (32, 3, 66, 3, 24, .null, [(0, 849)]), none, none, some (35, 1, 0, 0, 1, .null, []), some (3, 1, 0, 0, 0, .null, []), some (3, 1, 1, 0, 0, .null, []), some (1, 1, 2, 0, 0, .null, []), some (0, 1, 0, 0, 0, .int 1, [])],
  [some (7, 1, 0, 0, 0, .null, []), some (1, 1, 3, 0, 0, .null, []), some (32, 3, 65, 4, 24, .null, [(0, 845)]), none, none, some (15, 3, 26, 1, 0, .null, []), none, none, some (0, 1, 0, 0, 0, .int 0, []), some (35, 1, 0, 0, 1, .null, []), some (1, 1, 2, 0, 0, .null, []), some (0, 1, 0, 0, 0, .int 2, []), some (16, 3, 35, 1, 0, .null, []), none, none, some (0, 1, 0, 0, 0, .int 1, [])],
  [some (17, 3, 37, 0, 0, .null, []), none, none, some (0, 2, 0, 0, 0, .int 120, []), none, some (4, 2, 4, 0, 0, .null, []), none, some (0, 1, 0, 0, 0, .int 0, []), some (4, 2, 5, 0, 0, .null, []), none, some (1, 2, 5, 0, 0, .null, []), none, some (1, 2, 4, 0, 0, .null, []), none, some (16, 3, 102, 3, 0, .null, []), none],
  [none, some (3, 1, 0, 0, 0, .null, []), some (32, 3, 68, 1, 24, .null, [(0, 850)]), none, none, some (4, 2, 6, 0, 0, .null, []), none, some (1, 2, 6, 0, 0, .null, []), none, some (32, 3, 72, 1, 25, .null, [(0, 851)]), none, none, some (1, 1, 2, 0, 0, .null, []), some (16, 3, 66, 0, 0, .null, []), none, none],
  [some (0, 1, 0, 0, 0, .int 1, []), some (35, 1, 0, 0, 1, .null, []), some (3, 1, 0, 0, 0, .null, []), some (39, 1, 0, 0, 0, .null, []), some (20, 3, 6, 2, 0, .null, [(0, 842)]), none, none, some (0, 1, 0, 0, 0, .int 1, []), some (7, 1, 0, 0, 0, .null, []), some (21, 3, 6, 2, 0, .null, [(0, 842)]), none, none, some (3, 1, 0, 0, 0, .null, []), some (3, 1, 1, 0, 0, .null, []), some (1, 1, 2, 0, 0, .null, []), some (0, 1, 0, 0, 0, .int 1, [])],
  [some (7, 1, 0, 0, 0, .null, []), some (1, 1, 3, 0, 0, .null, []), some (32, 3, 65, 4, 24, .null, [(0, 845)]), none, none, some (15, 3, 90, 1, 0, .null, []), none, none, some (0, 1, 0, 0, 0, .int 0, []), some (35, 1, 0, 0, 1, .null, []), some (3, 1, 1, 0, 0, .null, []), some (1, 2, 6, 0, 0, .null, []), none, some (32, 3, 54, 2, 20, .null, [(0, 846)]), none, none],
  [some (19, 3, 5, 0, 0, .int 1, []), none, none, some (17, 3, 42, 0, 0, .null, []), none, none, some (0, 1, 0, 0, 0, .int 1, []), some (35, 1, 0, 0, 1, .null, [])]]
/-- ColdShod$LawText.readOperand(LColdShod$LawCode;I)Z -/
def zi_66 : List (List (Option zI)) := [[some (3, 1, 0, 0, 0, .null, []), some (32, 3, 68, 1, 24, .null, [(0, 850)]), none, none, some (4, 1, 3, 0, 0, .null, []), some (1, 1, 3, 0, 0, .null, []), some (32, 3, 70, 1, 25, .null, [(0, 852)]), none, none, some (15, 3, 18, 0, 0, .null, []), none, none, some (3, 1, 0, 0, 0, .null, []), some (3, 1, 1, 0, 0, .null, []), some (32, 3, 67, 2, 24, .null, [(0, 853)]), none],
  [none, some (35, 1, 0, 0, 1, .null, []), some (1, 1, 3, 0, 0, .null, []), some (32, 3, 71, 1, 25, .null, [(0, 854)]), none, none, some (4, 2, 4, 0, 0, .null, []), none, some (1, 2, 4, 0, 0, .null, []), none, some (15, 3, 47, 2, 0, .null, []), none, none, some (3, 1, 1, 0, 0, .null, []), some (1, 2, 4, 0, 0, .null, []), none],
  [some (32, 3, 55, 2, 20, .null, [(0, 855)]), none, none, some (3, 1, 0, 0, 0, .null, []), some (39, 1, 0, 0, 0, .null, []), some (20, 3, 6, 2, 0, .null, [(0, 842)]), none, none, some (0, 1, 0, 0, 0, .int 1, []), some (7, 1, 0, 0, 0, .null, []), some (21, 3, 6, 2, 0, .null, [(0, 842)]), none, none, some (0, 1, 0, 0, 0, .int 1, []), some (35, 1, 0, 0, 1, .null, []), some (1, 1, 3, 0, 0, .null, [])],
  [some (0, 2, 0, 0, 0, .int 40, []), none, some (16, 3, 65, 0, 0, .null, []), none, none, some (1, 1, 3, 0, 0, .null, []), some (0, 2, 0, 0, 0, .int 33, []), none, some (16, 3, 65, 0, 0, .null, []), none, none, some (1, 1, 3, 0, 0, .null, []), some (0, 2, 0, 0, 0, .int 45, []), none, some (16, 3, 71, 1, 0, .null, []), none],
  [none, some (1, 1, 2, 0, 0, .null, []), some (0, 2, 0, 0, 0, .int 6, []), none, some (16, 3, 73, 2, 0, .null, []), none, none, some (0, 1, 0, 0, 0, .int 0, []), some (35, 1, 0, 0, 1, .null, []), some (3, 1, 0, 0, 0, .null, []), some (39, 1, 0, 0, 0, .null, []), some (20, 3, 6, 2, 0, .null, [(0, 842)]), none, none, some (0, 1, 0, 0, 0, .int 1, []), some (7, 1, 0, 0, 0, .null, [])],
  [some (21, 3, 6, 2, 0, .null, [(0, 842)]), none, none, some (1, 1, 3, 0, 0, .null, []), some (0, 2, 0, 0, 0, .int 40, []), none, some (16, 3, 116, 1, 0, .null, []), none, none, some (3, 1, 0, 0, 0, .null, []), some (3, 1, 1, 0, 0, .null, []), some (0, 1, 0, 0, 0, .int 0, []), some (1, 1, 2, 0, 0, .null, []), some (0, 1, 0, 0, 0, .int 1, []), some (7, 1, 0, 0, 0, .null, []), some (32, 3, 65, 4, 24, .null, [(0, 845)])],
  [none, none, some (15, 3, 114, 0, 0, .null, []), none, none, some (3, 1, 0, 0, 0, .null, []), some (0, 2, 0, 0, 0, .int 41, []), none, some (32, 3, 69, 2, 24, .null, [(0, 844)]), none, none, some (15, 3, 114, 0, 0, .null, []), none, none, some (0, 1, 0, 0, 0, .int 1, []), some (17, 3, 115, 0, 0, .null, [])],
  [none, none, some (0, 1, 0, 0, 0, .int 0, []), some (35, 1, 0, 0, 1, .null, []), some (3, 1, 0, 0, 0, .null, []), some (3, 1, 1, 0, 0, .null, []), some (1, 1, 2, 0, 0, .null, []), some (0, 1, 0, 0, 0, .int 1, []), some (7, 1, 0, 0, 0, .null, []), some (32, 3, 66, 3, 24, .null, [(0, 849)]), none, none, some (15, 3, 129, 1, 0, .null, []), none, none, some (0, 1, 0, 0, 0, .int 0, [])],
  [some (35, 1, 0, 0, 1, .null, []), some (3, 1, 1, 0, 0, .null, []), some (1, 1, 3, 0, 0, .null, []), some (0, 2, 0, 0, 0, .int 33, []), none, some (16, 3, 141, 1, 0, .null, []), none, none, some (0, 2, 0, 0, 0, .int 33, []), none, some (17, 3, 143, 0, 0, .null, []), none, none, some (0, 2, 0, 0, 0, .int 126, []), none, some (32, 3, 54, 2, 20, .null, [(0, 846)])],
  [none, none, some (0, 1, 0, 0, 0, .int 1, []), some (35, 1, 0, 0, 1, .null, [])]]
/-- ColdShod$LawText.readNumber(LColdShod$LawCode;)Z -/
def zi_67 : List (List (Option zI)) := [[some (0, 1, 0, 0, 0, .int 0, []), some (4, 1, 2, 0, 0, .null, []), some (0, 1, 0, 0, 0, .int 0, []), some (4, 1, 3, 0, 0, .null, []), some (1, 1, 3, 0, 0, .null, []), some (0, 1, 0, 0, 0, .int 4, []), some (16, 3, 48, 3, 0, .null, []), none, none, some (3, 1, 0, 0, 0, .null, []), some (32, 3, 68, 1, 24, .null, [(0, 850)]), none, none, some (32, 3, 70, 1, 25, .null, [(0, 852)]), none, none],
  [some (15, 3, 48, 0, 0, .null, []), none, none, some (1, 1, 2, 0, 0, .null, []), some (0, 2, 0, 0, 0, .int 10, []), none, some (7, 1, 0, 2, 0, .null, []), some (3, 1, 0, 0, 0, .null, []), some (32, 3, 68, 1, 24, .null, [(0, 850)]), none, none, some (7, 1, 0, 0, 0, .null, []), some (0, 2, 0, 0, 0, .int 48, []), none, some (7, 1, 0, 1, 0, .null, []), some (4, 1, 2, 0, 0, .null, [])],
  [some (3, 1, 0, 0, 0, .null, []), some (39, 1, 0, 0, 0, .null, []), some (20, 3, 6, 2, 0, .null, [(0, 842)]), none, none, some (0, 1, 0, 0, 0, .int 1, []), some (7, 1, 0, 0, 0, .null, []), some (21, 3, 6, 2, 0, .null, [(0, 842)]), none, none, some (19, 3, 3, 0, 0, .int 1, []), none, none, some (17, 3, 4, 0, 0, .null, []), none, none],
  [some (3, 1, 1, 0, 0, .null, []), some (0, 2, 0, 0, 0, .int 48, []), none, some (32, 3, 54, 2, 20, .null, [(0, 846)]), none, none, some (3, 1, 1, 0, 0, .null, []), some (1, 1, 2, 0, 0, .null, []), some (32, 3, 54, 2, 20, .null, [(0, 846)]), none, none, some (0, 1, 0, 0, 0, .int 1, []), some (35, 1, 0, 0, 1, .null, [])]]
/-- ColdShod$LawText.letter()I -/
def zi_68 : List (List (Option zI)) := [[some (3, 1, 0, 0, 0, .null, []), some (20, 3, 6, 2, 0, .null, [(0, 842)]), none, none, some (3, 1, 0, 0, 0, .null, []), some (20, 3, 6, 1, 0, .null, [(0, 840)]), none, none, some (16, 3, 23, 3, 0, .null, []), none, none, some (3, 1, 0, 0, 0, .null, []), some (20, 3, 6, 0, 1, .null, [(0, 839)]), none, none, some (3, 1, 0, 0, 0, .null, [])],
  [some (20, 3, 6, 2, 0, .null, [(0, 842)]), none, none, some (22, 1, 0, 0, 0, .null, []), some (17, 3, 24, 0, 0, .null, []), none, none, some (0, 1, 0, 0, 0, .int (-1), []), some (35, 1, 0, 0, 0, .null, [])]]
/-- ColdShod$LawText.passes(I)Z -/
def zi_69 : List (List (Option zI)) := [[some (3, 1, 0, 0, 0, .null, []), some (32, 3, 68, 1, 24, .null, [(0, 850)]), none, none, some (1, 1, 1, 0, 0, .null, []), some (16, 3, 10, 0, 0, .null, []), none, none, some (0, 1, 0, 0, 0, .int 0, []), some (35, 1, 0, 0, 1, .null, []), some (3, 1, 0, 0, 0, .null, []), some (39, 1, 0, 0, 0, .null, []), some (20, 3, 6, 2, 0, .null, [(0, 842)]), none, none, some (0, 1, 0, 0, 0, .int 1, [])],
  [some (7, 1, 0, 0, 0, .null, []), some (21, 3, 6, 2, 0, .null, [(0, 842)]), none, none, some (0, 1, 0, 0, 0, .int 1, []), some (35, 1, 0, 0, 1, .null, [])]]
/-- ColdShod$LawText.isDigit(I)Z -/
def zi_70 : List (List (Option zI)) := [[some (1, 1, 0, 0, 0, .null, []), some (0, 2, 0, 0, 0, .int 48, []), none, some (16, 3, 16, 2, 0, .null, []), none, none, some (1, 1, 0, 0, 0, .null, []), some (0, 2, 0, 0, 0, .int 57, []), none, some (16, 3, 16, 4, 0, .null, []), none, none, some (0, 1, 0, 0, 0, .int 1, []), some (17, 3, 17, 0, 0, .null, []), none, none],
  [some (0, 1, 0, 0, 0, .int 0, []), some (35, 1, 0, 0, 1, .null, [])]]
/-- ColdShod$LawText.nameOf(I)I -/
def zi_71 : List (List (Option zI)) := [[some (1, 1, 0, 0, 0, .null, []), some (18, 87, 100, 0, 0, .null, [(102, 94), (103, 100), (104, 92), (105, 100), (106, 100), (107, 98), (108, 100), (109, 88), (110, 100), (111, 100), (112, 100), (113, 100), (114, 100), (115, 96), (116, 100), (117, 100), (118, 100), (119, 90)]), none, none, none, none, none, none, none, none, none, none, none, none, none, none],
  [none, none, none, none, none, none, none, none, none, none, none, none, none, none, none, none],
  [none, none, none, none, none, none, none, none, none, none, none, none, none, none, none, none],
  [none, none, none, none, none, none, none, none, none, none, none, none, none, none, none, none],
  [none, none, none, none, none, none, none, none, none, none, none, none, none, none, none, none],
  [none, none, none, none, none, none, none, none, some (0, 1, 0, 0, 0, .int 0, []), some (35, 1, 0, 0, 0, .null, []), some (0, 1, 0, 0, 0, .int 1, []), some (35, 1, 0, 0, 0, .null, []), some (0, 1, 0, 0, 0, .int 2, []), some (35, 1, 0, 0, 0, .null, []), some (0, 1, 0, 0, 0, .int 3, []), some (35, 1, 0, 0, 0, .null, [])],
  [some (0, 1, 0, 0, 0, .int 4, []), some (35, 1, 0, 0, 0, .null, []), some (0, 1, 0, 0, 0, .int 5, []), some (35, 1, 0, 0, 0, .null, []), some (0, 1, 0, 0, 0, .int (-1), []), some (35, 1, 0, 0, 0, .null, [])]]
/-- ColdShod$LawText.levelOf(I)I -/
def zi_72 : List (List (Option zI)) := [[some (1, 1, 0, 0, 0, .null, []), some (18, 91, 102, 0, 1, .null, [(37, 100), (38, 94), (42, 100), (43, 98), (45, 98), (47, 100), (60, 96), (61, 96), (62, 96), (124, 92)]), none, none, none, none, none, none, none, none, none, none, none, none, none, none],
  [none, none, none, none, none, none, none, none, none, none, none, none, none, none, none, none],
  [none, none, none, none, none, none, none, none, none, none, none, none, none, none, none, none],
  [none, none, none, none, none, none, none, none, none, none, none, none, none, none, none, none],
  [none, none, none, none, none, none, none, none, none, none, none, none, none, none, none, none],
  [none, none, none, none, none, none, none, none, none, none, none, none, some (0, 1, 0, 0, 0, .int 0, []), some (35, 1, 0, 0, 0, .null, []), some (0, 1, 0, 0, 0, .int 1, []), some (35, 1, 0, 0, 0, .null, [])],
  [some (0, 1, 0, 0, 0, .int 2, []), some (35, 1, 0, 0, 0, .null, []), some (0, 1, 0, 0, 0, .int 3, []), some (35, 1, 0, 0, 0, .null, []), some (0, 1, 0, 0, 0, .int 4, []), some (35, 1, 0, 0, 0, .null, []), some (0, 1, 0, 0, 0, .int (-1), []), some (35, 1, 0, 0, 0, .null, [])]]
/-- ColdShod$Road.<init>()V -/
def zi_73 : List (List (Option zI)) := [[some (3, 1, 0, 0, 0, .null, []), some (33, 3, 0, 0, 0, .null, [(0, 856)]), none, none, some (38, 1, 0, 0, 0, .null, [])]]
/-- ColdShod$Road.farEnd(I)I -/
def zi_74 : List (List (Option zI)) := [[some (1, 1, 1, 0, 0, .null, []), some (3, 1, 0, 0, 0, .null, []), some (20, 3, 7, 0, 0, .null, [(0, 857)]), none, none, some (16, 3, 13, 1, 0, .null, []), none, none, some (3, 1, 0, 0, 0, .null, []), some (20, 3, 7, 1, 0, .null, [(0, 858)]), none, none, some (35, 1, 0, 0, 0, .null, []), some (1, 1, 1, 0, 0, .null, []), some (3, 1, 0, 0, 0, .null, []), some (20, 3, 7, 1, 0, .null, [(0, 858)])],
  [none, none, some (16, 3, 28, 1, 0, .null, []), none, none, some (3, 1, 0, 0, 0, .null, []), some (20, 3, 7, 0, 0, .null, [(0, 857)]), none, none, some (17, 3, 29, 0, 0, .null, []), none, none, some (0, 1, 0, 0, 0, .int (-1), []), some (35, 1, 0, 0, 0, .null, [])]]
/-- ColdShod$Shelf.<init>()V -/
def zi_75 : List (List (Option zI)) := [[some (3, 1, 0, 0, 0, .null, []), some (33, 3, 0, 0, 0, .null, [(0, 859)]), none, none, some (3, 1, 0, 0, 0, .null, []), some (0, 1, 0, 0, 0, .int 0, []), some (21, 3, 8, 0, 0, .null, [(0, 860)]), none, none, some (3, 1, 0, 0, 0, .null, []), some (0, 2, 0, 0, 0, .int 60, []), none, some (30, 2, 1, 0, 0, .null, [(0, 705)]), none, some (21, 3, 8, 4, 1, .null, [(0, 861)]), none],
  [none, some (38, 1, 0, 0, 0, .null, [])]]
/-- ColdShod$Shelf.holdSmith(I)V -/
def zi_76 : List (List (Option zI)) := [[some (3, 1, 0, 0, 0, .null, []), some (0, 1, 0, 0, 0, .int 1, []), some (21, 3, 8, 0, 0, .null, [(0, 860)]), none, none, some (3, 1, 0, 0, 0, .null, []), some (1, 1, 1, 0, 0, .null, []), some (21, 3, 8, 1, 0, .null, [(0, 862)]), none, none, some (38, 1, 0, 0, 0, .null, [])]]
/-- ColdShod$Shelf.holdRow(II)V -/
def zi_77 : List (List (Option zI)) := [[some (3, 1, 0, 0, 0, .null, []), some (0, 1, 0, 0, 0, .int 2, []), some (21, 3, 8, 0, 0, .null, [(0, 860)]), none, none, some (3, 1, 0, 0, 0, .null, []), some (1, 1, 1, 0, 0, .null, []), some (21, 3, 8, 2, 0, .null, [(0, 863)]), none, none, some (3, 1, 0, 0, 0, .null, []), some (1, 1, 2, 0, 0, .null, []), some (21, 3, 8, 3, 0, .null, [(0, 864)]), none, none, some (3, 1, 0, 0, 0, .null, [])],
  [some (20, 3, 8, 4, 1, .null, [(0, 861)]), none, none, some (0, 1, 0, 0, 0, .long 0, []), some (32, 3, 239, 2, 1, .null, [(0, 865)]), none, none, some (38, 1, 0, 0, 0, .null, [])]]
/-- ColdShod$Shelf.isBytes()Z -/
def zi_78 : List (List (Option zI)) := [[some (3, 1, 0, 0, 0, .null, []), some (20, 3, 8, 0, 0, .null, [(0, 860)]), none, none, some (0, 1, 0, 0, 0, .int 2, []), some (16, 3, 19, 1, 0, .null, []), none, none, some (3, 1, 0, 0, 0, .null, []), some (20, 3, 8, 2, 0, .null, [(0, 863)]), none, none, some (15, 3, 19, 1, 0, .null, []), none, none, some (0, 1, 0, 0, 0, .int 1, [])],
  [some (17, 3, 20, 0, 0, .null, []), none, none, some (0, 1, 0, 0, 0, .int 0, []), some (35, 1, 0, 0, 1, .null, [])]]
/-- ColdShod$Shelf.hasRange(II)Z -/
def zi_79 : List (List (Option zI)) := [[some (1, 1, 1, 0, 0, .null, []), some (15, 3, 26, 2, 0, .null, []), none, none, some (1, 1, 1, 0, 0, .null, []), some (3, 1, 0, 0, 0, .null, []), some (20, 3, 8, 3, 0, .null, [(0, 864)]), none, none, some (16, 3, 26, 4, 0, .null, []), none, none, some (1, 1, 2, 0, 0, .null, []), some (3, 1, 0, 0, 0, .null, []), some (20, 3, 8, 3, 0, .null, [(0, 864)]), none],
  [none, some (1, 1, 1, 0, 0, .null, []), some (7, 1, 0, 1, 0, .null, []), some (16, 3, 26, 4, 0, .null, []), none, none, some (0, 1, 0, 0, 0, .int 1, []), some (17, 3, 27, 0, 0, .null, []), none, none, some (0, 1, 0, 0, 0, .int 0, []), some (35, 1, 0, 0, 1, .null, [])]]
/-- ColdShod$Shelf.cut(J)J -/
def zi_80 : List (List (Option zI)) := [[some (3, 1, 0, 0, 0, .null, []), some (20, 3, 8, 2, 0, .null, [(0, 863)]), none, none, some (18, 36, 66, 0, 0, .null, [(0, 40), (1, 45), (2, 50), (3, 66), (4, 54)]), none, none, none, none, none, none, none, none, none, none, none],
  [none, none, none, none, none, none, none, none, none, none, none, none, none, none, none, none],
  [none, none, none, none, none, none, none, none, some (2, 1, 1, 0, 0, .null, []), some (11, 1, 0, 0, 0, .null, []), some (9, 1, 0, 1, 0, .null, []), some (10, 1, 0, 0, 0, .null, []), some (36, 1, 0, 0, 0, .null, []), some (2, 1, 1, 0, 0, .null, []), some (11, 1, 0, 0, 0, .null, []), some (9, 1, 0, 2, 0, .null, [])],
  [some (10, 1, 0, 0, 0, .null, []), some (36, 1, 0, 0, 0, .null, []), some (2, 1, 1, 0, 0, .null, []), some (11, 1, 0, 0, 0, .null, []), some (10, 1, 0, 0, 0, .null, []), some (36, 1, 0, 0, 0, .null, []), some (2, 1, 1, 0, 0, .null, []), some (0, 1, 0, 0, 0, .long 0, []), some (14, 1, 0, 0, 0, .null, []), some (15, 3, 64, 0, 0, .null, []), none, none, some (0, 1, 0, 0, 0, .long 1, []), some (17, 3, 65, 0, 0, .null, []), none, none],
  [some (0, 1, 0, 0, 0, .long 0, []), some (36, 1, 0, 0, 0, .null, []), some (2, 1, 1, 0, 0, .null, []), some (36, 1, 0, 0, 0, .null, [])]]
/-- ColdShod$StrokePlan.<init>()V -/
def zi_81 : List (List (Option zI)) := [[some (3, 1, 0, 0, 0, .null, []), some (33, 3, 0, 0, 0, .null, [(0, 866)]), none, none, some (3, 1, 0, 0, 0, .null, []), some (0, 1, 0, 0, 0, .int 4, []), some (30, 2, 0, 0, 0, .null, [(0, 704)]), none, some (21, 3, 9, 0, 1, .null, [(0, 867)]), none, none, some (3, 1, 0, 0, 0, .null, []), some (0, 3, 0, 0, 0, .int 341, []), none, none, some (30, 2, 0, 0, 0, .null, [(0, 704)])],
  [none, some (21, 3, 9, 1, 1, .null, [(0, 868)]), none, none, some (3, 1, 0, 0, 0, .null, []), some (0, 3, 0, 0, 0, .int 341, []), none, none, some (30, 2, 0, 0, 0, .null, [(0, 704)]), none, some (21, 3, 9, 2, 1, .null, [(0, 869)]), none, none, some (3, 1, 0, 0, 0, .null, []), some (0, 3, 0, 0, 0, .int 341, []), none],
  [none, some (30, 2, 0, 0, 0, .null, [(0, 704)]), none, some (21, 3, 9, 3, 1, .null, [(0, 870)]), none, none, some (3, 1, 0, 0, 0, .null, []), some (0, 3, 0, 0, 0, .int 341, []), none, none, some (30, 2, 0, 0, 0, .null, [(0, 704)]), none, some (21, 3, 9, 4, 1, .null, [(0, 871)]), none, none, some (3, 1, 0, 0, 0, .null, [])],
  [some (29, 3, 3, 7, 0, .null, [(0, 872), (0, 709), (0, 102)]), none, none, some (39, 1, 0, 0, 0, .null, []), some (32, 3, 34, 1, 15, .null, [(0, 5)]), none, none, some (21, 3, 9, 5, 1, .null, [(0, 873)]), none, none, some (38, 1, 0, 0, 0, .null, [])]]
/-- ColdShod$StrokePlan.fewestFor(LColdShod$Journey;LColdShod$Idea;LColdShod$Country;)I -/
def zi_82 : List (List (Option zI)) := [[some (3, 1, 0, 0, 0, .null, []), some (20, 3, 9, 1, 1, .null, [(0, 868)]), none, none, some (0, 1, 0, 0, 0, .int 0, []), some (3, 1, 2, 0, 0, .null, []), some (32, 3, 86, 1, 37, .null, [(0, 874)]), none, none, some (25, 1, 0, 0, 0, .null, []), some (3, 1, 0, 0, 0, .null, []), some (20, 3, 9, 4, 1, .null, [(0, 871)]), none, none, some (0, 1, 0, 0, 0, .int 0, []), some (0, 1, 0, 0, 0, .int 0, [])],
  [some (25, 1, 0, 0, 0, .null, []), some (3, 1, 0, 0, 0, .null, []), some (0, 1, 0, 0, 0, .int 1, []), some (21, 3, 9, 6, 0, .null, [(0, 875)]), none, none, some (0, 1, 0, 0, 0, .int 0, []), some (4, 2, 4, 0, 0, .null, []), none, some (1, 2, 4, 0, 0, .null, []), none, some (3, 1, 0, 0, 0, .null, []), some (20, 3, 9, 6, 0, .null, [(0, 875)]), none, none, some (16, 3, 97, 3, 0, .null, [])],
  [none, none, some (1, 2, 4, 0, 0, .null, []), none, some (0, 3, 0, 0, 0, .int 341, []), none, none, some (16, 3, 97, 3, 0, .null, []), none, none, some (3, 1, 0, 0, 0, .null, []), some (3, 1, 2, 0, 0, .null, []), some (3, 1, 0, 0, 0, .null, []), some (20, 3, 9, 1, 1, .null, [(0, 868)]), none, none],
  [some (1, 2, 4, 0, 0, .null, []), none, some (22, 1, 0, 0, 0, .null, []), some (32, 3, 87, 3, 36, .null, [(0, 876)]), none, none, some (3, 1, 1, 0, 0, .null, []), some (3, 1, 0, 0, 0, .null, []), some (20, 3, 9, 5, 1, .null, [(0, 873)]), none, none, some (3, 1, 3, 0, 0, .null, []), some (32, 3, 49, 3, 16, .null, [(0, 877)]), none, none, some (15, 3, 73, 0, 0, .null, [])],
  [none, none, some (3, 1, 0, 0, 0, .null, []), some (1, 2, 4, 0, 0, .null, []), none, some (32, 3, 85, 2, 36, .null, [(0, 878)]), none, none, some (35, 1, 0, 0, 0, .null, []), some (3, 1, 0, 0, 0, .null, []), some (20, 3, 9, 4, 1, .null, [(0, 871)]), none, none, some (1, 2, 4, 0, 0, .null, []), none, some (22, 1, 0, 0, 0, .null, [])],
  [some (0, 1, 0, 0, 0, .int 4, []), some (16, 3, 91, 3, 0, .null, []), none, none, some (3, 1, 0, 0, 0, .null, []), some (3, 1, 2, 0, 0, .null, []), some (1, 2, 4, 0, 0, .null, []), none, some (32, 3, 83, 3, 36, .null, [(0, 879)]), none, none, some (19, 3, 4, 0, 0, .int 1, []), none, none, some (17, 3, 25, 0, 0, .null, []), none],
  [none, some (0, 2, 0, 0, 0, .int (-2), []), none, some (35, 1, 0, 0, 0, .null, [])]]
/-- ColdShod$StrokePlan.addNext(LColdShod$Idea;I)V -/
def zi_83 : List (List (Option zI)) := [[some (0, 1, 0, 0, 0, .int 0, []), some (4, 1, 3, 0, 0, .null, []), some (1, 1, 3, 0, 0, .null, []), some (0, 1, 0, 0, 0, .int 4, []), some (16, 3, 127, 3, 0, .null, []), none, none, some (3, 1, 0, 0, 0, .null, []), some (3, 1, 1, 0, 0, .null, []), some (3, 1, 0, 0, 0, .null, []), some (20, 3, 9, 1, 1, .null, [(0, 868)]), none, none, some (1, 1, 2, 0, 0, .null, []), some (22, 1, 0, 0, 0, .null, []), some (32, 3, 87, 3, 36, .null, [(0, 876)])],
  [none, none, some (3, 1, 0, 0, 0, .null, []), some (20, 3, 9, 5, 1, .null, [(0, 873)]), none, none, some (1, 1, 3, 0, 0, .null, []), some (32, 3, 43, 2, 12, .null, [(0, 880)]), none, none, some (15, 3, 32, 1, 0, .null, []), none, none, some (17, 3, 121, 0, 0, .null, []), none, none],
  [some (3, 1, 0, 0, 0, .null, []), some (20, 3, 9, 5, 1, .null, [(0, 873)]), none, none, some (32, 3, 86, 1, 37, .null, [(0, 874)]), none, none, some (4, 2, 4, 0, 0, .null, []), none, some (3, 1, 0, 0, 0, .null, []), some (1, 2, 4, 0, 0, .null, []), none, some (32, 3, 84, 2, 36, .null, [(0, 881)]), none, none, some (15, 3, 121, 1, 0, .null, [])],
  [none, none, some (3, 1, 0, 0, 0, .null, []), some (20, 3, 9, 6, 0, .null, [(0, 875)]), none, none, some (0, 3, 0, 0, 0, .int 341, []), none, none, some (16, 3, 63, 2, 0, .null, []), none, none, some (17, 3, 121, 0, 0, .null, []), none, none, some (3, 1, 0, 0, 0, .null, [])],
  [some (20, 3, 9, 1, 1, .null, [(0, 868)]), none, none, some (3, 1, 0, 0, 0, .null, []), some (20, 3, 9, 6, 0, .null, [(0, 875)]), none, none, some (1, 2, 4, 0, 0, .null, []), none, some (25, 1, 0, 0, 0, .null, []), some (3, 1, 0, 0, 0, .null, []), some (20, 3, 9, 2, 1, .null, [(0, 869)]), none, none, some (3, 1, 0, 0, 0, .null, []), some (20, 3, 9, 6, 0, .null, [(0, 875)])],
  [none, none, some (1, 1, 2, 0, 0, .null, []), some (25, 1, 0, 0, 0, .null, []), some (3, 1, 0, 0, 0, .null, []), some (20, 3, 9, 3, 1, .null, [(0, 870)]), none, none, some (3, 1, 0, 0, 0, .null, []), some (20, 3, 9, 6, 0, .null, [(0, 875)]), none, none, some (1, 1, 3, 0, 0, .null, []), some (25, 1, 0, 0, 0, .null, []), some (3, 1, 0, 0, 0, .null, []), some (20, 3, 9, 4, 1, .null, [(0, 871)])],
  [none, none, some (3, 1, 0, 0, 0, .null, []), some (20, 3, 9, 6, 0, .null, [(0, 875)]), none, none, some (3, 1, 0, 0, 0, .null, []), some (20, 3, 9, 4, 1, .null, [(0, 871)]), none, none, some (1, 1, 2, 0, 0, .null, []), some (22, 1, 0, 0, 0, .null, []), some (0, 1, 0, 0, 0, .int 1, []), some (7, 1, 0, 0, 0, .null, []), some (25, 1, 0, 0, 0, .null, []), some (3, 1, 0, 0, 0, .null, [])],
  [some (39, 1, 0, 0, 0, .null, []), some (20, 3, 9, 6, 0, .null, [(0, 875)]), none, none, some (0, 1, 0, 0, 0, .int 1, []), some (7, 1, 0, 0, 0, .null, []), some (21, 3, 9, 6, 0, .null, [(0, 875)]), none, none, some (19, 3, 3, 0, 0, .int 1, []), none, none, some (17, 3, 2, 0, 0, .null, []), none, none, some (38, 1, 0, 0, 0, .null, [])]]
/-- ColdShod$StrokePlan.isFound(I)Z -/
def zi_84 : List (List (Option zI)) := [[some (0, 1, 0, 0, 0, .int 0, []), some (4, 1, 2, 0, 0, .null, []), some (1, 1, 2, 0, 0, .null, []), some (3, 1, 0, 0, 0, .null, []), some (20, 3, 9, 6, 0, .null, [(0, 875)]), none, none, some (16, 3, 28, 3, 0, .null, []), none, none, some (3, 1, 0, 0, 0, .null, []), some (20, 3, 9, 1, 1, .null, [(0, 868)]), none, none, some (1, 1, 2, 0, 0, .null, []), some (22, 1, 0, 0, 0, .null, [])],
  [some (1, 1, 1, 0, 0, .null, []), some (16, 3, 22, 1, 0, .null, []), none, none, some (0, 1, 0, 0, 0, .int 1, []), some (35, 1, 0, 0, 1, .null, []), some (19, 3, 2, 0, 0, .int 1, []), none, none, some (17, 3, 2, 0, 0, .null, []), none, none, some (0, 1, 0, 0, 0, .int 0, []), some (35, 1, 0, 0, 1, .null, [])]]
/-- ColdShod$StrokePlan.tellPlan(I)I -/
def zi_85 : List (List (Option zI)) := [[some (3, 1, 0, 0, 0, .null, []), some (20, 3, 9, 4, 1, .null, [(0, 871)]), none, none, some (1, 1, 1, 0, 0, .null, []), some (22, 1, 0, 0, 0, .null, []), some (4, 1, 2, 0, 0, .null, []), some (1, 1, 1, 0, 0, .null, []), some (4, 1, 3, 0, 0, .null, []), some (1, 1, 2, 0, 0, .null, []), some (0, 1, 0, 0, 0, .int 1, []), some (7, 1, 0, 1, 0, .null, []), some (4, 2, 4, 0, 0, .null, []), none, some (1, 2, 4, 0, 0, .null, []), none],
  [some (15, 3, 45, 2, 0, .null, []), none, none, some (3, 1, 0, 0, 0, .null, []), some (20, 3, 9, 0, 1, .null, [(0, 867)]), none, none, some (1, 2, 4, 0, 0, .null, []), none, some (3, 1, 0, 0, 0, .null, []), some (20, 3, 9, 3, 1, .null, [(0, 870)]), none, none, some (1, 1, 3, 0, 0, .null, []), some (22, 1, 0, 0, 0, .null, []), some (25, 1, 0, 0, 0, .null, [])],
  [some (3, 1, 0, 0, 0, .null, []), some (20, 3, 9, 2, 1, .null, [(0, 869)]), none, none, some (1, 1, 3, 0, 0, .null, []), some (22, 1, 0, 0, 0, .null, []), some (4, 1, 3, 0, 0, .null, []), some (19, 3, 4, 0, 0, .int (-1), []), none, none, some (17, 3, 14, 0, 0, .null, []), none, none, some (1, 1, 2, 0, 0, .null, []), some (35, 1, 0, 0, 0, .null, [])]]
/-- ColdShod$StrokePlan.stateOf(LColdShod$Idea;)I -/
def zi_86 : List (List (Option zI)) := [[some (3, 1, 0, 0, 0, .null, []), some (20, 3, 3, 1, 0, .null, [(0, 882)]), none, none, some (0, 2, 0, 0, 0, .int 100, []), none, some (7, 1, 0, 2, 0, .null, []), some (3, 1, 0, 0, 0, .null, []), some (20, 3, 3, 2, 0, .null, [(0, 883)]), none, none, some (7, 1, 0, 0, 0, .null, []), some (0, 2, 0, 0, 0, .int 10, []), none, some (7, 1, 0, 2, 0, .null, []), some (3, 1, 0, 0, 0, .null, [])],
  [some (20, 3, 3, 3, 0, .null, [(0, 884)]), none, none, some (7, 1, 0, 0, 0, .null, []), some (0, 2, 0, 0, 0, .int 10, []), none, some (7, 1, 0, 2, 0, .null, []), some (3, 1, 0, 0, 0, .null, []), some (20, 3, 3, 5, 0, .null, [(0, 885)]), none, none, some (7, 1, 0, 0, 0, .null, []), some (35, 1, 0, 0, 0, .null, [])]]
/-- ColdShod$StrokePlan.recall(LColdShod$Idea;I)V -/
def zi_87 : List (List (Option zI)) := [[some (3, 1, 0, 0, 0, .null, []), some (20, 3, 9, 5, 1, .null, [(0, 873)]), none, none, some (3, 1, 1, 0, 0, .null, []), some (32, 3, 35, 2, 12, .null, [(0, 886)]), none, none, some (3, 1, 0, 0, 0, .null, []), some (20, 3, 9, 5, 1, .null, [(0, 873)]), none, none, some (1, 1, 2, 0, 0, .null, []), some (0, 2, 0, 0, 0, .int 10, []), none, some (8, 1, 0, 1, 0, .null, [])],
  [some (21, 3, 3, 5, 0, .null, [(0, 885)]), none, none, some (3, 1, 0, 0, 0, .null, []), some (20, 3, 9, 5, 1, .null, [(0, 873)]), none, none, some (1, 1, 2, 0, 0, .null, []), some (0, 2, 0, 0, 0, .int 10, []), none, some (8, 1, 0, 0, 0, .null, []), some (0, 2, 0, 0, 0, .int 10, []), none, some (8, 1, 0, 1, 0, .null, []), some (21, 3, 3, 3, 0, .null, [(0, 884)]), none],
  [none, some (3, 1, 0, 0, 0, .null, []), some (20, 3, 9, 5, 1, .null, [(0, 873)]), none, none, some (1, 1, 2, 0, 0, .null, []), some (0, 2, 0, 0, 0, .int 100, []), none, some (8, 1, 0, 0, 0, .null, []), some (0, 2, 0, 0, 0, .int 100, []), none, some (8, 1, 0, 1, 0, .null, []), some (21, 3, 3, 2, 0, .null, [(0, 883)]), none, none, some (3, 1, 0, 0, 0, .null, [])],
  [some (20, 3, 9, 5, 1, .null, [(0, 873)]), none, none, some (1, 1, 2, 0, 0, .null, []), some (0, 3, 0, 0, 0, .int 10000, []), none, none, some (8, 1, 0, 0, 0, .null, []), some (21, 3, 3, 1, 0, .null, [(0, 882)]), none, none, some (38, 1, 0, 0, 0, .null, [])]]
/-- ColdShod$WayPlan.<init>()V -/
def zi_88 : List (List (Option zI)) := [[some (3, 1, 0, 0, 0, .null, []), some (33, 3, 0, 0, 0, .null, [(0, 887)]), none, none, some (3, 1, 0, 0, 0, .null, []), some (0, 2, 0, 0, 0, .int 8, []), none, some (30, 2, 0, 0, 0, .null, [(0, 704)]), none, some (21, 3, 10, 0, 1, .null, [(0, 888)]), none, none, some (3, 1, 0, 0, 0, .null, []), some (0, 2, 0, 0, 0, .int 8, []), none, some (30, 2, 0, 0, 0, .null, [(0, 704)])],
  [none, some (21, 3, 10, 3, 1, .null, [(0, 889)]), none, none, some (3, 1, 0, 0, 0, .null, []), some (0, 2, 0, 0, 0, .int 8, []), none, some (30, 3, 2, 0, 0, .null, [(0, 890)]), none, none, some (21, 3, 10, 4, 1, .null, [(0, 891)]), none, none, some (0, 1, 0, 0, 0, .int 0, []), some (4, 1, 1, 0, 0, .null, []), some (1, 1, 1, 0, 0, .null, [])],
  [some (3, 1, 0, 0, 0, .null, []), some (20, 3, 10, 4, 1, .null, [(0, 891)]), none, none, some (28, 1, 0, 0, 0, .null, []), some (16, 3, 59, 3, 0, .null, []), none, none, some (3, 1, 0, 0, 0, .null, []), some (20, 3, 10, 4, 1, .null, [(0, 891)]), none, none, some (1, 1, 1, 0, 0, .null, []), some (29, 3, 3, 7, 0, .null, [(0, 890), (0, 709), (0, 102)]), none, none],
  [some (39, 1, 0, 0, 0, .null, []), some (32, 3, 34, 1, 15, .null, [(0, 6)]), none, none, some (27, 1, 0, 0, 0, .null, []), some (19, 3, 1, 0, 0, .int 1, []), none, none, some (17, 3, 31, 0, 0, .null, []), none, none, some (38, 1, 0, 0, 0, .null, [])]]
/-- ColdShod$WayPlan.seek(LColdShod$Country;LColdShod$Idea;II)V -/
def zi_89 : List (List (Option zI)) := [[some (3, 1, 0, 0, 0, .null, []), some (0, 2, 0, 0, 0, .int (-2), []), none, some (21, 3, 10, 1, 0, .null, [(0, 892)]), none, none, some (3, 1, 0, 0, 0, .null, []), some (20, 3, 10, 4, 1, .null, [(0, 891)]), none, none, some (0, 1, 0, 0, 0, .int 0, []), some (24, 1, 0, 0, 0, .null, []), some (3, 1, 2, 0, 0, .null, []), some (32, 3, 35, 2, 12, .null, [(0, 893)]), none, none],
  [some (3, 1, 0, 0, 0, .null, []), some (3, 1, 1, 0, 0, .null, []), some (1, 1, 3, 0, 0, .null, []), some (1, 2, 4, 0, 0, .null, []), none, some (0, 1, 0, 0, 0, .int 1, []), some (1, 1, 3, 0, 0, .null, []), some (7, 1, 0, 6, 0, .null, []), some (0, 1, 0, 0, 0, .int 0, []), some (32, 3, 90, 6, 40, .null, [(0, 894)]), none, none, some (38, 1, 0, 0, 0, .null, [])]]
/-- ColdShod$WayPlan.follow(LColdShod$Country;IIII)V -/
def zi_90 : List (List (Option zI)) := [[some (1, 1, 2, 0, 0, .null, []), some (1, 1, 3, 0, 0, .null, []), some (16, 3, 11, 1, 0, .null, []), none, none, some (3, 1, 0, 0, 0, .null, []), some (1, 2, 5, 0, 0, .null, []), none, some (32, 3, 91, 2, 40, .null, [(0, 895)]), none, none, some (1, 1, 2, 0, 0, .null, []), some (1, 1, 3, 0, 0, .null, []), some (16, 3, 28, 0, 0, .null, []), none, none],
  [some (1, 2, 5, 0, 0, .null, []), none, some (0, 1, 0, 0, 0, .int 1, []), some (7, 1, 0, 0, 0, .null, []), some (3, 1, 0, 0, 0, .null, []), some (20, 3, 10, 4, 1, .null, [(0, 891)]), none, none, some (28, 1, 0, 0, 0, .null, []), some (16, 3, 29, 2, 0, .null, []), none, none, some (38, 1, 0, 0, 0, .null, []), some (0, 1, 0, 0, 0, .int 0, []), some (4, 2, 6, 0, 0, .null, []), none],
  [some (1, 2, 6, 0, 0, .null, []), none, some (3, 1, 1, 0, 0, .null, []), some (20, 3, 2, 8, 0, .null, [(0, 896)]), none, none, some (16, 3, 155, 3, 0, .null, []), none, none, some (3, 1, 1, 0, 0, .null, []), some (20, 3, 2, 3, 1, .null, [(0, 897)]), none, none, some (1, 2, 6, 0, 0, .null, []), none, some (24, 1, 0, 0, 0, .null, [])],
  [some (6, 2, 7, 0, 0, .null, []), none, some (3, 2, 7, 0, 0, .null, []), none, some (1, 1, 2, 0, 0, .null, []), some (32, 3, 74, 2, 28, .null, [(0, 898)]), none, none, some (4, 2, 8, 0, 0, .null, []), none, some (1, 2, 8, 0, 0, .null, []), none, some (15, 3, 149, 2, 0, .null, []), none, none, some (1, 2, 4, 0, 0, .null, [])],
  [none, some (1, 2, 8, 0, 0, .null, []), none, some (7, 1, 0, 7, 0, .null, []), some (0, 1, 0, 0, 0, .int 1, []), some (7, 1, 0, 3, 0, .null, []), some (15, 3, 76, 0, 0, .null, []), none, none, some (17, 3, 149, 0, 0, .null, []), none, none, some (3, 1, 0, 0, 0, .null, []), some (20, 3, 10, 4, 1, .null, [(0, 891)]), none, none],
  [some (1, 2, 5, 0, 0, .null, []), none, some (0, 1, 0, 0, 0, .int 1, []), some (7, 1, 0, 0, 0, .null, []), some (24, 1, 0, 0, 0, .null, []), some (3, 1, 0, 0, 0, .null, []), some (20, 3, 10, 4, 1, .null, [(0, 891)]), none, none, some (1, 2, 5, 0, 0, .null, []), none, some (24, 1, 0, 0, 0, .null, []), some (32, 3, 35, 2, 12, .null, [(0, 893)]), none, none, some (3, 1, 1, 0, 0, .null, [])],
  [some (3, 1, 0, 0, 0, .null, []), some (20, 3, 10, 4, 1, .null, [(0, 891)]), none, none, some (1, 2, 5, 0, 0, .null, []), none, some (0, 1, 0, 0, 0, .int 1, []), some (7, 1, 0, 0, 0, .null, []), some (24, 1, 0, 0, 0, .null, []), some (3, 2, 7, 0, 0, .null, []), none, some (32, 3, 24, 3, 8, .null, [(0, 899)]), none, none, some (3, 2, 7, 0, 0, .null, []), none],
  [some (20, 3, 7, 2, 0, .null, [(0, 900)]), none, none, some (16, 3, 121, 3, 0, .null, []), none, none, some (17, 3, 149, 0, 0, .null, []), none, none, some (3, 1, 0, 0, 0, .null, []), some (20, 3, 10, 3, 1, .null, [(0, 889)]), none, none, some (1, 2, 5, 0, 0, .null, []), none, some (1, 2, 6, 0, 0, .null, [])],
  [none, some (25, 1, 0, 0, 0, .null, []), some (3, 1, 0, 0, 0, .null, []), some (3, 1, 1, 0, 0, .null, []), some (1, 2, 8, 0, 0, .null, []), none, some (1, 1, 3, 0, 0, .null, []), some (1, 2, 4, 0, 0, .null, []), none, some (0, 1, 0, 0, 0, .int 1, []), some (1, 2, 8, 0, 0, .null, []), none, some (7, 1, 0, 6, 0, .null, []), some (7, 1, 0, 4, 0, .null, []), some (1, 2, 5, 0, 0, .null, []), none],
  [some (0, 1, 0, 0, 0, .int 1, []), some (7, 1, 0, 0, 0, .null, []), some (32, 3, 90, 6, 40, .null, [(0, 894)]), none, none, some (19, 3, 6, 0, 0, .int 1, []), none, none, some (17, 3, 32, 0, 0, .null, []), none, none, some (38, 1, 0, 0, 0, .null, [])]]
/-- ColdShod$WayPlan.weigh(I)V -/
def zi_91 : List (List (Option zI)) := [[some (3, 1, 0, 0, 0, .null, []), some (20, 3, 10, 4, 1, .null, [(0, 891)]), none, none, some (1, 1, 1, 0, 0, .null, []), some (24, 1, 0, 0, 0, .null, []), some (20, 3, 3, 2, 0, .null, [(0, 901)]), none, none, some (4, 1, 2, 0, 0, .null, []), some (3, 1, 0, 0, 0, .null, []), some (20, 3, 10, 1, 0, .null, [(0, 892)]), none, none, some (0, 2, 0, 0, 0, .int (-2), []), none],
  [some (16, 3, 43, 0, 0, .null, []), none, none, some (1, 1, 2, 0, 0, .null, []), some (3, 1, 0, 0, 0, .null, []), some (20, 3, 10, 2, 0, .null, [(0, 902)]), none, none, some (16, 3, 43, 2, 0, .null, []), none, none, some (1, 1, 2, 0, 0, .null, []), some (3, 1, 0, 0, 0, .null, []), some (20, 3, 10, 2, 0, .null, [(0, 902)]), none, none],
  [some (16, 3, 47, 1, 0, .null, []), none, none, some (1, 1, 1, 0, 0, .null, []), some (3, 1, 0, 0, 0, .null, []), some (20, 3, 10, 1, 0, .null, [(0, 892)]), none, none, some (16, 3, 47, 3, 0, .null, []), none, none, some (0, 1, 0, 0, 0, .int 1, []), some (17, 3, 48, 0, 0, .null, []), none, none, some (0, 1, 0, 0, 0, .int 0, [])],
  [some (4, 1, 3, 0, 0, .null, []), some (1, 1, 3, 0, 0, .null, []), some (15, 3, 54, 1, 0, .null, []), none, none, some (38, 1, 0, 0, 0, .null, []), some (3, 1, 0, 0, 0, .null, []), some (1, 1, 2, 0, 0, .null, []), some (21, 3, 10, 2, 0, .null, [(0, 902)]), none, none, some (3, 1, 0, 0, 0, .null, []), some (1, 1, 1, 0, 0, .null, []), some (21, 3, 10, 1, 0, .null, [(0, 892)]), none, none],
  [some (3, 1, 0, 0, 0, .null, []), some (20, 3, 10, 3, 1, .null, [(0, 889)]), none, none, some (0, 1, 0, 0, 0, .int 0, []), some (3, 1, 0, 0, 0, .null, []), some (20, 3, 10, 0, 1, .null, [(0, 888)]), none, none, some (0, 1, 0, 0, 0, .int 0, []), some (1, 1, 1, 0, 0, .null, []), some (34, 3, 0, 0, 0, .null, [(0, 903)]), none, none, some (38, 1, 0, 0, 0, .null, [])]]
/-- ColdShod.<init>()V -/
def zi_92 : List (List (Option zI)) := [[some (3, 1, 0, 0, 0, .null, []), some (33, 3, 0, 0, 0, .null, [(0, 904)]), none, none, some (3, 1, 0, 0, 0, .null, []), some (29, 3, 2, 11, 0, .null, [(0, 905), (0, 708), (0, 39)]), none, none, some (39, 1, 0, 0, 0, .null, []), some (32, 3, 13, 1, 10, .null, [(0, 906)]), none, none, some (21, 3, 11, 0, 1, .null, [(0, 907)]), none, none, some (3, 1, 0, 0, 0, .null, [])],
  [some (29, 3, 6, 3, 0, .null, [(0, 908), (0, 712), (0, 181)]), none, none, some (39, 1, 0, 0, 0, .null, []), some (32, 3, 61, 1, 27, .null, [(0, 7)]), none, none, some (21, 3, 11, 1, 1, .null, [(0, 909)]), none, none, some (3, 1, 0, 0, 0, .null, []), some (29, 3, 1, 6, 0, .null, [(0, 910), (0, 707), (0, 24)]), none, none, some (39, 1, 0, 0, 0, .null, []), some (32, 3, 8, 1, 7, .null, [(0, 8)])],
  [none, none, some (21, 3, 11, 2, 1, .null, [(0, 911)]), none, none, some (3, 1, 0, 0, 0, .null, []), some (29, 3, 0, 6, 0, .null, [(0, 912), (0, 706), (0, 1)]), none, none, some (39, 1, 0, 0, 0, .null, []), some (32, 3, 0, 1, 3, .null, [(0, 9)]), none, none, some (21, 3, 11, 3, 1, .null, [(0, 913)]), none, none],
  [some (3, 1, 0, 0, 0, .null, []), some (29, 3, 4, 4, 0, .null, [(0, 914), (0, 710), (0, 141)]), none, none, some (39, 1, 0, 0, 0, .null, []), some (32, 3, 47, 1, 19, .null, [(0, 10)]), none, none, some (21, 3, 11, 4, 1, .null, [(0, 915)]), none, none, some (3, 1, 0, 0, 0, .null, []), some (29, 3, 9, 7, 0, .null, [(0, 916), (0, 715), (0, 238)]), none, none, some (39, 1, 0, 0, 0, .null, [])],
  [some (32, 3, 81, 1, 39, .null, [(0, 11)]), none, none, some (21, 3, 11, 5, 1, .null, [(0, 917)]), none, none, some (3, 1, 0, 0, 0, .null, []), some (29, 3, 10, 5, 0, .null, [(0, 918), (0, 716), (0, 258)]), none, none, some (39, 1, 0, 0, 0, .null, []), some (32, 3, 88, 1, 42, .null, [(0, 919)]), none, none, some (21, 3, 11, 6, 1, .null, [(0, 920)]), none],
  [none, some (3, 1, 0, 0, 0, .null, []), some (0, 2, 0, 0, 0, .int 6, []), none, some (30, 3, 4, 0, 0, .null, [(0, 921)]), none, none, some (21, 3, 11, 7, 1, .null, [(0, 922)]), none, none, some (3, 1, 0, 0, 0, .null, []), some (0, 2, 0, 0, 0, .int 6, []), none, some (30, 3, 2, 0, 0, .null, [(0, 923)]), none, none],
  [some (21, 3, 11, 8, 1, .null, [(0, 924)]), none, none, some (3, 1, 0, 0, 0, .null, []), some (0, 1, 0, 0, 0, .int 5, []), some (30, 2, 0, 0, 0, .null, [(0, 704)]), none, some (21, 3, 11, 9, 1, .null, [(0, 925)]), none, none, some (3, 1, 0, 0, 0, .null, []), some (0, 2, 0, 0, 0, .int 8, []), none, some (30, 3, 2, 0, 0, .null, [(0, 923)]), none, none],
  [some (21, 3, 11, 10, 1, .null, [(0, 926)]), none, none, some (3, 1, 0, 0, 0, .null, []), some (0, 1, 0, 0, 0, .int 5, []), some (30, 2, 0, 0, 0, .null, [(0, 704)]), none, some (21, 3, 11, 11, 1, .null, [(0, 927)]), none, none, some (3, 1, 0, 0, 0, .null, []), some (0, 1, 0, 0, 0, .int (-1), []), some (21, 3, 11, 12, 0, .null, [(0, 928)]), none, none, some (3, 1, 0, 0, 0, .null, [])],
  [some (0, 1, 0, 0, 0, .int 4, []), some (21, 3, 11, 13, 0, .null, [(0, 929)]), none, none, some (0, 1, 0, 0, 0, .int 0, []), some (4, 1, 1, 0, 0, .null, []), some (1, 1, 1, 0, 0, .null, []), some (3, 1, 0, 0, 0, .null, []), some (20, 3, 11, 7, 1, .null, [(0, 922)]), none, none, some (28, 1, 0, 0, 0, .null, []), some (16, 3, 162, 3, 0, .null, []), none, none, some (3, 1, 0, 0, 0, .null, [])],
  [some (20, 3, 11, 7, 1, .null, [(0, 922)]), none, none, some (1, 1, 1, 0, 0, .null, []), some (29, 3, 8, 5, 0, .null, [(0, 921), (0, 714), (0, 220)]), none, none, some (39, 1, 0, 0, 0, .null, []), some (32, 3, 75, 1, 35, .null, [(0, 12)]), none, none, some (27, 1, 0, 0, 0, .null, []), some (19, 3, 1, 0, 0, .int 1, []), none, none, some (17, 3, 134, 0, 0, .null, [])],
  [none, none, some (0, 1, 0, 0, 0, .int 0, []), some (4, 1, 1, 0, 0, .null, []), some (1, 1, 1, 0, 0, .null, []), some (3, 1, 0, 0, 0, .null, []), some (20, 3, 11, 8, 1, .null, [(0, 924)]), none, none, some (28, 1, 0, 0, 0, .null, []), some (16, 3, 192, 3, 0, .null, []), none, none, some (3, 1, 0, 0, 0, .null, []), some (20, 3, 11, 8, 1, .null, [(0, 924)]), none],
  [none, some (1, 1, 1, 0, 0, .null, []), some (29, 3, 3, 7, 0, .null, [(0, 923), (0, 709), (0, 102)]), none, none, some (39, 1, 0, 0, 0, .null, []), some (32, 3, 34, 1, 15, .null, [(0, 13)]), none, none, some (27, 1, 0, 0, 0, .null, []), some (19, 3, 1, 0, 0, .int 1, []), none, none, some (17, 3, 164, 0, 0, .null, []), none, none],
  [some (0, 1, 0, 0, 0, .int 0, []), some (4, 1, 1, 0, 0, .null, []), some (1, 1, 1, 0, 0, .null, []), some (3, 1, 0, 0, 0, .null, []), some (20, 3, 11, 10, 1, .null, [(0, 926)]), none, none, some (28, 1, 0, 0, 0, .null, []), some (16, 3, 222, 3, 0, .null, []), none, none, some (3, 1, 0, 0, 0, .null, []), some (20, 3, 11, 10, 1, .null, [(0, 926)]), none, none, some (1, 1, 1, 0, 0, .null, [])],
  [some (29, 3, 3, 7, 0, .null, [(0, 923), (0, 709), (0, 102)]), none, none, some (39, 1, 0, 0, 0, .null, []), some (32, 3, 34, 1, 15, .null, [(0, 13)]), none, none, some (27, 1, 0, 0, 0, .null, []), some (19, 3, 1, 0, 0, .int 1, []), none, none, some (17, 3, 194, 0, 0, .null, []), none, none, some (38, 1, 0, 0, 0, .null, [])]]
/-- ColdShod.head(I)I -/
def zi_93 : List (List (Option zI)) := [[some (1, 1, 1, 0, 0, .null, []), some (15, 3, 9, 2, 0, .null, []), none, none, some (1, 1, 1, 0, 0, .null, []), some (0, 1, 0, 0, 0, .int 5, []), some (16, 3, 11, 5, 0, .null, []), none, none, some (0, 1, 0, 0, 0, .int (-1), []), some (35, 1, 0, 0, 0, .null, []), some (3, 1, 0, 0, 0, .null, []), some (20, 3, 11, 0, 1, .null, [(0, 907)]), none, none, some (20, 3, 2, 6, 0, .null, [(0, 930)])],
  [none, none, some (0, 2, 0, 0, 0, .int 6, []), none, some (16, 3, 26, 2, 0, .null, []), none, none, some (0, 2, 0, 0, 0, .int (-3), []), none, some (35, 1, 0, 0, 0, .null, []), some (3, 1, 0, 0, 0, .null, []), some (20, 3, 11, 0, 1, .null, [(0, 907)]), none, none, some (20, 3, 2, 0, 1, .null, [(0, 931)]), none],
  [none, some (3, 1, 0, 0, 0, .null, []), some (20, 3, 11, 0, 1, .null, [(0, 907)]), none, none, some (20, 3, 2, 6, 0, .null, [(0, 930)]), none, none, some (1, 1, 1, 0, 0, .null, []), some (25, 1, 0, 0, 0, .null, []), some (3, 1, 0, 0, 0, .null, []), some (20, 3, 11, 0, 1, .null, [(0, 907)]), none, none, some (20, 3, 2, 1, 1, .null, [(0, 932)]), none],
  [none, some (3, 1, 0, 0, 0, .null, []), some (20, 3, 11, 0, 1, .null, [(0, 907)]), none, none, some (20, 3, 2, 6, 0, .null, [(0, 930)]), none, none, some (0, 2, 0, 0, 0, .int 6, []), none, some (25, 1, 0, 0, 0, .null, []), some (3, 1, 0, 0, 0, .null, []), some (20, 3, 11, 0, 1, .null, [(0, 907)]), none, none, some (39, 1, 0, 0, 0, .null, [])],
  [some (20, 3, 2, 6, 0, .null, [(0, 930)]), none, none, some (40, 1, 0, 0, 0, .null, []), some (0, 1, 0, 0, 0, .int 1, []), some (7, 1, 0, 0, 0, .null, []), some (21, 3, 2, 6, 0, .null, [(0, 930)]), none, none, some (35, 1, 0, 0, 0, .null, [])]]
/-- ColdShod.idea(II)I -/
def zi_94 : List (List (Option zI)) := [[some (1, 1, 1, 0, 0, .null, []), some (15, 3, 18, 2, 0, .null, []), none, none, some (1, 1, 1, 0, 0, .null, []), some (0, 1, 0, 0, 0, .int 3, []), some (16, 3, 18, 4, 0, .null, []), none, none, some (1, 1, 2, 0, 0, .null, []), some (15, 3, 18, 2, 0, .null, []), none, none, some (1, 1, 2, 0, 0, .null, []), some (0, 1, 0, 0, 0, .int 5, []), some (16, 3, 20, 5, 0, .null, [])],
  [none, none, some (0, 1, 0, 0, 0, .int (-1), []), some (35, 1, 0, 0, 0, .null, []), some (3, 1, 0, 0, 0, .null, []), some (20, 3, 11, 0, 1, .null, [(0, 907)]), none, none, some (20, 3, 2, 7, 0, .null, [(0, 933)]), none, none, some (0, 2, 0, 0, 0, .int 8, []), none, some (16, 3, 35, 2, 0, .null, []), none, none],
  [some (0, 2, 0, 0, 0, .int (-3), []), none, some (35, 1, 0, 0, 0, .null, []), some (3, 1, 0, 0, 0, .null, []), some (20, 3, 11, 0, 1, .null, [(0, 907)]), none, none, some (20, 3, 2, 2, 1, .null, [(0, 934)]), none, none, some (3, 1, 0, 0, 0, .null, []), some (20, 3, 11, 0, 1, .null, [(0, 907)]), none, none, some (20, 3, 2, 7, 0, .null, [(0, 933)]), none],
  [none, some (24, 1, 0, 0, 0, .null, []), some (6, 1, 3, 0, 0, .null, []), some (3, 1, 3, 0, 0, .null, []), some (1, 1, 1, 0, 0, .null, []), some (21, 3, 3, 0, 0, .null, [(0, 935)]), none, none, some (3, 1, 3, 0, 0, .null, []), some (1, 1, 2, 0, 0, .null, []), some (21, 3, 3, 1, 0, .null, [(0, 936)]), none, none, some (3, 1, 0, 0, 0, .null, []), some (20, 3, 11, 0, 1, .null, [(0, 907)]), none],
  [none, some (39, 1, 0, 0, 0, .null, []), some (20, 3, 2, 7, 0, .null, [(0, 933)]), none, none, some (40, 1, 0, 0, 0, .null, []), some (0, 1, 0, 0, 0, .int 1, []), some (7, 1, 0, 0, 0, .null, []), some (21, 3, 2, 7, 0, .null, [(0, 933)]), none, none, some (35, 1, 0, 0, 0, .null, [])]]
/-- ColdShod.road(II)I -/
def zi_95 : List (List (Option zI)) := [[some (1, 1, 1, 0, 0, .null, []), some (32, 3, 138, 1, 45, .null, [(0, 937)]), none, none, some (15, 3, 18, 0, 0, .null, []), none, none, some (1, 1, 2, 0, 0, .null, []), some (0, 1, 0, 0, 0, .int 1, []), some (16, 3, 18, 2, 0, .null, []), none, none, some (1, 1, 2, 0, 0, .null, []), some (0, 2, 0, 0, 0, .int 9, []), none, some (16, 3, 20, 5, 0, .null, [])],
  [none, none, some (0, 1, 0, 0, 0, .int (-1), []), some (35, 1, 0, 0, 0, .null, []), some (3, 1, 0, 0, 0, .null, []), some (20, 3, 11, 0, 1, .null, [(0, 907)]), none, none, some (1, 1, 1, 0, 0, .null, []), some (0, 2, 0, 0, 0, .int 10, []), none, some (8, 1, 0, 0, 0, .null, []), some (1, 1, 1, 0, 0, .null, []), some (0, 2, 0, 0, 0, .int 10, []), none, some (8, 1, 0, 1, 0, .null, [])],
  [some (1, 1, 2, 0, 0, .null, []), some (32, 3, 17, 4, 8, .null, [(0, 938)]), none, none, some (35, 1, 0, 0, 0, .null, [])]]
/-- ColdShod.roads(III)I -/
def zi_96 : List (List (Option zI)) := [[some (1, 1, 1, 0, 0, .null, []), some (32, 3, 135, 1, 45, .null, [(0, 939)]), none, none, some (15, 3, 18, 0, 0, .null, []), none, none, some (1, 1, 3, 0, 0, .null, []), some (0, 1, 0, 0, 0, .int 1, []), some (16, 3, 18, 2, 0, .null, []), none, none, some (1, 1, 3, 0, 0, .null, []), some (0, 2, 0, 0, 0, .int 12, []), none, some (16, 3, 20, 5, 0, .null, [])],
  [none, none, some (0, 1, 0, 0, 0, .int (-1), []), some (35, 1, 0, 0, 0, .null, []), some (3, 1, 0, 0, 0, .null, []), some (20, 3, 11, 7, 1, .null, [(0, 922)]), none, none, some (1, 1, 1, 0, 0, .null, []), some (24, 1, 0, 0, 0, .null, []), some (6, 2, 4, 0, 0, .null, []), none, some (3, 2, 4, 0, 0, .null, []), none, some (20, 3, 8, 0, 0, .null, [(0, 940)]), none],
  [none, some (15, 3, 38, 1, 0, .null, []), none, none, some (0, 1, 0, 0, 0, .int 0, []), some (35, 1, 0, 0, 0, .null, []), some (3, 2, 4, 0, 0, .null, []), none, some (32, 3, 78, 1, 32, .null, [(0, 941)]), none, none, some (15, 3, 49, 1, 0, .null, []), none, none, some (0, 2, 0, 0, 0, .int (-12), []), none],
  [some (35, 1, 0, 0, 0, .null, []), some (1, 1, 2, 0, 0, .null, []), some (15, 3, 55, 3, 0, .null, []), none, none, some (0, 1, 0, 0, 0, .int 0, []), some (35, 1, 0, 0, 0, .null, []), some (0, 1, 0, 0, 0, .int 0, []), some (4, 2, 5, 0, 0, .null, []), none, some (1, 1, 2, 0, 0, .null, []), some (4, 2, 6, 0, 0, .null, []), none, some (1, 2, 5, 0, 0, .null, []), none, some (1, 1, 3, 0, 0, .null, [])],
  [some (16, 3, 102, 3, 0, .null, []), none, none, some (1, 2, 6, 0, 0, .null, []), none, some (3, 2, 4, 0, 0, .null, []), none, some (20, 3, 8, 3, 0, .null, [(0, 942)]), none, none, some (0, 1, 0, 0, 0, .int 2, []), some (7, 1, 0, 1, 0, .null, []), some (16, 3, 102, 3, 0, .null, []), none, none, some (3, 1, 0, 0, 0, .null, [])],
  [some (3, 2, 4, 0, 0, .null, []), none, some (1, 2, 6, 0, 0, .null, []), none, some (32, 3, 97, 3, 44, .null, [(0, 943)]), none, none, some (15, 3, 93, 1, 0, .null, []), none, none, some (1, 2, 5, 0, 0, .null, []), none, some (35, 1, 0, 0, 0, .null, []), some (19, 3, 5, 0, 0, .int 1, []), none, none],
  [some (19, 3, 6, 0, 0, .int 3, []), none, none, some (17, 3, 61, 0, 0, .null, []), none, none, some (1, 2, 5, 0, 0, .null, []), none, some (35, 1, 0, 0, 0, .null, [])]]
/-- ColdShod.layRoadFrom(LColdShod$Shelf;I)Z -/
def zi_97 : List (List (Option zI)) := [[some (3, 1, 1, 0, 0, .null, []), some (20, 3, 8, 4, 1, .null, [(0, 944)]), none, none, some (1, 1, 2, 0, 0, .null, []), some (23, 1, 0, 0, 0, .null, []), some (5, 1, 3, 0, 0, .null, []), some (3, 1, 1, 0, 0, .null, []), some (20, 3, 8, 4, 1, .null, [(0, 944)]), none, none, some (1, 1, 2, 0, 0, .null, []), some (0, 1, 0, 0, 0, .int 1, []), some (7, 1, 0, 0, 0, .null, []), some (23, 1, 0, 0, 0, .null, []), some (5, 2, 5, 0, 0, .null, [])],
  [none, some (3, 1, 1, 0, 0, .null, []), some (20, 3, 8, 4, 1, .null, [(0, 944)]), none, none, some (1, 1, 2, 0, 0, .null, []), some (0, 1, 0, 0, 0, .int 2, []), some (7, 1, 0, 0, 0, .null, []), some (23, 1, 0, 0, 0, .null, []), some (5, 2, 7, 0, 0, .null, []), none, some (2, 1, 3, 0, 0, .null, []), some (32, 3, 137, 1, 45, .null, [(0, 945)]), none, none, some (15, 3, 65, 0, 0, .null, [])],
  [none, none, some (2, 2, 5, 0, 0, .null, []), none, some (32, 3, 137, 1, 45, .null, [(0, 945)]), none, none, some (15, 3, 65, 0, 0, .null, []), none, none, some (2, 1, 3, 0, 0, .null, []), some (2, 2, 5, 0, 0, .null, []), none, some (14, 1, 0, 0, 0, .null, []), some (15, 3, 65, 0, 0, .null, []), none],
  [none, some (2, 2, 7, 0, 0, .null, []), none, some (0, 1, 0, 0, 0, .long 1, []), some (14, 1, 0, 0, 0, .null, []), some (15, 3, 65, 2, 0, .null, []), none, none, some (2, 2, 7, 0, 0, .null, []), none, some (0, 3, 0, 0, 0, .long 9, [(0, 946)]), none, none, some (14, 1, 0, 0, 0, .null, []), some (15, 3, 67, 5, 0, .null, []), none],
  [none, some (0, 1, 0, 0, 0, .int 0, []), some (35, 1, 0, 0, 1, .null, []), some (3, 1, 0, 0, 0, .null, []), some (20, 3, 11, 0, 1, .null, [(0, 907)]), none, none, some (2, 1, 3, 0, 0, .null, []), some (11, 1, 0, 0, 0, .null, []), some (2, 2, 5, 0, 0, .null, []), none, some (11, 1, 0, 0, 0, .null, []), some (2, 2, 7, 0, 0, .null, []), none, some (11, 1, 0, 0, 0, .null, []), some (32, 3, 17, 4, 8, .null, [(0, 938)])],
  [none, none, some (15, 3, 89, 2, 0, .null, []), none, none, some (0, 1, 0, 0, 0, .int 1, []), some (17, 3, 90, 0, 0, .null, []), none, none, some (0, 1, 0, 0, 0, .int 0, []), some (35, 1, 0, 0, 1, .null, [])]]
/-- ColdShod.mend(III)I -/
def zi_98 : List (List (Option zI)) := [[some (3, 1, 0, 0, 0, .null, []), some (20, 3, 11, 0, 1, .null, [(0, 907)]), none, none, some (1, 1, 1, 0, 0, .null, []), some (1, 1, 2, 0, 0, .null, []), some (32, 3, 18, 3, 8, .null, [(0, 947)]), none, none, some (15, 3, 24, 0, 0, .null, []), none, none, some (3, 1, 0, 0, 0, .null, []), some (20, 3, 11, 0, 1, .null, [(0, 907)]), none, none],
  [some (1, 1, 2, 0, 0, .null, []), some (1, 1, 3, 0, 0, .null, []), some (32, 3, 19, 3, 8, .null, [(0, 948)]), none, none, some (15, 3, 27, 1, 0, .null, []), none, none, some (0, 2, 0, 0, 0, .int (-2000000000), [(0, 949)]), none, some (35, 1, 0, 0, 0, .null, []), some (3, 1, 0, 0, 0, .null, []), some (20, 3, 11, 0, 1, .null, [(0, 907)]), none, none, some (1, 1, 1, 0, 0, .null, [])],
  [some (1, 1, 2, 0, 0, .null, []), some (32, 3, 20, 3, 8, .null, [(0, 950)]), none, none, some (4, 2, 4, 0, 0, .null, []), none, some (1, 2, 4, 0, 0, .null, []), none, some (1, 1, 3, 0, 0, .null, []), some (16, 3, 66, 0, 0, .null, []), none, none, some (3, 1, 0, 0, 0, .null, []), some (20, 3, 11, 0, 1, .null, [(0, 907)]), none, none],
  [some (1, 1, 1, 0, 0, .null, []), some (1, 1, 2, 0, 0, .null, []), some (1, 1, 3, 0, 0, .null, []), some (32, 3, 21, 4, 8, .null, [(0, 951)]), none, none, some (3, 1, 0, 0, 0, .null, []), some (20, 3, 11, 2, 1, .null, [(0, 911)]), none, none, some (1, 1, 1, 0, 0, .null, []), some (1, 1, 2, 0, 0, .null, []), some (1, 2, 4, 0, 0, .null, []), none, some (1, 1, 3, 0, 0, .null, []), some (32, 3, 9, 5, 4, .null, [(0, 952)])],
  [none, none, some (1, 2, 4, 0, 0, .null, []), none, some (35, 1, 0, 0, 0, .null, [])]]
/-- ColdShod.of(II)I -/
def zi_99 : List (List (Option zI)) := [[some (3, 1, 0, 0, 0, .null, []), some (20, 3, 11, 0, 1, .null, [(0, 907)]), none, none, some (1, 1, 1, 0, 0, .null, []), some (1, 1, 2, 0, 0, .null, []), some (32, 3, 20, 3, 8, .null, [(0, 950)]), none, none, some (35, 1, 0, 0, 0, .null, [])]]
/-- ColdShod.feed(I)I -/
def zi_100 : List (List (Option zI)) := [[some (1, 1, 1, 0, 0, .null, []), some (15, 3, 11, 2, 0, .null, []), none, none, some (1, 1, 1, 0, 0, .null, []), some (0, 3, 0, 0, 0, .int 255, []), none, none, some (16, 3, 13, 5, 0, .null, []), none, none, some (0, 1, 0, 0, 0, .int (-1), []), some (35, 1, 0, 0, 0, .null, []), some (3, 1, 0, 0, 0, .null, []), some (20, 3, 11, 1, 1, .null, [(0, 909)]), none],
  [none, some (1, 1, 1, 0, 0, .null, []), some (32, 3, 62, 2, 24, .null, [(0, 953)]), none, none, some (15, 3, 34, 0, 0, .null, []), none, none, some (3, 1, 0, 0, 0, .null, []), some (20, 3, 11, 1, 1, .null, [(0, 909)]), none, none, some (20, 3, 6, 1, 0, .null, [(0, 954)]), none, none, some (17, 3, 36, 0, 0, .null, [])],
  [none, none, some (0, 2, 0, 0, 0, .int (-3), []), none, some (35, 1, 0, 0, 0, .null, [])]]
/-- ColdShod.law()I -/
def zi_101 : List (List (Option zI)) := [[some (3, 1, 0, 0, 0, .null, []), some (20, 3, 11, 0, 1, .null, [(0, 907)]), none, none, some (20, 3, 2, 10, 1, .null, [(0, 955)]), none, none, some (6, 1, 1, 0, 0, .null, []), some (3, 1, 0, 0, 0, .null, []), some (20, 3, 11, 1, 1, .null, [(0, 909)]), none, none, some (3, 1, 1, 0, 0, .null, []), some (32, 3, 63, 2, 24, .null, [(0, 956)]), none, none],
  [some (4, 1, 2, 0, 0, .null, []), some (3, 1, 0, 0, 0, .null, []), some (20, 3, 11, 1, 1, .null, [(0, 909)]), none, none, some (0, 1, 0, 0, 0, .int 0, []), some (21, 3, 6, 1, 0, .null, [(0, 954)]), none, none, some (1, 1, 2, 0, 0, .null, []), some (0, 1, 0, 0, 0, .int (-1), []), some (16, 3, 35, 0, 0, .null, []), none, none, some (0, 2, 0, 0, 0, .int (-100), []), none],
  [some (1, 1, 2, 0, 0, .null, []), some (7, 1, 0, 1, 0, .null, []), some (35, 1, 0, 0, 0, .null, []), some (3, 1, 0, 0, 0, .null, []), some (20, 3, 11, 0, 1, .null, [(0, 907)]), none, none, some (3, 1, 0, 0, 0, .null, []), some (20, 3, 11, 0, 1, .null, [(0, 907)]), none, none, some (20, 3, 2, 9, 1, .null, [(0, 957)]), none, none, some (21, 3, 2, 10, 1, .null, [(0, 955)]), none],
  [none, some (3, 1, 0, 0, 0, .null, []), some (20, 3, 11, 0, 1, .null, [(0, 907)]), none, none, some (3, 1, 1, 0, 0, .null, []), some (21, 3, 2, 9, 1, .null, [(0, 957)]), none, none, some (0, 1, 0, 0, 0, .int 1, []), some (35, 1, 0, 0, 0, .null, [])]]
/-- ColdShod.wears(II)I -/
def zi_102 : List (List (Option zI)) := [[some (3, 1, 0, 0, 0, .null, []), some (20, 3, 11, 0, 1, .null, [(0, 907)]), none, none, some (1, 1, 1, 0, 0, .null, []), some (32, 3, 15, 2, 8, .null, [(0, 958)]), none, none, some (15, 3, 22, 0, 0, .null, []), none, none, some (3, 1, 0, 0, 0, .null, []), some (20, 3, 11, 0, 1, .null, [(0, 907)]), none, none, some (1, 1, 2, 0, 0, .null, [])],
  [some (32, 3, 16, 2, 8, .null, [(0, 959)]), none, none, some (15, 3, 24, 1, 0, .null, []), none, none, some (0, 1, 0, 0, 0, .int (-1), []), some (35, 1, 0, 0, 0, .null, []), some (3, 1, 0, 0, 0, .null, []), some (20, 3, 11, 0, 1, .null, [(0, 907)]), none, none, some (3, 1, 0, 0, 0, .null, []), some (20, 3, 11, 0, 1, .null, [(0, 907)]), none, none],
  [some (20, 3, 2, 2, 1, .null, [(0, 934)]), none, none, some (1, 1, 1, 0, 0, .null, []), some (24, 1, 0, 0, 0, .null, []), some (3, 1, 0, 0, 0, .null, []), some (20, 3, 11, 0, 1, .null, [(0, 907)]), none, none, some (20, 3, 2, 3, 1, .null, [(0, 960)]), none, none, some (1, 1, 2, 0, 0, .null, []), some (24, 1, 0, 0, 0, .null, []), some (32, 3, 23, 3, 8, .null, [(0, 961)]), none],
  [none, some (35, 1, 0, 0, 0, .null, [])]]
/-- ColdShod.journey(III)I -/
def zi_103 : List (List (Option zI)) := [[some (1, 1, 1, 0, 0, .null, []), some (32, 3, 135, 1, 45, .null, [(0, 939)]), none, none, some (15, 3, 27, 0, 0, .null, []), none, none, some (3, 1, 0, 0, 0, .null, []), some (20, 3, 11, 0, 1, .null, [(0, 907)]), none, none, some (1, 1, 2, 0, 0, .null, []), some (32, 3, 15, 2, 8, .null, [(0, 958)]), none, none, some (15, 3, 27, 0, 0, .null, [])],
  [none, none, some (1, 1, 3, 0, 0, .null, []), some (15, 3, 27, 2, 0, .null, []), none, none, some (1, 1, 3, 0, 0, .null, []), some (0, 1, 0, 0, 0, .int 4, []), some (16, 3, 29, 5, 0, .null, []), none, none, some (0, 1, 0, 0, 0, .int (-1), []), some (35, 1, 0, 0, 0, .null, []), some (3, 1, 0, 0, 0, .null, []), some (20, 3, 11, 7, 1, .null, [(0, 922)]), none],
  [none, some (1, 1, 1, 0, 0, .null, []), some (24, 1, 0, 0, 0, .null, []), some (32, 3, 140, 1, 45, .null, [(0, 962)]), none, none, some (4, 2, 4, 0, 0, .null, []), none, some (1, 2, 4, 0, 0, .null, []), none, some (15, 3, 48, 0, 0, .null, []), none, none, some (1, 2, 4, 0, 0, .null, []), none, some (35, 1, 0, 0, 0, .null, [])],
  [some (3, 1, 0, 0, 0, .null, []), some (20, 3, 11, 4, 1, .null, [(0, 915)]), none, none, some (3, 1, 0, 0, 0, .null, []), some (20, 3, 11, 7, 1, .null, [(0, 922)]), none, none, some (1, 1, 1, 0, 0, .null, []), some (24, 1, 0, 0, 0, .null, []), some (3, 1, 0, 0, 0, .null, []), some (20, 3, 11, 0, 1, .null, [(0, 907)]), none, none, some (20, 3, 2, 8, 0, .null, [(0, 963)]), none],
  [none, some (32, 3, 48, 3, 16, .null, [(0, 964)]), none, none, some (3, 1, 0, 0, 0, .null, []), some (1, 1, 2, 0, 0, .null, []), some (32, 3, 139, 2, 44, .null, [(0, 965)]), none, none, some (6, 2, 5, 0, 0, .null, []), none, some (3, 1, 0, 0, 0, .null, []), some (20, 3, 11, 4, 1, .null, [(0, 915)]), none, none, some (3, 2, 5, 0, 0, .null, [])],
  [none, some (3, 1, 0, 0, 0, .null, []), some (20, 3, 11, 0, 1, .null, [(0, 907)]), none, none, some (32, 3, 49, 3, 16, .null, [(0, 966)]), none, none, some (4, 2, 6, 0, 0, .null, []), none, some (1, 1, 3, 0, 0, .null, []), some (18, 29, 148, 0, 0, .null, [(0, 120), (1, 128), (2, 136), (3, 142)]), none, none, none, none],
  [none, none, none, none, none, none, none, none, none, none, none, none, none, none, none, none],
  [none, none, none, none, none, none, none, none, some (3, 1, 0, 0, 0, .null, []), some (20, 3, 11, 4, 1, .null, [(0, 915)]), none, none, some (20, 3, 4, 2, 0, .null, [(0, 967)]), none, none, some (35, 1, 0, 0, 0, .null, [])],
  [some (3, 1, 0, 0, 0, .null, []), some (20, 3, 11, 4, 1, .null, [(0, 915)]), none, none, some (20, 3, 4, 3, 0, .null, [(0, 968)]), none, none, some (35, 1, 0, 0, 0, .null, []), some (3, 2, 5, 0, 0, .null, []), none, some (20, 3, 3, 2, 0, .null, [(0, 969)]), none, none, some (35, 1, 0, 0, 0, .null, []), some (3, 2, 5, 0, 0, .null, []), none],
  [some (20, 3, 3, 3, 0, .null, [(0, 970)]), none, none, some (35, 1, 0, 0, 0, .null, []), some (1, 2, 6, 0, 0, .null, []), none, some (15, 3, 158, 0, 0, .null, []), none, none, some (0, 2, 0, 0, 0, .int (-2), []), none, some (17, 3, 165, 0, 0, .null, []), none, none, some (3, 1, 0, 0, 0, .null, []), some (20, 3, 11, 4, 1, .null, [(0, 915)])],
  [none, none, some (20, 3, 4, 3, 0, .null, [(0, 968)]), none, none, some (35, 1, 0, 0, 0, .null, [])]]
/-- ColdShod.strokes(III)I -/
def zi_104 : List (List (Option zI)) := [[some (1, 1, 1, 0, 0, .null, []), some (32, 3, 135, 1, 45, .null, [(0, 939)]), none, none, some (15, 3, 23, 0, 0, .null, []), none, none, some (3, 1, 0, 0, 0, .null, []), some (20, 3, 11, 0, 1, .null, [(0, 907)]), none, none, some (1, 1, 2, 0, 0, .null, []), some (32, 3, 15, 2, 8, .null, [(0, 958)]), none, none, some (15, 3, 23, 0, 0, .null, [])],
  [none, none, some (1, 1, 3, 0, 0, .null, []), some (0, 1, 0, 0, 0, .int (-1), []), some (16, 3, 25, 3, 0, .null, []), none, none, some (0, 1, 0, 0, 0, .int (-1), []), some (35, 1, 0, 0, 0, .null, []), some (3, 1, 0, 0, 0, .null, []), some (20, 3, 11, 7, 1, .null, [(0, 922)]), none, none, some (1, 1, 1, 0, 0, .null, []), some (24, 1, 0, 0, 0, .null, []), some (32, 3, 140, 1, 45, .null, [(0, 962)])],
  [none, none, some (4, 2, 4, 0, 0, .null, []), none, some (1, 2, 4, 0, 0, .null, []), none, some (15, 3, 44, 0, 0, .null, []), none, none, some (1, 2, 4, 0, 0, .null, []), none, some (35, 1, 0, 0, 0, .null, []), some (3, 1, 0, 0, 0, .null, []), some (20, 3, 11, 4, 1, .null, [(0, 915)]), none, none],
  [some (3, 1, 0, 0, 0, .null, []), some (20, 3, 11, 7, 1, .null, [(0, 922)]), none, none, some (1, 1, 1, 0, 0, .null, []), some (24, 1, 0, 0, 0, .null, []), some (3, 1, 0, 0, 0, .null, []), some (20, 3, 11, 0, 1, .null, [(0, 907)]), none, none, some (20, 3, 2, 8, 0, .null, [(0, 963)]), none, none, some (32, 3, 48, 3, 16, .null, [(0, 964)]), none, none],
  [some (3, 1, 0, 0, 0, .null, []), some (20, 3, 11, 5, 1, .null, [(0, 917)]), none, none, some (3, 1, 0, 0, 0, .null, []), some (20, 3, 11, 4, 1, .null, [(0, 915)]), none, none, some (3, 1, 0, 0, 0, .null, []), some (20, 3, 11, 0, 1, .null, [(0, 907)]), none, none, some (20, 3, 2, 2, 1, .null, [(0, 934)]), none, none, some (1, 1, 2, 0, 0, .null, [])],
  [some (24, 1, 0, 0, 0, .null, []), some (3, 1, 0, 0, 0, .null, []), some (20, 3, 11, 0, 1, .null, [(0, 907)]), none, none, some (32, 3, 82, 4, 36, .null, [(0, 971)]), none, none, some (4, 2, 5, 0, 0, .null, []), none, some (1, 1, 3, 0, 0, .null, []), some (0, 1, 0, 0, 0, .int (-1), []), some (16, 3, 102, 0, 0, .null, []), none, none, some (1, 2, 5, 0, 0, .null, [])],
  [none, some (0, 2, 0, 0, 0, .int (-2), []), none, some (16, 3, 105, 1, 0, .null, []), none, none, some (1, 2, 5, 0, 0, .null, []), none, some (35, 1, 0, 0, 0, .null, []), some (1, 1, 3, 0, 0, .null, []), some (1, 2, 5, 0, 0, .null, []), none, some (16, 3, 123, 3, 0, .null, []), none, none, some (3, 1, 0, 0, 0, .null, [])],
  [some (20, 3, 11, 5, 1, .null, [(0, 917)]), none, none, some (20, 3, 9, 0, 1, .null, [(0, 972)]), none, none, some (1, 1, 3, 0, 0, .null, []), some (22, 1, 0, 0, 0, .null, []), some (17, 3, 125, 0, 0, .null, []), none, none, some (0, 2, 0, 0, 0, .int (-2), []), none, some (35, 1, 0, 0, 0, .null, [])]]
/-- ColdShod.way(III)I -/
def zi_105 : List (List (Option zI)) := [[some (3, 1, 0, 0, 0, .null, []), some (20, 3, 11, 0, 1, .null, [(0, 907)]), none, none, some (1, 1, 1, 0, 0, .null, []), some (32, 3, 15, 2, 8, .null, [(0, 958)]), none, none, some (15, 3, 24, 0, 0, .null, []), none, none, some (1, 1, 2, 0, 0, .null, []), some (32, 3, 138, 1, 45, .null, [(0, 937)]), none, none, some (15, 3, 24, 0, 0, .null, [])],
  [none, none, some (1, 1, 3, 0, 0, .null, []), some (0, 2, 0, 0, 0, .int (-2), []), none, some (16, 3, 26, 3, 0, .null, []), none, none, some (0, 1, 0, 0, 0, .int (-1), []), some (35, 1, 0, 0, 0, .null, []), some (3, 1, 0, 0, 0, .null, []), some (20, 3, 11, 6, 1, .null, [(0, 920)]), none, none, some (3, 1, 0, 0, 0, .null, []), some (20, 3, 11, 0, 1, .null, [(0, 907)])],
  [none, none, some (3, 1, 0, 0, 0, .null, []), some (20, 3, 11, 0, 1, .null, [(0, 907)]), none, none, some (20, 3, 2, 2, 1, .null, [(0, 934)]), none, none, some (1, 1, 1, 0, 0, .null, []), some (24, 1, 0, 0, 0, .null, []), some (1, 1, 2, 0, 0, .null, []), some (0, 2, 0, 0, 0, .int 10, []), none, some (8, 1, 0, 0, 0, .null, []), some (1, 1, 2, 0, 0, .null, [])],
  [some (0, 2, 0, 0, 0, .int 10, []), none, some (8, 1, 0, 1, 0, .null, []), some (32, 3, 89, 5, 40, .null, [(0, 973)]), none, none, some (3, 1, 0, 0, 0, .null, []), some (20, 3, 11, 6, 1, .null, [(0, 920)]), none, none, some (20, 3, 10, 1, 0, .null, [(0, 974)]), none, none, some (0, 2, 0, 0, 0, .int (-2), []), none, some (16, 3, 77, 0, 0, .null, [])],
  [none, none, some (1, 1, 3, 0, 0, .null, []), some (3, 1, 0, 0, 0, .null, []), some (20, 3, 11, 6, 1, .null, [(0, 920)]), none, none, some (20, 3, 10, 1, 0, .null, [(0, 974)]), none, none, some (16, 3, 80, 2, 0, .null, []), none, none, some (0, 2, 0, 0, 0, .int (-2), []), none, some (35, 1, 0, 0, 0, .null, [])],
  [some (1, 1, 3, 0, 0, .null, []), some (0, 1, 0, 0, 0, .int (-1), []), some (16, 3, 93, 1, 0, .null, []), none, none, some (3, 1, 0, 0, 0, .null, []), some (20, 3, 11, 6, 1, .null, [(0, 920)]), none, none, some (20, 3, 10, 2, 0, .null, [(0, 975)]), none, none, some (35, 1, 0, 0, 0, .null, []), some (1, 1, 3, 0, 0, .null, []), some (0, 2, 0, 0, 0, .int (-2), []), none],
  [some (16, 3, 109, 1, 0, .null, []), none, none, some (3, 1, 0, 0, 0, .null, []), some (20, 3, 11, 6, 1, .null, [(0, 920)]), none, none, some (20, 3, 10, 1, 0, .null, [(0, 974)]), none, none, some (17, 3, 118, 0, 0, .null, []), none, none, some (3, 1, 0, 0, 0, .null, []), some (20, 3, 11, 6, 1, .null, [(0, 920)]), none],
  [none, some (20, 3, 10, 0, 1, .null, [(0, 976)]), none, none, some (1, 1, 3, 0, 0, .null, []), some (22, 1, 0, 0, 0, .null, []), some (35, 1, 0, 0, 0, .null, [])]]
/-- ColdShod.reach(II)I -/
def zi_106 : List (List (Option zI)) := [[some (3, 1, 0, 0, 0, .null, []), some (20, 3, 11, 0, 1, .null, [(0, 907)]), none, none, some (1, 1, 1, 0, 0, .null, []), some (32, 3, 15, 2, 8, .null, [(0, 958)]), none, none, some (15, 3, 19, 0, 0, .null, []), none, none, some (1, 1, 2, 0, 0, .null, []), some (10, 1, 0, 0, 0, .null, []), some (32, 3, 137, 1, 45, .null, [(0, 945)]), none, none],
  [some (15, 3, 21, 1, 0, .null, []), none, none, some (0, 1, 0, 0, 0, .int (-1), []), some (35, 1, 0, 0, 0, .null, []), some (3, 1, 0, 0, 0, .null, []), some (20, 3, 11, 0, 1, .null, [(0, 907)]), none, none, some (20, 3, 2, 2, 1, .null, [(0, 934)]), none, none, some (1, 1, 1, 0, 0, .null, []), some (24, 1, 0, 0, 0, .null, []), some (6, 1, 3, 0, 0, .null, []), some (0, 1, 0, 0, 0, .int 1, [])],
  [some (1, 1, 2, 0, 0, .null, []), some (7, 1, 0, 6, 0, .null, []), some (4, 2, 4, 0, 0, .null, []), none, some (0, 1, 0, 0, 0, .int 0, []), some (4, 2, 5, 0, 0, .null, []), none, some (1, 2, 5, 0, 0, .null, []), none, some (0, 2, 0, 0, 0, .int 8, []), none, some (16, 3, 126, 3, 0, .null, []), none, none, some (0, 1, 0, 0, 0, .int 0, []), some (4, 2, 6, 0, 0, .null, [])],
  [none, some (1, 2, 6, 0, 0, .null, []), none, some (3, 1, 0, 0, 0, .null, []), some (20, 3, 11, 0, 1, .null, [(0, 907)]), none, none, some (20, 3, 2, 8, 0, .null, [(0, 963)]), none, none, some (16, 3, 120, 3, 0, .null, []), none, none, some (3, 1, 0, 0, 0, .null, []), some (20, 3, 11, 0, 1, .null, [(0, 907)]), none],
  [none, some (20, 3, 2, 3, 1, .null, [(0, 960)]), none, none, some (1, 2, 6, 0, 0, .null, []), none, some (24, 1, 0, 0, 0, .null, []), some (6, 2, 7, 0, 0, .null, []), none, some (0, 1, 0, 0, 0, .int 1, []), some (3, 2, 7, 0, 0, .null, []), none, some (20, 3, 7, 0, 0, .null, [(0, 977)]), none, none, some (7, 1, 0, 6, 0, .null, [])],
  [some (0, 1, 0, 0, 0, .int 1, []), some (3, 2, 7, 0, 0, .null, []), none, some (20, 3, 7, 1, 0, .null, [(0, 978)]), none, none, some (7, 1, 0, 6, 0, .null, []), some (7, 1, 0, 4, 0, .null, []), some (4, 2, 8, 0, 0, .null, []), none, some (3, 1, 3, 0, 0, .null, []), some (3, 2, 7, 0, 0, .null, []), none, some (32, 3, 39, 2, 12, .null, [(0, 979)]), none, none],
  [some (15, 3, 114, 0, 0, .null, []), none, none, some (1, 2, 4, 0, 0, .null, []), none, some (1, 2, 8, 0, 0, .null, []), none, some (7, 1, 0, 3, 0, .null, []), some (15, 3, 114, 0, 0, .null, []), none, none, some (1, 2, 4, 0, 0, .null, []), none, some (1, 2, 8, 0, 0, .null, []), none, some (7, 1, 0, 4, 0, .null, [])],
  [some (4, 2, 4, 0, 0, .null, []), none, some (19, 3, 6, 0, 0, .int 1, []), none, none, some (17, 3, 49, 0, 0, .null, []), none, none, some (19, 3, 5, 0, 0, .int 1, []), none, none, some (17, 3, 39, 0, 0, .null, []), none, none, some (1, 2, 4, 0, 0, .null, []), none],
  [some (35, 1, 0, 0, 0, .null, [])]]
/-- ColdShod.asks(I)I -/
def zi_107 : List (List (Option zI)) := [[some (3, 1, 0, 0, 0, .null, []), some (20, 3, 11, 0, 1, .null, [(0, 907)]), none, none, some (1, 1, 1, 0, 0, .null, []), some (32, 3, 14, 2, 8, .null, [(0, 980)]), none, none, some (15, 3, 13, 1, 0, .null, []), none, none, some (0, 1, 0, 0, 0, .int (-1), []), some (35, 1, 0, 0, 0, .null, []), some (3, 1, 0, 0, 0, .null, []), some (20, 3, 11, 0, 1, .null, [(0, 907)]), none],
  [none, some (32, 3, 25, 1, 8, .null, [(0, 981)]), none, none, some (3, 1, 0, 0, 0, .null, []), some (20, 3, 11, 0, 1, .null, [(0, 907)]), none, none, some (20, 3, 2, 4, 1, .null, [(0, 982)]), none, none, some (1, 1, 1, 0, 0, .null, []), some (22, 1, 0, 0, 0, .null, []), some (35, 1, 0, 0, 0, .null, [])]]
/-- ColdShod.settled()I -/
def zi_108 : List (List (Option zI)) := [[some (3, 1, 0, 0, 0, .null, []), some (20, 3, 11, 0, 1, .null, [(0, 907)]), none, none, some (32, 3, 30, 1, 8, .null, [(0, 983)]), none, none, some (15, 3, 14, 0, 0, .null, []), none, none, some (0, 1, 0, 0, 0, .int 1, []), some (17, 3, 15, 0, 0, .null, []), none, none, some (0, 1, 0, 0, 0, .int 0, []), some (35, 1, 0, 0, 0, .null, [])]]
/-- ColdShod.yokes(I)I -/
def zi_109 : List (List (Option zI)) := [[some (1, 1, 1, 0, 0, .null, []), some (15, 3, 9, 2, 0, .null, []), none, none, some (1, 1, 1, 0, 0, .null, []), some (0, 1, 0, 0, 0, .int 2, []), some (16, 3, 11, 5, 0, .null, []), none, none, some (0, 1, 0, 0, 0, .int (-1), []), some (35, 1, 0, 0, 0, .null, []), some (1, 1, 1, 0, 0, .null, []), some (15, 3, 23, 1, 0, .null, []), none, none, some (3, 1, 0, 0, 0, .null, [])],
  [some (20, 3, 11, 0, 1, .null, [(0, 907)]), none, none, some (32, 3, 31, 1, 8, .null, [(0, 984)]), none, none, some (35, 1, 0, 0, 0, .null, []), some (3, 1, 0, 0, 0, .null, []), some (20, 3, 11, 0, 1, .null, [(0, 907)]), none, none, some (32, 3, 32, 1, 8, .null, [(0, 985)]), none, none, some (4, 1, 2, 0, 0, .null, []), some (1, 1, 1, 0, 0, .null, [])],
  [some (0, 1, 0, 0, 0, .int 1, []), some (16, 3, 43, 1, 0, .null, []), none, none, some (1, 1, 2, 0, 0, .null, []), some (32, 3, 238, 1, 1, .null, [(0, 986)]), none, none, some (17, 3, 44, 0, 0, .null, []), none, none, some (1, 1, 2, 0, 0, .null, []), some (35, 1, 0, 0, 0, .null, [])]]
/-- ColdShod.judge(II)I -/
def zi_110 : List (List (Option zI)) := [[some (1, 1, 1, 0, 0, .null, []), some (32, 3, 136, 1, 45, .null, [(0, 987)]), none, none, some (15, 3, 18, 0, 0, .null, []), none, none, some (3, 1, 0, 0, 0, .null, []), some (20, 3, 11, 0, 1, .null, [(0, 907)]), none, none, some (1, 1, 2, 0, 0, .null, []), some (32, 3, 15, 2, 8, .null, [(0, 958)]), none, none, some (15, 3, 20, 1, 0, .null, [])],
  [none, none, some (0, 1, 0, 0, 0, .int (-1), []), some (35, 1, 0, 0, 0, .null, []), some (3, 1, 0, 0, 0, .null, []), some (1, 1, 1, 0, 0, .null, []), some (32, 3, 141, 2, 44, .null, [(0, 988)]), none, none, some (4, 1, 3, 0, 0, .null, []), some (1, 1, 3, 0, 0, .null, []), some (15, 3, 32, 0, 0, .null, []), none, none, some (1, 1, 3, 0, 0, .null, []), some (35, 1, 0, 0, 0, .null, [])],
  [some (3, 1, 0, 0, 0, .null, []), some (20, 3, 11, 4, 1, .null, [(0, 915)]), none, none, some (3, 1, 0, 0, 0, .null, []), some (20, 3, 11, 7, 1, .null, [(0, 922)]), none, none, some (1, 1, 1, 0, 0, .null, []), some (0, 2, 0, 0, 0, .int 10, []), none, some (8, 1, 0, 0, 0, .null, []), some (24, 1, 0, 0, 0, .null, []), some (3, 1, 0, 0, 0, .null, []), some (20, 3, 11, 0, 1, .null, [(0, 907)]), none],
  [none, some (20, 3, 2, 8, 0, .null, [(0, 963)]), none, none, some (32, 3, 48, 3, 16, .null, [(0, 964)]), none, none, some (3, 1, 0, 0, 0, .null, []), some (20, 3, 11, 4, 1, .null, [(0, 915)]), none, none, some (3, 1, 0, 0, 0, .null, []), some (1, 1, 2, 0, 0, .null, []), some (32, 3, 139, 2, 44, .null, [(0, 965)]), none, none],
  [some (3, 1, 0, 0, 0, .null, []), some (20, 3, 11, 7, 1, .null, [(0, 922)]), none, none, some (1, 1, 1, 0, 0, .null, []), some (0, 2, 0, 0, 0, .int 10, []), none, some (8, 1, 0, 1, 0, .null, []), some (24, 1, 0, 0, 0, .null, []), some (3, 1, 0, 0, 0, .null, []), some (20, 3, 11, 0, 1, .null, [(0, 907)]), none, none, some (32, 3, 51, 4, 16, .null, [(0, 989)]), none, none],
  [some (35, 1, 0, 0, 0, .null, [])]]
/-- ColdShod.edge(III)I -/
def zi_111 : List (List (Option zI)) := [[some (1, 1, 1, 0, 0, .null, []), some (32, 3, 136, 1, 45, .null, [(0, 987)]), none, none, some (15, 3, 27, 0, 0, .null, []), none, none, some (3, 1, 0, 0, 0, .null, []), some (20, 3, 11, 0, 1, .null, [(0, 907)]), none, none, some (1, 1, 2, 0, 0, .null, []), some (32, 3, 15, 2, 8, .null, [(0, 958)]), none, none, some (15, 3, 27, 0, 0, .null, [])],
  [none, none, some (1, 1, 3, 0, 0, .null, []), some (15, 3, 27, 2, 0, .null, []), none, none, some (1, 1, 3, 0, 0, .null, []), some (0, 1, 0, 0, 0, .int 1, []), some (16, 3, 29, 5, 0, .null, []), none, none, some (0, 1, 0, 0, 0, .int (-1), []), some (35, 1, 0, 0, 0, .null, []), some (3, 1, 0, 0, 0, .null, []), some (1, 1, 1, 0, 0, .null, []), some (32, 3, 141, 2, 44, .null, [(0, 988)])],
  [none, none, some (4, 2, 4, 0, 0, .null, []), none, some (1, 2, 4, 0, 0, .null, []), none, some (15, 3, 44, 0, 0, .null, []), none, none, some (1, 2, 4, 0, 0, .null, []), none, some (35, 1, 0, 0, 0, .null, []), some (3, 1, 0, 0, 0, .null, []), some (20, 3, 11, 4, 1, .null, [(0, 915)]), none, none],
  [some (3, 1, 0, 0, 0, .null, []), some (20, 3, 11, 7, 1, .null, [(0, 922)]), none, none, some (1, 1, 1, 0, 0, .null, []), some (0, 2, 0, 0, 0, .int 10, []), none, some (8, 1, 0, 0, 0, .null, []), some (24, 1, 0, 0, 0, .null, []), some (3, 1, 0, 0, 0, .null, []), some (20, 3, 11, 0, 1, .null, [(0, 907)]), none, none, some (20, 3, 2, 8, 0, .null, [(0, 963)]), none, none],
  [some (32, 3, 48, 3, 16, .null, [(0, 964)]), none, none, some (1, 1, 3, 0, 0, .null, []), some (15, 3, 75, 1, 0, .null, []), none, none, some (0, 1, 0, 0, 0, .int 3, []), some (17, 3, 76, 0, 0, .null, []), none, none, some (0, 1, 0, 0, 0, .int 5, []), some (4, 2, 5, 0, 0, .null, []), none, some (0, 1, 0, 0, 0, .int 0, []), some (4, 2, 6, 0, 0, .null, [])],
  [none, some (0, 1, 0, 0, 0, .int 0, []), some (4, 2, 7, 0, 0, .null, []), none, some (1, 2, 7, 0, 0, .null, []), none, some (1, 2, 5, 0, 0, .null, []), none, some (16, 3, 161, 4, 0, .null, []), none, none, some (3, 1, 0, 0, 0, .null, []), some (1, 1, 2, 0, 0, .null, []), some (32, 3, 139, 2, 44, .null, [(0, 965)]), none, none],
  [some (6, 2, 8, 0, 0, .null, []), none, some (1, 1, 3, 0, 0, .null, []), some (15, 3, 112, 1, 0, .null, []), none, none, some (3, 2, 8, 0, 0, .null, []), none, some (1, 2, 7, 0, 0, .null, []), none, some (21, 3, 3, 0, 0, .null, [(0, 935)]), none, none, some (17, 3, 119, 0, 0, .null, []), none, none],
  [some (3, 2, 8, 0, 0, .null, []), none, some (1, 2, 7, 0, 0, .null, []), none, some (21, 3, 3, 1, 0, .null, [(0, 936)]), none, none, some (3, 1, 0, 0, 0, .null, []), some (20, 3, 11, 4, 1, .null, [(0, 915)]), none, none, some (3, 2, 8, 0, 0, .null, []), none, some (3, 1, 0, 0, 0, .null, []), some (20, 3, 11, 7, 1, .null, [(0, 922)]), none],
  [none, some (1, 1, 1, 0, 0, .null, []), some (0, 2, 0, 0, 0, .int 10, []), none, some (8, 1, 0, 1, 0, .null, []), some (24, 1, 0, 0, 0, .null, []), some (3, 1, 0, 0, 0, .null, []), some (20, 3, 11, 0, 1, .null, [(0, 907)]), none, none, some (32, 3, 51, 4, 16, .null, [(0, 989)]), none, none, some (0, 2, 0, 0, 0, .int (-2), []), none, some (16, 3, 155, 1, 0, .null, [])],
  [none, none, some (1, 2, 6, 0, 0, .null, []), none, some (0, 1, 0, 0, 0, .int 1, []), some (1, 2, 7, 0, 0, .null, []), none, some (7, 1, 0, 6, 0, .null, []), some (7, 1, 0, 4, 0, .null, []), some (4, 2, 6, 0, 0, .null, []), none, some (19, 3, 7, 0, 0, .int 1, []), none, none, some (17, 3, 84, 0, 0, .null, []), none],
  [none, some (1, 2, 6, 0, 0, .null, []), none, some (35, 1, 0, 0, 0, .null, [])]]
/-- ColdShod.byTurns(III)I -/
def zi_112 : List (List (Option zI)) := [[some (3, 1, 0, 0, 0, .null, []), some (20, 3, 11, 0, 1, .null, [(0, 907)]), none, none, some (1, 1, 1, 0, 0, .null, []), some (32, 3, 15, 2, 8, .null, [(0, 958)]), none, none, some (15, 3, 30, 0, 0, .null, []), none, none, some (1, 1, 2, 0, 0, .null, []), some (0, 1, 0, 0, 0, .int 1, []), some (16, 3, 30, 2, 0, .null, []), none, none],
  [some (1, 1, 2, 0, 0, .null, []), some (0, 1, 0, 0, 0, .int 5, []), some (16, 3, 30, 4, 0, .null, []), none, none, some (1, 1, 3, 0, 0, .null, []), some (15, 3, 30, 2, 0, .null, []), none, none, some (1, 1, 3, 0, 0, .null, []), some (0, 1, 0, 0, 0, .int 1, []), some (16, 3, 32, 5, 0, .null, []), none, none, some (0, 1, 0, 0, 0, .int (-1), []), some (35, 1, 0, 0, 0, .null, [])],
  [some (3, 1, 0, 0, 0, .null, []), some (1, 1, 1, 0, 0, .null, []), some (32, 3, 139, 2, 44, .null, [(0, 965)]), none, none, some (42, 1, 0, 0, 0, .null, []), some (3, 1, 0, 0, 0, .null, []), some (0, 1, 0, 0, 0, .int 4, []), some (21, 3, 11, 13, 0, .null, [(0, 929)]), none, none, some (3, 1, 0, 0, 0, .null, []), some (0, 1, 0, 0, 0, .int 0, []), some (1, 1, 2, 0, 0, .null, []), some (32, 3, 113, 3, 44, .null, [(0, 990)]), none],
  [none, some (4, 2, 4, 0, 0, .null, []), none, some (1, 1, 3, 0, 0, .null, []), some (15, 3, 60, 1, 0, .null, []), none, none, some (1, 2, 4, 0, 0, .null, []), none, some (17, 3, 64, 0, 0, .null, []), none, none, some (3, 1, 0, 0, 0, .null, []), some (20, 3, 11, 13, 0, .null, [(0, 929)]), none, none],
  [some (35, 1, 0, 0, 0, .null, [])]]
/-- ColdShod.wornAtBest(II)I -/
def zi_113 : List (List (Option zI)) := [[some (1, 1, 1, 0, 0, .null, []), some (1, 1, 2, 0, 0, .null, []), some (16, 3, 16, 3, 0, .null, []), none, none, some (1, 1, 1, 0, 0, .null, []), some (0, 1, 0, 0, 0, .int 1, []), some (7, 1, 0, 0, 0, .null, []), some (3, 1, 0, 0, 0, .null, []), some (20, 3, 11, 8, 1, .null, [(0, 924)]), none, none, some (28, 1, 0, 0, 0, .null, []), some (16, 3, 26, 2, 0, .null, []), none, none],
  [some (3, 1, 0, 0, 0, .null, []), some (20, 3, 11, 8, 1, .null, [(0, 924)]), none, none, some (1, 1, 1, 0, 0, .null, []), some (24, 1, 0, 0, 0, .null, []), some (20, 3, 3, 2, 0, .null, [(0, 969)]), none, none, some (35, 1, 0, 0, 0, .null, []), some (1, 1, 1, 0, 0, .null, []), some (0, 1, 0, 0, 0, .int 2, []), some (8, 1, 0, 1, 0, .null, []), some (15, 3, 41, 1, 0, .null, []), none, none],
  [some (3, 1, 0, 0, 0, .null, []), some (1, 1, 1, 0, 0, .null, []), some (1, 1, 2, 0, 0, .null, []), some (32, 3, 114, 3, 44, .null, [(0, 991)]), none, none, some (17, 3, 47, 0, 0, .null, []), none, none, some (3, 1, 0, 0, 0, .null, []), some (1, 1, 1, 0, 0, .null, []), some (1, 1, 2, 0, 0, .null, []), some (32, 3, 115, 3, 44, .null, [(0, 992)]), none, none, some (35, 1, 0, 0, 0, .null, [])]]
/-- ColdShod.leastBySmith(II)I -/
def zi_114 : List (List (Option zI)) := [[some (0, 2, 0, 0, 0, .int 100, []), none, some (4, 1, 3, 0, 0, .null, []), some (0, 1, 0, 0, 0, .int 0, []), some (4, 2, 4, 0, 0, .null, []), none, some (1, 2, 4, 0, 0, .null, []), none, some (43, 3, 3, 0, 0, .null, [(0, 993)]), none, none, some (28, 1, 0, 0, 0, .null, []), some (16, 3, 87, 3, 0, .null, []), none, none, some (3, 1, 0, 0, 0, .null, [])],
  [some (20, 3, 11, 8, 1, .null, [(0, 924)]), none, none, some (1, 1, 1, 0, 0, .null, []), some (0, 1, 0, 0, 0, .int 1, []), some (7, 1, 0, 0, 0, .null, []), some (24, 1, 0, 0, 0, .null, []), some (6, 2, 5, 0, 0, .null, []), none, some (3, 2, 5, 0, 0, .null, []), none, some (3, 1, 0, 0, 0, .null, []), some (20, 3, 11, 8, 1, .null, [(0, 924)]), none, none, some (1, 1, 1, 0, 0, .null, [])],
  [some (24, 1, 0, 0, 0, .null, []), some (32, 3, 35, 2, 12, .null, [(0, 994)]), none, none, some (3, 2, 5, 0, 0, .null, []), none, some (43, 3, 3, 0, 0, .null, [(0, 993)]), none, none, some (1, 2, 4, 0, 0, .null, []), none, some (22, 1, 0, 0, 0, .null, []), some (32, 3, 43, 2, 12, .null, [(0, 995)]), none, none, some (42, 1, 0, 0, 0, .null, [])],
  [some (3, 1, 0, 0, 0, .null, []), some (1, 1, 1, 0, 0, .null, []), some (0, 1, 0, 0, 0, .int 1, []), some (7, 1, 0, 0, 0, .null, []), some (1, 1, 2, 0, 0, .null, []), some (32, 3, 113, 3, 44, .null, [(0, 990)]), none, none, some (4, 2, 6, 0, 0, .null, []), none, some (1, 2, 6, 0, 0, .null, []), none, some (1, 1, 3, 0, 0, .null, []), some (16, 3, 81, 3, 0, .null, []), none, none],
  [some (1, 2, 6, 0, 0, .null, []), none, some (4, 1, 3, 0, 0, .null, []), some (1, 1, 1, 0, 0, .null, []), some (15, 3, 81, 1, 0, .null, []), none, none, some (3, 1, 0, 0, 0, .null, []), some (43, 3, 3, 0, 0, .null, [(0, 993)]), none, none, some (1, 2, 4, 0, 0, .null, []), none, some (22, 1, 0, 0, 0, .null, []), some (21, 3, 11, 13, 0, .null, [(0, 929)]), none],
  [none, some (19, 3, 4, 0, 0, .int 1, []), none, none, some (17, 3, 6, 0, 0, .null, []), none, none, some (1, 1, 3, 0, 0, .null, []), some (35, 1, 0, 0, 0, .null, [])]]
/-- ColdShod.mostByKicker(II)I -/
def zi_115 : List (List (Option zI)) := [[some (0, 1, 0, 0, 0, .int 0, []), some (4, 1, 3, 0, 0, .null, []), some (0, 1, 0, 0, 0, .int 0, []), some (4, 2, 4, 0, 0, .null, []), none, some (1, 2, 4, 0, 0, .null, []), none, some (0, 1, 0, 0, 0, .int 3, []), some (16, 3, 75, 3, 0, .null, []), none, none, some (3, 1, 0, 0, 0, .null, []), some (20, 3, 11, 8, 1, .null, [(0, 924)]), none, none, some (1, 1, 1, 0, 0, .null, [])],
  [some (0, 1, 0, 0, 0, .int 1, []), some (7, 1, 0, 0, 0, .null, []), some (24, 1, 0, 0, 0, .null, []), some (6, 2, 5, 0, 0, .null, []), none, some (3, 2, 5, 0, 0, .null, []), none, some (3, 1, 0, 0, 0, .null, []), some (20, 3, 11, 8, 1, .null, [(0, 924)]), none, none, some (1, 1, 1, 0, 0, .null, []), some (24, 1, 0, 0, 0, .null, []), some (32, 3, 35, 2, 12, .null, [(0, 994)]), none, none],
  [some (1, 2, 4, 0, 0, .null, []), none, some (15, 3, 44, 1, 0, .null, []), none, none, some (3, 2, 5, 0, 0, .null, []), none, some (0, 2, 0, 0, 0, .int 7, []), none, some (32, 3, 41, 2, 12, .null, [(0, 996)]), none, none, some (1, 2, 4, 0, 0, .null, []), none, some (0, 1, 0, 0, 0, .int 1, []), some (16, 3, 56, 1, 0, .null, [])],
  [none, none, some (3, 2, 5, 0, 0, .null, []), none, some (0, 1, 0, 0, 0, .int 1, []), some (32, 3, 42, 2, 12, .null, [(0, 997)]), none, none, some (1, 1, 3, 0, 0, .null, []), some (3, 1, 0, 0, 0, .null, []), some (1, 1, 1, 0, 0, .null, []), some (0, 1, 0, 0, 0, .int 1, []), some (7, 1, 0, 0, 0, .null, []), some (1, 1, 2, 0, 0, .null, []), some (32, 3, 113, 3, 44, .null, [(0, 990)]), none],
  [none, some (31, 3, 0, 0, 0, .null, [(0, 998), (0, 783), (0, 784), (0, 777)]), none, none, some (4, 1, 3, 0, 0, .null, []), some (19, 3, 4, 0, 0, .int 1, []), none, none, some (17, 3, 5, 0, 0, .null, []), none, none, some (1, 1, 3, 0, 0, .null, []), some (35, 1, 0, 0, 0, .null, [])]]
/-- ColdShod.drawn(IIII)I -/
def zi_116 : List (List (Option zI)) := [[some (1, 1, 2, 0, 0, .null, []), some (0, 2, 0, 0, 0, .int 100, []), none, some (8, 1, 0, 0, 0, .null, []), some (4, 2, 5, 0, 0, .null, []), none, some (1, 1, 2, 0, 0, .null, []), some (0, 2, 0, 0, 0, .int 100, []), none, some (8, 1, 0, 1, 0, .null, []), some (4, 2, 6, 0, 0, .null, []), none, some (1, 2, 5, 0, 0, .null, []), none, some (0, 1, 0, 0, 0, .int 1, []), some (16, 3, 38, 2, 0, .null, [])],
  [none, none, some (1, 2, 5, 0, 0, .null, []), none, some (0, 2, 0, 0, 0, .int 30, []), none, some (16, 3, 38, 4, 0, .null, []), none, none, some (1, 2, 6, 0, 0, .null, []), none, some (0, 1, 0, 0, 0, .int 1, []), some (16, 3, 38, 2, 0, .null, []), none, none, some (1, 2, 6, 0, 0, .null, [])],
  [none, some (0, 2, 0, 0, 0, .int 40, []), none, some (16, 3, 40, 5, 0, .null, []), none, none, some (0, 1, 0, 0, 0, .int (-1), []), some (35, 1, 0, 0, 0, .null, []), some (3, 1, 0, 0, 0, .null, []), some (20, 3, 11, 0, 1, .null, [(0, 907)]), none, none, some (1, 1, 3, 0, 0, .null, []), some (32, 3, 15, 2, 8, .null, [(0, 958)]), none, none],
  [some (15, 3, 62, 0, 0, .null, []), none, none, some (1, 2, 4, 0, 0, .null, []), none, some (15, 3, 62, 2, 0, .null, []), none, none, some (1, 2, 4, 0, 0, .null, []), none, some (0, 1, 0, 0, 0, .int 1, []), some (16, 3, 64, 5, 0, .null, []), none, none, some (0, 1, 0, 0, 0, .int (-1), []), some (35, 1, 0, 0, 0, .null, [])],
  [some (1, 1, 1, 0, 0, .null, []), some (4, 2, 7, 0, 0, .null, []), none, some (0, 1, 0, 0, 0, .int 0, []), some (4, 2, 8, 0, 0, .null, []), none, some (0, 1, 0, 0, 0, .int 0, []), some (4, 2, 9, 0, 0, .null, []), none, some (3, 1, 0, 0, 0, .null, []), some (20, 3, 11, 0, 1, .null, [(0, 907)]), none, none, some (3, 1, 0, 0, 0, .null, []), some (20, 3, 11, 0, 1, .null, [(0, 907)]), none],
  [none, some (20, 3, 2, 2, 1, .null, [(0, 934)]), none, none, some (1, 1, 3, 0, 0, .null, []), some (24, 1, 0, 0, 0, .null, []), some (32, 3, 22, 2, 8, .null, [(0, 999)]), none, none, some (4, 2, 10, 0, 0, .null, []), none, some (0, 1, 0, 0, 0, .int 0, []), some (4, 2, 11, 0, 0, .null, []), none, some (1, 2, 11, 0, 0, .null, []), none],
  [some (1, 2, 5, 0, 0, .null, []), none, some (16, 3, 218, 3, 0, .null, []), none, none, some (3, 1, 0, 0, 0, .null, []), some (1, 1, 3, 0, 0, .null, []), some (32, 3, 139, 2, 44, .null, [(0, 965)]), none, none, some (6, 2, 12, 0, 0, .null, []), none, some (0, 1, 0, 0, 0, .int 0, []), some (4, 2, 13, 0, 0, .null, []), none, some (1, 2, 13, 0, 0, .null, [])],
  [none, some (1, 2, 6, 0, 0, .null, []), none, some (16, 3, 201, 3, 0, .null, []), none, none, some (3, 1, 0, 0, 0, .null, []), some (20, 3, 11, 0, 1, .null, [(0, 907)]), none, none, some (20, 3, 2, 8, 0, .null, [(0, 963)]), none, none, some (15, 3, 201, 5, 0, .null, []), none, none],
  [some (1, 2, 7, 0, 0, .null, []), none, some (0, 3, 0, 0, 0, .int 1103515245, [(0, 1000)]), none, none, some (7, 1, 0, 2, 0, .null, []), some (0, 3, 0, 0, 0, .int 12345, []), none, none, some (7, 1, 0, 0, 0, .null, []), some (4, 2, 7, 0, 0, .null, []), none, some (1, 2, 7, 0, 0, .null, []), none, some (0, 2, 0, 0, 0, .int 16, []), none],
  [some (7, 1, 0, 8, 0, .null, []), some (0, 2, 0, 0, 0, .int 12, []), none, some (8, 1, 0, 1, 0, .null, []), some (1, 2, 10, 0, 0, .null, []), none, some (16, 3, 160, 3, 0, .null, []), none, none, some (3, 2, 12, 0, 0, .null, []), none, some (0, 1, 0, 0, 0, .int 3, []), some (32, 3, 43, 2, 12, .null, [(0, 995)]), none, none, some (42, 1, 0, 0, 0, .null, [])],
  [some (1, 2, 8, 0, 0, .null, []), none, some (3, 1, 0, 0, 0, .null, []), some (20, 3, 11, 0, 1, .null, [(0, 907)]), none, none, some (3, 2, 12, 0, 0, .null, []), none, some (3, 1, 0, 0, 0, .null, []), some (20, 3, 11, 0, 1, .null, [(0, 907)]), none, none, some (20, 3, 2, 3, 1, .null, [(0, 960)]), none, none, some (1, 2, 7, 0, 0, .null, [])],
  [none, some (0, 2, 0, 0, 0, .int 8, []), none, some (7, 1, 0, 8, 0, .null, []), some (3, 1, 0, 0, 0, .null, []), some (20, 3, 11, 0, 1, .null, [(0, 907)]), none, none, some (20, 3, 2, 8, 0, .null, [(0, 963)]), none, none, some (8, 1, 0, 1, 0, .null, []), some (24, 1, 0, 0, 0, .null, []), some (32, 3, 24, 3, 8, .null, [(0, 1001)]), none, none],
  [some (7, 1, 0, 0, 0, .null, []), some (4, 2, 8, 0, 0, .null, []), none, some (19, 3, 13, 0, 0, .int 1, []), none, none, some (17, 3, 111, 0, 0, .null, []), none, none, some (3, 2, 12, 0, 0, .null, []), none, some (32, 3, 38, 1, 12, .null, [(0, 1002)]), none, none, some (15, 3, 212, 0, 0, .null, []), none],
  [none, some (19, 3, 9, 0, 0, .int 1, []), none, none, some (19, 3, 11, 0, 0, .int 1, []), none, none, some (17, 3, 94, 0, 0, .null, []), none, none, some (1, 2, 4, 0, 0, .null, []), none, some (15, 3, 228, 1, 0, .null, []), none, none, some (1, 2, 8, 0, 0, .null, [])],
  [none, some (17, 3, 230, 0, 0, .null, []), none, none, some (1, 2, 9, 0, 0, .null, []), none, some (35, 1, 0, 0, 0, .null, [])]]
/-- ColdShod.stroke(II)I -/
def zi_117 : List (List (Option zI)) := [[some (3, 1, 0, 0, 0, .null, []), some (20, 3, 11, 0, 1, .null, [(0, 907)]), none, none, some (1, 1, 1, 0, 0, .null, []), some (32, 3, 15, 2, 8, .null, [(0, 958)]), none, none, some (15, 3, 20, 0, 0, .null, []), none, none, some (1, 1, 2, 0, 0, .null, []), some (15, 3, 20, 2, 0, .null, []), none, none, some (1, 1, 2, 0, 0, .null, [])],
  [some (0, 1, 0, 0, 0, .int 3, []), some (16, 3, 22, 5, 0, .null, []), none, none, some (0, 1, 0, 0, 0, .int (-1), []), some (35, 1, 0, 0, 0, .null, []), some (3, 1, 0, 0, 0, .null, []), some (20, 3, 11, 0, 1, .null, [(0, 907)]), none, none, some (20, 3, 2, 2, 1, .null, [(0, 934)]), none, none, some (1, 1, 1, 0, 0, .null, []), some (24, 1, 0, 0, 0, .null, []), some (1, 1, 2, 0, 0, .null, [])],
  [some (32, 3, 43, 2, 12, .null, [(0, 995)]), none, none, some (4, 1, 3, 0, 0, .null, []), some (3, 1, 0, 0, 0, .null, []), some (20, 3, 11, 9, 1, .null, [(0, 925)]), none, none, some (1, 1, 3, 0, 0, .null, []), some (15, 3, 48, 0, 0, .null, []), none, none, some (0, 1, 0, 0, 0, .int 0, []), some (17, 3, 49, 0, 0, .null, []), none, none],
  [some (0, 1, 0, 0, 0, .int 1, []), some (41, 1, 0, 0, 0, .null, []), some (22, 1, 0, 0, 0, .null, []), some (0, 1, 0, 0, 0, .int 1, []), some (7, 1, 0, 0, 0, .null, []), some (25, 1, 0, 0, 0, .null, []), some (1, 1, 3, 0, 0, .null, []), some (15, 3, 62, 0, 0, .null, []), none, none, some (0, 1, 0, 0, 0, .int 1, []), some (17, 3, 63, 0, 0, .null, []), none, none, some (0, 1, 0, 0, 0, .int 0, []), some (35, 1, 0, 0, 0, .null, [])]]
/-- ColdShod.goes(II)I -/
def zi_118 : List (List (Option zI)) := [[some (3, 1, 0, 0, 0, .null, []), some (20, 3, 11, 0, 1, .null, [(0, 907)]), none, none, some (1, 1, 1, 0, 0, .null, []), some (32, 3, 15, 2, 8, .null, [(0, 958)]), none, none, some (15, 3, 22, 0, 0, .null, []), none, none, some (3, 1, 0, 0, 0, .null, []), some (20, 3, 11, 0, 1, .null, [(0, 907)]), none, none, some (1, 1, 2, 0, 0, .null, [])],
  [some (32, 3, 16, 2, 8, .null, [(0, 959)]), none, none, some (15, 3, 24, 1, 0, .null, []), none, none, some (0, 1, 0, 0, 0, .int (-1), []), some (35, 1, 0, 0, 0, .null, []), some (3, 1, 0, 0, 0, .null, []), some (20, 3, 11, 0, 1, .null, [(0, 907)]), none, none, some (20, 3, 2, 2, 1, .null, [(0, 934)]), none, none, some (1, 1, 1, 0, 0, .null, [])],
  [some (24, 1, 0, 0, 0, .null, []), some (6, 1, 3, 0, 0, .null, []), some (3, 1, 0, 0, 0, .null, []), some (20, 3, 11, 0, 1, .null, [(0, 907)]), none, none, some (20, 3, 2, 3, 1, .null, [(0, 960)]), none, none, some (1, 1, 2, 0, 0, .null, []), some (24, 1, 0, 0, 0, .null, []), some (6, 2, 4, 0, 0, .null, []), none, some (3, 1, 3, 0, 0, .null, []), some (3, 2, 4, 0, 0, .null, []), none],
  [some (32, 3, 40, 2, 12, .null, [(0, 1003)]), none, none, some (15, 3, 57, 1, 0, .null, []), none, none, some (0, 2, 0, 0, 0, .int (-5), []), none, some (35, 1, 0, 0, 0, .null, []), some (3, 1, 0, 0, 0, .null, []), some (20, 3, 11, 0, 1, .null, [(0, 907)]), none, none, some (3, 1, 3, 0, 0, .null, []), some (3, 2, 4, 0, 0, .null, []), none],
  [some (32, 3, 24, 3, 8, .null, [(0, 1001)]), none, none, some (4, 2, 5, 0, 0, .null, []), none, some (3, 1, 0, 0, 0, .null, []), some (20, 3, 11, 9, 1, .null, [(0, 925)]), none, none, some (0, 1, 0, 0, 0, .int 3, []), some (41, 1, 0, 0, 0, .null, []), some (22, 1, 0, 0, 0, .null, []), some (1, 2, 5, 0, 0, .null, []), none, some (7, 1, 0, 0, 0, .null, []), some (25, 1, 0, 0, 0, .null, [])],
  [some (1, 2, 5, 0, 0, .null, []), none, some (3, 2, 4, 0, 0, .null, []), none, some (20, 3, 7, 2, 0, .null, [(0, 1004)]), none, none, some (16, 3, 100, 1, 0, .null, []), none, none, some (3, 1, 0, 0, 0, .null, []), some (20, 3, 11, 9, 1, .null, [(0, 925)]), none, none, some (0, 1, 0, 0, 0, .int 2, []), some (41, 1, 0, 0, 0, .null, [])],
  [some (22, 1, 0, 0, 0, .null, []), some (0, 1, 0, 0, 0, .int 1, []), some (7, 1, 0, 0, 0, .null, []), some (25, 1, 0, 0, 0, .null, []), some (3, 1, 3, 0, 0, .null, []), some (32, 3, 38, 1, 12, .null, [(0, 1002)]), none, none, some (15, 3, 117, 0, 0, .null, []), none, none, some (3, 1, 0, 0, 0, .null, []), some (20, 3, 11, 9, 1, .null, [(0, 925)]), none, none, some (0, 1, 0, 0, 0, .int 4, [])],
  [some (41, 1, 0, 0, 0, .null, []), some (22, 1, 0, 0, 0, .null, []), some (0, 1, 0, 0, 0, .int 1, []), some (7, 1, 0, 0, 0, .null, []), some (25, 1, 0, 0, 0, .null, []), some (1, 2, 5, 0, 0, .null, []), none, some (35, 1, 0, 0, 0, .null, [])]]
/-- ColdShod.deal()I -/
def zi_119 : List (List (Option zI)) := [[some (3, 1, 0, 0, 0, .null, []), some (20, 3, 11, 0, 1, .null, [(0, 907)]), none, none, some (32, 3, 25, 1, 8, .null, [(0, 981)]), none, none, some (0, 1, 0, 0, 0, .int 0, []), some (4, 1, 1, 0, 0, .null, []), some (1, 1, 1, 0, 0, .null, []), some (3, 1, 0, 0, 0, .null, []), some (20, 3, 11, 0, 1, .null, [(0, 907)]), none, none, some (20, 3, 2, 7, 0, .null, [(0, 933)]), none],
  [none, some (16, 3, 39, 3, 0, .null, []), none, none, some (3, 1, 0, 0, 0, .null, []), some (20, 3, 11, 0, 1, .null, [(0, 907)]), none, none, some (20, 3, 2, 2, 1, .null, [(0, 934)]), none, none, some (1, 1, 1, 0, 0, .null, []), some (24, 1, 0, 0, 0, .null, []), some (0, 1, 0, 0, 0, .int (-1), []), some (21, 3, 3, 6, 0, .null, [(0, 1005)]), none],
  [none, some (19, 3, 1, 0, 0, .int 1, []), none, none, some (17, 3, 9, 0, 0, .null, []), none, none, some (0, 1, 0, 0, 0, .int 0, []), some (4, 1, 1, 0, 0, .null, []), some (0, 1, 0, 0, 0, .int 0, []), some (4, 1, 2, 0, 0, .null, []), some (1, 1, 2, 0, 0, .null, []), some (3, 1, 0, 0, 0, .null, []), some (20, 3, 11, 0, 1, .null, [(0, 907)]), none, none],
  [some (20, 3, 2, 6, 0, .null, [(0, 930)]), none, none, some (16, 3, 106, 3, 0, .null, []), none, none, some (3, 1, 0, 0, 0, .null, []), some (20, 3, 11, 0, 1, .null, [(0, 907)]), none, none, some (3, 1, 0, 0, 0, .null, []), some (20, 3, 11, 0, 1, .null, [(0, 907)]), none, none, some (20, 3, 2, 4, 1, .null, [(0, 982)]), none],
  [none, some (1, 1, 2, 0, 0, .null, []), some (22, 1, 0, 0, 0, .null, []), some (32, 3, 15, 2, 8, .null, [(0, 958)]), none, none, some (15, 3, 76, 1, 0, .null, []), none, none, some (17, 3, 100, 0, 0, .null, []), none, none, some (3, 1, 0, 0, 0, .null, []), some (20, 3, 11, 0, 1, .null, [(0, 907)]), none, none],
  [some (20, 3, 2, 2, 1, .null, [(0, 934)]), none, none, some (3, 1, 0, 0, 0, .null, []), some (20, 3, 11, 0, 1, .null, [(0, 907)]), none, none, some (20, 3, 2, 4, 1, .null, [(0, 982)]), none, none, some (1, 1, 2, 0, 0, .null, []), some (22, 1, 0, 0, 0, .null, []), some (24, 1, 0, 0, 0, .null, []), some (1, 1, 2, 0, 0, .null, []), some (21, 3, 3, 6, 0, .null, [(0, 1005)]), none],
  [none, some (19, 3, 1, 0, 0, .int 1, []), none, none, some (19, 3, 2, 0, 0, .int 1, []), none, none, some (17, 3, 43, 0, 0, .null, []), none, none, some (1, 1, 1, 0, 0, .null, []), some (35, 1, 0, 0, 0, .null, [])]]
/-- ColdShod.led(I)I -/
def zi_120 : List (List (Option zI)) := [[some (1, 1, 1, 0, 0, .null, []), some (15, 3, 9, 2, 0, .null, []), none, none, some (1, 1, 1, 0, 0, .null, []), some (0, 1, 0, 0, 0, .int 5, []), some (16, 3, 13, 2, 0, .null, []), none, none, some (0, 1, 0, 0, 0, .int (-1), []), some (17, 3, 19, 0, 0, .null, []), none, none, some (3, 1, 0, 0, 0, .null, []), some (20, 3, 11, 9, 1, .null, [(0, 925)]), none],
  [none, some (1, 1, 1, 0, 0, .null, []), some (22, 1, 0, 0, 0, .null, []), some (35, 1, 0, 0, 0, .null, [])]]
/-- ColdShod.image()I -/
def zi_121 : List (List (Option zI)) := [[some (0, 1, 0, 0, 0, .int 0, []), some (4, 1, 1, 0, 0, .null, []), some (1, 1, 1, 0, 0, .null, []), some (3, 1, 0, 0, 0, .null, []), some (20, 3, 11, 0, 1, .null, [(0, 907)]), none, none, some (20, 3, 2, 7, 0, .null, [(0, 933)]), none, none, some (16, 3, 37, 3, 0, .null, []), none, none, some (3, 1, 0, 0, 0, .null, []), some (20, 3, 11, 10, 1, .null, [(0, 926)]), none],
  [none, some (1, 1, 1, 0, 0, .null, []), some (24, 1, 0, 0, 0, .null, []), some (3, 1, 0, 0, 0, .null, []), some (20, 3, 11, 0, 1, .null, [(0, 907)]), none, none, some (20, 3, 2, 2, 1, .null, [(0, 934)]), none, none, some (1, 1, 1, 0, 0, .null, []), some (24, 1, 0, 0, 0, .null, []), some (32, 3, 35, 2, 12, .null, [(0, 994)]), none, none, some (19, 3, 1, 0, 0, .int 1, [])],
  [none, none, some (17, 3, 2, 0, 0, .null, []), none, none, some (3, 1, 0, 0, 0, .null, []), some (20, 3, 11, 9, 1, .null, [(0, 925)]), none, none, some (0, 1, 0, 0, 0, .int 0, []), some (3, 1, 0, 0, 0, .null, []), some (20, 3, 11, 11, 1, .null, [(0, 927)]), none, none, some (0, 1, 0, 0, 0, .int 0, []), some (0, 1, 0, 0, 0, .int 5, [])],
  [some (34, 3, 0, 0, 0, .null, [(0, 1006)]), none, none, some (3, 1, 0, 0, 0, .null, []), some (3, 1, 0, 0, 0, .null, []), some (20, 3, 11, 0, 1, .null, [(0, 907)]), none, none, some (20, 3, 2, 7, 0, .null, [(0, 933)]), none, none, some (21, 3, 11, 12, 0, .null, [(0, 928)]), none, none, some (3, 1, 0, 0, 0, .null, []), some (20, 3, 11, 9, 1, .null, [(0, 925)])],
  [none, none, some (0, 1, 0, 0, 0, .int 3, []), some (22, 1, 0, 0, 0, .null, []), some (35, 1, 0, 0, 0, .null, [])]]
/-- ColdShod.back()I -/
def zi_122 : List (List (Option zI)) := [[some (3, 1, 0, 0, 0, .null, []), some (20, 3, 11, 12, 0, .null, [(0, 928)]), none, none, some (0, 1, 0, 0, 0, .int (-1), []), some (16, 3, 11, 1, 0, .null, []), none, none, some (0, 2, 0, 0, 0, .int (-5), []), none, some (35, 1, 0, 0, 0, .null, []), some (0, 1, 0, 0, 0, .int 0, []), some (4, 1, 1, 0, 0, .null, []), some (1, 1, 1, 0, 0, .null, []), some (3, 1, 0, 0, 0, .null, []), some (20, 3, 11, 12, 0, .null, [(0, 928)])],
  [none, none, some (16, 3, 45, 3, 0, .null, []), none, none, some (3, 1, 0, 0, 0, .null, []), some (20, 3, 11, 0, 1, .null, [(0, 907)]), none, none, some (20, 3, 2, 2, 1, .null, [(0, 934)]), none, none, some (1, 1, 1, 0, 0, .null, []), some (24, 1, 0, 0, 0, .null, []), some (3, 1, 0, 0, 0, .null, []), some (20, 3, 11, 10, 1, .null, [(0, 926)])],
  [none, none, some (1, 1, 1, 0, 0, .null, []), some (24, 1, 0, 0, 0, .null, []), some (32, 3, 36, 2, 12, .null, [(0, 1007)]), none, none, some (19, 3, 1, 0, 0, .int 1, []), none, none, some (17, 3, 13, 0, 0, .null, []), none, none, some (3, 1, 0, 0, 0, .null, []), some (20, 3, 11, 11, 1, .null, [(0, 927)]), none],
  [none, some (0, 1, 0, 0, 0, .int 0, []), some (3, 1, 0, 0, 0, .null, []), some (20, 3, 11, 9, 1, .null, [(0, 925)]), none, none, some (0, 1, 0, 0, 0, .int 0, []), some (0, 1, 0, 0, 0, .int 5, []), some (34, 3, 0, 0, 0, .null, [(0, 1006)]), none, none, some (3, 1, 0, 0, 0, .null, []), some (20, 3, 11, 9, 1, .null, [(0, 925)]), none, none, some (0, 1, 0, 0, 0, .int 3, [])],
  [some (22, 1, 0, 0, 0, .null, []), some (35, 1, 0, 0, 0, .null, [])]]
/-- ColdShod.undo()I -/
def zi_123 : List (List (Option zI)) := [[some (3, 1, 0, 0, 0, .null, []), some (20, 3, 11, 2, 1, .null, [(0, 911)]), none, none, some (20, 3, 1, 0, 0, .null, [(0, 1008)]), none, none, some (15, 3, 13, 1, 0, .null, []), none, none, some (0, 2, 0, 0, 0, .int (-5), []), none, some (35, 1, 0, 0, 0, .null, []), some (3, 1, 0, 0, 0, .null, []), some (20, 3, 11, 2, 1, .null, [(0, 911)]), none],
  [none, some (3, 1, 0, 0, 0, .null, []), some (20, 3, 11, 0, 1, .null, [(0, 907)]), none, none, some (32, 3, 11, 2, 4, .null, [(0, 1009)]), none, none, some (3, 1, 0, 0, 0, .null, []), some (20, 3, 11, 2, 1, .null, [(0, 911)]), none, none, some (20, 3, 1, 0, 0, .null, [(0, 1008)]), none, none, some (35, 1, 0, 0, 0, .null, [])]]
/-- ColdShod.redo()I -/
def zi_124 : List (List (Option zI)) := [[some (3, 1, 0, 0, 0, .null, []), some (20, 3, 11, 2, 1, .null, [(0, 911)]), none, none, some (20, 3, 1, 1, 0, .null, [(0, 1010)]), none, none, some (15, 3, 13, 1, 0, .null, []), none, none, some (0, 2, 0, 0, 0, .int (-5), []), none, some (35, 1, 0, 0, 0, .null, []), some (3, 1, 0, 0, 0, .null, []), some (20, 3, 11, 2, 1, .null, [(0, 911)]), none],
  [none, some (3, 1, 0, 0, 0, .null, []), some (20, 3, 11, 0, 1, .null, [(0, 907)]), none, none, some (32, 3, 12, 2, 4, .null, [(0, 1011)]), none, none, some (3, 1, 0, 0, 0, .null, []), some (20, 3, 11, 2, 1, .null, [(0, 911)]), none, none, some (20, 3, 1, 1, 0, .null, [(0, 1010)]), none, none, some (35, 1, 0, 0, 0, .null, [])]]
/-- ColdShod.body(I)I -/
def zi_125 : List (List (Option zI)) := [[some (1, 1, 1, 0, 0, .null, []), some (15, 3, 10, 2, 0, .null, []), none, none, some (1, 1, 1, 0, 0, .null, []), some (0, 2, 0, 0, 0, .int 8, []), none, some (16, 3, 12, 2, 0, .null, []), none, none, some (0, 1, 0, 0, 0, .int (-1), []), some (35, 1, 0, 0, 0, .null, []), some (3, 1, 0, 0, 0, .null, []), some (20, 3, 11, 3, 1, .null, [(0, 913)]), none, none],
  [some (1, 1, 1, 0, 0, .null, []), some (32, 3, 2, 2, 0, .null, [(0, 1012)]), none, none, some (35, 1, 0, 0, 0, .null, [])]]
/-- ColdShod.act(III)I -/
def zi_126 : List (List (Option zI)) := [[some (3, 1, 0, 0, 0, .null, []), some (20, 3, 11, 3, 1, .null, [(0, 913)]), none, none, some (1, 1, 1, 0, 0, .null, []), some (1, 1, 2, 0, 0, .null, []), some (1, 1, 3, 0, 0, .null, []), some (32, 3, 5, 4, 0, .null, [(0, 1013)]), none, none, some (35, 1, 0, 0, 0, .null, [])]]
/-- ColdShod.trace(I)I -/
def zi_127 : List (List (Option zI)) := [[some (3, 1, 0, 0, 0, .null, []), some (20, 3, 11, 3, 1, .null, [(0, 913)]), none, none, some (1, 1, 1, 0, 0, .null, []), some (32, 3, 4, 2, 0, .null, [(0, 1014)]), none, none, some (35, 1, 0, 0, 0, .null, [])]]
/-- ColdShod.keep(II)I -/
def zi_128 : List (List (Option zI)) := [[some (1, 1, 1, 0, 0, .null, []), some (32, 3, 135, 1, 45, .null, [(0, 939)]), none, none, some (15, 3, 23, 0, 0, .null, []), none, none, some (1, 1, 2, 0, 0, .null, []), some (0, 1, 0, 0, 0, .int (-1), []), some (16, 3, 25, 0, 0, .null, []), none, none, some (3, 1, 0, 0, 0, .null, []), some (20, 3, 11, 3, 1, .null, [(0, 913)]), none, none],
  [some (1, 1, 2, 0, 0, .null, []), some (32, 3, 1, 2, 0, .null, [(0, 1015)]), none, none, some (15, 3, 25, 1, 0, .null, []), none, none, some (0, 1, 0, 0, 0, .int (-1), []), some (35, 1, 0, 0, 0, .null, []), some (1, 1, 2, 0, 0, .null, []), some (0, 1, 0, 0, 0, .int (-1), []), some (16, 3, 43, 1, 0, .null, []), none, none, some (3, 1, 0, 0, 0, .null, []), some (20, 3, 11, 7, 1, .null, [(0, 922)])],
  [none, none, some (1, 1, 1, 0, 0, .null, []), some (24, 1, 0, 0, 0, .null, []), some (0, 1, 0, 0, 0, .int 0, []), some (21, 3, 8, 0, 0, .null, [(0, 940)]), none, none, some (17, 3, 53, 0, 0, .null, []), none, none, some (3, 1, 0, 0, 0, .null, []), some (20, 3, 11, 7, 1, .null, [(0, 922)]), none, none, some (1, 1, 1, 0, 0, .null, [])],
  [some (24, 1, 0, 0, 0, .null, []), some (1, 1, 2, 0, 0, .null, []), some (32, 3, 76, 2, 32, .null, [(0, 1016)]), none, none, some (0, 1, 0, 0, 0, .int 1, []), some (35, 1, 0, 0, 0, .null, [])]]
/-- ColdShod.row(III)I -/
def zi_129 : List (List (Option zI)) := [[some (1, 1, 1, 0, 0, .null, []), some (32, 3, 135, 1, 45, .null, [(0, 939)]), none, none, some (15, 3, 22, 0, 0, .null, []), none, none, some (1, 1, 2, 0, 0, .null, []), some (15, 3, 22, 2, 0, .null, []), none, none, some (1, 1, 2, 0, 0, .null, []), some (0, 1, 0, 0, 0, .int 4, []), some (16, 3, 22, 4, 0, .null, []), none, none],
  [some (1, 1, 3, 0, 0, .null, []), some (0, 2, 0, 0, 0, .int 60, []), none, some (16, 3, 24, 5, 0, .null, []), none, none, some (0, 1, 0, 0, 0, .int (-1), []), some (35, 1, 0, 0, 0, .null, []), some (1, 1, 3, 0, 0, .null, []), some (15, 3, 31, 3, 0, .null, []), none, none, some (0, 2, 0, 0, 0, .int (-14), []), none, some (35, 1, 0, 0, 0, .null, []), some (3, 1, 0, 0, 0, .null, [])],
  [some (20, 3, 11, 7, 1, .null, [(0, 922)]), none, none, some (1, 1, 1, 0, 0, .null, []), some (24, 1, 0, 0, 0, .null, []), some (1, 1, 2, 0, 0, .null, []), some (1, 1, 3, 0, 0, .null, []), some (32, 3, 77, 3, 32, .null, [(0, 1017)]), none, none, some (0, 1, 0, 0, 0, .int 1, []), some (35, 1, 0, 0, 0, .null, [])]]
/-- ColdShod.put(IIJ)I -/
def zi_130 : List (List (Option zI)) := [[some (3, 1, 0, 0, 0, .null, []), some (1, 1, 1, 0, 0, .null, []), some (1, 1, 2, 0, 0, .null, []), some (32, 3, 142, 3, 44, .null, [(0, 1018)]), none, none, some (4, 2, 5, 0, 0, .null, []), none, some (1, 2, 5, 0, 0, .null, []), none, some (15, 3, 16, 0, 0, .null, []), none, none, some (1, 2, 5, 0, 0, .null, []), none, some (35, 1, 0, 0, 0, .null, [])],
  [some (3, 1, 0, 0, 0, .null, []), some (20, 3, 11, 7, 1, .null, [(0, 922)]), none, none, some (1, 1, 1, 0, 0, .null, []), some (24, 1, 0, 0, 0, .null, []), some (20, 3, 8, 4, 1, .null, [(0, 944)]), none, none, some (1, 1, 2, 0, 0, .null, []), some (3, 1, 0, 0, 0, .null, []), some (20, 3, 11, 7, 1, .null, [(0, 922)]), none, none, some (1, 1, 1, 0, 0, .null, []), some (24, 1, 0, 0, 0, .null, [])],
  [some (2, 1, 3, 0, 0, .null, []), some (32, 3, 80, 2, 32, .null, [(0, 1019)]), none, none, some (26, 1, 0, 0, 0, .null, []), some (0, 1, 0, 0, 0, .int 1, []), some (35, 1, 0, 0, 0, .null, [])]]
/-- ColdShod.element(II)J -/
def zi_131 : List (List (Option zI)) := [[some (3, 1, 0, 0, 0, .null, []), some (1, 1, 1, 0, 0, .null, []), some (1, 1, 2, 0, 0, .null, []), some (32, 3, 142, 3, 44, .null, [(0, 1018)]), none, none, some (15, 3, 15, 0, 0, .null, []), none, none, some (0, 3, 0, 0, 0, .long (-9223372036854775808), [(0, 1020)]), none, none, some (17, 3, 26, 0, 0, .null, []), none, none, some (3, 1, 0, 0, 0, .null, [])],
  [some (20, 3, 11, 7, 1, .null, [(0, 922)]), none, none, some (1, 1, 1, 0, 0, .null, []), some (24, 1, 0, 0, 0, .null, []), some (20, 3, 8, 4, 1, .null, [(0, 944)]), none, none, some (1, 1, 2, 0, 0, .null, []), some (23, 1, 0, 0, 0, .null, []), some (36, 1, 0, 0, 0, .null, [])]]
/-- ColdShod.shift(IIIII)I -/
def zi_132 : List (List (Option zI)) := [[some (1, 1, 1, 0, 0, .null, []), some (32, 3, 135, 1, 45, .null, [(0, 939)]), none, none, some (15, 3, 14, 0, 0, .null, []), none, none, some (1, 1, 3, 0, 0, .null, []), some (32, 3, 135, 1, 45, .null, [(0, 939)]), none, none, some (15, 3, 16, 1, 0, .null, []), none, none, some (0, 1, 0, 0, 0, .int (-1), []), some (35, 1, 0, 0, 0, .null, [])],
  [some (3, 1, 0, 0, 0, .null, []), some (20, 3, 11, 7, 1, .null, [(0, 922)]), none, none, some (1, 1, 1, 0, 0, .null, []), some (24, 1, 0, 0, 0, .null, []), some (6, 2, 6, 0, 0, .null, []), none, some (3, 1, 0, 0, 0, .null, []), some (20, 3, 11, 7, 1, .null, [(0, 922)]), none, none, some (1, 1, 3, 0, 0, .null, []), some (24, 1, 0, 0, 0, .null, []), some (6, 2, 7, 0, 0, .null, []), none],
  [some (3, 2, 6, 0, 0, .null, []), none, some (20, 3, 8, 0, 0, .null, [(0, 940)]), none, none, some (15, 3, 48, 0, 0, .null, []), none, none, some (3, 2, 7, 0, 0, .null, []), none, some (20, 3, 8, 0, 0, .null, [(0, 940)]), none, none, some (15, 3, 51, 1, 0, .null, []), none, none],
  [some (0, 2, 0, 0, 0, .int (-11), []), none, some (35, 1, 0, 0, 0, .null, []), some (3, 2, 6, 0, 0, .null, []), none, some (20, 3, 8, 0, 0, .null, [(0, 940)]), none, none, some (0, 1, 0, 0, 0, .int 2, []), some (16, 3, 82, 1, 0, .null, []), none, none, some (3, 2, 7, 0, 0, .null, []), none, some (20, 3, 8, 0, 0, .null, [(0, 940)]), none],
  [none, some (0, 1, 0, 0, 0, .int 2, []), some (16, 3, 82, 1, 0, .null, []), none, none, some (3, 2, 6, 0, 0, .null, []), none, some (20, 3, 8, 2, 0, .null, [(0, 1021)]), none, none, some (3, 2, 7, 0, 0, .null, []), none, some (20, 3, 8, 2, 0, .null, [(0, 1021)]), none, none, some (16, 3, 85, 0, 0, .null, [])],
  [none, none, some (0, 2, 0, 0, 0, .int (-12), []), none, some (35, 1, 0, 0, 0, .null, []), some (1, 2, 5, 0, 0, .null, []), none, some (15, 3, 113, 2, 0, .null, []), none, none, some (3, 2, 6, 0, 0, .null, []), none, some (1, 1, 2, 0, 0, .null, []), some (1, 2, 5, 0, 0, .null, []), none, some (32, 3, 79, 3, 32, .null, [(0, 1022)])],
  [none, none, some (15, 3, 113, 0, 0, .null, []), none, none, some (3, 2, 7, 0, 0, .null, []), none, some (1, 2, 4, 0, 0, .null, []), none, some (1, 2, 5, 0, 0, .null, []), none, some (32, 3, 79, 3, 32, .null, [(0, 1022)]), none, none, some (15, 3, 116, 1, 0, .null, []), none],
  [none, some (0, 2, 0, 0, 0, .int (-13), []), none, some (35, 1, 0, 0, 0, .null, []), some (3, 2, 6, 0, 0, .null, []), none, some (20, 3, 8, 4, 1, .null, [(0, 944)]), none, none, some (1, 1, 2, 0, 0, .null, []), some (3, 2, 7, 0, 0, .null, []), none, some (20, 3, 8, 4, 1, .null, [(0, 944)]), none, none, some (1, 2, 4, 0, 0, .null, [])],
  [none, some (1, 2, 5, 0, 0, .null, []), none, some (34, 3, 0, 0, 0, .null, [(0, 1006)]), none, none, some (1, 2, 5, 0, 0, .null, []), none, some (35, 1, 0, 0, 0, .null, [])]]
/-- ColdShod.taken(II)I -/
def zi_133 : List (List (Option zI)) := [[some (1, 1, 1, 0, 0, .null, []), some (32, 3, 135, 1, 45, .null, [(0, 939)]), none, none, some (15, 3, 17, 0, 0, .null, []), none, none, some (1, 1, 2, 0, 0, .null, []), some (15, 3, 17, 2, 0, .null, []), none, none, some (1, 1, 2, 0, 0, .null, []), some (0, 2, 0, 0, 0, .int 8, []), none, some (16, 3, 19, 2, 0, .null, []), none],
  [none, some (0, 1, 0, 0, 0, .int (-1), []), some (35, 1, 0, 0, 0, .null, []), some (3, 1, 0, 0, 0, .null, []), some (20, 3, 11, 7, 1, .null, [(0, 922)]), none, none, some (1, 1, 1, 0, 0, .null, []), some (24, 1, 0, 0, 0, .null, []), some (6, 1, 3, 0, 0, .null, []), some (3, 1, 3, 0, 0, .null, []), some (20, 3, 8, 0, 0, .null, [(0, 940)]), none, none, some (15, 3, 36, 1, 0, .null, []), none],
  [none, some (0, 2, 0, 0, 0, .int (-11), []), none, some (35, 1, 0, 0, 0, .null, []), some (3, 1, 3, 0, 0, .null, []), some (20, 3, 8, 0, 0, .null, [(0, 940)]), none, none, some (0, 1, 0, 0, 0, .int 1, []), some (16, 3, 58, 1, 0, .null, []), none, none, some (3, 1, 0, 0, 0, .null, []), some (20, 3, 11, 3, 1, .null, [(0, 913)]), none, none],
  [some (3, 1, 3, 0, 0, .null, []), some (20, 3, 8, 1, 0, .null, [(0, 1023)]), none, none, some (32, 3, 1, 2, 0, .null, [(0, 1015)]), none, none, some (15, 3, 61, 1, 0, .null, []), none, none, some (0, 2, 0, 0, 0, .int (-12), []), none, some (35, 1, 0, 0, 0, .null, []), some (3, 1, 0, 0, 0, .null, []), some (20, 3, 11, 3, 1, .null, [(0, 913)]), none],
  [none, some (20, 3, 0, 0, 1, .null, [(0, 1024)]), none, none, some (3, 1, 3, 0, 0, .null, []), some (20, 3, 8, 1, 0, .null, [(0, 1023)]), none, none, some (22, 1, 0, 0, 0, .null, []), some (4, 2, 4, 0, 0, .null, []), none, some (1, 2, 4, 0, 0, .null, []), none, some (1, 1, 2, 0, 0, .null, []), some (32, 3, 3, 2, 1, .null, [(0, 1025)]), none],
  [none, some (15, 3, 89, 0, 0, .null, []), none, none, some (1, 2, 4, 0, 0, .null, []), none, some (17, 3, 91, 0, 0, .null, []), none, none, some (0, 2, 0, 0, 0, .int (-12), []), none, some (35, 1, 0, 0, 0, .null, [])]]
/-- ColdShod.count(I)I -/
def zi_134 : List (List (Option zI)) := [[some (1, 1, 1, 0, 0, .null, []), some (18, 43, 100, 0, 0, .null, [(0, 44), (1, 52), (2, 60), (3, 68), (4, 76), (5, 84), (6, 92)]), none, none, none, none, none, none, none, none, none, none, none, none, none, none],
  [none, none, none, none, none, none, none, none, none, none, none, none, none, none, none, none],
  [none, none, none, none, none, none, none, none, none, none, none, none, some (3, 1, 0, 0, 0, .null, []), some (20, 3, 11, 0, 1, .null, [(0, 907)]), none, none],
  [some (20, 3, 2, 6, 0, .null, [(0, 930)]), none, none, some (35, 1, 0, 0, 0, .null, []), some (3, 1, 0, 0, 0, .null, []), some (20, 3, 11, 0, 1, .null, [(0, 907)]), none, none, some (20, 3, 2, 7, 0, .null, [(0, 933)]), none, none, some (35, 1, 0, 0, 0, .null, []), some (3, 1, 0, 0, 0, .null, []), some (20, 3, 11, 0, 1, .null, [(0, 907)]), none, none],
  [some (20, 3, 2, 8, 0, .null, [(0, 963)]), none, none, some (35, 1, 0, 0, 0, .null, []), some (3, 1, 0, 0, 0, .null, []), some (20, 3, 11, 1, 1, .null, [(0, 909)]), none, none, some (20, 3, 6, 1, 0, .null, [(0, 954)]), none, none, some (35, 1, 0, 0, 0, .null, []), some (3, 1, 0, 0, 0, .null, []), some (20, 3, 11, 2, 1, .null, [(0, 911)]), none, none],
  [some (20, 3, 1, 0, 0, .null, [(0, 1008)]), none, none, some (35, 1, 0, 0, 0, .null, []), some (3, 1, 0, 0, 0, .null, []), some (20, 3, 11, 3, 1, .null, [(0, 913)]), none, none, some (20, 3, 0, 1, 0, .null, [(0, 1026)]), none, none, some (35, 1, 0, 0, 0, .null, []), some (3, 1, 0, 0, 0, .null, []), some (20, 3, 11, 3, 1, .null, [(0, 913)]), none, none],
  [some (20, 3, 0, 2, 0, .null, [(0, 1027)]), none, none, some (35, 1, 0, 0, 0, .null, []), some (0, 1, 0, 0, 0, .int (-1), []), some (35, 1, 0, 0, 0, .null, [])]]
/-- ColdShod.isShelf(I)Z -/
def zi_135 : List (List (Option zI)) := [[some (1, 1, 0, 0, 0, .null, []), some (15, 3, 14, 2, 0, .null, []), none, none, some (1, 1, 0, 0, 0, .null, []), some (0, 2, 0, 0, 0, .int 6, []), none, some (16, 3, 14, 3, 0, .null, []), none, none, some (0, 1, 0, 0, 0, .int 1, []), some (17, 3, 15, 0, 0, .null, []), none, none, some (0, 1, 0, 0, 0, .int 0, []), some (35, 1, 0, 0, 1, .null, [])]]
/-- ColdShod.areShelves(I)Z -/
def zi_136 : List (List (Option zI)) := [[some (1, 1, 0, 0, 0, .null, []), some (15, 3, 28, 2, 0, .null, []), none, none, some (1, 1, 0, 0, 0, .null, []), some (0, 2, 0, 0, 0, .int 10, []), none, some (8, 1, 0, 0, 0, .null, []), some (32, 3, 135, 1, 45, .null, [(0, 939)]), none, none, some (15, 3, 28, 0, 0, .null, []), none, none, some (1, 1, 0, 0, 0, .null, []), some (0, 2, 0, 0, 0, .int 10, [])],
  [none, some (8, 1, 0, 1, 0, .null, []), some (32, 3, 135, 1, 45, .null, [(0, 939)]), none, none, some (15, 3, 28, 0, 0, .null, []), none, none, some (0, 1, 0, 0, 0, .int 1, []), some (17, 3, 29, 0, 0, .null, []), none, none, some (0, 1, 0, 0, 0, .int 0, []), some (35, 1, 0, 0, 1, .null, [])]]
/-- ColdShod.isPlace(J)Z -/
def zi_137 : List (List (Option zI)) := [[some (2, 1, 0, 0, 0, .null, []), some (0, 1, 0, 0, 0, .long 0, []), some (14, 1, 0, 0, 0, .null, []), some (15, 3, 18, 2, 0, .null, []), none, none, some (2, 1, 0, 0, 0, .null, []), some (0, 3, 0, 0, 0, .long 8, [(0, 1028)]), none, none, some (14, 1, 0, 0, 0, .null, []), some (15, 3, 18, 3, 0, .null, []), none, none, some (0, 1, 0, 0, 0, .int 1, []), some (17, 3, 19, 0, 0, .null, [])],
  [none, none, some (0, 1, 0, 0, 0, .int 0, []), some (35, 1, 0, 0, 1, .null, [])]]
/-- ColdShod.areUnlikePlaces(I)Z -/
def zi_138 : List (List (Option zI)) := [[some (1, 1, 0, 0, 0, .null, []), some (15, 3, 41, 2, 0, .null, []), none, none, some (1, 1, 0, 0, 0, .null, []), some (0, 2, 0, 0, 0, .int 10, []), none, some (8, 1, 0, 0, 0, .null, []), some (10, 1, 0, 0, 0, .null, []), some (32, 3, 137, 1, 45, .null, [(0, 945)]), none, none, some (15, 3, 41, 0, 0, .null, []), none, none, some (1, 1, 0, 0, 0, .null, [])],
  [some (0, 2, 0, 0, 0, .int 10, []), none, some (8, 1, 0, 1, 0, .null, []), some (10, 1, 0, 0, 0, .null, []), some (32, 3, 137, 1, 45, .null, [(0, 945)]), none, none, some (15, 3, 41, 0, 0, .null, []), none, none, some (1, 1, 0, 0, 0, .null, []), some (0, 2, 0, 0, 0, .int 10, []), none, some (8, 1, 0, 0, 0, .null, []), some (1, 1, 0, 0, 0, .null, []), some (0, 2, 0, 0, 0, .int 10, [])],
  [none, some (8, 1, 0, 1, 0, .null, []), some (16, 3, 41, 0, 0, .null, []), none, none, some (0, 1, 0, 0, 0, .int 1, []), some (17, 3, 42, 0, 0, .null, []), none, none, some (0, 1, 0, 0, 0, .int 0, []), some (35, 1, 0, 0, 1, .null, [])]]
/-- ColdShod.thoughtOf(I)LColdShod$Idea; -/
def zi_139 : List (List (Option zI)) := [[some (3, 1, 0, 0, 0, .null, []), some (20, 3, 11, 8, 1, .null, [(0, 924)]), none, none, some (0, 1, 0, 0, 0, .int 0, []), some (24, 1, 0, 0, 0, .null, []), some (3, 1, 0, 0, 0, .null, []), some (20, 3, 11, 0, 1, .null, [(0, 907)]), none, none, some (20, 3, 2, 2, 1, .null, [(0, 934)]), none, none, some (1, 1, 1, 0, 0, .null, []), some (24, 1, 0, 0, 0, .null, []), some (32, 3, 35, 2, 12, .null, [(0, 994)])],
  [none, none, some (3, 1, 0, 0, 0, .null, []), some (20, 3, 11, 8, 1, .null, [(0, 924)]), none, none, some (0, 1, 0, 0, 0, .int 0, []), some (24, 1, 0, 0, 0, .null, []), some (37, 1, 0, 0, 0, .null, [])]]
/-- ColdShod.refusalOfBytes(LColdShod$Shelf;)I -/
def zi_140 : List (List (Option zI)) := [[some (3, 1, 0, 0, 0, .null, []), some (20, 3, 8, 0, 0, .null, [(0, 940)]), none, none, some (15, 3, 10, 1, 0, .null, []), none, none, some (0, 2, 0, 0, 0, .int (-11), []), none, some (35, 1, 0, 0, 0, .null, []), some (3, 1, 0, 0, 0, .null, []), some (32, 3, 78, 1, 32, .null, [(0, 941)]), none, none, some (15, 3, 21, 0, 0, .null, []), none],
  [none, some (0, 1, 0, 0, 0, .int 0, []), some (17, 3, 23, 0, 0, .null, []), none, none, some (0, 2, 0, 0, 0, .int (-12), []), none, some (35, 1, 0, 0, 0, .null, [])]]
/-- ColdShod.refusalOfEdge(I)I -/
def zi_141 : List (List (Option zI)) := [[some (3, 1, 0, 0, 0, .null, []), some (20, 3, 11, 7, 1, .null, [(0, 922)]), none, none, some (1, 1, 1, 0, 0, .null, []), some (0, 2, 0, 0, 0, .int 10, []), none, some (8, 1, 0, 0, 0, .null, []), some (24, 1, 0, 0, 0, .null, []), some (32, 3, 140, 1, 45, .null, [(0, 962)]), none, none, some (4, 1, 2, 0, 0, .null, []), some (1, 1, 2, 0, 0, .null, []), some (15, 3, 21, 0, 0, .null, []), none],
  [none, some (1, 1, 2, 0, 0, .null, []), some (17, 3, 33, 0, 0, .null, []), none, none, some (3, 1, 0, 0, 0, .null, []), some (20, 3, 11, 7, 1, .null, [(0, 922)]), none, none, some (1, 1, 1, 0, 0, .null, []), some (0, 2, 0, 0, 0, .int 10, []), none, some (8, 1, 0, 1, 0, .null, []), some (24, 1, 0, 0, 0, .null, []), some (32, 3, 140, 1, 45, .null, [(0, 962)]), none],
  [none, some (35, 1, 0, 0, 0, .null, [])]]
/-- ColdShod.refusalOfElement(II)I -/
def zi_142 : List (List (Option zI)) := [[some (1, 1, 1, 0, 0, .null, []), some (32, 3, 135, 1, 45, .null, [(0, 939)]), none, none, some (15, 3, 9, 1, 0, .null, []), none, none, some (0, 1, 0, 0, 0, .int (-1), []), some (35, 1, 0, 0, 0, .null, []), some (3, 1, 0, 0, 0, .null, []), some (20, 3, 11, 7, 1, .null, [(0, 922)]), none, none, some (1, 1, 1, 0, 0, .null, []), some (24, 1, 0, 0, 0, .null, []), some (20, 3, 8, 0, 0, .null, [(0, 940)])],
  [none, none, some (15, 3, 24, 1, 0, .null, []), none, none, some (0, 2, 0, 0, 0, .int (-11), []), none, some (35, 1, 0, 0, 0, .null, []), some (3, 1, 0, 0, 0, .null, []), some (20, 3, 11, 7, 1, .null, [(0, 922)]), none, none, some (1, 1, 1, 0, 0, .null, []), some (24, 1, 0, 0, 0, .null, []), some (20, 3, 8, 0, 0, .null, [(0, 940)]), none],
  [none, some (0, 1, 0, 0, 0, .int 2, []), some (16, 3, 40, 0, 0, .null, []), none, none, some (0, 2, 0, 0, 0, .int (-12), []), none, some (35, 1, 0, 0, 0, .null, []), some (1, 1, 2, 0, 0, .null, []), some (15, 3, 57, 2, 0, .null, []), none, none, some (1, 1, 2, 0, 0, .null, []), some (3, 1, 0, 0, 0, .null, []), some (20, 3, 11, 7, 1, .null, [(0, 922)]), none],
  [none, some (1, 1, 1, 0, 0, .null, []), some (24, 1, 0, 0, 0, .null, []), some (20, 3, 8, 3, 0, .null, [(0, 942)]), none, none, some (16, 3, 62, 2, 0, .null, []), none, none, some (0, 2, 0, 0, 0, .int (-13), []), none, some (17, 3, 63, 0, 0, .null, []), none, none, some (0, 1, 0, 0, 0, .int 0, []), some (35, 1, 0, 0, 0, .null, [])]]
/-- ColdShodModel.within(JJJ)Z -/
def zi_143 : List (List (Option zI)) := [[some (2, 1, 0, 0, 0, .null, []), some (2, 1, 2, 0, 0, .null, []), some (14, 1, 0, 0, 0, .null, []), some (15, 3, 17, 2, 0, .null, []), none, none, some (2, 1, 0, 0, 0, .null, []), some (2, 2, 4, 0, 0, .null, []), none, some (14, 1, 0, 0, 0, .null, []), some (15, 3, 17, 4, 0, .null, []), none, none, some (0, 1, 0, 0, 0, .int 1, []), some (17, 3, 18, 0, 0, .null, []), none],
  [none, some (0, 1, 0, 0, 0, .int 0, []), some (35, 1, 0, 0, 1, .null, [])]]
/-- ColdShodModel.isIn(II)Z -/
def zi_144 : List (List (Option zI)) := [[some (1, 1, 0, 0, 0, .null, []), some (1, 1, 1, 0, 0, .null, []), some (7, 1, 0, 7, 0, .null, []), some (0, 1, 0, 0, 0, .int 1, []), some (7, 1, 0, 3, 0, .null, []), some (0, 1, 0, 0, 0, .int 1, []), some (16, 3, 13, 1, 0, .null, []), none, none, some (0, 1, 0, 0, 0, .int 1, []), some (17, 3, 14, 0, 0, .null, []), none, none, some (0, 1, 0, 0, 0, .int 0, []), some (35, 1, 0, 0, 1, .null, [])]]
/-- ColdShodModel.bitsOf(I)I -/
def zi_145 : List (List (Option zI)) := [[some (0, 1, 0, 0, 0, .int 0, []), some (4, 1, 1, 0, 0, .null, []), some (0, 1, 0, 0, 0, .int 0, []), some (4, 1, 2, 0, 0, .null, []), some (1, 1, 2, 0, 0, .null, []), some (0, 2, 0, 0, 0, .int 12, []), none, some (16, 3, 24, 3, 0, .null, []), none, none, some (1, 1, 1, 0, 0, .null, []), some (1, 1, 0, 0, 0, .null, []), some (1, 1, 2, 0, 0, .null, []), some (7, 1, 0, 7, 0, .null, []), some (0, 1, 0, 0, 0, .int 1, []), some (7, 1, 0, 3, 0, .null, [])],
  [some (7, 1, 0, 0, 0, .null, []), some (4, 1, 1, 0, 0, .null, []), some (19, 3, 2, 0, 0, .int 1, []), none, none, some (17, 3, 4, 0, 0, .null, []), none, none, some (1, 1, 1, 0, 0, .null, []), some (35, 1, 0, 0, 0, .null, [])]]
/-- ColdShodModel.sizeOf(I)I -/
def zi_146 : List (List (Option zI)) := [[some (1, 1, 0, 0, 0, .null, []), some (15, 3, 9, 3, 0, .null, []), none, none, some (1, 1, 0, 0, 0, .null, []), some (9, 1, 0, 0, 0, .null, []), some (17, 3, 10, 0, 0, .null, []), none, none, some (1, 1, 0, 0, 0, .null, []), some (35, 1, 0, 0, 0, .null, [])]]
/-- ColdShodModel.<init>()V -/
def zi_147 : List (List (Option zI)) := [[some (3, 1, 0, 0, 0, .null, []), some (33, 3, 0, 0, 0, .null, [(0, 1029)]), none, none, some (3, 1, 0, 0, 0, .null, []), some (0, 2, 0, 0, 0, .int 104, []), none, some (30, 2, 0, 0, 0, .null, [(0, 704)]), none, some (21, 3, 12, 0, 1, .null, [(0, 1030)]), none, none, some (3, 1, 0, 0, 0, .null, []), some (0, 2, 0, 0, 0, .int 40, []), none, some (30, 2, 0, 0, 0, .null, [(0, 704)])],
  [none, some (21, 3, 12, 1, 1, .null, [(0, 1031)]), none, none, some (3, 1, 0, 0, 0, .null, []), some (0, 2, 0, 0, 0, .int 40, []), none, some (30, 2, 0, 0, 0, .null, [(0, 704)]), none, some (21, 3, 12, 2, 1, .null, [(0, 1032)]), none, none, some (3, 1, 0, 0, 0, .null, []), some (0, 2, 0, 0, 0, .int 40, []), none, some (30, 2, 0, 0, 0, .null, [(0, 704)])],
  [none, some (21, 3, 12, 3, 1, .null, [(0, 1033)]), none, none, some (3, 1, 0, 0, 0, .null, []), some (0, 2, 0, 0, 0, .int 12, []), none, some (30, 2, 0, 0, 0, .null, [(0, 704)]), none, some (21, 3, 12, 9, 1, .null, [(0, 1034)]), none, none, some (3, 1, 0, 0, 0, .null, []), some (0, 2, 0, 0, 0, .int 12, []), none, some (30, 2, 0, 0, 0, .null, [(0, 704)])],
  [none, some (21, 3, 12, 10, 1, .null, [(0, 1035)]), none, none, some (3, 1, 0, 0, 0, .null, []), some (0, 2, 0, 0, 0, .int 120, []), none, some (30, 2, 0, 0, 0, .null, [(0, 704)]), none, some (21, 3, 12, 11, 1, .null, [(0, 1036)]), none, none, some (3, 1, 0, 0, 0, .null, []), some (0, 2, 0, 0, 0, .int 120, []), none, some (30, 2, 0, 0, 0, .null, [(0, 704)])],
  [none, some (21, 3, 12, 13, 1, .null, [(0, 1037)]), none, none, some (3, 1, 0, 0, 0, .null, []), some (0, 2, 0, 0, 0, .int 6, []), none, some (30, 2, 0, 0, 0, .null, [(0, 704)]), none, some (21, 3, 12, 20, 1, .null, [(0, 1038)]), none, none, some (3, 1, 0, 0, 0, .null, []), some (0, 2, 0, 0, 0, .int 7, []), none, some (30, 2, 0, 0, 0, .null, [(0, 704)])],
  [none, some (21, 3, 12, 21, 1, .null, [(0, 1039)]), none, none, some (3, 1, 0, 0, 0, .null, []), some (0, 1, 0, 0, 0, .int 4, []), some (30, 2, 0, 0, 0, .null, [(0, 704)]), none, some (21, 3, 12, 26, 1, .null, [(0, 1040)]), none, none, some (3, 1, 0, 0, 0, .null, []), some (0, 2, 0, 0, 0, .int 8, []), none, some (30, 2, 0, 0, 0, .null, [(0, 704)]), none],
  [some (21, 3, 12, 27, 1, .null, [(0, 1041)]), none, none, some (3, 1, 0, 0, 0, .null, []), some (0, 2, 0, 0, 0, .int 8, []), none, some (30, 2, 0, 0, 0, .null, [(0, 704)]), none, some (21, 3, 12, 28, 1, .null, [(0, 1042)]), none, none, some (3, 1, 0, 0, 0, .null, []), some (0, 2, 0, 0, 0, .int 8, []), none, some (30, 2, 0, 0, 0, .null, [(0, 704)]), none],
  [some (21, 3, 12, 31, 1, .null, [(0, 1043)]), none, none, some (3, 1, 0, 0, 0, .null, []), some (0, 2, 0, 0, 0, .int 6, []), none, some (30, 2, 0, 0, 0, .null, [(0, 704)]), none, some (21, 3, 12, 32, 1, .null, [(0, 1044)]), none, none, some (3, 1, 0, 0, 0, .null, []), some (0, 1, 0, 0, 0, .int 5, []), some (30, 2, 0, 0, 0, .null, [(0, 704)]), none, some (21, 3, 12, 33, 1, .null, [(0, 1045)])],
  [none, none, some (3, 1, 0, 0, 0, .null, []), some (0, 1, 0, 0, 0, .int 5, []), some (30, 2, 0, 0, 0, .null, [(0, 704)]), none, some (21, 3, 12, 34, 1, .null, [(0, 1046)]), none, none, some (3, 1, 0, 0, 0, .null, []), some (0, 2, 0, 0, 0, .int 104, []), none, some (30, 2, 0, 0, 0, .null, [(0, 704)]), none, some (21, 3, 12, 37, 1, .null, [(0, 1047)]), none],
  [none, some (3, 1, 0, 0, 0, .null, []), some (0, 1, 0, 0, 0, .int 5, []), some (30, 2, 0, 0, 0, .null, [(0, 704)]), none, some (21, 3, 12, 38, 1, .null, [(0, 1048)]), none, none, some (3, 1, 0, 0, 0, .null, []), some (0, 2, 0, 0, 0, .int 50, []), none, some (30, 2, 0, 0, 0, .null, [(0, 704)]), none, some (21, 3, 12, 40, 1, .null, [(0, 1049)]), none, none],
  [some (3, 1, 0, 0, 0, .null, []), some (0, 2, 0, 0, 0, .int 24, []), none, some (30, 2, 0, 0, 0, .null, [(0, 704)]), none, some (21, 3, 12, 41, 1, .null, [(0, 1050)]), none, none, some (3, 1, 0, 0, 0, .null, []), some (0, 2, 0, 0, 0, .int 6, []), none, some (30, 2, 0, 0, 0, .null, [(0, 704)]), none, some (21, 3, 12, 45, 1, .null, [(0, 1051)]), none, none],
  [some (3, 1, 0, 0, 0, .null, []), some (0, 2, 0, 0, 0, .int 6, []), none, some (30, 2, 0, 0, 0, .null, [(0, 704)]), none, some (21, 3, 12, 46, 1, .null, [(0, 1052)]), none, none, some (3, 1, 0, 0, 0, .null, []), some (0, 3, 0, 0, 0, .int 360, []), none, none, some (30, 2, 1, 0, 0, .null, [(0, 705)]), none, some (21, 3, 12, 47, 1, .null, [(0, 1053)]), none],
  [none, some (3, 1, 0, 0, 0, .null, []), some (0, 2, 0, 0, 0, .int 60, []), none, some (30, 2, 1, 0, 0, .null, [(0, 705)]), none, some (21, 3, 12, 48, 1, .null, [(0, 1054)]), none, none, some (0, 1, 0, 0, 0, .int 0, []), some (4, 1, 1, 0, 0, .null, []), some (1, 1, 1, 0, 0, .null, []), some (0, 2, 0, 0, 0, .int 6, []), none, some (16, 3, 222, 3, 0, .null, []), none],
  [none, some (3, 1, 0, 0, 0, .null, []), some (20, 3, 12, 45, 1, .null, [(0, 1051)]), none, none, some (1, 1, 1, 0, 0, .null, []), some (0, 1, 0, 0, 0, .int (-1), []), some (25, 1, 0, 0, 0, .null, []), some (19, 3, 1, 0, 0, .int 1, []), none, none, some (17, 3, 203, 0, 0, .null, []), none, none, some (3, 1, 0, 0, 0, .null, []), some (0, 1, 0, 0, 0, .int (-1), [])],
  [some (21, 3, 12, 14, 0, .null, [(0, 1055)]), none, none, some (38, 1, 0, 0, 0, .null, [])]]
/-- ColdShodModel.becomes(II)I -/
def zi_148 : List (List (Option zI)) := [[some (3, 1, 0, 0, 0, .null, []), some (20, 3, 12, 0, 1, .null, [(0, 1030)]), none, none, some (1, 1, 1, 0, 0, .null, []), some (22, 1, 0, 0, 0, .null, []), some (4, 1, 3, 0, 0, .null, []), some (1, 1, 3, 0, 0, .null, []), some (1, 1, 2, 0, 0, .null, []), some (16, 3, 14, 1, 0, .null, []), none, none, some (1, 1, 3, 0, 0, .null, []), some (35, 1, 0, 0, 0, .null, []), some (3, 1, 0, 0, 0, .null, []), some (20, 3, 12, 5, 0, .null, [(0, 1056)])],
  [none, none, some (0, 2, 0, 0, 0, .int 40, []), none, some (16, 3, 97, 1, 0, .null, []), none, none, some (0, 1, 0, 0, 0, .int 1, []), some (4, 2, 4, 0, 0, .null, []), none, some (1, 2, 4, 0, 0, .null, []), none, some (0, 2, 0, 0, 0, .int 40, []), none, some (16, 3, 87, 3, 0, .null, []), none],
  [none, some (3, 1, 0, 0, 0, .null, []), some (20, 3, 12, 1, 1, .null, [(0, 1031)]), none, none, some (1, 2, 4, 0, 0, .null, []), none, some (0, 1, 0, 0, 0, .int 1, []), some (7, 1, 0, 1, 0, .null, []), some (3, 1, 0, 0, 0, .null, []), some (20, 3, 12, 1, 1, .null, [(0, 1031)]), none, none, some (1, 2, 4, 0, 0, .null, []), none, some (22, 1, 0, 0, 0, .null, [])],
  [some (25, 1, 0, 0, 0, .null, []), some (3, 1, 0, 0, 0, .null, []), some (20, 3, 12, 2, 1, .null, [(0, 1032)]), none, none, some (1, 2, 4, 0, 0, .null, []), none, some (0, 1, 0, 0, 0, .int 1, []), some (7, 1, 0, 1, 0, .null, []), some (3, 1, 0, 0, 0, .null, []), some (20, 3, 12, 2, 1, .null, [(0, 1032)]), none, none, some (1, 2, 4, 0, 0, .null, []), none, some (22, 1, 0, 0, 0, .null, [])],
  [some (25, 1, 0, 0, 0, .null, []), some (3, 1, 0, 0, 0, .null, []), some (20, 3, 12, 3, 1, .null, [(0, 1033)]), none, none, some (1, 2, 4, 0, 0, .null, []), none, some (0, 1, 0, 0, 0, .int 1, []), some (7, 1, 0, 1, 0, .null, []), some (3, 1, 0, 0, 0, .null, []), some (20, 3, 12, 3, 1, .null, [(0, 1033)]), none, none, some (1, 2, 4, 0, 0, .null, []), none, some (22, 1, 0, 0, 0, .null, [])],
  [some (25, 1, 0, 0, 0, .null, []), some (19, 3, 4, 0, 0, .int 1, []), none, none, some (17, 3, 26, 0, 0, .null, []), none, none, some (3, 1, 0, 0, 0, .null, []), some (39, 1, 0, 0, 0, .null, []), some (20, 3, 12, 5, 0, .null, [(0, 1056)]), none, none, some (0, 1, 0, 0, 0, .int 1, []), some (7, 1, 0, 1, 0, .null, []), some (21, 3, 12, 5, 0, .null, [(0, 1056)]), none],
  [none, some (3, 1, 0, 0, 0, .null, []), some (20, 3, 12, 1, 1, .null, [(0, 1031)]), none, none, some (3, 1, 0, 0, 0, .null, []), some (20, 3, 12, 5, 0, .null, [(0, 1056)]), none, none, some (1, 1, 1, 0, 0, .null, []), some (25, 1, 0, 0, 0, .null, []), some (3, 1, 0, 0, 0, .null, []), some (20, 3, 12, 2, 1, .null, [(0, 1032)]), none, none, some (3, 1, 0, 0, 0, .null, [])],
  [some (20, 3, 12, 5, 0, .null, [(0, 1056)]), none, none, some (1, 1, 3, 0, 0, .null, []), some (25, 1, 0, 0, 0, .null, []), some (3, 1, 0, 0, 0, .null, []), some (20, 3, 12, 3, 1, .null, [(0, 1033)]), none, none, some (3, 1, 0, 0, 0, .null, []), some (20, 3, 12, 5, 0, .null, [(0, 1056)]), none, none, some (1, 1, 2, 0, 0, .null, []), some (25, 1, 0, 0, 0, .null, []), some (3, 1, 0, 0, 0, .null, [])],
  [some (39, 1, 0, 0, 0, .null, []), some (20, 3, 12, 5, 0, .null, [(0, 1056)]), none, none, some (0, 1, 0, 0, 0, .int 1, []), some (7, 1, 0, 0, 0, .null, []), some (21, 3, 12, 5, 0, .null, [(0, 1056)]), none, none, some (3, 1, 0, 0, 0, .null, []), some (3, 1, 0, 0, 0, .null, []), some (20, 3, 12, 5, 0, .null, [(0, 1056)]), none, none, some (21, 3, 12, 4, 0, .null, [(0, 1057)]), none],
  [none, some (3, 1, 0, 0, 0, .null, []), some (20, 3, 12, 0, 1, .null, [(0, 1030)]), none, none, some (1, 1, 1, 0, 0, .null, []), some (1, 1, 2, 0, 0, .null, []), some (25, 1, 0, 0, 0, .null, []), some (1, 1, 3, 0, 0, .null, []), some (35, 1, 0, 0, 0, .null, [])]]
/-- ColdShodModel.undo()I -/
def zi_149 : List (List (Option zI)) := [[some (3, 1, 0, 0, 0, .null, []), some (20, 3, 12, 5, 0, .null, [(0, 1056)]), none, none, some (15, 3, 10, 1, 0, .null, []), none, none, some (0, 2, 0, 0, 0, .int (-5), []), none, some (35, 1, 0, 0, 0, .null, []), some (3, 1, 0, 0, 0, .null, []), some (39, 1, 0, 0, 0, .null, []), some (20, 3, 12, 5, 0, .null, [(0, 1056)]), none, none, some (0, 1, 0, 0, 0, .int 1, [])],
  [some (7, 1, 0, 1, 0, .null, []), some (21, 3, 12, 5, 0, .null, [(0, 1056)]), none, none, some (3, 1, 0, 0, 0, .null, []), some (20, 3, 12, 0, 1, .null, [(0, 1030)]), none, none, some (3, 1, 0, 0, 0, .null, []), some (20, 3, 12, 1, 1, .null, [(0, 1031)]), none, none, some (3, 1, 0, 0, 0, .null, []), some (20, 3, 12, 5, 0, .null, [(0, 1056)]), none, none],
  [some (22, 1, 0, 0, 0, .null, []), some (3, 1, 0, 0, 0, .null, []), some (20, 3, 12, 2, 1, .null, [(0, 1032)]), none, none, some (3, 1, 0, 0, 0, .null, []), some (20, 3, 12, 5, 0, .null, [(0, 1056)]), none, none, some (22, 1, 0, 0, 0, .null, []), some (25, 1, 0, 0, 0, .null, []), some (3, 1, 0, 0, 0, .null, []), some (20, 3, 12, 5, 0, .null, [(0, 1056)]), none, none, some (35, 1, 0, 0, 0, .null, [])]]
/-- ColdShodModel.redo()I -/
def zi_150 : List (List (Option zI)) := [[some (3, 1, 0, 0, 0, .null, []), some (20, 3, 12, 5, 0, .null, [(0, 1056)]), none, none, some (3, 1, 0, 0, 0, .null, []), some (20, 3, 12, 4, 0, .null, [(0, 1057)]), none, none, some (16, 3, 14, 1, 0, .null, []), none, none, some (0, 2, 0, 0, 0, .int (-5), []), none, some (35, 1, 0, 0, 0, .null, []), some (3, 1, 0, 0, 0, .null, []), some (20, 3, 12, 0, 1, .null, [(0, 1030)])],
  [none, none, some (3, 1, 0, 0, 0, .null, []), some (20, 3, 12, 1, 1, .null, [(0, 1031)]), none, none, some (3, 1, 0, 0, 0, .null, []), some (20, 3, 12, 5, 0, .null, [(0, 1056)]), none, none, some (22, 1, 0, 0, 0, .null, []), some (3, 1, 0, 0, 0, .null, []), some (20, 3, 12, 3, 1, .null, [(0, 1033)]), none, none, some (3, 1, 0, 0, 0, .null, [])],
  [some (20, 3, 12, 5, 0, .null, [(0, 1056)]), none, none, some (22, 1, 0, 0, 0, .null, []), some (25, 1, 0, 0, 0, .null, []), some (3, 1, 0, 0, 0, .null, []), some (39, 1, 0, 0, 0, .null, []), some (20, 3, 12, 5, 0, .null, [(0, 1056)]), none, none, some (0, 1, 0, 0, 0, .int 1, []), some (7, 1, 0, 0, 0, .null, []), some (21, 3, 12, 5, 0, .null, [(0, 1056)]), none, none, some (3, 1, 0, 0, 0, .null, [])],
  [some (20, 3, 12, 4, 0, .null, [(0, 1057)]), none, none, some (3, 1, 0, 0, 0, .null, []), some (20, 3, 12, 5, 0, .null, [(0, 1056)]), none, none, some (7, 1, 0, 1, 0, .null, []), some (35, 1, 0, 0, 0, .null, [])]]
/-- ColdShodModel.isHead(J)Z -/
def zi_151 : List (List (Option zI)) := [[some (2, 1, 1, 0, 0, .null, []), some (0, 1, 0, 0, 0, .long 0, []), some (3, 1, 0, 0, 0, .null, []), some (20, 3, 12, 6, 0, .null, [(0, 1058)]), none, none, some (0, 1, 0, 0, 0, .int 1, []), some (7, 1, 0, 1, 0, .null, []), some (10, 1, 0, 0, 0, .null, []), some (32, 3, 143, 3, 49, .null, [(0, 1059)]), none, none, some (35, 1, 0, 0, 1, .null, [])]]
/-- ColdShodModel.isIdea(J)Z -/
def zi_152 : List (List (Option zI)) := [[some (2, 1, 1, 0, 0, .null, []), some (0, 1, 0, 0, 0, .long 0, []), some (3, 1, 0, 0, 0, .null, []), some (20, 3, 12, 7, 0, .null, [(0, 1060)]), none, none, some (0, 1, 0, 0, 0, .int 1, []), some (7, 1, 0, 1, 0, .null, []), some (10, 1, 0, 0, 0, .null, []), some (32, 3, 143, 3, 49, .null, [(0, 1059)]), none, none, some (35, 1, 0, 0, 1, .null, [])]]
/-- ColdShodModel.isRoad(J)Z -/
def zi_153 : List (List (Option zI)) := [[some (2, 1, 1, 0, 0, .null, []), some (0, 1, 0, 0, 0, .long 0, []), some (3, 1, 0, 0, 0, .null, []), some (20, 3, 12, 8, 0, .null, [(0, 1061)]), none, none, some (0, 1, 0, 0, 0, .int 1, []), some (7, 1, 0, 1, 0, .null, []), some (10, 1, 0, 0, 0, .null, []), some (32, 3, 143, 3, 49, .null, [(0, 1059)]), none, none, some (35, 1, 0, 0, 1, .null, [])]]
/-- ColdShodModel.isPlace(J)Z -/
def zi_154 : List (List (Option zI)) := [[some (2, 1, 0, 0, 0, .null, []), some (0, 1, 0, 0, 0, .long 0, []), some (0, 3, 0, 0, 0, .long 7, [(0, 1062)]), none, none, some (32, 3, 143, 3, 49, .null, [(0, 1059)]), none, none, some (35, 1, 0, 0, 1, .null, [])]]
/-- ColdShodModel.head(I)I -/
def zi_155 : List (List (Option zI)) := [[some (1, 1, 1, 0, 0, .null, []), some (10, 1, 0, 0, 0, .null, []), some (0, 1, 0, 0, 0, .long 0, []), some (0, 3, 0, 0, 0, .long 5, [(0, 1063)]), none, none, some (32, 3, 143, 3, 49, .null, [(0, 1059)]), none, none, some (15, 3, 14, 1, 0, .null, []), none, none, some (0, 1, 0, 0, 0, .int (-1), []), some (35, 1, 0, 0, 0, .null, []), some (3, 1, 0, 0, 0, .null, []), some (20, 3, 12, 6, 0, .null, [(0, 1058)])],
  [none, none, some (0, 2, 0, 0, 0, .int 6, []), none, some (16, 3, 26, 1, 0, .null, []), none, none, some (0, 2, 0, 0, 0, .int (-3), []), none, some (35, 1, 0, 0, 0, .null, []), some (3, 1, 0, 0, 0, .null, []), some (20, 3, 12, 0, 1, .null, [(0, 1030)]), none, none, some (3, 1, 0, 0, 0, .null, []), some (20, 3, 12, 6, 0, .null, [(0, 1058)])],
  [none, none, some (1, 1, 1, 0, 0, .null, []), some (25, 1, 0, 0, 0, .null, []), some (3, 1, 0, 0, 0, .null, []), some (20, 3, 12, 0, 1, .null, [(0, 1030)]), none, none, some (0, 2, 0, 0, 0, .int 6, []), none, some (3, 1, 0, 0, 0, .null, []), some (20, 3, 12, 6, 0, .null, [(0, 1058)]), none, none, some (7, 1, 0, 0, 0, .null, []), some (0, 2, 0, 0, 0, .int 6, [])],
  [none, some (25, 1, 0, 0, 0, .null, []), some (3, 1, 0, 0, 0, .null, []), some (39, 1, 0, 0, 0, .null, []), some (20, 3, 12, 6, 0, .null, [(0, 1058)]), none, none, some (0, 1, 0, 0, 0, .int 1, []), some (7, 1, 0, 0, 0, .null, []), some (21, 3, 12, 6, 0, .null, [(0, 1058)]), none, none, some (3, 1, 0, 0, 0, .null, []), some (20, 3, 12, 6, 0, .null, [(0, 1058)]), none, none],
  [some (0, 1, 0, 0, 0, .int 1, []), some (7, 1, 0, 1, 0, .null, []), some (35, 1, 0, 0, 0, .null, [])]]
/-- ColdShodModel.idea(II)I -/
def zi_156 : List (List (Option zI)) := [[some (1, 1, 1, 0, 0, .null, []), some (10, 1, 0, 0, 0, .null, []), some (0, 1, 0, 0, 0, .long 0, []), some (0, 3, 0, 0, 0, .long 3, [(0, 1064)]), none, none, some (32, 3, 143, 3, 49, .null, [(0, 1059)]), none, none, some (15, 3, 24, 0, 0, .null, []), none, none, some (1, 1, 2, 0, 0, .null, []), some (10, 1, 0, 0, 0, .null, []), some (0, 1, 0, 0, 0, .long 0, []), some (0, 3, 0, 0, 0, .long 5, [(0, 1063)])],
  [none, none, some (32, 3, 143, 3, 49, .null, [(0, 1059)]), none, none, some (15, 3, 26, 1, 0, .null, []), none, none, some (0, 1, 0, 0, 0, .int (-1), []), some (35, 1, 0, 0, 0, .null, []), some (3, 1, 0, 0, 0, .null, []), some (20, 3, 12, 7, 0, .null, [(0, 1060)]), none, none, some (0, 2, 0, 0, 0, .int 8, []), none],
  [some (16, 3, 38, 1, 0, .null, []), none, none, some (0, 2, 0, 0, 0, .int (-3), []), none, some (35, 1, 0, 0, 0, .null, []), some (3, 1, 0, 0, 0, .null, []), some (20, 3, 12, 0, 1, .null, [(0, 1030)]), none, none, some (0, 2, 0, 0, 0, .int 12, []), none, some (3, 1, 0, 0, 0, .null, []), some (20, 3, 12, 7, 0, .null, [(0, 1060)]), none, none],
  [some (7, 1, 0, 0, 0, .null, []), some (1, 1, 1, 0, 0, .null, []), some (25, 1, 0, 0, 0, .null, []), some (3, 1, 0, 0, 0, .null, []), some (20, 3, 12, 0, 1, .null, [(0, 1030)]), none, none, some (0, 2, 0, 0, 0, .int 20, []), none, some (3, 1, 0, 0, 0, .null, []), some (20, 3, 12, 7, 0, .null, [(0, 1060)]), none, none, some (7, 1, 0, 0, 0, .null, []), some (1, 1, 2, 0, 0, .null, []), some (25, 1, 0, 0, 0, .null, [])],
  [some (3, 1, 0, 0, 0, .null, []), some (20, 3, 12, 0, 1, .null, [(0, 1030)]), none, none, some (0, 2, 0, 0, 0, .int 60, []), none, some (3, 1, 0, 0, 0, .null, []), some (20, 3, 12, 7, 0, .null, [(0, 1060)]), none, none, some (7, 1, 0, 0, 0, .null, []), some (0, 1, 0, 0, 0, .int (-1), []), some (25, 1, 0, 0, 0, .null, []), some (3, 1, 0, 0, 0, .null, []), some (39, 1, 0, 0, 0, .null, []), some (20, 3, 12, 7, 0, .null, [(0, 1060)])],
  [none, none, some (0, 1, 0, 0, 0, .int 1, []), some (7, 1, 0, 0, 0, .null, []), some (21, 3, 12, 7, 0, .null, [(0, 1060)]), none, none, some (3, 1, 0, 0, 0, .null, []), some (20, 3, 12, 7, 0, .null, [(0, 1060)]), none, none, some (0, 1, 0, 0, 0, .int 1, []), some (7, 1, 0, 1, 0, .null, []), some (35, 1, 0, 0, 0, .null, [])]]
/-- ColdShodModel.mayCome(JJJ)Z -/
def zi_157 : List (List (Option zI)) := [[some (2, 1, 0, 0, 0, .null, []), some (32, 3, 154, 1, 49, .null, [(0, 1065)]), none, none, some (15, 3, 36, 0, 0, .null, []), none, none, some (2, 1, 2, 0, 0, .null, []), some (32, 3, 154, 1, 49, .null, [(0, 1065)]), none, none, some (15, 3, 36, 0, 0, .null, []), none, none, some (2, 1, 0, 0, 0, .null, []), some (2, 1, 2, 0, 0, .null, [])],
  [some (14, 1, 0, 0, 0, .null, []), some (15, 3, 36, 0, 0, .null, []), none, none, some (2, 2, 4, 0, 0, .null, []), none, some (0, 1, 0, 0, 0, .long 1, []), some (0, 3, 0, 0, 0, .long 9, [(0, 1066)]), none, none, some (32, 3, 143, 3, 49, .null, [(0, 1059)]), none, none, some (15, 3, 36, 0, 0, .null, []), none, none],
  [some (0, 1, 0, 0, 0, .int 1, []), some (17, 3, 37, 0, 0, .null, []), none, none, some (0, 1, 0, 0, 0, .int 0, []), some (35, 1, 0, 0, 1, .null, [])]]
/-- ColdShodModel.adds(III)V -/
def zi_158 : List (List (Option zI)) := [[some (3, 1, 0, 0, 0, .null, []), some (20, 3, 12, 9, 1, .null, [(0, 1034)]), none, none, some (3, 1, 0, 0, 0, .null, []), some (20, 3, 12, 8, 0, .null, [(0, 1061)]), none, none, some (1, 1, 1, 0, 0, .null, []), some (25, 1, 0, 0, 0, .null, []), some (3, 1, 0, 0, 0, .null, []), some (20, 3, 12, 10, 1, .null, [(0, 1035)]), none, none, some (3, 1, 0, 0, 0, .null, []), some (20, 3, 12, 8, 0, .null, [(0, 1061)])],
  [none, none, some (1, 1, 2, 0, 0, .null, []), some (25, 1, 0, 0, 0, .null, []), some (3, 1, 0, 0, 0, .null, []), some (20, 3, 12, 0, 1, .null, [(0, 1030)]), none, none, some (0, 2, 0, 0, 0, .int 68, []), none, some (3, 1, 0, 0, 0, .null, []), some (20, 3, 12, 8, 0, .null, [(0, 1061)]), none, none, some (7, 1, 0, 0, 0, .null, []), some (1, 1, 3, 0, 0, .null, [])],
  [some (25, 1, 0, 0, 0, .null, []), some (3, 1, 0, 0, 0, .null, []), some (39, 1, 0, 0, 0, .null, []), some (20, 3, 12, 8, 0, .null, [(0, 1061)]), none, none, some (0, 1, 0, 0, 0, .int 1, []), some (7, 1, 0, 0, 0, .null, []), some (21, 3, 12, 8, 0, .null, [(0, 1061)]), none, none, some (38, 1, 0, 0, 0, .null, [])]]
/-- ColdShodModel.road(II)I -/
def zi_159 : List (List (Option zI)) := [[some (1, 1, 1, 0, 0, .null, []), some (15, 3, 22, 2, 0, .null, []), none, none, some (1, 1, 1, 0, 0, .null, []), some (0, 2, 0, 0, 0, .int 10, []), none, some (8, 1, 0, 0, 0, .null, []), some (10, 1, 0, 0, 0, .null, []), some (1, 1, 1, 0, 0, .null, []), some (0, 2, 0, 0, 0, .int 10, []), none, some (8, 1, 0, 1, 0, .null, []), some (10, 1, 0, 0, 0, .null, []), some (1, 1, 2, 0, 0, .null, []), some (10, 1, 0, 0, 0, .null, [])],
  [some (32, 3, 157, 3, 49, .null, [(0, 1067)]), none, none, some (15, 3, 24, 1, 0, .null, []), none, none, some (0, 1, 0, 0, 0, .int (-1), []), some (35, 1, 0, 0, 0, .null, []), some (3, 1, 0, 0, 0, .null, []), some (20, 3, 12, 8, 0, .null, [(0, 1061)]), none, none, some (0, 2, 0, 0, 0, .int 12, []), none, some (16, 3, 36, 1, 0, .null, []), none],
  [none, some (0, 2, 0, 0, 0, .int (-3), []), none, some (35, 1, 0, 0, 0, .null, []), some (3, 1, 0, 0, 0, .null, []), some (1, 1, 1, 0, 0, .null, []), some (0, 2, 0, 0, 0, .int 10, []), none, some (8, 1, 0, 0, 0, .null, []), some (1, 1, 1, 0, 0, .null, []), some (0, 2, 0, 0, 0, .int 10, []), none, some (8, 1, 0, 1, 0, .null, []), some (1, 1, 2, 0, 0, .null, []), some (32, 3, 158, 4, 48, .null, [(0, 1068)]), none],
  [none, some (3, 1, 0, 0, 0, .null, []), some (20, 3, 12, 8, 0, .null, [(0, 1061)]), none, none, some (0, 1, 0, 0, 0, .int 1, []), some (7, 1, 0, 1, 0, .null, []), some (35, 1, 0, 0, 0, .null, [])]]
/-- ColdShodModel.roads(III)I -/
def zi_160 : List (List (Option zI)) := [[some (1, 1, 1, 0, 0, .null, []), some (32, 3, 228, 1, 49, .null, [(0, 1069)]), none, none, some (15, 3, 19, 0, 0, .null, []), none, none, some (1, 1, 3, 0, 0, .null, []), some (10, 1, 0, 0, 0, .null, []), some (0, 1, 0, 0, 0, .long 1, []), some (0, 3, 0, 0, 0, .long 12, [(0, 1070)]), none, none, some (32, 3, 143, 3, 49, .null, [(0, 1059)]), none, none],
  [some (15, 3, 21, 1, 0, .null, []), none, none, some (0, 1, 0, 0, 0, .int (-1), []), some (35, 1, 0, 0, 0, .null, []), some (3, 1, 0, 0, 0, .null, []), some (20, 3, 12, 45, 1, .null, [(0, 1051)]), none, none, some (1, 1, 1, 0, 0, .null, []), some (22, 1, 0, 0, 0, .null, []), some (15, 3, 44, 2, 0, .null, []), none, none, some (3, 1, 0, 0, 0, .null, []), some (20, 3, 12, 45, 1, .null, [(0, 1051)])],
  [none, none, some (1, 1, 1, 0, 0, .null, []), some (22, 1, 0, 0, 0, .null, []), some (0, 2, 0, 0, 0, .int 50, []), none, some (16, 3, 44, 0, 0, .null, []), none, none, some (0, 2, 0, 0, 0, .int (-12), []), none, some (35, 1, 0, 0, 0, .null, []), some (0, 1, 0, 0, 0, .int 0, []), some (4, 2, 4, 0, 0, .null, []), none, some (3, 1, 0, 0, 0, .null, [])],
  [some (20, 3, 12, 45, 1, .null, [(0, 1051)]), none, none, some (1, 1, 1, 0, 0, .null, []), some (22, 1, 0, 0, 0, .null, []), some (0, 2, 0, 0, 0, .int 50, []), none, some (16, 3, 66, 1, 0, .null, []), none, none, some (1, 1, 2, 0, 0, .null, []), some (15, 3, 66, 2, 0, .null, []), none, none, some (0, 1, 0, 0, 0, .int 1, []), some (17, 3, 67, 0, 0, .null, [])],
  [none, none, some (0, 1, 0, 0, 0, .int 0, []), some (4, 2, 5, 0, 0, .null, []), none, some (1, 2, 5, 0, 0, .null, []), none, some (15, 3, 212, 0, 0, .null, []), none, none, some (1, 2, 4, 0, 0, .null, []), none, some (1, 1, 3, 0, 0, .null, []), some (16, 3, 212, 3, 0, .null, []), none, none],
  [some (1, 1, 2, 0, 0, .null, []), some (3, 1, 0, 0, 0, .null, []), some (20, 3, 12, 46, 1, .null, [(0, 1052)]), none, none, some (1, 1, 1, 0, 0, .null, []), some (22, 1, 0, 0, 0, .null, []), some (0, 1, 0, 0, 0, .int 3, []), some (7, 1, 0, 1, 0, .null, []), some (0, 1, 0, 0, 0, .int 3, []), some (1, 2, 4, 0, 0, .null, []), none, some (7, 1, 0, 2, 0, .null, []), some (7, 1, 0, 1, 0, .null, []), some (16, 3, 110, 4, 0, .null, []), none],
  [none, some (3, 1, 0, 0, 0, .null, []), some (20, 3, 12, 8, 0, .null, [(0, 1061)]), none, none, some (0, 2, 0, 0, 0, .int 12, []), none, some (16, 3, 110, 3, 0, .null, []), none, none, some (0, 1, 0, 0, 0, .int 1, []), some (17, 3, 111, 0, 0, .null, []), none, none, some (0, 1, 0, 0, 0, .int 0, []), some (4, 2, 5, 0, 0, .null, [])],
  [none, some (0, 2, 0, 0, 0, .int 60, []), none, some (1, 1, 1, 0, 0, .null, []), some (7, 1, 0, 2, 0, .null, []), some (1, 1, 2, 0, 0, .null, []), some (7, 1, 0, 0, 0, .null, []), some (0, 1, 0, 0, 0, .int 3, []), some (1, 2, 4, 0, 0, .null, []), none, some (7, 1, 0, 2, 0, .null, []), some (7, 1, 0, 0, 0, .null, []), some (4, 2, 6, 0, 0, .null, []), none, some (1, 2, 5, 0, 0, .null, []), none],
  [some (15, 3, 166, 0, 0, .null, []), none, none, some (3, 1, 0, 0, 0, .null, []), some (20, 3, 12, 47, 1, .null, [(0, 1053)]), none, none, some (1, 2, 6, 0, 0, .null, []), none, some (23, 1, 0, 0, 0, .null, []), some (3, 1, 0, 0, 0, .null, []), some (20, 3, 12, 47, 1, .null, [(0, 1053)]), none, none, some (1, 2, 6, 0, 0, .null, []), none],
  [some (0, 1, 0, 0, 0, .int 1, []), some (7, 1, 0, 0, 0, .null, []), some (23, 1, 0, 0, 0, .null, []), some (3, 1, 0, 0, 0, .null, []), some (20, 3, 12, 47, 1, .null, [(0, 1053)]), none, none, some (1, 2, 6, 0, 0, .null, []), none, some (0, 1, 0, 0, 0, .int 2, []), some (7, 1, 0, 0, 0, .null, []), some (23, 1, 0, 0, 0, .null, []), some (32, 3, 157, 3, 49, .null, [(0, 1067)]), none, none, some (15, 3, 166, 0, 0, .null, [])],
  [none, none, some (0, 1, 0, 0, 0, .int 1, []), some (17, 3, 167, 0, 0, .null, []), none, none, some (0, 1, 0, 0, 0, .int 0, []), some (4, 2, 5, 0, 0, .null, []), none, some (1, 2, 5, 0, 0, .null, []), none, some (15, 3, 209, 0, 0, .null, []), none, none, some (3, 1, 0, 0, 0, .null, []), some (3, 1, 0, 0, 0, .null, [])],
  [some (20, 3, 12, 47, 1, .null, [(0, 1053)]), none, none, some (1, 2, 6, 0, 0, .null, []), none, some (23, 1, 0, 0, 0, .null, []), some (11, 1, 0, 0, 0, .null, []), some (3, 1, 0, 0, 0, .null, []), some (20, 3, 12, 47, 1, .null, [(0, 1053)]), none, none, some (1, 2, 6, 0, 0, .null, []), none, some (0, 1, 0, 0, 0, .int 1, []), some (7, 1, 0, 0, 0, .null, []), some (23, 1, 0, 0, 0, .null, [])],
  [some (11, 1, 0, 0, 0, .null, []), some (3, 1, 0, 0, 0, .null, []), some (20, 3, 12, 47, 1, .null, [(0, 1053)]), none, none, some (1, 2, 6, 0, 0, .null, []), none, some (0, 1, 0, 0, 0, .int 2, []), some (7, 1, 0, 0, 0, .null, []), some (23, 1, 0, 0, 0, .null, []), some (11, 1, 0, 0, 0, .null, []), some (32, 3, 158, 4, 48, .null, [(0, 1068)]), none, none, some (19, 3, 4, 0, 0, .int 1, []), none],
  [none, some (17, 3, 69, 0, 0, .null, []), none, none, some (1, 2, 4, 0, 0, .null, []), none, some (35, 1, 0, 0, 0, .null, [])]]
/-- ColdShodModel.placeOf(II)I -/
def zi_161 : List (List (Option zI)) := [[some (1, 1, 2, 0, 0, .null, []), some (10, 1, 0, 0, 0, .null, []), some (0, 1, 0, 0, 0, .long 0, []), some (0, 1, 0, 0, 0, .long 1, []), some (32, 3, 143, 3, 49, .null, [(0, 1059)]), none, none, some (15, 3, 30, 0, 0, .null, []), none, none, some (3, 1, 0, 0, 0, .null, []), some (1, 1, 1, 0, 0, .null, []), some (10, 1, 0, 0, 0, .null, []), some (32, 3, 151, 2, 48, .null, [(0, 1071)]), none, none],
  [some (15, 3, 28, 0, 0, .null, []), none, none, some (0, 2, 0, 0, 0, .int 6, []), none, some (1, 1, 2, 0, 0, .null, []), some (7, 1, 0, 2, 0, .null, []), some (1, 1, 1, 0, 0, .null, []), some (7, 1, 0, 0, 0, .null, []), some (17, 3, 29, 0, 0, .null, []), none, none, some (0, 1, 0, 0, 0, .int (-1), []), some (35, 1, 0, 0, 0, .null, []), some (1, 1, 2, 0, 0, .null, []), some (10, 1, 0, 0, 0, .null, [])],
  [some (0, 3, 0, 0, 0, .long 2, [(0, 1072)]), none, none, some (0, 3, 0, 0, 0, .long 8, [(0, 1073)]), none, none, some (32, 3, 143, 3, 49, .null, [(0, 1059)]), none, none, some (15, 3, 69, 0, 0, .null, []), none, none, some (3, 1, 0, 0, 0, .null, []), some (1, 1, 1, 0, 0, .null, []), some (10, 1, 0, 0, 0, .null, []), some (32, 3, 152, 2, 48, .null, [(0, 1074)])],
  [none, none, some (15, 3, 67, 0, 0, .null, []), none, none, some (0, 2, 0, 0, 0, .int 12, []), none, some (0, 2, 0, 0, 0, .int 8, []), none, some (1, 1, 2, 0, 0, .null, []), some (0, 1, 0, 0, 0, .int 2, []), some (7, 1, 0, 1, 0, .null, []), some (7, 1, 0, 2, 0, .null, []), some (7, 1, 0, 0, 0, .null, []), some (1, 1, 1, 0, 0, .null, []), some (7, 1, 0, 0, 0, .null, [])],
  [some (17, 3, 68, 0, 0, .null, []), none, none, some (0, 1, 0, 0, 0, .int (-1), []), some (35, 1, 0, 0, 0, .null, []), some (1, 1, 2, 0, 0, .null, []), some (10, 1, 0, 0, 0, .null, []), some (0, 3, 0, 0, 0, .long 9, [(0, 1066)]), none, none, some (0, 3, 0, 0, 0, .long 11, [(0, 1075)]), none, none, some (32, 3, 143, 3, 49, .null, [(0, 1059)]), none, none],
  [some (15, 3, 107, 0, 0, .null, []), none, none, some (3, 1, 0, 0, 0, .null, []), some (1, 1, 1, 0, 0, .null, []), some (10, 1, 0, 0, 0, .null, []), some (32, 3, 153, 2, 48, .null, [(0, 1076)]), none, none, some (15, 3, 107, 0, 0, .null, []), none, none, some (0, 2, 0, 0, 0, .int 68, []), none, some (0, 2, 0, 0, 0, .int 12, []), none],
  [some (1, 1, 2, 0, 0, .null, []), some (0, 2, 0, 0, 0, .int 9, []), none, some (7, 1, 0, 1, 0, .null, []), some (7, 1, 0, 2, 0, .null, []), some (7, 1, 0, 0, 0, .null, []), some (1, 1, 1, 0, 0, .null, []), some (7, 1, 0, 0, 0, .null, []), some (17, 3, 108, 0, 0, .null, []), none, none, some (0, 1, 0, 0, 0, .int (-1), []), some (35, 1, 0, 0, 0, .null, [])]]
/-- ColdShodModel.mayBecome(II)Z -/
def zi_162 : List (List (Option zI)) := [[some (1, 1, 1, 0, 0, .null, []), some (18, 63, 152, 0, 0, .null, [(0, 64), (1, 74), (2, 84), (3, 64), (4, 94), (5, 152), (6, 104), (7, 152), (8, 112), (9, 132), (10, 152), (11, 142)]), none, none, none, none, none, none, none, none, none, none, none, none, none, none],
  [none, none, none, none, none, none, none, none, none, none, none, none, none, none, none, none],
  [none, none, none, none, none, none, none, none, none, none, none, none, none, none, none, none],
  [none, none, none, none, none, none, none, none, none, none, none, none, none, none, none, none],
  [some (1, 1, 2, 0, 0, .null, []), some (10, 1, 0, 0, 0, .null, []), some (0, 1, 0, 0, 0, .long 0, []), some (0, 3, 0, 0, 0, .long 5, [(0, 1063)]), none, none, some (32, 3, 143, 3, 49, .null, [(0, 1059)]), none, none, some (35, 1, 0, 0, 1, .null, []), some (1, 1, 2, 0, 0, .null, []), some (10, 1, 0, 0, 0, .null, []), some (0, 1, 0, 0, 0, .long 0, []), some (0, 3, 0, 0, 0, .long 12, [(0, 1070)]), none, none],
  [some (32, 3, 143, 3, 49, .null, [(0, 1059)]), none, none, some (35, 1, 0, 0, 1, .null, []), some (1, 1, 2, 0, 0, .null, []), some (10, 1, 0, 0, 0, .null, []), some (0, 1, 0, 0, 0, .long 0, []), some (0, 3, 0, 0, 0, .long 3, [(0, 1064)]), none, none, some (32, 3, 143, 3, 49, .null, [(0, 1059)]), none, none, some (35, 1, 0, 0, 1, .null, []), some (1, 1, 2, 0, 0, .null, []), some (10, 1, 0, 0, 0, .null, [])],
  [some (0, 1, 0, 0, 0, .long 0, []), some (0, 3, 0, 0, 0, .long 99, [(0, 1077)]), none, none, some (32, 3, 143, 3, 49, .null, [(0, 1059)]), none, none, some (35, 1, 0, 0, 1, .null, []), some (1, 1, 2, 0, 0, .null, []), some (10, 1, 0, 0, 0, .null, []), some (0, 1, 0, 0, 0, .long 0, []), some (0, 1, 0, 0, 0, .long 1, []), some (32, 3, 143, 3, 49, .null, [(0, 1059)]), none, none, some (35, 1, 0, 0, 1, .null, [])],
  [some (1, 1, 2, 0, 0, .null, []), some (0, 1, 0, 0, 0, .int (-1), []), some (16, 3, 126, 0, 0, .null, []), none, none, some (3, 1, 0, 0, 0, .null, []), some (1, 1, 2, 0, 0, .null, []), some (10, 1, 0, 0, 0, .null, []), some (32, 3, 151, 2, 48, .null, [(0, 1071)]), none, none, some (15, 3, 130, 0, 0, .null, []), none, none, some (0, 1, 0, 0, 0, .int 1, []), some (17, 3, 131, 0, 0, .null, [])],
  [none, none, some (0, 1, 0, 0, 0, .int 0, []), some (35, 1, 0, 0, 1, .null, []), some (1, 1, 2, 0, 0, .null, []), some (10, 1, 0, 0, 0, .null, []), some (0, 1, 0, 0, 0, .long 1, []), some (0, 3, 0, 0, 0, .long 9, [(0, 1066)]), none, none, some (32, 3, 143, 3, 49, .null, [(0, 1059)]), none, none, some (35, 1, 0, 0, 1, .null, []), some (1, 1, 2, 0, 0, .null, []), some (10, 1, 0, 0, 0, .null, [])],
  [some (0, 1, 0, 0, 0, .long 0, []), some (0, 3, 0, 0, 0, .long 2, [(0, 1072)]), none, none, some (32, 3, 143, 3, 49, .null, [(0, 1059)]), none, none, some (35, 1, 0, 0, 1, .null, []), some (1, 1, 2, 0, 0, .null, []), some (10, 1, 0, 0, 0, .null, []), some (0, 1, 0, 0, 0, .long 0, []), some (0, 3, 0, 0, 0, .long 9, [(0, 1066)]), none, none, some (32, 3, 143, 3, 49, .null, [(0, 1059)]), none],
  [none, some (35, 1, 0, 0, 1, .null, [])]]
/-- ColdShodModel.mend(III)I -/
def zi_163 : List (List (Option zI)) := [[some (3, 1, 0, 0, 0, .null, []), some (1, 1, 1, 0, 0, .null, []), some (1, 1, 2, 0, 0, .null, []), some (32, 3, 161, 3, 48, .null, [(0, 1078)]), none, none, some (4, 2, 4, 0, 0, .null, []), none, some (1, 2, 4, 0, 0, .null, []), none, some (15, 3, 32, 2, 0, .null, []), none, none, some (3, 1, 0, 0, 0, .null, []), some (1, 1, 2, 0, 0, .null, []), some (1, 1, 3, 0, 0, .null, [])],
  [some (32, 3, 162, 3, 48, .null, [(0, 1079)]), none, none, some (15, 3, 32, 0, 0, .null, []), none, none, some (3, 1, 0, 0, 0, .null, []), some (1, 2, 4, 0, 0, .null, []), none, some (1, 1, 3, 0, 0, .null, []), some (32, 3, 148, 3, 48, .null, [(0, 1080)]), none, none, some (17, 3, 34, 0, 0, .null, []), none, none],
  [some (0, 2, 0, 0, 0, .int (-2000000000), [(0, 1081)]), none, some (35, 1, 0, 0, 0, .null, [])]]
/-- ColdShodModel.of(II)I -/
def zi_164 : List (List (Option zI)) := [[some (3, 1, 0, 0, 0, .null, []), some (1, 1, 1, 0, 0, .null, []), some (1, 1, 2, 0, 0, .null, []), some (32, 3, 161, 3, 48, .null, [(0, 1078)]), none, none, some (4, 1, 3, 0, 0, .null, []), some (1, 1, 3, 0, 0, .null, []), some (15, 3, 18, 2, 0, .null, []), none, none, some (3, 1, 0, 0, 0, .null, []), some (20, 3, 12, 0, 1, .null, [(0, 1030)]), none, none, some (1, 1, 3, 0, 0, .null, [])],
  [some (22, 1, 0, 0, 0, .null, []), some (35, 1, 0, 0, 0, .null, []), some (1, 1, 2, 0, 0, .null, []), some (0, 2, 0, 0, 0, .int 14, []), none, some (16, 3, 46, 1, 0, .null, []), none, none, some (3, 1, 0, 0, 0, .null, []), some (1, 1, 1, 0, 0, .null, []), some (10, 1, 0, 0, 0, .null, []), some (32, 3, 152, 2, 48, .null, [(0, 1074)]), none, none, some (15, 3, 46, 0, 0, .null, []), none],
  [none, some (3, 1, 0, 0, 0, .null, []), some (20, 3, 12, 0, 1, .null, [(0, 1030)]), none, none, some (0, 2, 0, 0, 0, .int 28, []), none, some (1, 1, 1, 0, 0, .null, []), some (7, 1, 0, 0, 0, .null, []), some (22, 1, 0, 0, 0, .null, []), some (32, 3, 179, 1, 49, .null, [(0, 1082)]), none, none, some (35, 1, 0, 0, 0, .null, []), some (3, 1, 0, 0, 0, .null, []), some (1, 1, 1, 0, 0, .null, [])],
  [some (10, 1, 0, 0, 0, .null, []), some (32, 3, 153, 2, 48, .null, [(0, 1076)]), none, none, some (15, 3, 60, 1, 0, .null, []), none, none, some (0, 2, 0, 0, 0, .int (-2000000000), [(0, 1081)]), none, some (17, 3, 92, 0, 0, .null, []), none, none, some (1, 1, 2, 0, 0, .null, []), some (0, 2, 0, 0, 0, .int 12, []), none, some (16, 3, 75, 1, 0, .null, [])],
  [none, none, some (3, 1, 0, 0, 0, .null, []), some (20, 3, 12, 9, 1, .null, [(0, 1034)]), none, none, some (1, 1, 1, 0, 0, .null, []), some (22, 1, 0, 0, 0, .null, []), some (17, 3, 92, 0, 0, .null, []), none, none, some (1, 1, 2, 0, 0, .null, []), some (0, 2, 0, 0, 0, .int 13, []), none, some (16, 3, 90, 1, 0, .null, []), none],
  [none, some (3, 1, 0, 0, 0, .null, []), some (20, 3, 12, 10, 1, .null, [(0, 1035)]), none, none, some (1, 1, 1, 0, 0, .null, []), some (22, 1, 0, 0, 0, .null, []), some (17, 3, 92, 0, 0, .null, []), none, none, some (0, 2, 0, 0, 0, .int (-2000000000), [(0, 1081)]), none, some (35, 1, 0, 0, 0, .null, [])]]
/-- ColdShodModel.feed(I)I -/
def zi_165 : List (List (Option zI)) := [[some (1, 1, 1, 0, 0, .null, []), some (10, 1, 0, 0, 0, .null, []), some (0, 1, 0, 0, 0, .long 0, []), some (0, 3, 0, 0, 0, .long 255, [(0, 1083)]), none, none, some (32, 3, 143, 3, 49, .null, [(0, 1059)]), none, none, some (15, 3, 14, 1, 0, .null, []), none, none, some (0, 1, 0, 0, 0, .int (-1), []), some (35, 1, 0, 0, 0, .null, []), some (3, 1, 0, 0, 0, .null, []), some (20, 3, 12, 12, 0, .null, [(0, 1084)])],
  [none, none, some (0, 2, 0, 0, 0, .int 120, []), none, some (16, 3, 26, 1, 0, .null, []), none, none, some (0, 2, 0, 0, 0, .int (-3), []), none, some (35, 1, 0, 0, 0, .null, []), some (3, 1, 0, 0, 0, .null, []), some (20, 3, 12, 11, 1, .null, [(0, 1036)]), none, none, some (3, 1, 0, 0, 0, .null, []), some (20, 3, 12, 12, 0, .null, [(0, 1084)])],
  [none, none, some (1, 1, 1, 0, 0, .null, []), some (25, 1, 0, 0, 0, .null, []), some (3, 1, 0, 0, 0, .null, []), some (39, 1, 0, 0, 0, .null, []), some (20, 3, 12, 12, 0, .null, [(0, 1084)]), none, none, some (0, 1, 0, 0, 0, .int 1, []), some (7, 1, 0, 0, 0, .null, []), some (21, 3, 12, 12, 0, .null, [(0, 1084)]), none, none, some (3, 1, 0, 0, 0, .null, []), some (20, 3, 12, 12, 0, .null, [(0, 1084)])],
  [none, none, some (35, 1, 0, 0, 0, .null, [])]]
/-- ColdShodModel.byteAt()I -/
def zi_166 : List (List (Option zI)) := [[some (3, 1, 0, 0, 0, .null, []), some (20, 3, 12, 16, 0, .null, [(0, 1085)]), none, none, some (3, 1, 0, 0, 0, .null, []), some (20, 3, 12, 17, 0, .null, [(0, 1086)]), none, none, some (16, 3, 47, 3, 0, .null, []), none, none, some (3, 1, 0, 0, 0, .null, []), some (20, 3, 12, 15, 0, .null, [(0, 1087)]), none, none, some (15, 3, 30, 3, 0, .null, [])],
  [none, none, some (3, 1, 0, 0, 0, .null, []), some (20, 3, 12, 11, 1, .null, [(0, 1036)]), none, none, some (3, 1, 0, 0, 0, .null, []), some (20, 3, 12, 16, 0, .null, [(0, 1085)]), none, none, some (22, 1, 0, 0, 0, .null, []), some (17, 3, 48, 0, 0, .null, []), none, none, some (3, 1, 0, 0, 0, .null, []), some (20, 3, 12, 13, 1, .null, [(0, 1037)])],
  [none, none, some (3, 1, 0, 0, 0, .null, []), some (20, 3, 12, 15, 0, .null, [(0, 1087)]), none, none, some (3, 1, 0, 0, 0, .null, []), some (20, 3, 12, 16, 0, .null, [(0, 1085)]), none, none, some (7, 1, 0, 0, 0, .null, []), some (22, 1, 0, 0, 0, .null, []), some (17, 3, 48, 0, 0, .null, []), none, none, some (0, 1, 0, 0, 0, .int 0, [])],
  [some (35, 1, 0, 0, 0, .null, [])]]
/-- ColdShodModel.wrong()I -/
def zi_167 : List (List (Option zI)) := [[some (3, 1, 0, 0, 0, .null, []), some (3, 1, 0, 0, 0, .null, []), some (20, 3, 12, 18, 0, .null, [(0, 1088)]), none, none, some (15, 3, 15, 3, 0, .null, []), none, none, some (3, 1, 0, 0, 0, .null, []), some (20, 3, 12, 16, 0, .null, [(0, 1085)]), none, none, some (17, 3, 19, 0, 0, .null, []), none, none, some (3, 1, 0, 0, 0, .null, [])],
  [some (20, 3, 12, 18, 0, .null, [(0, 1088)]), none, none, some (21, 3, 12, 18, 0, .null, [(0, 1088)]), none, none, some (0, 1, 0, 0, 0, .int 0, []), some (35, 1, 0, 0, 0, .null, [])]]
/-- ColdShodModel.takes(I)Z -/
def zi_168 : List (List (Option zI)) := [[some (3, 1, 0, 0, 0, .null, []), some (20, 3, 12, 18, 0, .null, [(0, 1088)]), none, none, some (15, 3, 15, 3, 0, .null, []), none, none, some (3, 1, 0, 0, 0, .null, []), some (32, 3, 166, 1, 48, .null, [(0, 1089)]), none, none, some (1, 1, 1, 0, 0, .null, []), some (16, 3, 17, 0, 0, .null, []), none, none, some (0, 1, 0, 0, 0, .int 0, [])],
  [some (35, 1, 0, 0, 1, .null, []), some (3, 1, 0, 0, 0, .null, []), some (39, 1, 0, 0, 0, .null, []), some (20, 3, 12, 16, 0, .null, [(0, 1085)]), none, none, some (0, 1, 0, 0, 0, .int 1, []), some (7, 1, 0, 0, 0, .null, []), some (21, 3, 12, 16, 0, .null, [(0, 1085)]), none, none, some (0, 1, 0, 0, 0, .int 1, []), some (35, 1, 0, 0, 1, .null, [])]]
/-- ColdShodModel.either()I -/
def zi_169 : List (List (Option zI)) := [[some (3, 1, 0, 0, 0, .null, []), some (32, 3, 170, 1, 48, .null, [(0, 1090)]), none, none, some (4, 1, 1, 0, 0, .null, []), some (3, 1, 0, 0, 0, .null, []), some (0, 2, 0, 0, 0, .int 124, []), none, some (32, 3, 168, 2, 48, .null, [(0, 1091)]), none, none, some (15, 3, 36, 0, 0, .null, []), none, none, some (3, 1, 0, 0, 0, .null, []), some (32, 3, 170, 1, 48, .null, [(0, 1090)])],
  [none, none, some (4, 1, 2, 0, 0, .null, []), some (1, 1, 1, 0, 0, .null, []), some (15, 3, 27, 1, 0, .null, []), none, none, some (1, 1, 2, 0, 0, .null, []), some (15, 3, 31, 0, 0, .null, []), none, none, some (0, 1, 0, 0, 0, .int 1, []), some (17, 3, 32, 0, 0, .null, []), none, none, some (0, 1, 0, 0, 0, .int 0, [])],
  [some (4, 1, 1, 0, 0, .null, []), some (17, 3, 5, 0, 0, .null, []), none, none, some (1, 1, 1, 0, 0, .null, []), some (35, 1, 0, 0, 0, .null, [])]]
/-- ColdShodModel.both()I -/
def zi_170 : List (List (Option zI)) := [[some (3, 1, 0, 0, 0, .null, []), some (32, 3, 171, 1, 48, .null, [(0, 1092)]), none, none, some (4, 1, 1, 0, 0, .null, []), some (3, 1, 0, 0, 0, .null, []), some (0, 2, 0, 0, 0, .int 38, []), none, some (32, 3, 168, 2, 48, .null, [(0, 1091)]), none, none, some (15, 3, 36, 0, 0, .null, []), none, none, some (3, 1, 0, 0, 0, .null, []), some (32, 3, 171, 1, 48, .null, [(0, 1092)])],
  [none, none, some (4, 1, 2, 0, 0, .null, []), some (1, 1, 1, 0, 0, .null, []), some (15, 3, 31, 0, 0, .null, []), none, none, some (1, 1, 2, 0, 0, .null, []), some (15, 3, 31, 0, 0, .null, []), none, none, some (0, 1, 0, 0, 0, .int 1, []), some (17, 3, 32, 0, 0, .null, []), none, none, some (0, 1, 0, 0, 0, .int 0, [])],
  [some (4, 1, 1, 0, 0, .null, []), some (17, 3, 5, 0, 0, .null, []), none, none, some (1, 1, 1, 0, 0, .null, []), some (35, 1, 0, 0, 0, .null, [])]]
/-- ColdShodModel.compared()I -/
def zi_171 : List (List (Option zI)) := [[some (3, 1, 0, 0, 0, .null, []), some (32, 3, 172, 1, 48, .null, [(0, 1093)]), none, none, some (4, 1, 1, 0, 0, .null, []), some (3, 1, 0, 0, 0, .null, []), some (32, 3, 166, 1, 48, .null, [(0, 1089)]), none, none, some (4, 1, 2, 0, 0, .null, []), some (3, 1, 0, 0, 0, .null, []), some (20, 3, 12, 18, 0, .null, [(0, 1088)]), none, none, some (15, 3, 35, 3, 0, .null, []), none],
  [none, some (1, 1, 2, 0, 0, .null, []), some (0, 2, 0, 0, 0, .int 60, []), none, some (16, 3, 37, 0, 0, .null, []), none, none, some (1, 1, 2, 0, 0, .null, []), some (0, 2, 0, 0, 0, .int 61, []), none, some (16, 3, 37, 0, 0, .null, []), none, none, some (1, 1, 2, 0, 0, .null, []), some (0, 2, 0, 0, 0, .int 62, []), none],
  [some (16, 3, 37, 0, 0, .null, []), none, none, some (1, 1, 1, 0, 0, .null, []), some (35, 1, 0, 0, 0, .null, []), some (3, 1, 0, 0, 0, .null, []), some (39, 1, 0, 0, 0, .null, []), some (20, 3, 12, 16, 0, .null, [(0, 1085)]), none, none, some (0, 1, 0, 0, 0, .int 1, []), some (7, 1, 0, 0, 0, .null, []), some (21, 3, 12, 16, 0, .null, [(0, 1085)]), none, none, some (3, 1, 0, 0, 0, .null, [])],
  [some (32, 3, 172, 1, 48, .null, [(0, 1093)]), none, none, some (4, 1, 3, 0, 0, .null, []), some (1, 1, 2, 0, 0, .null, []), some (0, 2, 0, 0, 0, .int 60, []), none, some (16, 3, 66, 1, 0, .null, []), none, none, some (1, 1, 1, 0, 0, .null, []), some (1, 1, 3, 0, 0, .null, []), some (16, 3, 89, 3, 0, .null, []), none, none, some (17, 3, 85, 0, 0, .null, [])],
  [none, none, some (1, 1, 2, 0, 0, .null, []), some (0, 2, 0, 0, 0, .int 61, []), none, some (16, 3, 80, 1, 0, .null, []), none, none, some (1, 1, 1, 0, 0, .null, []), some (1, 1, 3, 0, 0, .null, []), some (16, 3, 89, 1, 0, .null, []), none, none, some (17, 3, 85, 0, 0, .null, []), none, none],
  [some (1, 1, 1, 0, 0, .null, []), some (1, 1, 3, 0, 0, .null, []), some (16, 3, 89, 5, 0, .null, []), none, none, some (0, 1, 0, 0, 0, .int 1, []), some (17, 3, 90, 0, 0, .null, []), none, none, some (0, 1, 0, 0, 0, .int 0, []), some (35, 1, 0, 0, 0, .null, [])]]
/-- ColdShodModel.sums()I -/
def zi_172 : List (List (Option zI)) := [[some (3, 1, 0, 0, 0, .null, []), some (32, 3, 173, 1, 48, .null, [(0, 1094)]), none, none, some (4, 1, 1, 0, 0, .null, []), some (3, 1, 0, 0, 0, .null, []), some (20, 3, 12, 18, 0, .null, [(0, 1088)]), none, none, some (15, 3, 77, 3, 0, .null, []), none, none, some (3, 1, 0, 0, 0, .null, []), some (32, 3, 166, 1, 48, .null, [(0, 1089)]), none, none],
  [some (0, 2, 0, 0, 0, .int 43, []), none, some (16, 3, 30, 0, 0, .null, []), none, none, some (3, 1, 0, 0, 0, .null, []), some (32, 3, 166, 1, 48, .null, [(0, 1089)]), none, none, some (0, 2, 0, 0, 0, .int 45, []), none, some (16, 3, 77, 1, 0, .null, []), none, none, some (3, 1, 0, 0, 0, .null, []), some (32, 3, 166, 1, 48, .null, [(0, 1089)])],
  [none, none, some (0, 2, 0, 0, 0, .int 43, []), none, some (16, 3, 43, 1, 0, .null, []), none, none, some (0, 1, 0, 0, 0, .int 1, []), some (17, 3, 44, 0, 0, .null, []), none, none, some (0, 1, 0, 0, 0, .int 0, []), some (4, 1, 2, 0, 0, .null, []), some (3, 1, 0, 0, 0, .null, []), some (39, 1, 0, 0, 0, .null, []), some (20, 3, 12, 16, 0, .null, [(0, 1085)])],
  [none, none, some (0, 1, 0, 0, 0, .int 1, []), some (7, 1, 0, 0, 0, .null, []), some (21, 3, 12, 16, 0, .null, [(0, 1085)]), none, none, some (3, 1, 0, 0, 0, .null, []), some (32, 3, 173, 1, 48, .null, [(0, 1094)]), none, none, some (4, 1, 3, 0, 0, .null, []), some (1, 1, 2, 0, 0, .null, []), some (15, 3, 70, 0, 0, .null, []), none, none],
  [some (1, 1, 1, 0, 0, .null, []), some (1, 1, 3, 0, 0, .null, []), some (7, 1, 0, 0, 0, .null, []), some (17, 3, 73, 0, 0, .null, []), none, none, some (1, 1, 1, 0, 0, .null, []), some (1, 1, 3, 0, 0, .null, []), some (7, 1, 0, 1, 0, .null, []), some (4, 1, 1, 0, 0, .null, []), some (17, 3, 5, 0, 0, .null, []), none, none, some (1, 1, 1, 0, 0, .null, []), some (35, 1, 0, 0, 0, .null, [])]]
/-- ColdShodModel.product()I -/
def zi_173 : List (List (Option zI)) := [[some (3, 1, 0, 0, 0, .null, []), some (32, 3, 175, 1, 48, .null, [(0, 1095)]), none, none, some (4, 1, 1, 0, 0, .null, []), some (3, 1, 0, 0, 0, .null, []), some (32, 3, 166, 1, 48, .null, [(0, 1089)]), none, none, some (4, 1, 2, 0, 0, .null, []), some (3, 1, 0, 0, 0, .null, []), some (20, 3, 12, 18, 0, .null, [(0, 1088)]), none, none, some (15, 3, 94, 3, 0, .null, []), none],
  [none, some (1, 1, 2, 0, 0, .null, []), some (0, 2, 0, 0, 0, .int 42, []), none, some (16, 3, 35, 0, 0, .null, []), none, none, some (1, 1, 2, 0, 0, .null, []), some (0, 2, 0, 0, 0, .int 47, []), none, some (16, 3, 35, 0, 0, .null, []), none, none, some (1, 1, 2, 0, 0, .null, []), some (0, 2, 0, 0, 0, .int 37, []), none],
  [some (16, 3, 94, 1, 0, .null, []), none, none, some (3, 1, 0, 0, 0, .null, []), some (39, 1, 0, 0, 0, .null, []), some (20, 3, 12, 16, 0, .null, [(0, 1085)]), none, none, some (0, 1, 0, 0, 0, .int 1, []), some (7, 1, 0, 0, 0, .null, []), some (21, 3, 12, 16, 0, .null, [(0, 1085)]), none, none, some (3, 1, 0, 0, 0, .null, []), some (32, 3, 175, 1, 48, .null, [(0, 1095)]), none],
  [none, some (4, 1, 3, 0, 0, .null, []), some (1, 1, 2, 0, 0, .null, []), some (0, 2, 0, 0, 0, .int 42, []), none, some (16, 3, 62, 1, 0, .null, []), none, none, some (1, 1, 1, 0, 0, .null, []), some (1, 1, 3, 0, 0, .null, []), some (7, 1, 0, 2, 0, .null, []), some (17, 3, 85, 0, 0, .null, []), none, none, some (1, 1, 3, 0, 0, .null, []), some (15, 3, 70, 1, 0, .null, [])],
  [none, none, some (0, 1, 0, 0, 0, .int 0, []), some (17, 3, 85, 0, 0, .null, []), none, none, some (1, 1, 2, 0, 0, .null, []), some (0, 2, 0, 0, 0, .int 47, []), none, some (16, 3, 82, 1, 0, .null, []), none, none, some (1, 1, 1, 0, 0, .null, []), some (1, 1, 3, 0, 0, .null, []), some (8, 1, 0, 0, 0, .null, []), some (17, 3, 85, 0, 0, .null, [])],
  [none, none, some (1, 1, 1, 0, 0, .null, []), some (1, 1, 3, 0, 0, .null, []), some (8, 1, 0, 1, 0, .null, []), some (4, 1, 1, 0, 0, .null, []), some (3, 1, 0, 0, 0, .null, []), some (32, 3, 166, 1, 48, .null, [(0, 1089)]), none, none, some (4, 1, 2, 0, 0, .null, []), some (17, 3, 10, 0, 0, .null, []), none, none, some (1, 1, 1, 0, 0, .null, []), some (35, 1, 0, 0, 0, .null, [])]]
/-- ColdShodModel.nameOf(I)I -/
def zi_174 : List (List (Option zI)) := [[some (1, 1, 0, 0, 0, .null, []), some (18, 87, 100, 0, 0, .null, [(102, 94), (103, 100), (104, 92), (105, 100), (106, 100), (107, 98), (108, 100), (109, 88), (110, 100), (111, 100), (112, 100), (113, 100), (114, 100), (115, 96), (116, 100), (117, 100), (118, 100), (119, 90)]), none, none, none, none, none, none, none, none, none, none, none, none, none, none],
  [none, none, none, none, none, none, none, none, none, none, none, none, none, none, none, none],
  [none, none, none, none, none, none, none, none, none, none, none, none, none, none, none, none],
  [none, none, none, none, none, none, none, none, none, none, none, none, none, none, none, none],
  [none, none, none, none, none, none, none, none, none, none, none, none, none, none, none, none],
  [none, none, none, none, none, none, none, none, some (0, 1, 0, 0, 0, .int 0, []), some (35, 1, 0, 0, 0, .null, []), some (0, 1, 0, 0, 0, .int 1, []), some (35, 1, 0, 0, 0, .null, []), some (0, 1, 0, 0, 0, .int 2, []), some (35, 1, 0, 0, 0, .null, []), some (0, 1, 0, 0, 0, .int 3, []), some (35, 1, 0, 0, 0, .null, [])],
  [some (0, 1, 0, 0, 0, .int 4, []), some (35, 1, 0, 0, 0, .null, []), some (0, 1, 0, 0, 0, .int 5, []), some (35, 1, 0, 0, 0, .null, []), some (0, 1, 0, 0, 0, .int (-1), []), some (35, 1, 0, 0, 0, .null, [])]]
/-- ColdShodModel.one()I -/
def zi_175 : List (List (Option zI)) := [[some (3, 1, 0, 0, 0, .null, []), some (20, 3, 12, 18, 0, .null, [(0, 1088)]), none, none, some (15, 3, 9, 2, 0, .null, []), none, none, some (0, 1, 0, 0, 0, .int 0, []), some (35, 1, 0, 0, 0, .null, []), some (3, 1, 0, 0, 0, .null, []), some (32, 3, 166, 1, 48, .null, [(0, 1089)]), none, none, some (4, 1, 1, 0, 0, .null, []), some (1, 1, 1, 0, 0, .null, []), some (0, 2, 0, 0, 0, .int 33, [])],
  [none, some (16, 3, 32, 0, 0, .null, []), none, none, some (1, 1, 1, 0, 0, .null, []), some (0, 2, 0, 0, 0, .int 45, []), none, some (16, 3, 32, 0, 0, .null, []), none, none, some (1, 1, 1, 0, 0, .null, []), some (0, 2, 0, 0, 0, .int 40, []), none, some (16, 3, 145, 1, 0, .null, []), none, none],
  [some (3, 1, 0, 0, 0, .null, []), some (20, 3, 12, 19, 0, .null, [(0, 1096)]), none, none, some (0, 2, 0, 0, 0, .int 6, []), none, some (16, 3, 46, 1, 0, .null, []), none, none, some (3, 1, 0, 0, 0, .null, []), some (32, 3, 167, 1, 48, .null, [(0, 1097)]), none, none, some (35, 1, 0, 0, 0, .null, []), some (3, 1, 0, 0, 0, .null, []), some (39, 1, 0, 0, 0, .null, [])],
  [some (20, 3, 12, 19, 0, .null, [(0, 1096)]), none, none, some (0, 1, 0, 0, 0, .int 1, []), some (7, 1, 0, 0, 0, .null, []), some (21, 3, 12, 19, 0, .null, [(0, 1096)]), none, none, some (3, 1, 0, 0, 0, .null, []), some (39, 1, 0, 0, 0, .null, []), some (20, 3, 12, 16, 0, .null, [(0, 1085)]), none, none, some (0, 1, 0, 0, 0, .int 1, []), some (7, 1, 0, 0, 0, .null, []), some (21, 3, 12, 16, 0, .null, [(0, 1085)])],
  [none, none, some (1, 1, 1, 0, 0, .null, []), some (0, 2, 0, 0, 0, .int 40, []), none, some (16, 3, 79, 1, 0, .null, []), none, none, some (3, 1, 0, 0, 0, .null, []), some (32, 3, 169, 1, 48, .null, [(0, 1098)]), none, none, some (17, 3, 83, 0, 0, .null, []), none, none, some (3, 1, 0, 0, 0, .null, [])],
  [some (32, 3, 175, 1, 48, .null, [(0, 1095)]), none, none, some (4, 1, 2, 0, 0, .null, []), some (1, 1, 1, 0, 0, .null, []), some (0, 2, 0, 0, 0, .int 40, []), none, some (16, 3, 104, 1, 0, .null, []), none, none, some (3, 1, 0, 0, 0, .null, []), some (0, 2, 0, 0, 0, .int 41, []), none, some (32, 3, 168, 2, 48, .null, [(0, 1091)]), none, none],
  [some (15, 3, 104, 1, 0, .null, []), none, none, some (3, 1, 0, 0, 0, .null, []), some (32, 3, 167, 1, 48, .null, [(0, 1097)]), none, none, some (35, 1, 0, 0, 0, .null, []), some (3, 1, 0, 0, 0, .null, []), some (39, 1, 0, 0, 0, .null, []), some (20, 3, 12, 19, 0, .null, [(0, 1096)]), none, none, some (0, 1, 0, 0, 0, .int 1, []), some (7, 1, 0, 1, 0, .null, []), some (21, 3, 12, 19, 0, .null, [(0, 1096)])],
  [none, none, some (1, 1, 1, 0, 0, .null, []), some (0, 2, 0, 0, 0, .int 40, []), none, some (16, 3, 124, 1, 0, .null, []), none, none, some (1, 1, 2, 0, 0, .null, []), some (17, 3, 144, 0, 0, .null, []), none, none, some (1, 1, 1, 0, 0, .null, []), some (0, 2, 0, 0, 0, .int 45, []), none, some (16, 3, 135, 1, 0, .null, [])],
  [none, none, some (1, 1, 2, 0, 0, .null, []), some (9, 1, 0, 0, 0, .null, []), some (17, 3, 144, 0, 0, .null, []), none, none, some (1, 1, 2, 0, 0, .null, []), some (15, 3, 143, 1, 0, .null, []), none, none, some (0, 1, 0, 0, 0, .int 1, []), some (17, 3, 144, 0, 0, .null, []), none, none, some (0, 1, 0, 0, 0, .int 0, [])],
  [some (35, 1, 0, 0, 0, .null, []), some (1, 1, 1, 0, 0, .null, []), some (32, 3, 174, 1, 49, .null, [(0, 1099)]), none, none, some (4, 1, 2, 0, 0, .null, []), some (1, 1, 2, 0, 0, .null, []), some (15, 3, 171, 2, 0, .null, []), none, none, some (3, 1, 0, 0, 0, .null, []), some (39, 1, 0, 0, 0, .null, []), some (20, 3, 12, 16, 0, .null, [(0, 1085)]), none, none, some (0, 1, 0, 0, 0, .int 1, [])],
  [some (7, 1, 0, 0, 0, .null, []), some (21, 3, 12, 16, 0, .null, [(0, 1085)]), none, none, some (3, 1, 0, 0, 0, .null, []), some (20, 3, 12, 20, 1, .null, [(0, 1038)]), none, none, some (1, 1, 2, 0, 0, .null, []), some (22, 1, 0, 0, 0, .null, []), some (35, 1, 0, 0, 0, .null, []), some (0, 1, 0, 0, 0, .int 0, []), some (4, 1, 3, 0, 0, .null, []), some (0, 1, 0, 0, 0, .int 0, []), some (4, 2, 4, 0, 0, .null, []), none],
  [some (1, 2, 4, 0, 0, .null, []), none, some (0, 1, 0, 0, 0, .int 4, []), some (16, 3, 229, 3, 0, .null, []), none, none, some (3, 1, 0, 0, 0, .null, []), some (32, 3, 166, 1, 48, .null, [(0, 1089)]), none, none, some (0, 2, 0, 0, 0, .int 48, []), none, some (16, 3, 229, 2, 0, .null, []), none, none, some (3, 1, 0, 0, 0, .null, [])],
  [some (32, 3, 166, 1, 48, .null, [(0, 1089)]), none, none, some (0, 2, 0, 0, 0, .int 57, []), none, some (16, 3, 229, 4, 0, .null, []), none, none, some (0, 2, 0, 0, 0, .int 10, []), none, some (1, 1, 3, 0, 0, .null, []), some (7, 1, 0, 2, 0, .null, []), some (3, 1, 0, 0, 0, .null, []), some (32, 3, 166, 1, 48, .null, [(0, 1089)]), none, none],
  [some (7, 1, 0, 0, 0, .null, []), some (0, 2, 0, 0, 0, .int 48, []), none, some (7, 1, 0, 1, 0, .null, []), some (4, 1, 3, 0, 0, .null, []), some (19, 3, 4, 0, 0, .int 1, []), none, none, some (3, 1, 0, 0, 0, .null, []), some (39, 1, 0, 0, 0, .null, []), some (20, 3, 12, 16, 0, .null, [(0, 1085)]), none, none, some (0, 1, 0, 0, 0, .int 1, []), some (7, 1, 0, 0, 0, .null, []), some (21, 3, 12, 16, 0, .null, [(0, 1085)])],
  [none, none, some (17, 3, 176, 0, 0, .null, []), none, none, some (1, 2, 4, 0, 0, .null, []), none, some (15, 3, 241, 1, 0, .null, []), none, none, some (3, 1, 0, 0, 0, .null, []), some (32, 3, 167, 1, 48, .null, [(0, 1097)]), none, none, some (17, 3, 242, 0, 0, .null, []), none],
  [none, some (1, 1, 3, 0, 0, .null, []), some (35, 1, 0, 0, 0, .null, [])]]
/-- ColdShodModel.workOut(II)I -/
def zi_176 : List (List (Option zI)) := [[some (3, 1, 0, 0, 0, .null, []), some (1, 1, 1, 0, 0, .null, []), some (21, 3, 12, 15, 0, .null, [(0, 1087)]), none, none, some (3, 1, 0, 0, 0, .null, []), some (0, 1, 0, 0, 0, .int 0, []), some (21, 3, 12, 16, 0, .null, [(0, 1085)]), none, none, some (3, 1, 0, 0, 0, .null, []), some (1, 1, 2, 0, 0, .null, []), some (21, 3, 12, 17, 0, .null, [(0, 1086)]), none, none, some (3, 1, 0, 0, 0, .null, [])],
  [some (0, 1, 0, 0, 0, .int (-1), []), some (21, 3, 12, 18, 0, .null, [(0, 1088)]), none, none, some (3, 1, 0, 0, 0, .null, []), some (0, 1, 0, 0, 0, .int 0, []), some (21, 3, 12, 19, 0, .null, [(0, 1096)]), none, none, some (0, 1, 0, 0, 0, .int 0, []), some (4, 1, 3, 0, 0, .null, []), some (0, 1, 0, 0, 0, .int 0, []), some (4, 2, 4, 0, 0, .null, []), none, some (0, 1, 0, 0, 0, .int 1, []), some (4, 2, 5, 0, 0, .null, [])],
  [none, some (1, 2, 5, 0, 0, .null, []), none, some (15, 3, 107, 0, 0, .null, []), none, none, some (3, 1, 0, 0, 0, .null, []), some (32, 3, 169, 1, 48, .null, [(0, 1098)]), none, none, some (4, 2, 6, 0, 0, .null, []), none, some (0, 1, 0, 0, 0, .int 1, []), some (4, 2, 7, 0, 0, .null, []), none, some (3, 1, 0, 0, 0, .null, [])],
  [some (0, 2, 0, 0, 0, .int 63, []), none, some (32, 3, 168, 2, 48, .null, [(0, 1091)]), none, none, some (15, 3, 74, 0, 0, .null, []), none, none, some (1, 2, 6, 0, 0, .null, []), none, some (15, 3, 65, 0, 0, .null, []), none, none, some (0, 1, 0, 0, 0, .int 1, []), some (17, 3, 66, 0, 0, .null, []), none],
  [none, some (0, 1, 0, 0, 0, .int 0, []), some (4, 2, 7, 0, 0, .null, []), none, some (3, 1, 0, 0, 0, .null, []), some (32, 3, 169, 1, 48, .null, [(0, 1098)]), none, none, some (4, 2, 6, 0, 0, .null, []), none, some (3, 1, 0, 0, 0, .null, []), some (20, 3, 12, 18, 0, .null, [(0, 1088)]), none, none, some (15, 3, 96, 3, 0, .null, []), none],
  [none, some (1, 2, 7, 0, 0, .null, []), none, some (15, 3, 96, 0, 0, .null, []), none, none, some (1, 1, 3, 0, 0, .null, []), some (15, 3, 96, 1, 0, .null, []), none, none, some (0, 1, 0, 0, 0, .int 1, []), some (4, 1, 3, 0, 0, .null, []), some (1, 2, 6, 0, 0, .null, []), none, some (4, 2, 4, 0, 0, .null, []), none],
  [some (3, 1, 0, 0, 0, .null, []), some (0, 2, 0, 0, 0, .int 59, []), none, some (32, 3, 168, 2, 48, .null, [(0, 1091)]), none, none, some (4, 2, 5, 0, 0, .null, []), none, some (17, 3, 33, 0, 0, .null, []), none, none, some (3, 1, 0, 0, 0, .null, []), some (20, 3, 12, 18, 0, .null, [(0, 1088)]), none, none, some (15, 3, 130, 3, 0, .null, [])],
  [none, none, some (3, 1, 0, 0, 0, .null, []), some (20, 3, 12, 16, 0, .null, [(0, 1085)]), none, none, some (3, 1, 0, 0, 0, .null, []), some (20, 3, 12, 17, 0, .null, [(0, 1086)]), none, none, some (16, 3, 130, 3, 0, .null, []), none, none, some (3, 1, 0, 0, 0, .null, []), some (32, 3, 167, 1, 48, .null, [(0, 1097)]), none],
  [none, some (35, 1, 0, 0, 0, .null, []), some (1, 2, 4, 0, 0, .null, []), none, some (35, 1, 0, 0, 0, .null, [])]]
/-- ColdShodModel.law()I -/
def zi_177 : List (List (Option zI)) := [[some (3, 1, 0, 0, 0, .null, []), some (0, 1, 0, 0, 0, .int (-1), []), some (3, 1, 0, 0, 0, .null, []), some (20, 3, 12, 12, 0, .null, [(0, 1084)]), none, none, some (32, 3, 176, 3, 48, .null, [(0, 1100)]), none, none, some (4, 1, 1, 0, 0, .null, []), some (3, 1, 0, 0, 0, .null, []), some (20, 3, 12, 12, 0, .null, [(0, 1084)]), none, none, some (4, 1, 2, 0, 0, .null, []), some (3, 1, 0, 0, 0, .null, [])],
  [some (0, 1, 0, 0, 0, .int 0, []), some (21, 3, 12, 12, 0, .null, [(0, 1084)]), none, none, some (3, 1, 0, 0, 0, .null, []), some (20, 3, 12, 18, 0, .null, [(0, 1088)]), none, none, some (15, 3, 35, 2, 0, .null, []), none, none, some (0, 2, 0, 0, 0, .int (-100), []), none, some (3, 1, 0, 0, 0, .null, []), some (20, 3, 12, 18, 0, .null, [(0, 1088)]), none],
  [none, some (7, 1, 0, 1, 0, .null, []), some (35, 1, 0, 0, 0, .null, []), some (0, 1, 0, 0, 0, .int 0, []), some (4, 1, 3, 0, 0, .null, []), some (1, 1, 3, 0, 0, .null, []), some (1, 1, 2, 0, 0, .null, []), some (16, 3, 60, 3, 0, .null, []), none, none, some (3, 1, 0, 0, 0, .null, []), some (20, 3, 12, 13, 1, .null, [(0, 1037)]), none, none, some (1, 1, 3, 0, 0, .null, []), some (3, 1, 0, 0, 0, .null, [])],
  [some (20, 3, 12, 11, 1, .null, [(0, 1036)]), none, none, some (1, 1, 3, 0, 0, .null, []), some (22, 1, 0, 0, 0, .null, []), some (25, 1, 0, 0, 0, .null, []), some (19, 3, 3, 0, 0, .int 1, []), none, none, some (17, 3, 37, 0, 0, .null, []), none, none, some (3, 1, 0, 0, 0, .null, []), some (1, 1, 2, 0, 0, .null, []), some (21, 3, 12, 14, 0, .null, [(0, 1055)]), none],
  [none, some (0, 1, 0, 0, 0, .int 1, []), some (35, 1, 0, 0, 0, .null, [])]]
/-- ColdShodModel.begins(I)V -/
def zi_178 : List (List (Option zI)) := [[some (0, 1, 0, 0, 0, .int 0, []), some (4, 1, 2, 0, 0, .null, []), some (1, 1, 2, 0, 0, .null, []), some (0, 2, 0, 0, 0, .int 6, []), none, some (16, 3, 34, 3, 0, .null, []), none, none, some (3, 1, 0, 0, 0, .null, []), some (20, 3, 12, 21, 1, .null, [(0, 1039)]), none, none, some (1, 1, 2, 0, 0, .null, []), some (3, 1, 0, 0, 0, .null, []), some (20, 3, 12, 0, 1, .null, [(0, 1030)]), none],
  [none, some (0, 2, 0, 0, 0, .int 12, []), none, some (0, 2, 0, 0, 0, .int 8, []), none, some (1, 1, 2, 0, 0, .null, []), some (7, 1, 0, 2, 0, .null, []), some (7, 1, 0, 0, 0, .null, []), some (1, 1, 1, 0, 0, .null, []), some (7, 1, 0, 0, 0, .null, []), some (22, 1, 0, 0, 0, .null, []), some (25, 1, 0, 0, 0, .null, []), some (19, 3, 2, 0, 0, .int 1, []), none, none, some (17, 3, 2, 0, 0, .null, [])],
  [none, none, some (3, 1, 0, 0, 0, .null, []), some (20, 3, 12, 21, 1, .null, [(0, 1039)]), none, none, some (0, 2, 0, 0, 0, .int 6, []), none, some (3, 1, 0, 0, 0, .null, []), some (20, 3, 12, 0, 1, .null, [(0, 1030)]), none, none, some (0, 2, 0, 0, 0, .int 60, []), none, some (1, 1, 1, 0, 0, .null, []), some (7, 1, 0, 0, 0, .null, [])],
  [some (22, 1, 0, 0, 0, .null, []), some (15, 3, 56, 3, 0, .null, []), none, none, some (0, 1, 0, 0, 0, .int (-1), []), some (17, 3, 70, 0, 0, .null, []), none, none, some (3, 1, 0, 0, 0, .null, []), some (20, 3, 12, 0, 1, .null, [(0, 1030)]), none, none, some (3, 1, 0, 0, 0, .null, []), some (20, 3, 12, 0, 1, .null, [(0, 1030)]), none, none],
  [some (0, 2, 0, 0, 0, .int 60, []), none, some (1, 1, 1, 0, 0, .null, []), some (7, 1, 0, 0, 0, .null, []), some (22, 1, 0, 0, 0, .null, []), some (22, 1, 0, 0, 0, .null, []), some (25, 1, 0, 0, 0, .null, []), some (38, 1, 0, 0, 0, .null, [])]]
/-- ColdShodModel.gripOf(I)I -/
def zi_179 : List (List (Option zI)) := [[some (0, 2, 0, 0, 0, .int 9, []), none, some (1, 1, 0, 0, 0, .null, []), some (0, 2, 0, 0, 0, .int 11, []), none, some (8, 1, 0, 0, 0, .null, []), some (7, 1, 0, 1, 0, .null, []), some (35, 1, 0, 0, 0, .null, [])]]
/-- ColdShodModel.wearsNow(I)I -/
def zi_180 : List (List (Option zI)) := [[some (3, 1, 0, 0, 0, .null, []), some (20, 3, 12, 21, 1, .null, [(0, 1039)]), none, none, some (0, 2, 0, 0, 0, .int 6, []), none, some (22, 1, 0, 0, 0, .null, []), some (15, 3, 15, 3, 0, .null, []), none, none, some (0, 2, 0, 0, 0, .int 9, []), none, some (17, 3, 32, 0, 0, .null, []), none, none, some (3, 1, 0, 0, 0, .null, [])],
  [some (20, 3, 12, 21, 1, .null, [(0, 1039)]), none, none, some (0, 1, 0, 0, 0, .int 1, []), some (22, 1, 0, 0, 0, .null, []), some (3, 1, 0, 0, 0, .null, []), some (20, 3, 12, 21, 1, .null, [(0, 1039)]), none, none, some (0, 2, 0, 0, 0, .int 6, []), none, some (22, 1, 0, 0, 0, .null, []), some (7, 1, 0, 1, 0, .null, []), some (32, 3, 146, 1, 49, .null, [(0, 1101)]), none, none],
  [some (4, 1, 2, 0, 0, .null, []), some (0, 1, 0, 0, 0, .int 1, []), some (3, 1, 0, 0, 0, .null, []), some (20, 3, 12, 0, 1, .null, [(0, 1030)]), none, none, some (0, 2, 0, 0, 0, .int 92, []), none, some (1, 1, 1, 0, 0, .null, []), some (7, 1, 0, 0, 0, .null, []), some (22, 1, 0, 0, 0, .null, []), some (7, 1, 0, 0, 0, .null, []), some (1, 1, 2, 0, 0, .null, []), some (0, 1, 0, 0, 0, .int 3, []), some (8, 1, 0, 0, 0, .null, []), some (7, 1, 0, 0, 0, .null, [])],
  [some (3, 1, 0, 0, 0, .null, []), some (20, 3, 12, 21, 1, .null, [(0, 1039)]), none, none, some (0, 1, 0, 0, 0, .int 0, []), some (22, 1, 0, 0, 0, .null, []), some (0, 1, 0, 0, 0, .int 2, []), some (8, 1, 0, 0, 0, .null, []), some (7, 1, 0, 1, 0, .null, []), some (4, 1, 3, 0, 0, .null, []), some (3, 1, 0, 0, 0, .null, []), some (20, 3, 12, 14, 0, .null, [(0, 1055)]), none, none, some (15, 3, 148, 2, 0, .null, []), none],
  [none, some (3, 1, 0, 0, 0, .null, []), some (20, 3, 12, 20, 1, .null, [(0, 1038)]), none, none, some (0, 1, 0, 0, 0, .int 0, []), some (3, 1, 0, 0, 0, .null, []), some (20, 3, 12, 21, 1, .null, [(0, 1039)]), none, none, some (0, 1, 0, 0, 0, .int 0, []), some (22, 1, 0, 0, 0, .null, []), some (25, 1, 0, 0, 0, .null, []), some (3, 1, 0, 0, 0, .null, []), some (20, 3, 12, 20, 1, .null, [(0, 1038)]), none],
  [none, some (0, 1, 0, 0, 0, .int 1, []), some (3, 1, 0, 0, 0, .null, []), some (20, 3, 12, 21, 1, .null, [(0, 1039)]), none, none, some (0, 1, 0, 0, 0, .int 2, []), some (22, 1, 0, 0, 0, .null, []), some (25, 1, 0, 0, 0, .null, []), some (3, 1, 0, 0, 0, .null, []), some (20, 3, 12, 20, 1, .null, [(0, 1038)]), none, none, some (0, 1, 0, 0, 0, .int 2, []), some (3, 1, 0, 0, 0, .null, []), some (20, 3, 12, 21, 1, .null, [(0, 1039)])],
  [none, none, some (0, 1, 0, 0, 0, .int 3, []), some (22, 1, 0, 0, 0, .null, []), some (25, 1, 0, 0, 0, .null, []), some (3, 1, 0, 0, 0, .null, []), some (20, 3, 12, 20, 1, .null, [(0, 1038)]), none, none, some (0, 1, 0, 0, 0, .int 3, []), some (1, 1, 2, 0, 0, .null, []), some (25, 1, 0, 0, 0, .null, []), some (3, 1, 0, 0, 0, .null, []), some (20, 3, 12, 20, 1, .null, [(0, 1038)]), none, none],
  [some (0, 1, 0, 0, 0, .int 4, []), some (3, 1, 0, 0, 0, .null, []), some (20, 3, 12, 0, 1, .null, [(0, 1030)]), none, none, some (0, 2, 0, 0, 0, .int 80, []), none, some (1, 1, 1, 0, 0, .null, []), some (7, 1, 0, 0, 0, .null, []), some (22, 1, 0, 0, 0, .null, []), some (25, 1, 0, 0, 0, .null, []), some (3, 1, 0, 0, 0, .null, []), some (20, 3, 12, 20, 1, .null, [(0, 1038)]), none, none, some (0, 1, 0, 0, 0, .int 5, [])],
  [some (3, 1, 0, 0, 0, .null, []), some (20, 3, 12, 0, 1, .null, [(0, 1030)]), none, none, some (0, 2, 0, 0, 0, .int 92, []), none, some (1, 1, 1, 0, 0, .null, []), some (7, 1, 0, 0, 0, .null, []), some (22, 1, 0, 0, 0, .null, []), some (25, 1, 0, 0, 0, .null, []), some (3, 1, 0, 0, 0, .null, []), some (0, 1, 0, 0, 0, .int 0, []), some (3, 1, 0, 0, 0, .null, []), some (20, 3, 12, 14, 0, .null, [(0, 1055)]), none, none],
  [some (32, 3, 176, 3, 48, .null, [(0, 1100)]), none, none, some (4, 1, 3, 0, 0, .null, []), some (1, 1, 3, 0, 0, .null, []), some (15, 3, 156, 3, 0, .null, []), none, none, some (0, 1, 0, 0, 0, .int 0, []), some (17, 3, 168, 0, 0, .null, []), none, none, some (1, 1, 3, 0, 0, .null, []), some (0, 2, 0, 0, 0, .int 9, []), none, some (16, 3, 167, 5, 0, .null, [])],
  [none, none, some (0, 2, 0, 0, 0, .int 9, []), none, some (17, 3, 168, 0, 0, .null, []), none, none, some (1, 1, 3, 0, 0, .null, []), some (35, 1, 0, 0, 0, .null, [])]]
/-- ColdShodModel.wears(II)I -/
def zi_181 : List (List (Option zI)) := [[some (3, 1, 0, 0, 0, .null, []), some (1, 1, 1, 0, 0, .null, []), some (10, 1, 0, 0, 0, .null, []), some (32, 3, 152, 2, 48, .null, [(0, 1074)]), none, none, some (15, 3, 18, 0, 0, .null, []), none, none, some (3, 1, 0, 0, 0, .null, []), some (1, 1, 2, 0, 0, .null, []), some (10, 1, 0, 0, 0, .null, []), some (32, 3, 153, 2, 48, .null, [(0, 1076)]), none, none, some (15, 3, 20, 1, 0, .null, [])],
  [none, none, some (0, 1, 0, 0, 0, .int (-1), []), some (35, 1, 0, 0, 0, .null, []), some (3, 1, 0, 0, 0, .null, []), some (1, 1, 1, 0, 0, .null, []), some (32, 3, 178, 2, 48, .null, [(0, 1102)]), none, none, some (3, 1, 0, 0, 0, .null, []), some (1, 1, 2, 0, 0, .null, []), some (32, 3, 180, 2, 48, .null, [(0, 1103)]), none, none, some (35, 1, 0, 0, 0, .null, [])]]
/-- ColdShodModel.mayGo(I)Z -/
def zi_182 : List (List (Option zI)) := [[some (3, 1, 0, 0, 0, .null, []), some (20, 3, 12, 21, 1, .null, [(0, 1039)]), none, none, some (0, 1, 0, 0, 0, .int 2, []), some (22, 1, 0, 0, 0, .null, []), some (0, 2, 0, 0, 0, .int 99, []), none, some (16, 3, 36, 3, 0, .null, []), none, none, some (3, 1, 0, 0, 0, .null, []), some (20, 3, 12, 0, 1, .null, [(0, 1030)]), none, none, some (0, 2, 0, 0, 0, .int 80, [])],
  [none, some (1, 1, 1, 0, 0, .null, []), some (7, 1, 0, 0, 0, .null, []), some (22, 1, 0, 0, 0, .null, []), some (3, 1, 0, 0, 0, .null, []), some (20, 3, 12, 21, 1, .null, [(0, 1039)]), none, none, some (0, 1, 0, 0, 0, .int 2, []), some (22, 1, 0, 0, 0, .null, []), some (32, 3, 179, 1, 49, .null, [(0, 1082)]), none, none, some (16, 3, 36, 4, 0, .null, []), none, none],
  [some (0, 1, 0, 0, 0, .int 1, []), some (17, 3, 37, 0, 0, .null, []), none, none, some (0, 1, 0, 0, 0, .int 0, []), some (35, 1, 0, 0, 1, .null, [])]]
/-- ColdShodModel.goesRoad(I)V -/
def zi_183 : List (List (Option zI)) := [[some (3, 1, 0, 0, 0, .null, []), some (0, 1, 0, 0, 0, .int 0, []), some (21, 3, 12, 22, 0, .null, [(0, 1104)]), none, none, some (3, 1, 0, 0, 0, .null, []), some (0, 1, 0, 0, 0, .int 0, []), some (21, 3, 12, 23, 2, .null, [(0, 1105)]), none, none, some (3, 1, 0, 0, 0, .null, []), some (1, 1, 1, 0, 0, .null, []), some (32, 3, 182, 2, 48, .null, [(0, 1106)]), none, none, some (15, 3, 144, 0, 0, .null, [])],
  [none, none, some (3, 1, 0, 0, 0, .null, []), some (20, 3, 12, 22, 0, .null, [(0, 1104)]), none, none, some (3, 1, 0, 0, 0, .null, []), some (20, 3, 12, 0, 1, .null, [(0, 1030)]), none, none, some (0, 2, 0, 0, 0, .int 68, []), none, some (1, 1, 1, 0, 0, .null, []), some (7, 1, 0, 0, 0, .null, []), some (22, 1, 0, 0, 0, .null, []), some (16, 3, 89, 3, 0, .null, [])],
  [none, none, some (3, 1, 0, 0, 0, .null, []), some (20, 3, 12, 21, 1, .null, [(0, 1039)]), none, none, some (0, 1, 0, 0, 0, .int 2, []), some (22, 1, 0, 0, 0, .null, []), some (0, 2, 0, 0, 0, .int 99, []), none, some (16, 3, 89, 3, 0, .null, []), none, none, some (3, 1, 0, 0, 0, .null, []), some (20, 3, 12, 21, 1, .null, [(0, 1039)]), none],
  [none, some (0, 1, 0, 0, 0, .int 2, []), some (22, 1, 0, 0, 0, .null, []), some (3, 1, 0, 0, 0, .null, []), some (1, 1, 1, 0, 0, .null, []), some (32, 3, 180, 2, 48, .null, [(0, 1103)]), none, none, some (7, 1, 0, 0, 0, .null, []), some (4, 1, 2, 0, 0, .null, []), some (3, 1, 0, 0, 0, .null, []), some (20, 3, 12, 21, 1, .null, [(0, 1039)]), none, none, some (0, 1, 0, 0, 0, .int 2, []), some (1, 1, 2, 0, 0, .null, [])],
  [some (0, 2, 0, 0, 0, .int 99, []), none, some (16, 3, 74, 5, 0, .null, []), none, none, some (0, 2, 0, 0, 0, .int 99, []), none, some (17, 3, 75, 0, 0, .null, []), none, none, some (1, 1, 2, 0, 0, .null, []), some (25, 1, 0, 0, 0, .null, []), some (3, 1, 0, 0, 0, .null, []), some (39, 1, 0, 0, 0, .null, []), some (20, 3, 12, 22, 0, .null, [(0, 1104)]), none],
  [none, some (0, 1, 0, 0, 0, .int 1, []), some (7, 1, 0, 0, 0, .null, []), some (21, 3, 12, 22, 0, .null, [(0, 1104)]), none, none, some (17, 3, 18, 0, 0, .null, []), none, none, some (3, 1, 0, 0, 0, .null, []), some (3, 1, 0, 0, 0, .null, []), some (20, 3, 12, 22, 0, .null, [(0, 1104)]), none, none, some (3, 1, 0, 0, 0, .null, []), some (20, 3, 12, 0, 1, .null, [(0, 1030)])],
  [none, none, some (0, 2, 0, 0, 0, .int 68, []), none, some (1, 1, 1, 0, 0, .null, []), some (7, 1, 0, 0, 0, .null, []), some (22, 1, 0, 0, 0, .null, []), some (16, 3, 110, 1, 0, .null, []), none, none, some (0, 1, 0, 0, 0, .int 1, []), some (17, 3, 111, 0, 0, .null, []), none, none, some (0, 1, 0, 0, 0, .int 0, []), some (21, 3, 12, 23, 2, .null, [(0, 1105)])],
  [none, none, some (3, 1, 0, 0, 0, .null, []), some (20, 3, 12, 21, 1, .null, [(0, 1039)]), none, none, some (0, 1, 0, 0, 0, .int 3, []), some (41, 1, 0, 0, 0, .null, []), some (22, 1, 0, 0, 0, .null, []), some (3, 1, 0, 0, 0, .null, []), some (20, 3, 12, 23, 0, .null, [(0, 1105)]), none, none, some (15, 3, 141, 0, 0, .null, []), none, none],
  [some (3, 1, 0, 0, 0, .null, []), some (20, 3, 12, 21, 1, .null, [(0, 1039)]), none, none, some (0, 1, 0, 0, 0, .int 3, []), some (22, 1, 0, 0, 0, .null, []), some (15, 3, 141, 5, 0, .null, []), none, none, some (0, 1, 0, 0, 0, .int 1, []), some (17, 3, 142, 0, 0, .null, []), none, none, some (0, 1, 0, 0, 0, .int 0, []), some (7, 1, 0, 1, 0, .null, []), some (25, 1, 0, 0, 0, .null, [])],
  [some (38, 1, 0, 0, 0, .null, [])]]
/-- ColdShodModel.strikes(I)Z -/
def zi_184 : List (List (Option zI)) := [[some (1, 1, 1, 0, 0, .null, []), some (18, 27, 165, 0, 1, .null, [(0, 28), (3, 111)]), none, none, none, none, none, none, none, none, none, none, none, none, none, none],
  [none, none, none, none, none, none, none, none, none, none, none, none, some (3, 1, 0, 0, 0, .null, []), some (20, 3, 12, 21, 1, .null, [(0, 1039)]), none, none],
  [some (0, 1, 0, 0, 0, .int 4, []), some (22, 1, 0, 0, 0, .null, []), some (0, 1, 0, 0, 0, .int 1, []), some (16, 3, 49, 1, 0, .null, []), none, none, some (3, 1, 0, 0, 0, .null, []), some (20, 3, 12, 21, 1, .null, [(0, 1039)]), none, none, some (0, 1, 0, 0, 0, .int 5, []), some (22, 1, 0, 0, 0, .null, []), some (15, 3, 49, 5, 0, .null, []), none, none, some (0, 1, 0, 0, 0, .int 0, [])],
  [some (35, 1, 0, 0, 1, .null, []), some (3, 1, 0, 0, 0, .null, []), some (20, 3, 12, 21, 1, .null, [(0, 1039)]), none, none, some (0, 1, 0, 0, 0, .int 3, []), some (3, 1, 0, 0, 0, .null, []), some (20, 3, 12, 21, 1, .null, [(0, 1039)]), none, none, some (0, 1, 0, 0, 0, .int 3, []), some (22, 1, 0, 0, 0, .null, []), some (0, 2, 0, 0, 0, .int 6, []), none, some (16, 3, 70, 5, 0, .null, []), none],
  [none, some (0, 2, 0, 0, 0, .int 9, []), none, some (17, 3, 78, 0, 0, .null, []), none, none, some (3, 1, 0, 0, 0, .null, []), some (20, 3, 12, 21, 1, .null, [(0, 1039)]), none, none, some (0, 1, 0, 0, 0, .int 3, []), some (22, 1, 0, 0, 0, .null, []), some (0, 1, 0, 0, 0, .int 3, []), some (7, 1, 0, 0, 0, .null, []), some (25, 1, 0, 0, 0, .null, []), some (3, 1, 0, 0, 0, .null, [])],
  [some (20, 3, 12, 21, 1, .null, [(0, 1039)]), none, none, some (0, 1, 0, 0, 0, .int 5, []), some (3, 1, 0, 0, 0, .null, []), some (20, 3, 12, 21, 1, .null, [(0, 1039)]), none, none, some (0, 1, 0, 0, 0, .int 5, []), some (22, 1, 0, 0, 0, .null, []), some (0, 2, 0, 0, 0, .int 8, []), none, some (16, 3, 100, 5, 0, .null, []), none, none, some (0, 2, 0, 0, 0, .int 9, [])],
  [none, some (17, 3, 108, 0, 0, .null, []), none, none, some (3, 1, 0, 0, 0, .null, []), some (20, 3, 12, 21, 1, .null, [(0, 1039)]), none, none, some (0, 1, 0, 0, 0, .int 5, []), some (22, 1, 0, 0, 0, .null, []), some (0, 1, 0, 0, 0, .int 1, []), some (7, 1, 0, 0, 0, .null, []), some (25, 1, 0, 0, 0, .null, []), some (0, 1, 0, 0, 0, .int 1, []), some (35, 1, 0, 0, 1, .null, []), some (3, 1, 0, 0, 0, .null, [])],
  [some (20, 3, 12, 21, 1, .null, [(0, 1039)]), none, none, some (0, 1, 0, 0, 0, .int 3, []), some (22, 1, 0, 0, 0, .null, []), some (0, 1, 0, 0, 0, .int 1, []), some (16, 3, 123, 3, 0, .null, []), none, none, some (0, 1, 0, 0, 0, .int 0, []), some (35, 1, 0, 0, 1, .null, []), some (3, 1, 0, 0, 0, .null, []), some (20, 3, 12, 21, 1, .null, [(0, 1039)]), none, none, some (0, 1, 0, 0, 0, .int 3, [])],
  [some (41, 1, 0, 0, 0, .null, []), some (22, 1, 0, 0, 0, .null, []), some (0, 1, 0, 0, 0, .int 1, []), some (7, 1, 0, 1, 0, .null, []), some (25, 1, 0, 0, 0, .null, []), some (3, 1, 0, 0, 0, .null, []), some (20, 3, 12, 21, 1, .null, [(0, 1039)]), none, none, some (0, 1, 0, 0, 0, .int 2, []), some (3, 1, 0, 0, 0, .null, []), some (20, 3, 12, 21, 1, .null, [(0, 1039)]), none, none, some (0, 1, 0, 0, 0, .int 2, []), some (22, 1, 0, 0, 0, .null, [])],
  [some (0, 2, 0, 0, 0, .int 10, []), none, some (16, 3, 153, 3, 0, .null, []), none, none, some (0, 1, 0, 0, 0, .int 0, []), some (17, 3, 162, 0, 0, .null, []), none, none, some (3, 1, 0, 0, 0, .null, []), some (20, 3, 12, 21, 1, .null, [(0, 1039)]), none, none, some (0, 1, 0, 0, 0, .int 2, []), some (22, 1, 0, 0, 0, .null, []), some (0, 2, 0, 0, 0, .int 10, [])],
  [none, some (7, 1, 0, 1, 0, .null, []), some (25, 1, 0, 0, 0, .null, []), some (0, 1, 0, 0, 0, .int 1, []), some (35, 1, 0, 0, 1, .null, []), some (3, 1, 0, 0, 0, .null, []), some (1, 1, 1, 0, 0, .null, []), some (0, 1, 0, 0, 0, .int 1, []), some (16, 3, 175, 1, 0, .null, []), none, none, some (0, 1, 0, 0, 0, .int 1, []), some (17, 3, 176, 0, 0, .null, []), none, none, some (0, 1, 0, 0, 0, .int (-1), [])],
  [some (32, 3, 185, 2, 48, .null, [(0, 1107)]), none, none, some (35, 1, 0, 0, 1, .null, [])]]
/-- ColdShodModel.drawsBy(I)Z -/
def zi_185 : List (List (Option zI)) := [[some (3, 1, 0, 0, 0, .null, []), some (20, 3, 12, 21, 1, .null, [(0, 1039)]), none, none, some (0, 1, 0, 0, 0, .int 3, []), some (22, 1, 0, 0, 0, .null, []), some (0, 1, 0, 0, 0, .int 2, []), some (16, 3, 29, 2, 0, .null, []), none, none, some (3, 1, 0, 0, 0, .null, []), some (20, 3, 12, 21, 1, .null, [(0, 1039)]), none, none, some (0, 1, 0, 0, 0, .int 1, []), some (22, 1, 0, 0, 0, .null, [])],
  [some (1, 1, 1, 0, 0, .null, []), some (7, 1, 0, 0, 0, .null, []), some (10, 1, 0, 0, 0, .null, []), some (0, 1, 0, 0, 0, .long 0, []), some (0, 3, 0, 0, 0, .long 5, [(0, 1063)]), none, none, some (32, 3, 143, 3, 49, .null, [(0, 1059)]), none, none, some (15, 3, 31, 1, 0, .null, []), none, none, some (0, 1, 0, 0, 0, .int 0, []), some (35, 1, 0, 0, 1, .null, []), some (3, 1, 0, 0, 0, .null, [])],
  [some (20, 3, 12, 21, 1, .null, [(0, 1039)]), none, none, some (0, 1, 0, 0, 0, .int 3, []), some (41, 1, 0, 0, 0, .null, []), some (22, 1, 0, 0, 0, .null, []), some (0, 1, 0, 0, 0, .int 2, []), some (7, 1, 0, 1, 0, .null, []), some (25, 1, 0, 0, 0, .null, []), some (3, 1, 0, 0, 0, .null, []), some (20, 3, 12, 21, 1, .null, [(0, 1039)]), none, none, some (0, 1, 0, 0, 0, .int 1, []), some (41, 1, 0, 0, 0, .null, []), some (22, 1, 0, 0, 0, .null, [])],
  [some (1, 1, 1, 0, 0, .null, []), some (7, 1, 0, 0, 0, .null, []), some (25, 1, 0, 0, 0, .null, []), some (0, 1, 0, 0, 0, .int 1, []), some (35, 1, 0, 0, 1, .null, [])]]
/-- ColdShodModel.bytesIs(I)I -/
def zi_186 : List (List (Option zI)) := [[some (1, 1, 1, 0, 0, .null, []), some (32, 3, 228, 1, 49, .null, [(0, 1069)]), none, none, some (15, 3, 11, 1, 0, .null, []), none, none, some (0, 1, 0, 0, 0, .int (-1), []), some (17, 3, 42, 0, 0, .null, []), none, none, some (3, 1, 0, 0, 0, .null, []), some (20, 3, 12, 45, 1, .null, [(0, 1051)]), none, none, some (1, 1, 1, 0, 0, .null, [])],
  [some (22, 1, 0, 0, 0, .null, []), some (15, 3, 25, 3, 0, .null, []), none, none, some (0, 2, 0, 0, 0, .int (-11), []), none, some (17, 3, 42, 0, 0, .null, []), none, none, some (3, 1, 0, 0, 0, .null, []), some (20, 3, 12, 45, 1, .null, [(0, 1051)]), none, none, some (1, 1, 1, 0, 0, .null, []), some (22, 1, 0, 0, 0, .null, []), some (0, 2, 0, 0, 0, .int 50, [])],
  [none, some (16, 3, 40, 1, 0, .null, []), none, none, some (0, 1, 0, 0, 0, .int 1, []), some (17, 3, 42, 0, 0, .null, []), none, none, some (0, 2, 0, 0, 0, .int (-12), []), none, some (35, 1, 0, 0, 0, .null, [])]]
/-- ColdShodModel.roadMany(I)I -/
def zi_187 : List (List (Option zI)) := [[some (0, 1, 0, 0, 0, .int 0, []), some (4, 1, 2, 0, 0, .null, []), some (1, 1, 2, 0, 0, .null, []), some (0, 2, 0, 0, 0, .int 20, []), none, some (16, 3, 42, 3, 0, .null, []), none, none, some (1, 1, 2, 0, 0, .null, []), some (3, 1, 0, 0, 0, .null, []), some (20, 3, 12, 46, 1, .null, [(0, 1052)]), none, none, some (1, 1, 1, 0, 0, .null, []), some (22, 1, 0, 0, 0, .null, []), some (16, 3, 42, 3, 0, .null, [])],
  [none, none, some (3, 1, 0, 0, 0, .null, []), some (3, 1, 0, 0, 0, .null, []), some (20, 3, 12, 47, 1, .null, [(0, 1053)]), none, none, some (0, 2, 0, 0, 0, .int 60, []), none, some (1, 1, 1, 0, 0, .null, []), some (7, 1, 0, 2, 0, .null, []), some (1, 1, 2, 0, 0, .null, []), some (7, 1, 0, 0, 0, .null, []), some (23, 1, 0, 0, 0, .null, []), some (32, 3, 153, 2, 48, .null, [(0, 1076)]), none],
  [none, some (15, 3, 42, 0, 0, .null, []), none, none, some (19, 3, 2, 0, 0, .int 1, []), none, none, some (17, 3, 2, 0, 0, .null, []), none, none, some (1, 1, 2, 0, 0, .null, []), some (35, 1, 0, 0, 0, .null, [])]]
/-- ColdShodModel.goesJourney(I)V -/
def zi_188 : List (List (Option zI)) := [[some (3, 1, 0, 0, 0, .null, []), some (0, 1, 0, 0, 0, .int 0, []), some (21, 3, 12, 24, 0, .null, [(0, 1108)]), none, none, some (3, 1, 0, 0, 0, .null, []), some (0, 1, 0, 0, 0, .int 0, []), some (21, 3, 12, 25, 0, .null, [(0, 1109)]), none, none, some (0, 1, 0, 0, 0, .int 1, []), some (4, 1, 2, 0, 0, .null, []), some (1, 1, 2, 0, 0, .null, []), some (15, 3, 89, 0, 0, .null, []), none, none],
  [some (3, 1, 0, 0, 0, .null, []), some (20, 3, 12, 25, 0, .null, [(0, 1109)]), none, none, some (3, 1, 0, 0, 0, .null, []), some (1, 1, 1, 0, 0, .null, []), some (32, 3, 187, 2, 48, .null, [(0, 1110)]), none, none, some (16, 3, 89, 3, 0, .null, []), none, none, some (3, 1, 0, 0, 0, .null, []), some (3, 1, 0, 0, 0, .null, []), some (20, 3, 12, 47, 1, .null, [(0, 1053)]), none],
  [none, some (0, 2, 0, 0, 0, .int 60, []), none, some (1, 1, 1, 0, 0, .null, []), some (7, 1, 0, 2, 0, .null, []), some (3, 1, 0, 0, 0, .null, []), some (20, 3, 12, 25, 0, .null, [(0, 1109)]), none, none, some (7, 1, 0, 0, 0, .null, []), some (23, 1, 0, 0, 0, .null, []), some (11, 1, 0, 0, 0, .null, []), some (32, 3, 183, 2, 48, .null, [(0, 1111)]), none, none, some (3, 1, 0, 0, 0, .null, [])],
  [some (39, 1, 0, 0, 0, .null, []), some (20, 3, 12, 24, 0, .null, [(0, 1108)]), none, none, some (3, 1, 0, 0, 0, .null, []), some (20, 3, 12, 22, 0, .null, [(0, 1104)]), none, none, some (7, 1, 0, 0, 0, .null, []), some (21, 3, 12, 24, 0, .null, [(0, 1108)]), none, none, some (3, 1, 0, 0, 0, .null, []), some (20, 3, 12, 23, 0, .null, [(0, 1105)]), none, none],
  [some (4, 1, 2, 0, 0, .null, []), some (3, 1, 0, 0, 0, .null, []), some (39, 1, 0, 0, 0, .null, []), some (20, 3, 12, 25, 0, .null, [(0, 1109)]), none, none, some (3, 1, 0, 0, 0, .null, []), some (20, 3, 12, 23, 0, .null, [(0, 1105)]), none, none, some (15, 3, 81, 0, 0, .null, []), none, none, some (0, 1, 0, 0, 0, .int 1, []), some (17, 3, 82, 0, 0, .null, []), none],
  [none, some (0, 1, 0, 0, 0, .int 0, []), some (7, 1, 0, 0, 0, .null, []), some (21, 3, 12, 25, 0, .null, [(0, 1109)]), none, none, some (17, 3, 12, 0, 0, .null, []), none, none, some (38, 1, 0, 0, 0, .null, [])]]
/-- ColdShodModel.journey(III)I -/
def zi_189 : List (List (Option zI)) := [[some (3, 1, 0, 0, 0, .null, []), some (1, 1, 1, 0, 0, .null, []), some (32, 3, 186, 2, 48, .null, [(0, 1112)]), none, none, some (0, 1, 0, 0, 0, .int (-1), []), some (16, 3, 30, 0, 0, .null, []), none, none, some (3, 1, 0, 0, 0, .null, []), some (1, 1, 2, 0, 0, .null, []), some (10, 1, 0, 0, 0, .null, []), some (32, 3, 152, 2, 48, .null, [(0, 1074)]), none, none, some (15, 3, 30, 0, 0, .null, [])],
  [none, none, some (1, 1, 3, 0, 0, .null, []), some (10, 1, 0, 0, 0, .null, []), some (0, 1, 0, 0, 0, .long 0, []), some (0, 3, 0, 0, 0, .long 4, [(0, 1113)]), none, none, some (32, 3, 143, 3, 49, .null, [(0, 1059)]), none, none, some (15, 3, 32, 1, 0, .null, []), none, none, some (0, 1, 0, 0, 0, .int (-1), []), some (35, 1, 0, 0, 0, .null, [])],
  [some (3, 1, 0, 0, 0, .null, []), some (1, 1, 1, 0, 0, .null, []), some (32, 3, 186, 2, 48, .null, [(0, 1112)]), none, none, some (15, 3, 46, 3, 0, .null, []), none, none, some (3, 1, 0, 0, 0, .null, []), some (1, 1, 1, 0, 0, .null, []), some (32, 3, 186, 2, 48, .null, [(0, 1112)]), none, none, some (35, 1, 0, 0, 0, .null, []), some (3, 1, 0, 0, 0, .null, []), some (1, 1, 2, 0, 0, .null, [])],
  [some (32, 3, 178, 2, 48, .null, [(0, 1102)]), none, none, some (3, 1, 0, 0, 0, .null, []), some (1, 1, 1, 0, 0, .null, []), some (32, 3, 188, 2, 48, .null, [(0, 1114)]), none, none, some (1, 1, 3, 0, 0, .null, []), some (18, 31, 112, 0, 0, .null, [(0, 88), (1, 93), (2, 98), (3, 105)]), none, none, none, none, none, none],
  [none, none, none, none, none, none, none, none, none, none, none, none, none, none, none, none],
  [none, none, none, none, none, none, none, none, some (3, 1, 0, 0, 0, .null, []), some (20, 3, 12, 24, 0, .null, [(0, 1108)]), none, none, some (35, 1, 0, 0, 0, .null, []), some (3, 1, 0, 0, 0, .null, []), some (20, 3, 12, 25, 0, .null, [(0, 1109)]), none],
  [none, some (35, 1, 0, 0, 0, .null, []), some (3, 1, 0, 0, 0, .null, []), some (20, 3, 12, 21, 1, .null, [(0, 1039)]), none, none, some (0, 1, 0, 0, 0, .int 2, []), some (22, 1, 0, 0, 0, .null, []), some (35, 1, 0, 0, 0, .null, []), some (3, 1, 0, 0, 0, .null, []), some (20, 3, 12, 21, 1, .null, [(0, 1039)]), none, none, some (0, 1, 0, 0, 0, .int 3, []), some (22, 1, 0, 0, 0, .null, []), some (35, 1, 0, 0, 0, .null, [])],
  [some (3, 1, 0, 0, 0, .null, []), some (20, 3, 12, 25, 0, .null, [(0, 1109)]), none, none, some (3, 1, 0, 0, 0, .null, []), some (1, 1, 1, 0, 0, .null, []), some (32, 3, 187, 2, 48, .null, [(0, 1110)]), none, none, some (16, 3, 131, 3, 0, .null, []), none, none, some (3, 1, 0, 0, 0, .null, []), some (20, 3, 12, 25, 0, .null, [(0, 1109)]), none, none],
  [some (17, 3, 133, 0, 0, .null, []), none, none, some (0, 2, 0, 0, 0, .int (-2), []), none, some (35, 1, 0, 0, 0, .null, [])]]
/-- ColdShodModel.goesBy(IIII)Z -/
def zi_190 : List (List (Option zI)) := [[some (1, 1, 3, 0, 0, .null, []), some (1, 2, 4, 0, 0, .null, []), none, some (16, 3, 62, 1, 0, .null, []), none, none, some (3, 1, 0, 0, 0, .null, []), some (1, 1, 2, 0, 0, .null, []), some (32, 3, 178, 2, 48, .null, [(0, 1102)]), none, none, some (0, 1, 0, 0, 0, .int 0, []), some (4, 2, 5, 0, 0, .null, []), none, some (1, 2, 5, 0, 0, .null, []), none],
  [some (1, 2, 4, 0, 0, .null, []), none, some (16, 3, 39, 3, 0, .null, []), none, none, some (3, 1, 0, 0, 0, .null, []), some (3, 1, 0, 0, 0, .null, []), some (20, 3, 12, 26, 1, .null, [(0, 1040)]), none, none, some (1, 2, 5, 0, 0, .null, []), none, some (22, 1, 0, 0, 0, .null, []), some (32, 3, 184, 2, 48, .null, [(0, 1115)]), none, none],
  [some (42, 1, 0, 0, 0, .null, []), some (19, 3, 5, 0, 0, .int 1, []), none, none, some (17, 3, 14, 0, 0, .null, []), none, none, some (3, 1, 0, 0, 0, .null, []), some (1, 1, 1, 0, 0, .null, []), some (32, 3, 188, 2, 48, .null, [(0, 1114)]), none, none, some (3, 1, 0, 0, 0, .null, []), some (20, 3, 12, 25, 0, .null, [(0, 1109)]), none, none],
  [some (3, 1, 0, 0, 0, .null, []), some (1, 1, 1, 0, 0, .null, []), some (32, 3, 187, 2, 48, .null, [(0, 1110)]), none, none, some (16, 3, 60, 1, 0, .null, []), none, none, some (0, 1, 0, 0, 0, .int 1, []), some (17, 3, 61, 0, 0, .null, []), none, none, some (0, 1, 0, 0, 0, .int 0, []), some (35, 1, 0, 0, 1, .null, []), some (0, 1, 0, 0, 0, .int 0, []), some (4, 2, 5, 0, 0, .null, [])],
  [none, some (1, 2, 5, 0, 0, .null, []), none, some (0, 1, 0, 0, 0, .int 4, []), some (16, 3, 101, 3, 0, .null, []), none, none, some (3, 1, 0, 0, 0, .null, []), some (20, 3, 12, 26, 1, .null, [(0, 1040)]), none, none, some (1, 1, 3, 0, 0, .null, []), some (1, 2, 5, 0, 0, .null, []), none, some (25, 1, 0, 0, 0, .null, []), some (3, 1, 0, 0, 0, .null, [])],
  [some (1, 1, 1, 0, 0, .null, []), some (1, 1, 2, 0, 0, .null, []), some (1, 1, 3, 0, 0, .null, []), some (0, 1, 0, 0, 0, .int 1, []), some (7, 1, 0, 0, 0, .null, []), some (1, 2, 4, 0, 0, .null, []), none, some (32, 3, 190, 5, 48, .null, [(0, 1116)]), none, none, some (15, 3, 95, 0, 0, .null, []), none, none, some (0, 1, 0, 0, 0, .int 1, []), some (35, 1, 0, 0, 1, .null, []), some (19, 3, 5, 0, 0, .int 1, [])],
  [none, none, some (17, 3, 65, 0, 0, .null, []), none, none, some (0, 1, 0, 0, 0, .int 0, []), some (35, 1, 0, 0, 1, .null, [])]]
/-- ColdShodModel.strokes(III)I -/
def zi_191 : List (List (Option zI)) := [[some (3, 1, 0, 0, 0, .null, []), some (1, 1, 1, 0, 0, .null, []), some (32, 3, 186, 2, 48, .null, [(0, 1112)]), none, none, some (0, 1, 0, 0, 0, .int (-1), []), some (16, 3, 23, 0, 0, .null, []), none, none, some (3, 1, 0, 0, 0, .null, []), some (1, 1, 2, 0, 0, .null, []), some (10, 1, 0, 0, 0, .null, []), some (32, 3, 152, 2, 48, .null, [(0, 1074)]), none, none, some (15, 3, 23, 0, 0, .null, [])],
  [none, none, some (1, 1, 3, 0, 0, .null, []), some (0, 1, 0, 0, 0, .int (-1), []), some (16, 3, 25, 3, 0, .null, []), none, none, some (0, 1, 0, 0, 0, .int (-1), []), some (35, 1, 0, 0, 0, .null, []), some (3, 1, 0, 0, 0, .null, []), some (1, 1, 1, 0, 0, .null, []), some (32, 3, 186, 2, 48, .null, [(0, 1112)]), none, none, some (15, 3, 39, 3, 0, .null, []), none],
  [none, some (3, 1, 0, 0, 0, .null, []), some (1, 1, 1, 0, 0, .null, []), some (32, 3, 186, 2, 48, .null, [(0, 1112)]), none, none, some (35, 1, 0, 0, 0, .null, []), some (0, 1, 0, 0, 0, .int 0, []), some (4, 2, 4, 0, 0, .null, []), none, some (1, 2, 4, 0, 0, .null, []), none, some (0, 1, 0, 0, 0, .int 4, []), some (16, 3, 93, 4, 0, .null, []), none, none],
  [some (3, 1, 0, 0, 0, .null, []), some (1, 1, 1, 0, 0, .null, []), some (1, 1, 2, 0, 0, .null, []), some (0, 1, 0, 0, 0, .int 0, []), some (1, 2, 4, 0, 0, .null, []), none, some (32, 3, 190, 5, 48, .null, [(0, 1116)]), none, none, some (15, 3, 87, 0, 0, .null, []), none, none, some (1, 1, 3, 0, 0, .null, []), some (15, 3, 69, 3, 0, .null, []), none, none],
  [some (1, 2, 4, 0, 0, .null, []), none, some (17, 3, 86, 0, 0, .null, []), none, none, some (1, 1, 3, 0, 0, .null, []), some (1, 2, 4, 0, 0, .null, []), none, some (16, 3, 84, 3, 0, .null, []), none, none, some (3, 1, 0, 0, 0, .null, []), some (20, 3, 12, 26, 1, .null, [(0, 1040)]), none, none, some (1, 1, 3, 0, 0, .null, [])],
  [some (22, 1, 0, 0, 0, .null, []), some (17, 3, 86, 0, 0, .null, []), none, none, some (0, 2, 0, 0, 0, .int (-2), []), none, some (35, 1, 0, 0, 0, .null, []), some (19, 3, 4, 0, 0, .int 1, []), none, none, some (17, 3, 42, 0, 0, .null, []), none, none, some (0, 2, 0, 0, 0, .int (-2), []), none, some (35, 1, 0, 0, 0, .null, [])]]
/-- ColdShodModel.triesWay(IIIII)V -/
def zi_192 : List (List (Option zI)) := [[some (1, 1, 2, 0, 0, .null, []), some (1, 1, 3, 0, 0, .null, []), some (16, 3, 138, 1, 0, .null, []), none, none, some (3, 1, 0, 0, 0, .null, []), some (1, 1, 1, 0, 0, .null, []), some (32, 3, 178, 2, 48, .null, [(0, 1102)]), none, none, some (0, 1, 0, 0, 0, .int 1, []), some (4, 2, 6, 0, 0, .null, []), none, some (0, 1, 0, 0, 0, .int 0, []), some (4, 2, 7, 0, 0, .null, []), none],
  [some (1, 2, 7, 0, 0, .null, []), none, some (1, 2, 5, 0, 0, .null, []), none, some (16, 3, 51, 3, 0, .null, []), none, none, some (1, 2, 6, 0, 0, .null, []), none, some (15, 3, 51, 0, 0, .null, []), none, none, some (3, 1, 0, 0, 0, .null, []), some (3, 1, 0, 0, 0, .null, []), some (20, 3, 12, 27, 1, .null, [(0, 1041)]), none],
  [none, some (1, 2, 7, 0, 0, .null, []), none, some (22, 1, 0, 0, 0, .null, []), some (32, 3, 183, 2, 48, .null, [(0, 1111)]), none, none, some (3, 1, 0, 0, 0, .null, []), some (20, 3, 12, 23, 0, .null, [(0, 1105)]), none, none, some (4, 2, 6, 0, 0, .null, []), none, some (19, 3, 7, 0, 0, .int 1, []), none, none],
  [some (17, 3, 16, 0, 0, .null, []), none, none, some (1, 2, 6, 0, 0, .null, []), none, some (15, 3, 137, 0, 0, .null, []), none, none, some (3, 1, 0, 0, 0, .null, []), some (20, 3, 12, 21, 1, .null, [(0, 1039)]), none, none, some (0, 1, 0, 0, 0, .int 2, []), some (22, 1, 0, 0, 0, .null, []), some (3, 1, 0, 0, 0, .null, []), some (20, 3, 12, 29, 0, .null, [(0, 1117)])],
  [none, none, some (16, 3, 91, 2, 0, .null, []), none, none, some (3, 1, 0, 0, 0, .null, []), some (20, 3, 12, 21, 1, .null, [(0, 1039)]), none, none, some (0, 1, 0, 0, 0, .int 2, []), some (22, 1, 0, 0, 0, .null, []), some (3, 1, 0, 0, 0, .null, []), some (20, 3, 12, 29, 0, .null, [(0, 1117)]), none, none, some (16, 3, 137, 1, 0, .null, [])],
  [none, none, some (1, 2, 5, 0, 0, .null, []), none, some (3, 1, 0, 0, 0, .null, []), some (20, 3, 12, 30, 0, .null, [(0, 1118)]), none, none, some (16, 3, 137, 3, 0, .null, []), none, none, some (3, 1, 0, 0, 0, .null, []), some (3, 1, 0, 0, 0, .null, []), some (20, 3, 12, 21, 1, .null, [(0, 1039)]), none, none],
  [some (0, 1, 0, 0, 0, .int 2, []), some (22, 1, 0, 0, 0, .null, []), some (21, 3, 12, 29, 0, .null, [(0, 1117)]), none, none, some (3, 1, 0, 0, 0, .null, []), some (1, 2, 5, 0, 0, .null, []), none, some (21, 3, 12, 30, 0, .null, [(0, 1118)]), none, none, some (0, 1, 0, 0, 0, .int 0, []), some (4, 2, 7, 0, 0, .null, []), none, some (1, 2, 7, 0, 0, .null, []), none],
  [some (1, 2, 5, 0, 0, .null, []), none, some (16, 3, 137, 3, 0, .null, []), none, none, some (3, 1, 0, 0, 0, .null, []), some (20, 3, 12, 28, 1, .null, [(0, 1042)]), none, none, some (1, 2, 7, 0, 0, .null, []), none, some (3, 1, 0, 0, 0, .null, []), some (20, 3, 12, 27, 1, .null, [(0, 1041)]), none, none, some (1, 2, 7, 0, 0, .null, [])],
  [none, some (22, 1, 0, 0, 0, .null, []), some (25, 1, 0, 0, 0, .null, []), some (19, 3, 7, 0, 0, .int 1, []), none, none, some (17, 3, 110, 0, 0, .null, []), none, none, some (38, 1, 0, 0, 0, .null, []), some (0, 1, 0, 0, 0, .int 0, []), some (4, 2, 6, 0, 0, .null, []), none, some (1, 2, 6, 0, 0, .null, []), none, some (3, 1, 0, 0, 0, .null, [])],
  [some (20, 3, 12, 8, 0, .null, [(0, 1061)]), none, none, some (16, 3, 244, 3, 0, .null, []), none, none, some (3, 1, 0, 0, 0, .null, []), some (20, 3, 12, 9, 1, .null, [(0, 1034)]), none, none, some (1, 2, 6, 0, 0, .null, []), none, some (22, 1, 0, 0, 0, .null, []), some (1, 1, 2, 0, 0, .null, []), some (16, 3, 171, 1, 0, .null, []), none],
  [none, some (3, 1, 0, 0, 0, .null, []), some (20, 3, 12, 10, 1, .null, [(0, 1035)]), none, none, some (1, 2, 6, 0, 0, .null, []), none, some (22, 1, 0, 0, 0, .null, []), some (17, 3, 193, 0, 0, .null, []), none, none, some (3, 1, 0, 0, 0, .null, []), some (20, 3, 12, 10, 1, .null, [(0, 1035)]), none, none, some (1, 2, 6, 0, 0, .null, [])],
  [none, some (22, 1, 0, 0, 0, .null, []), some (1, 1, 2, 0, 0, .null, []), some (16, 3, 192, 1, 0, .null, []), none, none, some (3, 1, 0, 0, 0, .null, []), some (20, 3, 12, 9, 1, .null, [(0, 1034)]), none, none, some (1, 2, 6, 0, 0, .null, []), none, some (22, 1, 0, 0, 0, .null, []), some (17, 3, 193, 0, 0, .null, []), none, none],
  [some (0, 1, 0, 0, 0, .int (-1), []), some (4, 2, 7, 0, 0, .null, []), none, some (1, 2, 7, 0, 0, .null, []), none, some (15, 3, 238, 2, 0, .null, []), none, none, some (1, 2, 4, 0, 0, .null, []), none, some (1, 2, 7, 0, 0, .null, []), none, some (32, 3, 144, 2, 49, .null, [(0, 1119)]), none, none, some (15, 3, 238, 1, 0, .null, [])],
  [none, none, some (3, 1, 0, 0, 0, .null, []), some (20, 3, 12, 27, 1, .null, [(0, 1041)]), none, none, some (1, 2, 5, 0, 0, .null, []), none, some (1, 2, 6, 0, 0, .null, []), none, some (25, 1, 0, 0, 0, .null, []), some (3, 1, 0, 0, 0, .null, []), some (1, 1, 1, 0, 0, .null, []), some (1, 2, 7, 0, 0, .null, []), none, some (1, 1, 3, 0, 0, .null, [])],
  [some (1, 2, 4, 0, 0, .null, []), none, some (0, 1, 0, 0, 0, .int 1, []), some (1, 2, 7, 0, 0, .null, []), none, some (7, 1, 0, 6, 0, .null, []), some (7, 1, 0, 4, 0, .null, []), some (1, 2, 5, 0, 0, .null, []), none, some (0, 1, 0, 0, 0, .int 1, []), some (7, 1, 0, 0, 0, .null, []), some (32, 3, 192, 6, 48, .null, [(0, 1120)]), none, none, some (19, 3, 6, 0, 0, .int 1, []), none],
  [none, some (17, 3, 141, 0, 0, .null, []), none, none, some (38, 1, 0, 0, 0, .null, [])]]
/-- ColdShodModel.way(III)I -/
def zi_193 : List (List (Option zI)) := [[some (3, 1, 0, 0, 0, .null, []), some (1, 1, 1, 0, 0, .null, []), some (10, 1, 0, 0, 0, .null, []), some (32, 3, 152, 2, 48, .null, [(0, 1074)]), none, none, some (15, 3, 52, 0, 0, .null, []), none, none, some (1, 1, 2, 0, 0, .null, []), some (15, 3, 52, 2, 0, .null, []), none, none, some (1, 1, 2, 0, 0, .null, []), some (0, 2, 0, 0, 0, .int 10, []), none],
  [some (8, 1, 0, 0, 0, .null, []), some (10, 1, 0, 0, 0, .null, []), some (32, 3, 154, 1, 49, .null, [(0, 1065)]), none, none, some (15, 3, 52, 0, 0, .null, []), none, none, some (1, 1, 2, 0, 0, .null, []), some (0, 2, 0, 0, 0, .int 10, []), none, some (8, 1, 0, 1, 0, .null, []), some (10, 1, 0, 0, 0, .null, []), some (32, 3, 154, 1, 49, .null, [(0, 1065)]), none, none],
  [some (15, 3, 52, 0, 0, .null, []), none, none, some (1, 1, 2, 0, 0, .null, []), some (0, 2, 0, 0, 0, .int 10, []), none, some (8, 1, 0, 0, 0, .null, []), some (1, 1, 2, 0, 0, .null, []), some (0, 2, 0, 0, 0, .int 10, []), none, some (8, 1, 0, 1, 0, .null, []), some (16, 3, 52, 0, 0, .null, []), none, none, some (1, 1, 3, 0, 0, .null, []), some (0, 2, 0, 0, 0, .int (-2), [])],
  [none, some (16, 3, 54, 3, 0, .null, []), none, none, some (0, 1, 0, 0, 0, .int (-1), []), some (35, 1, 0, 0, 0, .null, []), some (3, 1, 0, 0, 0, .null, []), some (0, 3, 0, 0, 0, .int 1000000, [(0, 1121)]), none, none, some (21, 3, 12, 29, 0, .null, [(0, 1117)]), none, none, some (3, 1, 0, 0, 0, .null, []), some (0, 1, 0, 0, 0, .int 0, []), some (21, 3, 12, 30, 0, .null, [(0, 1118)])],
  [none, none, some (3, 1, 0, 0, 0, .null, []), some (1, 1, 1, 0, 0, .null, []), some (1, 1, 2, 0, 0, .null, []), some (0, 2, 0, 0, 0, .int 10, []), none, some (8, 1, 0, 0, 0, .null, []), some (1, 1, 2, 0, 0, .null, []), some (0, 2, 0, 0, 0, .int 10, []), none, some (8, 1, 0, 1, 0, .null, []), some (0, 1, 0, 0, 0, .int 1, []), some (1, 1, 2, 0, 0, .null, []), some (0, 2, 0, 0, 0, .int 10, []), none],
  [some (8, 1, 0, 0, 0, .null, []), some (7, 1, 0, 6, 0, .null, []), some (0, 1, 0, 0, 0, .int 0, []), some (32, 3, 192, 6, 48, .null, [(0, 1120)]), none, none, some (3, 1, 0, 0, 0, .null, []), some (20, 3, 12, 29, 0, .null, [(0, 1117)]), none, none, some (0, 3, 0, 0, 0, .int 1000000, [(0, 1121)]), none, none, some (16, 3, 99, 1, 0, .null, []), none, none],
  [some (0, 2, 0, 0, 0, .int (-2), []), none, some (35, 1, 0, 0, 0, .null, []), some (1, 1, 3, 0, 0, .null, []), some (0, 1, 0, 0, 0, .int (-1), []), some (16, 3, 111, 1, 0, .null, []), none, none, some (3, 1, 0, 0, 0, .null, []), some (20, 3, 12, 29, 0, .null, [(0, 1117)]), none, none, some (17, 3, 143, 0, 0, .null, []), none, none, some (1, 1, 3, 0, 0, .null, [])],
  [some (0, 2, 0, 0, 0, .int (-2), []), none, some (16, 3, 124, 1, 0, .null, []), none, none, some (3, 1, 0, 0, 0, .null, []), some (20, 3, 12, 30, 0, .null, [(0, 1118)]), none, none, some (17, 3, 143, 0, 0, .null, []), none, none, some (1, 1, 3, 0, 0, .null, []), some (3, 1, 0, 0, 0, .null, []), some (20, 3, 12, 30, 0, .null, [(0, 1118)]), none],
  [none, some (16, 3, 141, 3, 0, .null, []), none, none, some (3, 1, 0, 0, 0, .null, []), some (20, 3, 12, 28, 1, .null, [(0, 1042)]), none, none, some (1, 1, 3, 0, 0, .null, []), some (22, 1, 0, 0, 0, .null, []), some (17, 3, 143, 0, 0, .null, []), none, none, some (0, 2, 0, 0, 0, .int (-2), []), none, some (35, 1, 0, 0, 0, .null, [])]]
/-- ColdShodModel.reach(II)I -/
def zi_194 : List (List (Option zI)) := [[some (3, 1, 0, 0, 0, .null, []), some (1, 1, 1, 0, 0, .null, []), some (10, 1, 0, 0, 0, .null, []), some (32, 3, 152, 2, 48, .null, [(0, 1074)]), none, none, some (15, 3, 17, 0, 0, .null, []), none, none, some (1, 1, 2, 0, 0, .null, []), some (10, 1, 0, 0, 0, .null, []), some (32, 3, 154, 1, 49, .null, [(0, 1065)]), none, none, some (15, 3, 19, 1, 0, .null, []), none],
  [none, some (0, 1, 0, 0, 0, .int (-1), []), some (35, 1, 0, 0, 0, .null, []), some (0, 1, 0, 0, 0, .int 1, []), some (1, 1, 2, 0, 0, .null, []), some (7, 1, 0, 6, 0, .null, []), some (4, 1, 3, 0, 0, .null, []), some (0, 1, 0, 0, 0, .int 0, []), some (4, 2, 4, 0, 0, .null, []), none, some (1, 2, 4, 0, 0, .null, []), none, some (0, 2, 0, 0, 0, .int 8, []), none, some (16, 3, 132, 3, 0, .null, []), none],
  [none, some (0, 1, 0, 0, 0, .int 0, []), some (4, 2, 5, 0, 0, .null, []), none, some (1, 2, 5, 0, 0, .null, []), none, some (3, 1, 0, 0, 0, .null, []), some (20, 3, 12, 8, 0, .null, [(0, 1061)]), none, none, some (16, 3, 126, 3, 0, .null, []), none, none, some (1, 1, 3, 0, 0, .null, []), some (3, 1, 0, 0, 0, .null, []), some (20, 3, 12, 9, 1, .null, [(0, 1034)])],
  [none, none, some (1, 2, 5, 0, 0, .null, []), none, some (22, 1, 0, 0, 0, .null, []), some (32, 3, 144, 2, 49, .null, [(0, 1119)]), none, none, some (15, 3, 73, 1, 0, .null, []), none, none, some (1, 1, 3, 0, 0, .null, []), some (3, 1, 0, 0, 0, .null, []), some (20, 3, 12, 10, 1, .null, [(0, 1035)]), none, none],
  [some (1, 2, 5, 0, 0, .null, []), none, some (22, 1, 0, 0, 0, .null, []), some (32, 3, 144, 2, 49, .null, [(0, 1119)]), none, none, some (15, 3, 120, 0, 0, .null, []), none, none, some (3, 1, 0, 0, 0, .null, []), some (20, 3, 12, 0, 1, .null, [(0, 1030)]), none, none, some (0, 2, 0, 0, 0, .int 80, []), none, some (1, 2, 5, 0, 0, .null, [])],
  [none, some (7, 1, 0, 0, 0, .null, []), some (22, 1, 0, 0, 0, .null, []), some (3, 1, 0, 0, 0, .null, []), some (20, 3, 12, 0, 1, .null, [(0, 1030)]), none, none, some (0, 2, 0, 0, 0, .int 28, []), none, some (1, 1, 1, 0, 0, .null, []), some (7, 1, 0, 0, 0, .null, []), some (22, 1, 0, 0, 0, .null, []), some (32, 3, 179, 1, 49, .null, [(0, 1082)]), none, none, some (16, 3, 120, 4, 0, .null, [])],
  [none, none, some (1, 1, 3, 0, 0, .null, []), some (0, 1, 0, 0, 0, .int 1, []), some (3, 1, 0, 0, 0, .null, []), some (20, 3, 12, 9, 1, .null, [(0, 1034)]), none, none, some (1, 2, 5, 0, 0, .null, []), none, some (22, 1, 0, 0, 0, .null, []), some (7, 1, 0, 6, 0, .null, []), some (0, 1, 0, 0, 0, .int 1, []), some (3, 1, 0, 0, 0, .null, []), some (20, 3, 12, 10, 1, .null, [(0, 1035)]), none],
  [none, some (1, 2, 5, 0, 0, .null, []), none, some (22, 1, 0, 0, 0, .null, []), some (7, 1, 0, 6, 0, .null, []), some (7, 1, 0, 4, 0, .null, []), some (7, 1, 0, 4, 0, .null, []), some (4, 1, 3, 0, 0, .null, []), some (19, 3, 5, 0, 0, .int 1, []), none, none, some (17, 3, 36, 0, 0, .null, []), none, none, some (19, 3, 4, 0, 0, .int 1, []), none],
  [none, some (17, 3, 26, 0, 0, .null, []), none, none, some (1, 1, 3, 0, 0, .null, []), some (35, 1, 0, 0, 0, .null, [])]]
/-- ColdShodModel.headRather(III)Z -/
def zi_195 : List (List (Option zI)) := [[some (3, 1, 0, 0, 0, .null, []), some (20, 3, 12, 0, 1, .null, [(0, 1030)]), none, none, some (0, 2, 0, 0, 0, .int 20, []), none, some (1, 1, 2, 0, 0, .null, []), some (7, 1, 0, 0, 0, .null, []), some (22, 1, 0, 0, 0, .null, []), some (3, 1, 0, 0, 0, .null, []), some (20, 3, 12, 0, 1, .null, [(0, 1030)]), none, none, some (1, 1, 1, 0, 0, .null, []), some (22, 1, 0, 0, 0, .null, []), some (7, 1, 0, 1, 0, .null, [])],
  [some (32, 3, 146, 1, 49, .null, [(0, 1101)]), none, none, some (4, 2, 4, 0, 0, .null, []), none, some (3, 1, 0, 0, 0, .null, []), some (20, 3, 12, 0, 1, .null, [(0, 1030)]), none, none, some (0, 2, 0, 0, 0, .int 20, []), none, some (1, 1, 3, 0, 0, .null, []), some (7, 1, 0, 0, 0, .null, []), some (22, 1, 0, 0, 0, .null, []), some (3, 1, 0, 0, 0, .null, []), some (20, 3, 12, 0, 1, .null, [(0, 1030)])],
  [none, none, some (1, 1, 1, 0, 0, .null, []), some (22, 1, 0, 0, 0, .null, []), some (7, 1, 0, 1, 0, .null, []), some (32, 3, 146, 1, 49, .null, [(0, 1101)]), none, none, some (4, 2, 5, 0, 0, .null, []), none, some (1, 2, 4, 0, 0, .null, []), none, some (1, 2, 5, 0, 0, .null, []), none, some (16, 3, 62, 0, 0, .null, []), none],
  [none, some (1, 2, 4, 0, 0, .null, []), none, some (1, 2, 5, 0, 0, .null, []), none, some (16, 3, 60, 3, 0, .null, []), none, none, some (0, 1, 0, 0, 0, .int 1, []), some (17, 3, 61, 0, 0, .null, []), none, none, some (0, 1, 0, 0, 0, .int 0, []), some (35, 1, 0, 0, 1, .null, []), some (3, 1, 0, 0, 0, .null, []), some (20, 3, 12, 0, 1, .null, [(0, 1030)])],
  [none, none, some (0, 2, 0, 0, 0, .int 28, []), none, some (1, 1, 2, 0, 0, .null, []), some (7, 1, 0, 0, 0, .null, []), some (22, 1, 0, 0, 0, .null, []), some (3, 1, 0, 0, 0, .null, []), some (20, 3, 12, 0, 1, .null, [(0, 1030)]), none, none, some (0, 2, 0, 0, 0, .int 28, []), none, some (1, 1, 3, 0, 0, .null, []), some (7, 1, 0, 0, 0, .null, []), some (22, 1, 0, 0, 0, .null, [])],
  [some (16, 3, 112, 0, 0, .null, []), none, none, some (3, 1, 0, 0, 0, .null, []), some (20, 3, 12, 0, 1, .null, [(0, 1030)]), none, none, some (0, 2, 0, 0, 0, .int 28, []), none, some (1, 1, 2, 0, 0, .null, []), some (7, 1, 0, 0, 0, .null, []), some (22, 1, 0, 0, 0, .null, []), some (3, 1, 0, 0, 0, .null, []), some (20, 3, 12, 0, 1, .null, [(0, 1030)]), none, none],
  [some (0, 2, 0, 0, 0, .int 28, []), none, some (1, 1, 3, 0, 0, .null, []), some (7, 1, 0, 0, 0, .null, []), some (22, 1, 0, 0, 0, .null, []), some (16, 3, 108, 3, 0, .null, []), none, none, some (0, 1, 0, 0, 0, .int 1, []), some (17, 3, 122, 0, 0, .null, []), none, none, some (0, 1, 0, 0, 0, .int 0, []), some (17, 3, 122, 0, 0, .null, []), none, none],
  [some (1, 1, 2, 0, 0, .null, []), some (1, 1, 3, 0, 0, .null, []), some (16, 3, 121, 3, 0, .null, []), none, none, some (0, 1, 0, 0, 0, .int 1, []), some (17, 3, 122, 0, 0, .null, []), none, none, some (0, 1, 0, 0, 0, .int 0, []), some (35, 1, 0, 0, 1, .null, [])]]
/-- ColdShodModel.ideaRather(II)Z -/
def zi_196 : List (List (Option zI)) := [[some (3, 1, 0, 0, 0, .null, []), some (20, 3, 12, 0, 1, .null, [(0, 1030)]), none, none, some (0, 2, 0, 0, 0, .int 6, []), none, some (1, 1, 1, 0, 0, .null, []), some (7, 1, 0, 0, 0, .null, []), some (22, 1, 0, 0, 0, .null, []), some (3, 1, 0, 0, 0, .null, []), some (20, 3, 12, 0, 1, .null, [(0, 1030)]), none, none, some (0, 2, 0, 0, 0, .int 6, []), none, some (1, 1, 2, 0, 0, .null, [])],
  [some (7, 1, 0, 0, 0, .null, []), some (22, 1, 0, 0, 0, .null, []), some (16, 3, 50, 0, 0, .null, []), none, none, some (3, 1, 0, 0, 0, .null, []), some (20, 3, 12, 0, 1, .null, [(0, 1030)]), none, none, some (0, 2, 0, 0, 0, .int 6, []), none, some (1, 1, 1, 0, 0, .null, []), some (7, 1, 0, 0, 0, .null, []), some (22, 1, 0, 0, 0, .null, []), some (3, 1, 0, 0, 0, .null, []), some (20, 3, 12, 0, 1, .null, [(0, 1030)])],
  [none, none, some (0, 2, 0, 0, 0, .int 6, []), none, some (1, 1, 2, 0, 0, .null, []), some (7, 1, 0, 0, 0, .null, []), some (22, 1, 0, 0, 0, .null, []), some (16, 3, 46, 5, 0, .null, []), none, none, some (0, 1, 0, 0, 0, .int 1, []), some (17, 3, 60, 0, 0, .null, []), none, none, some (0, 1, 0, 0, 0, .int 0, []), some (17, 3, 60, 0, 0, .null, [])],
  [none, none, some (1, 1, 1, 0, 0, .null, []), some (1, 1, 2, 0, 0, .null, []), some (16, 3, 59, 3, 0, .null, []), none, none, some (0, 1, 0, 0, 0, .int 1, []), some (17, 3, 60, 0, 0, .null, []), none, none, some (0, 1, 0, 0, 0, .int 0, []), some (35, 1, 0, 0, 1, .null, [])]]
/-- ColdShodModel.ideaOf(I)I -/
def zi_197 : List (List (Option zI)) := [[some (0, 1, 0, 0, 0, .int 0, []), some (4, 1, 2, 0, 0, .null, []), some (1, 1, 2, 0, 0, .null, []), some (3, 1, 0, 0, 0, .null, []), some (20, 3, 12, 7, 0, .null, [(0, 1060)]), none, none, some (16, 3, 28, 3, 0, .null, []), none, none, some (3, 1, 0, 0, 0, .null, []), some (20, 3, 12, 31, 1, .null, [(0, 1043)]), none, none, some (1, 1, 2, 0, 0, .null, []), some (22, 1, 0, 0, 0, .null, [])],
  [some (1, 1, 1, 0, 0, .null, []), some (16, 3, 22, 1, 0, .null, []), none, none, some (1, 1, 2, 0, 0, .null, []), some (35, 1, 0, 0, 0, .null, []), some (19, 3, 2, 0, 0, .int 1, []), none, none, some (17, 3, 2, 0, 0, .null, []), none, none, some (0, 1, 0, 0, 0, .int (-1), []), some (35, 1, 0, 0, 0, .null, [])]]
/-- ColdShodModel.allAsk()V -/
def zi_198 : List (List (Option zI)) := [[some (0, 1, 0, 0, 0, .int 0, []), some (4, 1, 1, 0, 0, .null, []), some (1, 1, 1, 0, 0, .null, []), some (3, 1, 0, 0, 0, .null, []), some (20, 3, 12, 7, 0, .null, [(0, 1060)]), none, none, some (16, 3, 23, 3, 0, .null, []), none, none, some (3, 1, 0, 0, 0, .null, []), some (20, 3, 12, 31, 1, .null, [(0, 1043)]), none, none, some (1, 1, 1, 0, 0, .null, []), some (0, 1, 0, 0, 0, .int (-1), [])],
  [some (25, 1, 0, 0, 0, .null, []), some (19, 3, 1, 0, 0, .int 1, []), none, none, some (17, 3, 2, 0, 0, .null, []), none, none, some (0, 1, 0, 0, 0, .int 0, []), some (4, 1, 1, 0, 0, .null, []), some (1, 1, 1, 0, 0, .null, []), some (3, 1, 0, 0, 0, .null, []), some (20, 3, 12, 6, 0, .null, [(0, 1058)]), none, none, some (16, 3, 46, 3, 0, .null, []), none],
  [none, some (3, 1, 0, 0, 0, .null, []), some (20, 3, 12, 32, 1, .null, [(0, 1044)]), none, none, some (1, 1, 1, 0, 0, .null, []), some (0, 1, 0, 0, 0, .int 0, []), some (25, 1, 0, 0, 0, .null, []), some (19, 3, 1, 0, 0, .int 1, []), none, none, some (17, 3, 25, 0, 0, .null, []), none, none, some (0, 1, 0, 0, 0, .int 1, []), some (4, 1, 1, 0, 0, .null, [])],
  [some (1, 1, 1, 0, 0, .null, []), some (15, 3, 194, 0, 0, .null, []), none, none, some (0, 1, 0, 0, 0, .int 0, []), some (4, 1, 1, 0, 0, .null, []), some (0, 1, 0, 0, 0, .int 0, []), some (4, 1, 2, 0, 0, .null, []), some (1, 1, 2, 0, 0, .null, []), some (3, 1, 0, 0, 0, .null, []), some (20, 3, 12, 6, 0, .null, [(0, 1058)]), none, none, some (16, 3, 191, 3, 0, .null, []), none, none],
  [some (0, 1, 0, 0, 0, .int (-1), []), some (4, 1, 3, 0, 0, .null, []), some (0, 1, 0, 0, 0, .int 0, []), some (4, 2, 4, 0, 0, .null, []), none, some (1, 2, 4, 0, 0, .null, []), none, some (3, 1, 0, 0, 0, .null, []), some (20, 3, 12, 7, 0, .null, [(0, 1060)]), none, none, some (16, 3, 120, 3, 0, .null, []), none, none, some (3, 1, 0, 0, 0, .null, []), some (20, 3, 12, 32, 1, .null, [(0, 1044)])],
  [none, none, some (1, 1, 2, 0, 0, .null, []), some (22, 1, 0, 0, 0, .null, []), some (1, 2, 4, 0, 0, .null, []), none, some (32, 3, 144, 2, 49, .null, [(0, 1119)]), none, none, some (15, 3, 112, 1, 0, .null, []), none, none, some (1, 1, 3, 0, 0, .null, []), some (15, 3, 107, 2, 0, .null, []), none, none],
  [some (3, 1, 0, 0, 0, .null, []), some (1, 1, 2, 0, 0, .null, []), some (1, 2, 4, 0, 0, .null, []), none, some (1, 1, 3, 0, 0, .null, []), some (32, 3, 195, 4, 48, .null, [(0, 1122)]), none, none, some (15, 3, 112, 0, 0, .null, []), none, none, some (1, 2, 4, 0, 0, .null, []), none, some (17, 3, 113, 0, 0, .null, []), none, none],
  [some (1, 1, 3, 0, 0, .null, []), some (4, 1, 3, 0, 0, .null, []), some (19, 3, 4, 0, 0, .int 1, []), none, none, some (17, 3, 69, 0, 0, .null, []), none, none, some (3, 1, 0, 0, 0, .null, []), some (1, 1, 2, 0, 0, .null, []), some (32, 3, 197, 2, 48, .null, [(0, 1123)]), none, none, some (15, 3, 185, 3, 0, .null, []), none, none],
  [some (1, 1, 3, 0, 0, .null, []), some (15, 3, 185, 2, 0, .null, []), none, none, some (0, 1, 0, 0, 0, .int 1, []), some (4, 1, 1, 0, 0, .null, []), some (3, 1, 0, 0, 0, .null, []), some (20, 3, 12, 32, 1, .null, [(0, 1044)]), none, none, some (1, 1, 2, 0, 0, .null, []), some (41, 1, 0, 0, 0, .null, []), some (22, 1, 0, 0, 0, .null, []), some (0, 1, 0, 0, 0, .int 1, []), some (1, 1, 3, 0, 0, .null, []), some (7, 1, 0, 6, 0, .null, [])],
  [some (7, 1, 0, 4, 0, .null, []), some (25, 1, 0, 0, 0, .null, []), some (3, 1, 0, 0, 0, .null, []), some (20, 3, 12, 31, 1, .null, [(0, 1043)]), none, none, some (1, 1, 3, 0, 0, .null, []), some (3, 1, 0, 0, 0, .null, []), some (20, 3, 12, 31, 1, .null, [(0, 1043)]), none, none, some (1, 1, 3, 0, 0, .null, []), some (22, 1, 0, 0, 0, .null, []), some (15, 3, 174, 2, 0, .null, []), none, none],
  [some (3, 1, 0, 0, 0, .null, []), some (1, 1, 2, 0, 0, .null, []), some (3, 1, 0, 0, 0, .null, []), some (20, 3, 12, 31, 1, .null, [(0, 1043)]), none, none, some (1, 1, 3, 0, 0, .null, []), some (22, 1, 0, 0, 0, .null, []), some (32, 3, 196, 3, 48, .null, [(0, 1124)]), none, none, some (15, 3, 178, 0, 0, .null, []), none, none, some (1, 1, 2, 0, 0, .null, []), some (17, 3, 184, 0, 0, .null, [])],
  [none, none, some (3, 1, 0, 0, 0, .null, []), some (20, 3, 12, 31, 1, .null, [(0, 1043)]), none, none, some (1, 1, 3, 0, 0, .null, []), some (22, 1, 0, 0, 0, .null, []), some (25, 1, 0, 0, 0, .null, []), some (19, 3, 2, 0, 0, .int 1, []), none, none, some (17, 3, 56, 0, 0, .null, []), none, none, some (17, 3, 48, 0, 0, .null, [])],
  [none, none, some (38, 1, 0, 0, 0, .null, [])]]
/-- ColdShodModel.asks(I)I -/
def zi_199 : List (List (Option zI)) := [[some (3, 1, 0, 0, 0, .null, []), some (1, 1, 1, 0, 0, .null, []), some (10, 1, 0, 0, 0, .null, []), some (32, 3, 151, 2, 48, .null, [(0, 1071)]), none, none, some (15, 3, 11, 1, 0, .null, []), none, none, some (0, 1, 0, 0, 0, .int (-1), []), some (35, 1, 0, 0, 0, .null, []), some (3, 1, 0, 0, 0, .null, []), some (32, 3, 198, 1, 48, .null, [(0, 1125)]), none, none, some (3, 1, 0, 0, 0, .null, [])],
  [some (1, 1, 1, 0, 0, .null, []), some (32, 3, 197, 2, 48, .null, [(0, 1123)]), none, none, some (15, 3, 28, 3, 0, .null, []), none, none, some (0, 2, 0, 0, 0, .int (-2), []), none, some (17, 3, 33, 0, 0, .null, []), none, none, some (3, 1, 0, 0, 0, .null, []), some (1, 1, 1, 0, 0, .null, []), some (32, 3, 197, 2, 48, .null, [(0, 1123)]), none],
  [none, some (35, 1, 0, 0, 0, .null, [])]]
/-- ColdShodModel.settled()I -/
def zi_200 : List (List (Option zI)) := [[some (0, 1, 0, 0, 0, .int 0, []), some (4, 1, 1, 0, 0, .null, []), some (1, 1, 1, 0, 0, .null, []), some (3, 1, 0, 0, 0, .null, []), some (20, 3, 12, 7, 0, .null, [(0, 1060)]), none, none, some (16, 3, 31, 3, 0, .null, []), none, none, some (3, 1, 0, 0, 0, .null, []), some (20, 3, 12, 31, 1, .null, [(0, 1043)]), none, none, some (1, 1, 1, 0, 0, .null, []), some (3, 1, 0, 0, 0, .null, [])],
  [some (20, 3, 12, 0, 1, .null, [(0, 1030)]), none, none, some (0, 2, 0, 0, 0, .int 60, []), none, some (1, 1, 1, 0, 0, .null, []), some (7, 1, 0, 0, 0, .null, []), some (22, 1, 0, 0, 0, .null, []), some (25, 1, 0, 0, 0, .null, []), some (19, 3, 1, 0, 0, .int 1, []), none, none, some (17, 3, 2, 0, 0, .null, []), none, none, some (0, 1, 0, 0, 0, .int 0, [])],
  [some (4, 1, 1, 0, 0, .null, []), some (1, 1, 1, 0, 0, .null, []), some (3, 1, 0, 0, 0, .null, []), some (20, 3, 12, 7, 0, .null, [(0, 1060)]), none, none, some (16, 3, 86, 3, 0, .null, []), none, none, some (0, 1, 0, 0, 0, .int 0, []), some (4, 1, 2, 0, 0, .null, []), some (1, 1, 2, 0, 0, .null, []), some (1, 1, 1, 0, 0, .null, []), some (16, 3, 80, 3, 0, .null, []), none, none],
  [some (3, 1, 0, 0, 0, .null, []), some (20, 3, 12, 31, 1, .null, [(0, 1043)]), none, none, some (1, 1, 1, 0, 0, .null, []), some (22, 1, 0, 0, 0, .null, []), some (15, 3, 74, 2, 0, .null, []), none, none, some (3, 1, 0, 0, 0, .null, []), some (20, 3, 12, 31, 1, .null, [(0, 1043)]), none, none, some (1, 1, 1, 0, 0, .null, []), some (22, 1, 0, 0, 0, .null, []), some (3, 1, 0, 0, 0, .null, [])],
  [some (20, 3, 12, 31, 1, .null, [(0, 1043)]), none, none, some (1, 1, 2, 0, 0, .null, []), some (22, 1, 0, 0, 0, .null, []), some (16, 3, 74, 1, 0, .null, []), none, none, some (0, 1, 0, 0, 0, .int 0, []), some (35, 1, 0, 0, 0, .null, []), some (19, 3, 2, 0, 0, .int 1, []), none, none, some (17, 3, 43, 0, 0, .null, []), none, none],
  [some (19, 3, 1, 0, 0, .int 1, []), none, none, some (17, 3, 33, 0, 0, .null, []), none, none, some (0, 1, 0, 0, 0, .int 0, []), some (4, 1, 1, 0, 0, .null, []), some (1, 1, 1, 0, 0, .null, []), some (3, 1, 0, 0, 0, .null, []), some (20, 3, 12, 6, 0, .null, [(0, 1058)]), none, none, some (16, 3, 202, 3, 0, .null, []), none, none],
  [some (3, 1, 0, 0, 0, .null, []), some (1, 1, 1, 0, 0, .null, []), some (32, 3, 197, 2, 48, .null, [(0, 1123)]), none, none, some (4, 1, 2, 0, 0, .null, []), some (0, 1, 0, 0, 0, .int 0, []), some (4, 1, 3, 0, 0, .null, []), some (1, 1, 3, 0, 0, .null, []), some (3, 1, 0, 0, 0, .null, []), some (20, 3, 12, 7, 0, .null, [(0, 1060)]), none, none, some (16, 3, 196, 3, 0, .null, []), none, none],
  [some (1, 1, 2, 0, 0, .null, []), some (15, 3, 131, 2, 0, .null, []), none, none, some (1, 1, 2, 0, 0, .null, []), some (1, 1, 3, 0, 0, .null, []), some (16, 3, 135, 0, 0, .null, []), none, none, some (3, 1, 0, 0, 0, .null, []), some (1, 1, 1, 0, 0, .null, []), some (1, 1, 3, 0, 0, .null, []), some (1, 1, 2, 0, 0, .null, []), some (32, 3, 195, 4, 48, .null, [(0, 1122)]), none, none],
  [some (15, 3, 135, 0, 0, .null, []), none, none, some (0, 1, 0, 0, 0, .int 1, []), some (17, 3, 136, 0, 0, .null, []), none, none, some (0, 1, 0, 0, 0, .int 0, []), some (4, 2, 4, 0, 0, .null, []), none, some (3, 1, 0, 0, 0, .null, []), some (20, 3, 12, 31, 1, .null, [(0, 1043)]), none, none, some (1, 1, 3, 0, 0, .null, []), some (22, 1, 0, 0, 0, .null, [])],
  [some (15, 3, 171, 2, 0, .null, []), none, none, some (3, 1, 0, 0, 0, .null, []), some (20, 3, 12, 31, 1, .null, [(0, 1043)]), none, none, some (1, 1, 3, 0, 0, .null, []), some (22, 1, 0, 0, 0, .null, []), some (1, 1, 1, 0, 0, .null, []), some (16, 3, 175, 0, 0, .null, []), none, none, some (3, 1, 0, 0, 0, .null, []), some (1, 1, 1, 0, 0, .null, []), some (3, 1, 0, 0, 0, .null, [])],
  [some (20, 3, 12, 31, 1, .null, [(0, 1043)]), none, none, some (1, 1, 3, 0, 0, .null, []), some (22, 1, 0, 0, 0, .null, []), some (32, 3, 196, 3, 48, .null, [(0, 1124)]), none, none, some (15, 3, 175, 0, 0, .null, []), none, none, some (0, 1, 0, 0, 0, .int 1, []), some (17, 3, 176, 0, 0, .null, []), none, none, some (0, 1, 0, 0, 0, .int 0, [])],
  [some (4, 2, 5, 0, 0, .null, []), none, some (1, 2, 4, 0, 0, .null, []), none, some (15, 3, 190, 0, 0, .null, []), none, none, some (1, 2, 5, 0, 0, .null, []), none, some (15, 3, 190, 0, 0, .null, []), none, none, some (0, 1, 0, 0, 0, .int 0, []), some (35, 1, 0, 0, 0, .null, []), some (19, 3, 3, 0, 0, .int 1, []), none],
  [none, some (17, 3, 104, 0, 0, .null, []), none, none, some (19, 3, 1, 0, 0, .int 1, []), none, none, some (17, 3, 88, 0, 0, .null, []), none, none, some (0, 1, 0, 0, 0, .int 1, []), some (35, 1, 0, 0, 0, .null, [])]]
/-- ColdShodModel.goTogether(II)Z -/
def zi_201 : List (List (Option zI)) := [[some (3, 1, 0, 0, 0, .null, []), some (20, 3, 12, 0, 1, .null, [(0, 1030)]), none, none, some (0, 2, 0, 0, 0, .int 20, []), none, some (1, 1, 1, 0, 0, .null, []), some (7, 1, 0, 0, 0, .null, []), some (22, 1, 0, 0, 0, .null, []), some (3, 1, 0, 0, 0, .null, []), some (20, 3, 12, 0, 1, .null, [(0, 1030)]), none, none, some (0, 2, 0, 0, 0, .int 20, []), none, some (1, 1, 2, 0, 0, .null, [])],
  [some (7, 1, 0, 0, 0, .null, []), some (22, 1, 0, 0, 0, .null, []), some (7, 1, 0, 1, 0, .null, []), some (32, 3, 146, 1, 49, .null, [(0, 1101)]), none, none, some (0, 1, 0, 0, 0, .int 1, []), some (16, 3, 30, 4, 0, .null, []), none, none, some (0, 1, 0, 0, 0, .int 1, []), some (17, 3, 31, 0, 0, .null, []), none, none, some (0, 1, 0, 0, 0, .int 0, []), some (35, 1, 0, 0, 1, .null, [])]]
/-- ColdShodModel.yokes(I)I -/
def zi_202 : List (List (Option zI)) := [[some (1, 1, 1, 0, 0, .null, []), some (10, 1, 0, 0, 0, .null, []), some (0, 1, 0, 0, 0, .long 0, []), some (0, 3, 0, 0, 0, .long 2, [(0, 1072)]), none, none, some (32, 3, 143, 3, 49, .null, [(0, 1059)]), none, none, some (15, 3, 14, 1, 0, .null, []), none, none, some (0, 1, 0, 0, 0, .int (-1), []), some (35, 1, 0, 0, 0, .null, []), some (1, 1, 1, 0, 0, .null, []), some (15, 3, 107, 1, 0, .null, [])],
  [none, none, some (0, 1, 0, 0, 0, .int 0, []), some (4, 1, 2, 0, 0, .null, []), some (0, 1, 0, 0, 0, .int (-1), []), some (4, 1, 3, 0, 0, .null, []), some (0, 1, 0, 0, 0, .int 0, []), some (4, 2, 4, 0, 0, .null, []), none, some (1, 2, 4, 0, 0, .null, []), none, some (0, 2, 0, 0, 0, .int 6, []), none, some (16, 3, 105, 3, 0, .null, []), none, none],
  [some (0, 1, 0, 0, 0, .int 0, []), some (4, 2, 5, 0, 0, .null, []), none, some (0, 1, 0, 0, 0, .int 0, []), some (4, 2, 6, 0, 0, .null, []), none, some (1, 2, 6, 0, 0, .null, []), none, some (3, 1, 0, 0, 0, .null, []), some (20, 3, 12, 7, 0, .null, [(0, 1060)]), none, none, some (16, 3, 80, 3, 0, .null, []), none, none, some (1, 2, 5, 0, 0, .null, [])],
  [none, some (15, 3, 67, 1, 0, .null, []), none, none, some (3, 1, 0, 0, 0, .null, []), some (20, 3, 12, 0, 1, .null, [(0, 1030)]), none, none, some (0, 2, 0, 0, 0, .int 20, []), none, some (1, 2, 6, 0, 0, .null, []), none, some (7, 1, 0, 0, 0, .null, []), some (22, 1, 0, 0, 0, .null, []), some (1, 2, 4, 0, 0, .null, []), none],
  [some (16, 3, 71, 1, 0, .null, []), none, none, some (0, 1, 0, 0, 0, .int 1, []), some (17, 3, 72, 0, 0, .null, []), none, none, some (0, 1, 0, 0, 0, .int 0, []), some (4, 2, 5, 0, 0, .null, []), none, some (19, 3, 6, 0, 0, .int 1, []), none, none, some (17, 3, 38, 0, 0, .null, []), none, none],
  [some (1, 2, 5, 0, 0, .null, []), none, some (15, 3, 99, 0, 0, .null, []), none, none, some (1, 2, 4, 0, 0, .null, []), none, some (1, 1, 3, 0, 0, .null, []), some (16, 3, 99, 5, 0, .null, []), none, none, some (1, 2, 4, 0, 0, .null, []), none, some (0, 1, 0, 0, 0, .int 1, []), some (7, 1, 0, 0, 0, .null, []), some (4, 1, 3, 0, 0, .null, [])],
  [some (19, 3, 2, 0, 0, .int 1, []), none, none, some (19, 3, 4, 0, 0, .int 1, []), none, none, some (17, 3, 25, 0, 0, .null, []), none, none, some (1, 1, 2, 0, 0, .null, []), some (35, 1, 0, 0, 0, .null, []), some (0, 1, 0, 0, 0, .int 0, []), some (4, 1, 2, 0, 0, .null, []), some (0, 1, 0, 0, 0, .int 0, []), some (4, 1, 3, 0, 0, .null, []), some (1, 1, 3, 0, 0, .null, [])],
  [some (0, 1, 0, 0, 0, .int 1, []), some (3, 1, 0, 0, 0, .null, []), some (20, 3, 12, 7, 0, .null, [(0, 1060)]), none, none, some (7, 1, 0, 6, 0, .null, []), some (16, 3, 231, 3, 0, .null, []), none, none, some (1, 1, 3, 0, 0, .null, []), some (32, 3, 145, 1, 49, .null, [(0, 1126)]), none, none, some (1, 1, 2, 0, 0, .null, []), some (32, 3, 145, 1, 49, .null, [(0, 1126)]), none],
  [none, some (16, 3, 136, 5, 0, .null, []), none, none, some (0, 1, 0, 0, 0, .int 1, []), some (17, 3, 137, 0, 0, .null, []), none, none, some (0, 1, 0, 0, 0, .int 0, []), some (4, 2, 4, 0, 0, .null, []), none, some (0, 1, 0, 0, 0, .int 0, []), some (4, 2, 5, 0, 0, .null, []), none, some (1, 2, 5, 0, 0, .null, []), none],
  [some (3, 1, 0, 0, 0, .null, []), some (20, 3, 12, 7, 0, .null, [(0, 1060)]), none, none, some (16, 3, 214, 3, 0, .null, []), none, none, some (0, 1, 0, 0, 0, .int 0, []), some (4, 2, 6, 0, 0, .null, []), none, some (1, 2, 6, 0, 0, .null, []), none, some (1, 2, 5, 0, 0, .null, []), none, some (16, 3, 208, 3, 0, .null, []), none],
  [none, some (1, 2, 4, 0, 0, .null, []), none, some (15, 3, 199, 0, 0, .null, []), none, none, some (1, 1, 3, 0, 0, .null, []), some (1, 2, 5, 0, 0, .null, []), none, some (32, 3, 144, 2, 49, .null, [(0, 1119)]), none, none, some (15, 3, 195, 0, 0, .null, []), none, none, some (1, 1, 3, 0, 0, .null, [])],
  [some (1, 2, 6, 0, 0, .null, []), none, some (32, 3, 144, 2, 49, .null, [(0, 1119)]), none, none, some (15, 3, 195, 0, 0, .null, []), none, none, some (3, 1, 0, 0, 0, .null, []), some (1, 2, 5, 0, 0, .null, []), none, some (1, 2, 6, 0, 0, .null, []), none, some (32, 3, 201, 3, 48, .null, [(0, 1127)]), none, none],
  [some (15, 3, 199, 1, 0, .null, []), none, none, some (0, 1, 0, 0, 0, .int 1, []), some (17, 3, 200, 0, 0, .null, []), none, none, some (0, 1, 0, 0, 0, .int 0, []), some (4, 2, 4, 0, 0, .null, []), none, some (19, 3, 6, 0, 0, .int 1, []), none, none, some (17, 3, 154, 0, 0, .null, []), none, none],
  [some (19, 3, 5, 0, 0, .int 1, []), none, none, some (17, 3, 142, 0, 0, .null, []), none, none, some (1, 2, 4, 0, 0, .null, []), none, some (15, 3, 223, 0, 0, .null, []), none, none, some (1, 1, 3, 0, 0, .null, []), some (17, 3, 224, 0, 0, .null, []), none, none, some (1, 1, 2, 0, 0, .null, [])],
  [some (4, 1, 2, 0, 0, .null, []), some (19, 3, 3, 0, 0, .int 1, []), none, none, some (17, 3, 111, 0, 0, .null, []), none, none, some (1, 1, 1, 0, 0, .null, []), some (0, 1, 0, 0, 0, .int 1, []), some (16, 3, 243, 1, 0, .null, []), none, none, some (1, 1, 2, 0, 0, .null, []), some (32, 3, 145, 1, 49, .null, [(0, 1126)]), none, none],
  [some (17, 3, 244, 0, 0, .null, []), none, none, some (1, 1, 2, 0, 0, .null, []), some (35, 1, 0, 0, 0, .null, [])]]
/-- ColdShodModel.rowsAre(I)I -/
def zi_203 : List (List (Option zI)) := [[some (1, 1, 1, 0, 0, .null, []), some (15, 3, 24, 2, 0, .null, []), none, none, some (1, 1, 1, 0, 0, .null, []), some (0, 2, 0, 0, 0, .int 10, []), none, some (8, 1, 0, 0, 0, .null, []), some (32, 3, 228, 1, 49, .null, [(0, 1069)]), none, none, some (15, 3, 24, 0, 0, .null, []), none, none, some (1, 1, 1, 0, 0, .null, []), some (0, 2, 0, 0, 0, .int 10, [])],
  [none, some (8, 1, 0, 1, 0, .null, []), some (32, 3, 228, 1, 49, .null, [(0, 1069)]), none, none, some (15, 3, 26, 1, 0, .null, []), none, none, some (0, 1, 0, 0, 0, .int (-1), []), some (35, 1, 0, 0, 0, .null, []), some (3, 1, 0, 0, 0, .null, []), some (1, 1, 1, 0, 0, .null, []), some (0, 2, 0, 0, 0, .int 10, []), none, some (8, 1, 0, 0, 0, .null, []), some (32, 3, 186, 2, 48, .null, [(0, 1112)])],
  [none, none, some (15, 3, 48, 3, 0, .null, []), none, none, some (3, 1, 0, 0, 0, .null, []), some (1, 1, 1, 0, 0, .null, []), some (0, 2, 0, 0, 0, .int 10, []), none, some (8, 1, 0, 0, 0, .null, []), some (32, 3, 186, 2, 48, .null, [(0, 1112)]), none, none, some (17, 3, 56, 0, 0, .null, []), none, none],
  [some (3, 1, 0, 0, 0, .null, []), some (1, 1, 1, 0, 0, .null, []), some (0, 2, 0, 0, 0, .int 10, []), none, some (8, 1, 0, 1, 0, .null, []), some (32, 3, 186, 2, 48, .null, [(0, 1112)]), none, none, some (35, 1, 0, 0, 0, .null, [])]]
/-- ColdShodModel.firstFalse(II)I -/
def zi_204 : List (List (Option zI)) := [[some (3, 1, 0, 0, 0, .null, []), some (1, 1, 2, 0, 0, .null, []), some (32, 3, 178, 2, 48, .null, [(0, 1102)]), none, none, some (0, 1, 0, 0, 0, .int 1, []), some (4, 1, 3, 0, 0, .null, []), some (0, 1, 0, 0, 0, .int 0, []), some (4, 2, 4, 0, 0, .null, []), none, some (1, 2, 4, 0, 0, .null, []), none, some (3, 1, 0, 0, 0, .null, []), some (20, 3, 12, 46, 1, .null, [(0, 1052)]), none, none],
  [some (1, 1, 1, 0, 0, .null, []), some (0, 2, 0, 0, 0, .int 10, []), none, some (8, 1, 0, 1, 0, .null, []), some (22, 1, 0, 0, 0, .null, []), some (16, 3, 122, 3, 0, .null, []), none, none, some (1, 2, 4, 0, 0, .null, []), none, some (15, 3, 83, 5, 0, .null, []), none, none, some (1, 1, 3, 0, 0, .null, []), some (15, 3, 50, 0, 0, .null, []), none],
  [none, some (1, 2, 4, 0, 0, .null, []), none, some (3, 1, 0, 0, 0, .null, []), some (1, 1, 1, 0, 0, .null, []), some (0, 2, 0, 0, 0, .int 10, []), none, some (8, 1, 0, 0, 0, .null, []), some (32, 3, 187, 2, 48, .null, [(0, 1110)]), none, none, some (16, 3, 50, 4, 0, .null, []), none, none, some (0, 1, 0, 0, 0, .int 1, []), some (17, 3, 51, 0, 0, .null, [])],
  [none, none, some (0, 1, 0, 0, 0, .int 0, []), some (4, 1, 3, 0, 0, .null, []), some (1, 1, 3, 0, 0, .null, []), some (15, 3, 83, 0, 0, .null, []), none, none, some (3, 1, 0, 0, 0, .null, []), some (3, 1, 0, 0, 0, .null, []), some (20, 3, 12, 47, 1, .null, [(0, 1053)]), none, none, some (0, 2, 0, 0, 0, .int 60, []), none, some (1, 1, 1, 0, 0, .null, [])],
  [some (0, 2, 0, 0, 0, .int 10, []), none, some (8, 1, 0, 0, 0, .null, []), some (7, 1, 0, 2, 0, .null, []), some (1, 2, 4, 0, 0, .null, []), none, some (7, 1, 0, 0, 0, .null, []), some (0, 1, 0, 0, 0, .int 1, []), some (7, 1, 0, 1, 0, .null, []), some (23, 1, 0, 0, 0, .null, []), some (11, 1, 0, 0, 0, .null, []), some (32, 3, 183, 2, 48, .null, [(0, 1111)]), none, none, some (3, 1, 0, 0, 0, .null, []), some (20, 3, 12, 23, 0, .null, [(0, 1105)])],
  [none, none, some (4, 1, 3, 0, 0, .null, []), some (1, 1, 3, 0, 0, .null, []), some (15, 3, 113, 0, 0, .null, []), none, none, some (3, 1, 0, 0, 0, .null, []), some (20, 3, 12, 47, 1, .null, [(0, 1053)]), none, none, some (0, 2, 0, 0, 0, .int 60, []), none, some (1, 1, 1, 0, 0, .null, []), some (0, 2, 0, 0, 0, .int 10, []), none],
  [some (8, 1, 0, 1, 0, .null, []), some (7, 1, 0, 2, 0, .null, []), some (1, 2, 4, 0, 0, .null, []), none, some (7, 1, 0, 0, 0, .null, []), some (23, 1, 0, 0, 0, .null, []), some (3, 1, 0, 0, 0, .null, []), some (20, 3, 12, 21, 1, .null, [(0, 1039)]), none, none, some (0, 1, 0, 0, 0, .int 2, []), some (22, 1, 0, 0, 0, .null, []), some (10, 1, 0, 0, 0, .null, []), some (14, 1, 0, 0, 0, .null, []), some (15, 3, 116, 0, 0, .null, []), none],
  [none, some (1, 2, 4, 0, 0, .null, []), none, some (35, 1, 0, 0, 0, .null, []), some (19, 3, 4, 0, 0, .int 1, []), none, none, some (17, 3, 10, 0, 0, .null, []), none, none, some (0, 2, 0, 0, 0, .int (-2), []), none, some (35, 1, 0, 0, 0, .null, [])]]
/-- ColdShodModel.judge(II)I -/
def zi_205 : List (List (Option zI)) := [[some (3, 1, 0, 0, 0, .null, []), some (1, 1, 1, 0, 0, .null, []), some (32, 3, 203, 2, 48, .null, [(0, 1128)]), none, none, some (0, 1, 0, 0, 0, .int (-1), []), some (16, 3, 18, 0, 0, .null, []), none, none, some (3, 1, 0, 0, 0, .null, []), some (1, 1, 2, 0, 0, .null, []), some (10, 1, 0, 0, 0, .null, []), some (32, 3, 152, 2, 48, .null, [(0, 1074)]), none, none, some (15, 3, 20, 1, 0, .null, [])],
  [none, none, some (0, 1, 0, 0, 0, .int (-1), []), some (35, 1, 0, 0, 0, .null, []), some (3, 1, 0, 0, 0, .null, []), some (1, 1, 1, 0, 0, .null, []), some (32, 3, 203, 2, 48, .null, [(0, 1128)]), none, none, some (15, 3, 36, 3, 0, .null, []), none, none, some (3, 1, 0, 0, 0, .null, []), some (1, 1, 1, 0, 0, .null, []), some (32, 3, 203, 2, 48, .null, [(0, 1128)]), none],
  [none, some (17, 3, 42, 0, 0, .null, []), none, none, some (3, 1, 0, 0, 0, .null, []), some (1, 1, 1, 0, 0, .null, []), some (1, 1, 2, 0, 0, .null, []), some (32, 3, 204, 3, 48, .null, [(0, 1129)]), none, none, some (35, 1, 0, 0, 0, .null, [])]]
/-- ColdShodModel.edge(III)I -/
def zi_206 : List (List (Option zI)) := [[some (3, 1, 0, 0, 0, .null, []), some (1, 1, 1, 0, 0, .null, []), some (32, 3, 203, 2, 48, .null, [(0, 1128)]), none, none, some (0, 1, 0, 0, 0, .int (-1), []), some (16, 3, 28, 0, 0, .null, []), none, none, some (3, 1, 0, 0, 0, .null, []), some (1, 1, 2, 0, 0, .null, []), some (10, 1, 0, 0, 0, .null, []), some (32, 3, 152, 2, 48, .null, [(0, 1074)]), none, none, some (15, 3, 28, 0, 0, .null, [])],
  [none, none, some (1, 1, 3, 0, 0, .null, []), some (10, 1, 0, 0, 0, .null, []), some (0, 1, 0, 0, 0, .long 0, []), some (0, 1, 0, 0, 0, .long 1, []), some (32, 3, 143, 3, 49, .null, [(0, 1059)]), none, none, some (15, 3, 30, 1, 0, .null, []), none, none, some (0, 1, 0, 0, 0, .int (-1), []), some (35, 1, 0, 0, 0, .null, []), some (3, 1, 0, 0, 0, .null, []), some (1, 1, 1, 0, 0, .null, [])],
  [some (32, 3, 203, 2, 48, .null, [(0, 1128)]), none, none, some (15, 3, 44, 3, 0, .null, []), none, none, some (3, 1, 0, 0, 0, .null, []), some (1, 1, 1, 0, 0, .null, []), some (32, 3, 203, 2, 48, .null, [(0, 1128)]), none, none, some (35, 1, 0, 0, 0, .null, []), some (1, 1, 3, 0, 0, .null, []), some (15, 3, 53, 1, 0, .null, []), none, none],
  [some (0, 2, 0, 0, 0, .int 12, []), none, some (17, 3, 55, 0, 0, .null, []), none, none, some (0, 2, 0, 0, 0, .int 20, []), none, some (1, 1, 2, 0, 0, .null, []), some (7, 1, 0, 0, 0, .null, []), some (4, 2, 4, 0, 0, .null, []), none, some (3, 1, 0, 0, 0, .null, []), some (20, 3, 12, 0, 1, .null, [(0, 1030)]), none, none, some (1, 2, 4, 0, 0, .null, [])],
  [none, some (22, 1, 0, 0, 0, .null, []), some (4, 2, 5, 0, 0, .null, []), none, some (0, 1, 0, 0, 0, .int 0, []), some (4, 2, 6, 0, 0, .null, []), none, some (0, 1, 0, 0, 0, .int 0, []), some (4, 2, 7, 0, 0, .null, []), none, some (1, 2, 7, 0, 0, .null, []), none, some (1, 1, 3, 0, 0, .null, []), some (15, 3, 84, 1, 0, .null, []), none, none],
  [some (0, 1, 0, 0, 0, .int 3, []), some (17, 3, 85, 0, 0, .null, []), none, none, some (0, 1, 0, 0, 0, .int 5, []), some (16, 3, 127, 4, 0, .null, []), none, none, some (3, 1, 0, 0, 0, .null, []), some (20, 3, 12, 0, 1, .null, [(0, 1030)]), none, none, some (1, 2, 4, 0, 0, .null, []), none, some (1, 2, 7, 0, 0, .null, []), none],
  [some (25, 1, 0, 0, 0, .null, []), some (1, 2, 6, 0, 0, .null, []), none, some (3, 1, 0, 0, 0, .null, []), some (1, 1, 1, 0, 0, .null, []), some (1, 1, 2, 0, 0, .null, []), some (32, 3, 204, 3, 48, .null, [(0, 1129)]), none, none, some (0, 2, 0, 0, 0, .int (-2), []), none, some (16, 3, 117, 1, 0, .null, []), none, none, some (0, 1, 0, 0, 0, .int 1, []), some (1, 2, 7, 0, 0, .null, [])],
  [none, some (7, 1, 0, 6, 0, .null, []), some (17, 3, 118, 0, 0, .null, []), none, none, some (0, 1, 0, 0, 0, .int 0, []), some (7, 1, 0, 4, 0, .null, []), some (4, 2, 6, 0, 0, .null, []), none, some (19, 3, 7, 0, 0, .int 1, []), none, none, some (17, 3, 74, 0, 0, .null, []), none, none, some (3, 1, 0, 0, 0, .null, [])],
  [some (20, 3, 12, 0, 1, .null, [(0, 1030)]), none, none, some (1, 2, 4, 0, 0, .null, []), none, some (1, 2, 5, 0, 0, .null, []), none, some (25, 1, 0, 0, 0, .null, []), some (1, 2, 6, 0, 0, .null, []), none, some (35, 1, 0, 0, 0, .null, [])]]
/-- ColdShodModel.playsFrom(III)I -/
def zi_207 : List (List (Option zI)) := [[some (1, 1, 2, 0, 0, .null, []), some (1, 1, 3, 0, 0, .null, []), some (16, 3, 155, 1, 0, .null, []), none, none, some (3, 1, 0, 0, 0, .null, []), some (1, 1, 1, 0, 0, .null, []), some (32, 3, 178, 2, 48, .null, [(0, 1102)]), none, none, some (0, 1, 0, 0, 0, .int 0, []), some (4, 2, 4, 0, 0, .null, []), none, some (1, 2, 4, 0, 0, .null, []), none, some (1, 1, 3, 0, 0, .null, [])],
  [some (16, 3, 148, 3, 0, .null, []), none, none, some (1, 2, 4, 0, 0, .null, []), none, some (0, 1, 0, 0, 0, .int 2, []), some (8, 1, 0, 1, 0, .null, []), some (15, 3, 51, 1, 0, .null, []), none, none, some (3, 1, 0, 0, 0, .null, []), some (20, 3, 12, 33, 1, .null, [(0, 1045)]), none, none, some (1, 2, 4, 0, 0, .null, []), none],
  [some (22, 1, 0, 0, 0, .null, []), some (0, 1, 0, 0, 0, .int 2, []), some (16, 3, 51, 3, 0, .null, []), none, none, some (3, 1, 0, 0, 0, .null, []), some (0, 1, 0, 0, 0, .int 3, []), some (3, 1, 0, 0, 0, .null, []), some (20, 3, 12, 33, 1, .null, [(0, 1045)]), none, none, some (1, 2, 4, 0, 0, .null, []), none, some (22, 1, 0, 0, 0, .null, []), some (7, 1, 0, 2, 0, .null, []), some (32, 3, 184, 2, 48, .null, [(0, 1115)])],
  [none, none, some (42, 1, 0, 0, 0, .null, []), some (1, 2, 4, 0, 0, .null, []), none, some (0, 1, 0, 0, 0, .int 2, []), some (8, 1, 0, 1, 0, .null, []), some (0, 1, 0, 0, 0, .int 1, []), some (16, 3, 100, 1, 0, .null, []), none, none, some (3, 1, 0, 0, 0, .null, []), some (20, 3, 12, 33, 1, .null, [(0, 1045)]), none, none, some (1, 2, 4, 0, 0, .null, [])],
  [none, some (22, 1, 0, 0, 0, .null, []), some (15, 3, 100, 1, 0, .null, []), none, none, some (3, 1, 0, 0, 0, .null, []), some (20, 3, 12, 21, 1, .null, [(0, 1039)]), none, none, some (0, 1, 0, 0, 0, .int 2, []), some (3, 1, 0, 0, 0, .null, []), some (20, 3, 12, 21, 1, .null, [(0, 1039)]), none, none, some (0, 1, 0, 0, 0, .int 2, []), some (22, 1, 0, 0, 0, .null, [])],
  [some (0, 2, 0, 0, 0, .int 92, []), none, some (16, 3, 90, 5, 0, .null, []), none, none, some (0, 2, 0, 0, 0, .int 99, []), none, some (17, 3, 99, 0, 0, .null, []), none, none, some (3, 1, 0, 0, 0, .null, []), some (20, 3, 12, 21, 1, .null, [(0, 1039)]), none, none, some (0, 1, 0, 0, 0, .int 2, []), some (22, 1, 0, 0, 0, .null, [])],
  [some (0, 2, 0, 0, 0, .int 7, []), none, some (7, 1, 0, 0, 0, .null, []), some (25, 1, 0, 0, 0, .null, []), some (1, 2, 4, 0, 0, .null, []), none, some (0, 1, 0, 0, 0, .int 2, []), some (8, 1, 0, 1, 0, .null, []), some (0, 1, 0, 0, 0, .int 1, []), some (16, 3, 142, 1, 0, .null, []), none, none, some (3, 1, 0, 0, 0, .null, []), some (20, 3, 12, 33, 1, .null, [(0, 1045)]), none, none],
  [some (1, 2, 4, 0, 0, .null, []), none, some (22, 1, 0, 0, 0, .null, []), some (0, 1, 0, 0, 0, .int 1, []), some (16, 3, 142, 1, 0, .null, []), none, none, some (3, 1, 0, 0, 0, .null, []), some (20, 3, 12, 21, 1, .null, [(0, 1039)]), none, none, some (0, 1, 0, 0, 0, .int 3, []), some (41, 1, 0, 0, 0, .null, []), some (22, 1, 0, 0, 0, .null, []), some (3, 1, 0, 0, 0, .null, []), some (20, 3, 12, 21, 1, .null, [(0, 1039)])],
  [none, none, some (0, 1, 0, 0, 0, .int 3, []), some (22, 1, 0, 0, 0, .null, []), some (15, 3, 139, 5, 0, .null, []), none, none, some (0, 1, 0, 0, 0, .int 1, []), some (17, 3, 140, 0, 0, .null, []), none, none, some (0, 1, 0, 0, 0, .int 0, []), some (7, 1, 0, 1, 0, .null, []), some (25, 1, 0, 0, 0, .null, []), some (19, 3, 4, 0, 0, .int 1, []), none],
  [none, some (17, 3, 13, 0, 0, .null, []), none, none, some (3, 1, 0, 0, 0, .null, []), some (20, 3, 12, 21, 1, .null, [(0, 1039)]), none, none, some (0, 1, 0, 0, 0, .int 2, []), some (22, 1, 0, 0, 0, .null, []), some (35, 1, 0, 0, 0, .null, []), some (0, 1, 0, 0, 0, .int (-1), []), some (4, 2, 4, 0, 0, .null, []), none, some (0, 1, 0, 0, 0, .int 0, []), some (4, 2, 5, 0, 0, .null, [])],
  [none, some (1, 2, 5, 0, 0, .null, []), none, some (0, 1, 0, 0, 0, .int 3, []), some (16, 3, 241, 3, 0, .null, []), none, none, some (3, 1, 0, 0, 0, .null, []), some (20, 3, 12, 33, 1, .null, [(0, 1045)]), none, none, some (1, 1, 2, 0, 0, .null, []), some (1, 2, 5, 0, 0, .null, []), none, some (25, 1, 0, 0, 0, .null, []), some (3, 1, 0, 0, 0, .null, [])],
  [some (1, 1, 1, 0, 0, .null, []), some (1, 1, 2, 0, 0, .null, []), some (0, 1, 0, 0, 0, .int 1, []), some (7, 1, 0, 0, 0, .null, []), some (1, 1, 3, 0, 0, .null, []), some (32, 3, 207, 4, 48, .null, [(0, 1130)]), none, none, some (4, 2, 6, 0, 0, .null, []), none, some (1, 2, 4, 0, 0, .null, []), none, some (15, 3, 196, 3, 0, .null, []), none, none, some (1, 2, 6, 0, 0, .null, [])],
  [none, some (17, 3, 233, 0, 0, .null, []), none, none, some (1, 1, 2, 0, 0, .null, []), some (0, 1, 0, 0, 0, .int 2, []), some (8, 1, 0, 1, 0, .null, []), some (15, 3, 219, 1, 0, .null, []), none, none, some (1, 2, 6, 0, 0, .null, []), none, some (1, 2, 4, 0, 0, .null, []), none, some (16, 3, 214, 3, 0, .null, []), none],
  [none, some (1, 2, 6, 0, 0, .null, []), none, some (17, 3, 233, 0, 0, .null, []), none, none, some (1, 2, 4, 0, 0, .null, []), none, some (17, 3, 233, 0, 0, .null, []), none, none, some (1, 2, 6, 0, 0, .null, []), none, some (1, 2, 4, 0, 0, .null, []), none, some (16, 3, 231, 5, 0, .null, [])],
  [none, none, some (1, 2, 6, 0, 0, .null, []), none, some (17, 3, 233, 0, 0, .null, []), none, none, some (1, 2, 4, 0, 0, .null, []), none, some (4, 2, 4, 0, 0, .null, []), none, some (19, 3, 5, 0, 0, .int 1, []), none, none, some (17, 3, 161, 0, 0, .null, []), none],
  [none, some (1, 2, 4, 0, 0, .null, []), none, some (35, 1, 0, 0, 0, .null, [])]]
/-- ColdShodModel.byTurns(III)I -/
def zi_208 : List (List (Option zI)) := [[some (3, 1, 0, 0, 0, .null, []), some (1, 1, 1, 0, 0, .null, []), some (10, 1, 0, 0, 0, .null, []), some (32, 3, 152, 2, 48, .null, [(0, 1074)]), none, none, some (15, 3, 31, 0, 0, .null, []), none, none, some (1, 1, 2, 0, 0, .null, []), some (10, 1, 0, 0, 0, .null, []), some (0, 1, 0, 0, 0, .long 1, []), some (0, 3, 0, 0, 0, .long 5, [(0, 1063)]), none, none, some (32, 3, 143, 3, 49, .null, [(0, 1059)])],
  [none, none, some (15, 3, 31, 0, 0, .null, []), none, none, some (1, 1, 3, 0, 0, .null, []), some (10, 1, 0, 0, 0, .null, []), some (0, 1, 0, 0, 0, .long 0, []), some (0, 1, 0, 0, 0, .long 1, []), some (32, 3, 143, 3, 49, .null, [(0, 1059)]), none, none, some (15, 3, 33, 1, 0, .null, []), none, none, some (0, 1, 0, 0, 0, .int (-1), [])],
  [some (35, 1, 0, 0, 0, .null, []), some (3, 1, 0, 0, 0, .null, []), some (1, 1, 1, 0, 0, .null, []), some (0, 1, 0, 0, 0, .int 0, []), some (1, 1, 2, 0, 0, .null, []), some (32, 3, 207, 4, 48, .null, [(0, 1130)]), none, none, some (4, 2, 4, 0, 0, .null, []), none, some (1, 1, 3, 0, 0, .null, []), some (15, 3, 49, 1, 0, .null, []), none, none, some (1, 2, 4, 0, 0, .null, []), none],
  [some (35, 1, 0, 0, 0, .null, []), some (3, 1, 0, 0, 0, .null, []), some (20, 3, 12, 33, 1, .null, [(0, 1045)]), none, none, some (0, 1, 0, 0, 0, .int 0, []), some (0, 1, 0, 0, 0, .int 2, []), some (25, 1, 0, 0, 0, .null, []), some (3, 1, 0, 0, 0, .null, []), some (1, 1, 1, 0, 0, .null, []), some (0, 1, 0, 0, 0, .int 1, []), some (1, 1, 2, 0, 0, .null, []), some (32, 3, 207, 4, 48, .null, [(0, 1130)]), none, none, some (1, 2, 4, 0, 0, .null, [])],
  [none, some (16, 3, 70, 1, 0, .null, []), none, none, some (0, 1, 0, 0, 0, .int 4, []), some (35, 1, 0, 0, 0, .null, []), some (3, 1, 0, 0, 0, .null, []), some (20, 3, 12, 33, 1, .null, [(0, 1045)]), none, none, some (0, 1, 0, 0, 0, .int 0, []), some (0, 1, 0, 0, 0, .int 0, []), some (25, 1, 0, 0, 0, .null, []), some (3, 1, 0, 0, 0, .null, []), some (1, 1, 1, 0, 0, .null, []), some (0, 1, 0, 0, 0, .int 1, [])],
  [some (1, 1, 2, 0, 0, .null, []), some (32, 3, 207, 4, 48, .null, [(0, 1130)]), none, none, some (1, 2, 4, 0, 0, .null, []), none, some (16, 3, 93, 1, 0, .null, []), none, none, some (0, 1, 0, 0, 0, .int 0, []), some (17, 3, 94, 0, 0, .null, []), none, none, some (0, 1, 0, 0, 0, .int 3, []), some (35, 1, 0, 0, 0, .null, [])]]
/-- ColdShodModel.drawn(IIII)I -/
def zi_209 : List (List (Option zI)) := [[some (1, 1, 2, 0, 0, .null, []), some (15, 3, 54, 2, 0, .null, []), none, none, some (1, 1, 2, 0, 0, .null, []), some (0, 2, 0, 0, 0, .int 100, []), none, some (8, 1, 0, 0, 0, .null, []), some (10, 1, 0, 0, 0, .null, []), some (0, 1, 0, 0, 0, .long 1, []), some (0, 3, 0, 0, 0, .long 30, [(0, 1131)]), none, none, some (32, 3, 143, 3, 49, .null, [(0, 1059)]), none, none],
  [some (15, 3, 54, 0, 0, .null, []), none, none, some (1, 1, 2, 0, 0, .null, []), some (0, 2, 0, 0, 0, .int 100, []), none, some (8, 1, 0, 1, 0, .null, []), some (10, 1, 0, 0, 0, .null, []), some (0, 1, 0, 0, 0, .long 1, []), some (0, 3, 0, 0, 0, .long 40, [(0, 1132)]), none, none, some (32, 3, 143, 3, 49, .null, [(0, 1059)]), none, none, some (15, 3, 54, 0, 0, .null, [])],
  [none, none, some (3, 1, 0, 0, 0, .null, []), some (1, 1, 3, 0, 0, .null, []), some (10, 1, 0, 0, 0, .null, []), some (32, 3, 152, 2, 48, .null, [(0, 1074)]), none, none, some (15, 3, 54, 0, 0, .null, []), none, none, some (1, 2, 4, 0, 0, .null, []), none, some (10, 1, 0, 0, 0, .null, []), some (0, 1, 0, 0, 0, .long 0, []), some (0, 1, 0, 0, 0, .long 1, [])],
  [some (32, 3, 143, 3, 49, .null, [(0, 1059)]), none, none, some (15, 3, 56, 1, 0, .null, []), none, none, some (0, 1, 0, 0, 0, .int (-1), []), some (35, 1, 0, 0, 0, .null, []), some (1, 1, 1, 0, 0, .null, []), some (4, 2, 5, 0, 0, .null, []), none, some (0, 1, 0, 0, 0, .int 0, []), some (4, 2, 6, 0, 0, .null, []), none, some (0, 1, 0, 0, 0, .int 0, []), some (4, 2, 7, 0, 0, .null, [])],
  [none, some (3, 1, 0, 0, 0, .null, []), some (20, 3, 12, 0, 1, .null, [(0, 1030)]), none, none, some (0, 2, 0, 0, 0, .int 60, []), none, some (1, 1, 3, 0, 0, .null, []), some (7, 1, 0, 0, 0, .null, []), some (22, 1, 0, 0, 0, .null, []), some (15, 3, 82, 3, 0, .null, []), none, none, some (0, 2, 0, 0, 0, .int 6, []), none, some (17, 3, 99, 0, 0, .null, [])],
  [none, none, some (3, 1, 0, 0, 0, .null, []), some (20, 3, 12, 0, 1, .null, [(0, 1030)]), none, none, some (0, 2, 0, 0, 0, .int 6, []), none, some (3, 1, 0, 0, 0, .null, []), some (20, 3, 12, 0, 1, .null, [(0, 1030)]), none, none, some (0, 2, 0, 0, 0, .int 60, []), none, some (1, 1, 3, 0, 0, .null, []), some (7, 1, 0, 0, 0, .null, [])],
  [some (22, 1, 0, 0, 0, .null, []), some (7, 1, 0, 0, 0, .null, []), some (22, 1, 0, 0, 0, .null, []), some (4, 2, 8, 0, 0, .null, []), none, some (0, 1, 0, 0, 0, .int 0, []), some (4, 2, 9, 0, 0, .null, []), none, some (1, 2, 9, 0, 0, .null, []), none, some (1, 1, 2, 0, 0, .null, []), some (0, 2, 0, 0, 0, .int 100, []), none, some (8, 1, 0, 0, 0, .null, []), some (16, 3, 224, 3, 0, .null, []), none],
  [none, some (3, 1, 0, 0, 0, .null, []), some (1, 1, 3, 0, 0, .null, []), some (32, 3, 178, 2, 48, .null, [(0, 1102)]), none, none, some (0, 1, 0, 0, 0, .int 0, []), some (4, 2, 10, 0, 0, .null, []), none, some (1, 2, 10, 0, 0, .null, []), none, some (1, 1, 2, 0, 0, .null, []), some (0, 2, 0, 0, 0, .int 100, []), none, some (8, 1, 0, 1, 0, .null, []), some (16, 3, 197, 3, 0, .null, [])],
  [none, none, some (3, 1, 0, 0, 0, .null, []), some (20, 3, 12, 8, 0, .null, [(0, 1061)]), none, none, some (15, 3, 197, 5, 0, .null, []), none, none, some (1, 2, 5, 0, 0, .null, []), none, some (0, 3, 0, 0, 0, .int 1103515245, [(0, 1133)]), none, none, some (7, 1, 0, 2, 0, .null, []), some (0, 3, 0, 0, 0, .int 12345, [])],
  [none, none, some (7, 1, 0, 0, 0, .null, []), some (4, 2, 5, 0, 0, .null, []), none, some (1, 2, 5, 0, 0, .null, []), none, some (0, 2, 0, 0, 0, .int 16, []), none, some (7, 1, 0, 8, 0, .null, []), some (0, 2, 0, 0, 0, .int 12, []), none, some (8, 1, 0, 1, 0, .null, []), some (1, 2, 8, 0, 0, .null, []), none, some (16, 3, 168, 3, 0, .null, [])],
  [none, none, some (3, 1, 0, 0, 0, .null, []), some (0, 1, 0, 0, 0, .int 3, []), some (32, 3, 184, 2, 48, .null, [(0, 1115)]), none, none, some (42, 1, 0, 0, 0, .null, []), some (3, 1, 0, 0, 0, .null, []), some (1, 2, 5, 0, 0, .null, []), none, some (0, 2, 0, 0, 0, .int 8, []), none, some (7, 1, 0, 8, 0, .null, []), some (3, 1, 0, 0, 0, .null, []), some (20, 3, 12, 8, 0, .null, [(0, 1061)])],
  [none, none, some (8, 1, 0, 1, 0, .null, []), some (32, 3, 183, 2, 48, .null, [(0, 1111)]), none, none, some (1, 2, 6, 0, 0, .null, []), none, some (3, 1, 0, 0, 0, .null, []), some (20, 3, 12, 22, 0, .null, [(0, 1104)]), none, none, some (7, 1, 0, 0, 0, .null, []), some (4, 2, 6, 0, 0, .null, []), none, some (19, 3, 10, 0, 0, .int 1, [])],
  [none, none, some (17, 3, 121, 0, 0, .null, []), none, none, some (1, 2, 7, 0, 0, .null, []), none, some (3, 1, 0, 0, 0, .null, []), some (20, 3, 12, 21, 1, .null, [(0, 1039)]), none, none, some (0, 1, 0, 0, 0, .int 2, []), some (22, 1, 0, 0, 0, .null, []), some (0, 2, 0, 0, 0, .int 99, []), none, some (16, 3, 214, 1, 0, .null, [])],
  [none, none, some (0, 1, 0, 0, 0, .int 1, []), some (17, 3, 215, 0, 0, .null, []), none, none, some (0, 1, 0, 0, 0, .int 0, []), some (7, 1, 0, 0, 0, .null, []), some (4, 2, 7, 0, 0, .null, []), none, some (19, 3, 9, 0, 0, .int 1, []), none, none, some (17, 3, 104, 0, 0, .null, []), none, none],
  [some (1, 2, 4, 0, 0, .null, []), none, some (15, 3, 234, 1, 0, .null, []), none, none, some (1, 2, 6, 0, 0, .null, []), none, some (17, 3, 236, 0, 0, .null, []), none, none, some (1, 2, 7, 0, 0, .null, []), none, some (35, 1, 0, 0, 0, .null, [])]]
/-- ColdShodModel.keepsOwn(I)V -/
def zi_210 : List (List (Option zI)) := [[some (0, 1, 0, 0, 0, .int 0, []), some (4, 1, 2, 0, 0, .null, []), some (1, 1, 2, 0, 0, .null, []), some (0, 2, 0, 0, 0, .int 6, []), none, some (16, 3, 34, 3, 0, .null, []), none, none, some (3, 1, 0, 0, 0, .null, []), some (20, 3, 12, 0, 1, .null, [(0, 1030)]), none, none, some (0, 2, 0, 0, 0, .int 12, []), none, some (0, 2, 0, 0, 0, .int 8, []), none],
  [some (1, 1, 2, 0, 0, .null, []), some (7, 1, 0, 2, 0, .null, []), some (7, 1, 0, 0, 0, .null, []), some (1, 1, 1, 0, 0, .null, []), some (7, 1, 0, 0, 0, .null, []), some (3, 1, 0, 0, 0, .null, []), some (20, 3, 12, 21, 1, .null, [(0, 1039)]), none, none, some (1, 1, 2, 0, 0, .null, []), some (22, 1, 0, 0, 0, .null, []), some (25, 1, 0, 0, 0, .null, []), some (19, 3, 2, 0, 0, .int 1, []), none, none, some (17, 3, 2, 0, 0, .null, [])],
  [none, none, some (38, 1, 0, 0, 0, .null, [])]]
/-- ColdShodModel.stroke(II)I -/
def zi_211 : List (List (Option zI)) := [[some (3, 1, 0, 0, 0, .null, []), some (1, 1, 1, 0, 0, .null, []), some (10, 1, 0, 0, 0, .null, []), some (32, 3, 152, 2, 48, .null, [(0, 1074)]), none, none, some (15, 3, 21, 0, 0, .null, []), none, none, some (1, 1, 2, 0, 0, .null, []), some (10, 1, 0, 0, 0, .null, []), some (0, 1, 0, 0, 0, .long 0, []), some (0, 3, 0, 0, 0, .long 3, [(0, 1064)]), none, none, some (32, 3, 143, 3, 49, .null, [(0, 1059)])],
  [none, none, some (15, 3, 23, 1, 0, .null, []), none, none, some (0, 1, 0, 0, 0, .int (-1), []), some (35, 1, 0, 0, 0, .null, []), some (3, 1, 0, 0, 0, .null, []), some (1, 1, 1, 0, 0, .null, []), some (32, 3, 178, 2, 48, .null, [(0, 1102)]), none, none, some (3, 1, 0, 0, 0, .null, []), some (1, 1, 2, 0, 0, .null, []), some (32, 3, 184, 2, 48, .null, [(0, 1115)]), none],
  [none, some (4, 1, 3, 0, 0, .null, []), some (3, 1, 0, 0, 0, .null, []), some (1, 1, 1, 0, 0, .null, []), some (32, 3, 210, 2, 48, .null, [(0, 1134)]), none, none, some (3, 1, 0, 0, 0, .null, []), some (20, 3, 12, 34, 1, .null, [(0, 1046)]), none, none, some (1, 1, 3, 0, 0, .null, []), some (15, 3, 51, 0, 0, .null, []), none, none, some (0, 1, 0, 0, 0, .int 0, [])],
  [some (17, 3, 52, 0, 0, .null, []), none, none, some (0, 1, 0, 0, 0, .int 1, []), some (41, 1, 0, 0, 0, .null, []), some (22, 1, 0, 0, 0, .null, []), some (0, 1, 0, 0, 0, .int 1, []), some (7, 1, 0, 0, 0, .null, []), some (25, 1, 0, 0, 0, .null, []), some (1, 1, 3, 0, 0, .null, []), some (15, 3, 65, 0, 0, .null, []), none, none, some (0, 1, 0, 0, 0, .int 1, []), some (17, 3, 66, 0, 0, .null, []), none],
  [none, some (0, 1, 0, 0, 0, .int 0, []), some (35, 1, 0, 0, 0, .null, [])]]
/-- ColdShodModel.goes(II)I -/
def zi_212 : List (List (Option zI)) := [[some (3, 1, 0, 0, 0, .null, []), some (1, 1, 1, 0, 0, .null, []), some (10, 1, 0, 0, 0, .null, []), some (32, 3, 152, 2, 48, .null, [(0, 1074)]), none, none, some (15, 3, 18, 0, 0, .null, []), none, none, some (3, 1, 0, 0, 0, .null, []), some (1, 1, 2, 0, 0, .null, []), some (10, 1, 0, 0, 0, .null, []), some (32, 3, 153, 2, 48, .null, [(0, 1076)]), none, none, some (15, 3, 20, 1, 0, .null, [])],
  [none, none, some (0, 1, 0, 0, 0, .int (-1), []), some (35, 1, 0, 0, 0, .null, []), some (3, 1, 0, 0, 0, .null, []), some (1, 1, 1, 0, 0, .null, []), some (32, 3, 178, 2, 48, .null, [(0, 1102)]), none, none, some (3, 1, 0, 0, 0, .null, []), some (1, 1, 2, 0, 0, .null, []), some (32, 3, 182, 2, 48, .null, [(0, 1106)]), none, none, some (15, 3, 36, 1, 0, .null, []), none],
  [none, some (0, 2, 0, 0, 0, .int (-5), []), none, some (35, 1, 0, 0, 0, .null, []), some (3, 1, 0, 0, 0, .null, []), some (1, 1, 2, 0, 0, .null, []), some (32, 3, 183, 2, 48, .null, [(0, 1111)]), none, none, some (3, 1, 0, 0, 0, .null, []), some (1, 1, 1, 0, 0, .null, []), some (32, 3, 210, 2, 48, .null, [(0, 1134)]), none, none, some (3, 1, 0, 0, 0, .null, []), some (20, 3, 12, 34, 1, .null, [(0, 1046)])],
  [none, none, some (0, 1, 0, 0, 0, .int 2, []), some (41, 1, 0, 0, 0, .null, []), some (22, 1, 0, 0, 0, .null, []), some (3, 1, 0, 0, 0, .null, []), some (20, 3, 12, 23, 0, .null, [(0, 1105)]), none, none, some (15, 3, 64, 0, 0, .null, []), none, none, some (0, 1, 0, 0, 0, .int 1, []), some (17, 3, 65, 0, 0, .null, []), none, none],
  [some (0, 1, 0, 0, 0, .int 0, []), some (7, 1, 0, 0, 0, .null, []), some (25, 1, 0, 0, 0, .null, []), some (3, 1, 0, 0, 0, .null, []), some (20, 3, 12, 34, 1, .null, [(0, 1046)]), none, none, some (0, 1, 0, 0, 0, .int 3, []), some (41, 1, 0, 0, 0, .null, []), some (22, 1, 0, 0, 0, .null, []), some (3, 1, 0, 0, 0, .null, []), some (20, 3, 12, 22, 0, .null, [(0, 1104)]), none, none, some (7, 1, 0, 0, 0, .null, []), some (25, 1, 0, 0, 0, .null, [])],
  [some (3, 1, 0, 0, 0, .null, []), some (20, 3, 12, 34, 1, .null, [(0, 1046)]), none, none, some (0, 1, 0, 0, 0, .int 4, []), some (41, 1, 0, 0, 0, .null, []), some (22, 1, 0, 0, 0, .null, []), some (3, 1, 0, 0, 0, .null, []), some (20, 3, 12, 21, 1, .null, [(0, 1039)]), none, none, some (0, 1, 0, 0, 0, .int 2, []), some (22, 1, 0, 0, 0, .null, []), some (0, 2, 0, 0, 0, .int 99, []), none, some (16, 3, 102, 1, 0, .null, [])],
  [none, none, some (0, 1, 0, 0, 0, .int 1, []), some (17, 3, 103, 0, 0, .null, []), none, none, some (0, 1, 0, 0, 0, .int 0, []), some (7, 1, 0, 0, 0, .null, []), some (25, 1, 0, 0, 0, .null, []), some (3, 1, 0, 0, 0, .null, []), some (20, 3, 12, 22, 0, .null, [(0, 1104)]), none, none, some (35, 1, 0, 0, 0, .null, [])]]
/-- ColdShodModel.deal()I -/
def zi_213 : List (List (Option zI)) := [[some (3, 1, 0, 0, 0, .null, []), some (32, 3, 198, 1, 48, .null, [(0, 1125)]), none, none, some (0, 1, 0, 0, 0, .int 0, []), some (4, 1, 1, 0, 0, .null, []), some (0, 1, 0, 0, 0, .int 0, []), some (4, 1, 2, 0, 0, .null, []), some (1, 1, 2, 0, 0, .null, []), some (3, 1, 0, 0, 0, .null, []), some (20, 3, 12, 7, 0, .null, [(0, 1060)]), none, none, some (16, 3, 54, 3, 0, .null, []), none, none],
  [some (3, 1, 0, 0, 0, .null, []), some (20, 3, 12, 0, 1, .null, [(0, 1030)]), none, none, some (0, 2, 0, 0, 0, .int 60, []), none, some (1, 1, 2, 0, 0, .null, []), some (7, 1, 0, 0, 0, .null, []), some (3, 1, 0, 0, 0, .null, []), some (20, 3, 12, 31, 1, .null, [(0, 1043)]), none, none, some (1, 1, 2, 0, 0, .null, []), some (22, 1, 0, 0, 0, .null, []), some (25, 1, 0, 0, 0, .null, []), some (1, 1, 1, 0, 0, .null, [])],
  [some (3, 1, 0, 0, 0, .null, []), some (20, 3, 12, 31, 1, .null, [(0, 1043)]), none, none, some (1, 1, 2, 0, 0, .null, []), some (22, 1, 0, 0, 0, .null, []), some (15, 3, 45, 2, 0, .null, []), none, none, some (0, 1, 0, 0, 0, .int 1, []), some (17, 3, 46, 0, 0, .null, []), none, none, some (0, 1, 0, 0, 0, .int 0, []), some (7, 1, 0, 0, 0, .null, []), some (4, 1, 1, 0, 0, .null, [])],
  [some (19, 3, 2, 0, 0, .int 1, []), none, none, some (17, 3, 8, 0, 0, .null, []), none, none, some (1, 1, 1, 0, 0, .null, []), some (35, 1, 0, 0, 0, .null, [])]]
/-- ColdShodModel.led(I)I -/
def zi_214 : List (List (Option zI)) := [[some (1, 1, 1, 0, 0, .null, []), some (10, 1, 0, 0, 0, .null, []), some (0, 1, 0, 0, 0, .long 0, []), some (0, 3, 0, 0, 0, .long 4, [(0, 1113)]), none, none, some (32, 3, 143, 3, 49, .null, [(0, 1059)]), none, none, some (15, 3, 21, 0, 0, .null, []), none, none, some (3, 1, 0, 0, 0, .null, []), some (20, 3, 12, 34, 1, .null, [(0, 1046)]), none, none],
  [some (1, 1, 1, 0, 0, .null, []), some (22, 1, 0, 0, 0, .null, []), some (17, 3, 22, 0, 0, .null, []), none, none, some (0, 1, 0, 0, 0, .int (-1), []), some (35, 1, 0, 0, 0, .null, [])]]
/-- ColdShodModel.image()I -/
def zi_215 : List (List (Option zI)) := [[some (3, 1, 0, 0, 0, .null, []), some (0, 1, 0, 0, 0, .int 1, []), some (21, 3, 12, 35, 2, .null, [(0, 1135)]), none, none, some (3, 1, 0, 0, 0, .null, []), some (3, 1, 0, 0, 0, .null, []), some (20, 3, 12, 7, 0, .null, [(0, 1060)]), none, none, some (21, 3, 12, 36, 0, .null, [(0, 1136)]), none, none, some (0, 1, 0, 0, 0, .int 0, []), some (4, 1, 1, 0, 0, .null, []), some (1, 1, 1, 0, 0, .null, [])],
  [some (0, 2, 0, 0, 0, .int 104, []), none, some (16, 3, 39, 3, 0, .null, []), none, none, some (3, 1, 0, 0, 0, .null, []), some (20, 3, 12, 37, 1, .null, [(0, 1047)]), none, none, some (1, 1, 1, 0, 0, .null, []), some (3, 1, 0, 0, 0, .null, []), some (20, 3, 12, 0, 1, .null, [(0, 1030)]), none, none, some (1, 1, 1, 0, 0, .null, []), some (22, 1, 0, 0, 0, .null, [])],
  [some (25, 1, 0, 0, 0, .null, []), some (19, 3, 1, 0, 0, .int 1, []), none, none, some (17, 3, 15, 0, 0, .null, []), none, none, some (0, 1, 0, 0, 0, .int 0, []), some (4, 1, 1, 0, 0, .null, []), some (1, 1, 1, 0, 0, .null, []), some (0, 1, 0, 0, 0, .int 5, []), some (16, 3, 64, 3, 0, .null, []), none, none, some (3, 1, 0, 0, 0, .null, []), some (20, 3, 12, 38, 1, .null, [(0, 1048)])],
  [none, none, some (1, 1, 1, 0, 0, .null, []), some (3, 1, 0, 0, 0, .null, []), some (20, 3, 12, 34, 1, .null, [(0, 1046)]), none, none, some (1, 1, 1, 0, 0, .null, []), some (22, 1, 0, 0, 0, .null, []), some (25, 1, 0, 0, 0, .null, []), some (19, 3, 1, 0, 0, .int 1, []), none, none, some (17, 3, 41, 0, 0, .null, []), none, none],
  [some (3, 1, 0, 0, 0, .null, []), some (20, 3, 12, 34, 1, .null, [(0, 1046)]), none, none, some (0, 1, 0, 0, 0, .int 3, []), some (22, 1, 0, 0, 0, .null, []), some (35, 1, 0, 0, 0, .null, [])]]
/-- ColdShodModel.back()I -/
def zi_216 : List (List (Option zI)) := [[some (3, 1, 0, 0, 0, .null, []), some (20, 3, 12, 35, 0, .null, [(0, 1135)]), none, none, some (15, 3, 10, 1, 0, .null, []), none, none, some (0, 2, 0, 0, 0, .int (-5), []), none, some (35, 1, 0, 0, 0, .null, []), some (0, 1, 0, 0, 0, .int 0, []), some (4, 1, 1, 0, 0, .null, []), some (1, 1, 1, 0, 0, .null, []), some (3, 1, 0, 0, 0, .null, []), some (20, 3, 12, 36, 0, .null, [(0, 1136)]), none],
  [none, some (16, 3, 116, 3, 0, .null, []), none, none, some (3, 1, 0, 0, 0, .null, []), some (20, 3, 12, 0, 1, .null, [(0, 1030)]), none, none, some (0, 2, 0, 0, 0, .int 20, []), none, some (1, 1, 1, 0, 0, .null, []), some (7, 1, 0, 0, 0, .null, []), some (3, 1, 0, 0, 0, .null, []), some (20, 3, 12, 37, 1, .null, [(0, 1047)]), none, none],
  [some (0, 2, 0, 0, 0, .int 20, []), none, some (1, 1, 1, 0, 0, .null, []), some (7, 1, 0, 0, 0, .null, []), some (22, 1, 0, 0, 0, .null, []), some (25, 1, 0, 0, 0, .null, []), some (3, 1, 0, 0, 0, .null, []), some (20, 3, 12, 0, 1, .null, [(0, 1030)]), none, none, some (0, 2, 0, 0, 0, .int 28, []), none, some (1, 1, 1, 0, 0, .null, []), some (7, 1, 0, 0, 0, .null, []), some (3, 1, 0, 0, 0, .null, []), some (20, 3, 12, 37, 1, .null, [(0, 1047)])],
  [none, none, some (0, 2, 0, 0, 0, .int 28, []), none, some (1, 1, 1, 0, 0, .null, []), some (7, 1, 0, 0, 0, .null, []), some (22, 1, 0, 0, 0, .null, []), some (25, 1, 0, 0, 0, .null, []), some (3, 1, 0, 0, 0, .null, []), some (20, 3, 12, 0, 1, .null, [(0, 1030)]), none, none, some (0, 2, 0, 0, 0, .int 36, []), none, some (1, 1, 1, 0, 0, .null, []), some (7, 1, 0, 0, 0, .null, [])],
  [some (3, 1, 0, 0, 0, .null, []), some (20, 3, 12, 37, 1, .null, [(0, 1047)]), none, none, some (0, 2, 0, 0, 0, .int 36, []), none, some (1, 1, 1, 0, 0, .null, []), some (7, 1, 0, 0, 0, .null, []), some (22, 1, 0, 0, 0, .null, []), some (25, 1, 0, 0, 0, .null, []), some (3, 1, 0, 0, 0, .null, []), some (20, 3, 12, 0, 1, .null, [(0, 1030)]), none, none, some (0, 2, 0, 0, 0, .int 52, []), none],
  [some (1, 1, 1, 0, 0, .null, []), some (7, 1, 0, 0, 0, .null, []), some (3, 1, 0, 0, 0, .null, []), some (20, 3, 12, 37, 1, .null, [(0, 1047)]), none, none, some (0, 2, 0, 0, 0, .int 52, []), none, some (1, 1, 1, 0, 0, .null, []), some (7, 1, 0, 0, 0, .null, []), some (22, 1, 0, 0, 0, .null, []), some (25, 1, 0, 0, 0, .null, []), some (3, 1, 0, 0, 0, .null, []), some (20, 3, 12, 0, 1, .null, [(0, 1030)]), none, none],
  [some (0, 2, 0, 0, 0, .int 60, []), none, some (1, 1, 1, 0, 0, .null, []), some (7, 1, 0, 0, 0, .null, []), some (3, 1, 0, 0, 0, .null, []), some (20, 3, 12, 37, 1, .null, [(0, 1047)]), none, none, some (0, 2, 0, 0, 0, .int 60, []), none, some (1, 1, 1, 0, 0, .null, []), some (7, 1, 0, 0, 0, .null, []), some (22, 1, 0, 0, 0, .null, []), some (25, 1, 0, 0, 0, .null, []), some (19, 3, 1, 0, 0, .int 1, []), none],
  [none, some (17, 3, 12, 0, 0, .null, []), none, none, some (0, 1, 0, 0, 0, .int 0, []), some (4, 1, 1, 0, 0, .null, []), some (1, 1, 1, 0, 0, .null, []), some (0, 1, 0, 0, 0, .int 5, []), some (16, 3, 141, 3, 0, .null, []), none, none, some (3, 1, 0, 0, 0, .null, []), some (20, 3, 12, 34, 1, .null, [(0, 1046)]), none, none, some (1, 1, 1, 0, 0, .null, [])],
  [some (3, 1, 0, 0, 0, .null, []), some (20, 3, 12, 38, 1, .null, [(0, 1048)]), none, none, some (1, 1, 1, 0, 0, .null, []), some (22, 1, 0, 0, 0, .null, []), some (25, 1, 0, 0, 0, .null, []), some (19, 3, 1, 0, 0, .int 1, []), none, none, some (17, 3, 118, 0, 0, .null, []), none, none, some (3, 1, 0, 0, 0, .null, []), some (20, 3, 12, 34, 1, .null, [(0, 1046)]), none],
  [none, some (0, 1, 0, 0, 0, .int 3, []), some (22, 1, 0, 0, 0, .null, []), some (35, 1, 0, 0, 0, .null, [])]]
/-- ColdShodModel.isBody(I)Z -/
def zi_217 : List (List (Option zI)) := [[some (1, 1, 1, 0, 0, .null, []), some (10, 1, 0, 0, 0, .null, []), some (0, 1, 0, 0, 0, .long 0, []), some (3, 1, 0, 0, 0, .null, []), some (20, 3, 12, 39, 0, .null, [(0, 1137)]), none, none, some (0, 1, 0, 0, 0, .int 1, []), some (7, 1, 0, 1, 0, .null, []), some (10, 1, 0, 0, 0, .null, []), some (32, 3, 143, 3, 49, .null, [(0, 1059)]), none, none, some (35, 1, 0, 0, 1, .null, [])]]
/-- ColdShodModel.kindOf(I)I -/
def zi_218 : List (List (Option zI)) := [[some (3, 1, 0, 0, 0, .null, []), some (20, 3, 12, 40, 1, .null, [(0, 1049)]), none, none, some (1, 1, 1, 0, 0, .null, []), some (22, 1, 0, 0, 0, .null, []), some (35, 1, 0, 0, 0, .null, [])]]
/-- ColdShodModel.body(I)I -/
def zi_219 : List (List (Option zI)) := [[some (1, 1, 1, 0, 0, .null, []), some (10, 1, 0, 0, 0, .null, []), some (0, 1, 0, 0, 0, .long 0, []), some (0, 3, 0, 0, 0, .long 7, [(0, 1062)]), none, none, some (32, 3, 143, 3, 49, .null, [(0, 1059)]), none, none, some (15, 3, 14, 1, 0, .null, []), none, none, some (0, 1, 0, 0, 0, .int (-1), []), some (35, 1, 0, 0, 0, .null, []), some (3, 1, 0, 0, 0, .null, []), some (20, 3, 12, 39, 0, .null, [(0, 1137)])],
  [none, none, some (0, 2, 0, 0, 0, .int 50, []), none, some (16, 3, 26, 1, 0, .null, []), none, none, some (0, 2, 0, 0, 0, .int (-3), []), none, some (35, 1, 0, 0, 0, .null, []), some (3, 1, 0, 0, 0, .null, []), some (20, 3, 12, 40, 1, .null, [(0, 1049)]), none, none, some (3, 1, 0, 0, 0, .null, []), some (20, 3, 12, 39, 0, .null, [(0, 1137)])],
  [none, none, some (1, 1, 1, 0, 0, .null, []), some (25, 1, 0, 0, 0, .null, []), some (3, 1, 0, 0, 0, .null, []), some (39, 1, 0, 0, 0, .null, []), some (20, 3, 12, 39, 0, .null, [(0, 1137)]), none, none, some (0, 1, 0, 0, 0, .int 1, []), some (7, 1, 0, 0, 0, .null, []), some (21, 3, 12, 39, 0, .null, [(0, 1137)]), none, none, some (3, 1, 0, 0, 0, .null, []), some (20, 3, 12, 39, 0, .null, [(0, 1137)])],
  [none, none, some (0, 1, 0, 0, 0, .int 1, []), some (7, 1, 0, 1, 0, .null, []), some (35, 1, 0, 0, 0, .null, [])]]
/-- ColdShodModel.above(I)I -/
def zi_220 : List (List (Option zI)) := [[some (1, 1, 0, 0, 0, .null, []), some (0, 1, 0, 0, 0, .int 3, []), some (16, 3, 9, 1, 0, .null, []), none, none, some (0, 1, 0, 0, 0, .int 2, []), some (17, 3, 38, 0, 0, .null, []), none, none, some (1, 1, 0, 0, 0, .null, []), some (0, 1, 0, 0, 0, .int 4, []), some (16, 3, 18, 1, 0, .null, []), none, none, some (0, 1, 0, 0, 0, .int 1, []), some (17, 3, 38, 0, 0, .null, [])],
  [none, none, some (1, 1, 0, 0, 0, .null, []), some (0, 1, 0, 0, 0, .int 5, []), some (16, 3, 27, 1, 0, .null, []), none, none, some (0, 1, 0, 0, 0, .int 3, []), some (17, 3, 38, 0, 0, .null, []), none, none, some (1, 1, 0, 0, 0, .null, []), some (0, 2, 0, 0, 0, .int 7, []), none, some (16, 3, 37, 1, 0, .null, []), none],
  [none, some (0, 1, 0, 0, 0, .int 4, []), some (17, 3, 38, 0, 0, .null, []), none, none, some (0, 1, 0, 0, 0, .int 0, []), some (35, 1, 0, 0, 0, .null, [])]]
/-- ColdShodModel.runs(I)V -/
def zi_221 : List (List (Option zI)) := [[some (3, 1, 0, 0, 0, .null, []), some (20, 3, 12, 42, 0, .null, [(0, 1138)]), none, none, some (0, 2, 0, 0, 0, .int 24, []), none, some (16, 3, 19, 3, 0, .null, []), none, none, some (3, 1, 0, 0, 0, .null, []), some (20, 3, 12, 41, 1, .null, [(0, 1050)]), none, none, some (3, 1, 0, 0, 0, .null, []), some (20, 3, 12, 42, 0, .null, [(0, 1138)]), none],
  [none, some (1, 1, 1, 0, 0, .null, []), some (25, 1, 0, 0, 0, .null, []), some (3, 1, 0, 0, 0, .null, []), some (39, 1, 0, 0, 0, .null, []), some (20, 3, 12, 42, 0, .null, [(0, 1138)]), none, none, some (0, 1, 0, 0, 0, .int 1, []), some (7, 1, 0, 0, 0, .null, []), some (21, 3, 12, 42, 0, .null, [(0, 1138)]), none, none, some (38, 1, 0, 0, 0, .null, [])]]
/-- ColdShodModel.heatsAs(II)I -/
def zi_222 : List (List (Option zI)) := [[some (1, 1, 1, 0, 0, .null, []), some (0, 1, 0, 0, 0, .int 1, []), some (16, 3, 16, 0, 0, .null, []), none, none, some (1, 1, 1, 0, 0, .null, []), some (0, 1, 0, 0, 0, .int 4, []), some (16, 3, 16, 0, 0, .null, []), none, none, some (1, 1, 1, 0, 0, .null, []), some (0, 2, 0, 0, 0, .int 7, []), none, some (16, 3, 31, 1, 0, .null, []), none, none],
  [some (3, 1, 0, 0, 0, .null, []), some (0, 2, 0, 0, 0, .int 20, []), none, some (32, 3, 221, 2, 48, .null, [(0, 1139)]), none, none, some (3, 1, 0, 0, 0, .null, []), some (0, 1, 0, 0, 0, .int 0, []), some (1, 1, 2, 0, 0, .null, []), some (32, 3, 222, 3, 48, .null, [(0, 1140)]), none, none, some (0, 1, 0, 0, 0, .int 3, []), some (7, 1, 0, 0, 0, .null, []), some (35, 1, 0, 0, 0, .null, []), some (1, 1, 1, 0, 0, .null, [])],
  [some (0, 2, 0, 0, 0, .int 6, []), none, some (16, 3, 52, 1, 0, .null, []), none, none, some (3, 1, 0, 0, 0, .null, []), some (0, 2, 0, 0, 0, .int 70, []), none, some (32, 3, 221, 2, 48, .null, [(0, 1139)]), none, none, some (3, 1, 0, 0, 0, .null, []), some (0, 1, 0, 0, 0, .int 0, []), some (1, 1, 2, 0, 0, .null, []), some (32, 3, 222, 3, 48, .null, [(0, 1140)]), none],
  [none, some (0, 1, 0, 0, 0, .int 2, []), some (7, 1, 0, 2, 0, .null, []), some (35, 1, 0, 0, 0, .null, []), some (3, 1, 0, 0, 0, .null, []), some (0, 1, 0, 0, 0, .int 1, []), some (32, 3, 221, 2, 48, .null, [(0, 1139)]), none, none, some (1, 1, 2, 0, 0, .null, []), some (3, 1, 0, 0, 0, .null, []), some (20, 3, 12, 44, 0, .null, [(0, 1141)]), none, none, some (7, 1, 0, 0, 0, .null, []), some (35, 1, 0, 0, 0, .null, [])]]
/-- ColdShodModel.drawsAs(II)I -/
def zi_223 : List (List (Option zI)) := [[some (1, 1, 1, 0, 0, .null, []), some (0, 1, 0, 0, 0, .int 3, []), some (16, 3, 10, 0, 0, .null, []), none, none, some (1, 1, 1, 0, 0, .null, []), some (0, 1, 0, 0, 0, .int 5, []), some (16, 3, 25, 1, 0, .null, []), none, none, some (3, 1, 0, 0, 0, .null, []), some (0, 2, 0, 0, 0, .int 41, []), none, some (32, 3, 221, 2, 48, .null, [(0, 1139)]), none, none],
  [some (3, 1, 0, 0, 0, .null, []), some (0, 1, 0, 0, 0, .int 2, []), some (1, 1, 2, 0, 0, .null, []), some (0, 1, 0, 0, 0, .int 1, []), some (7, 1, 0, 0, 0, .null, []), some (32, 3, 223, 3, 48, .null, [(0, 1142)]), none, none, some (35, 1, 0, 0, 0, .null, []), some (1, 1, 1, 0, 0, .null, []), some (0, 1, 0, 0, 0, .int 2, []), some (16, 3, 44, 1, 0, .null, []), none, none, some (3, 1, 0, 0, 0, .null, []), some (0, 2, 0, 0, 0, .int 30, [])],
  [none, some (32, 3, 221, 2, 48, .null, [(0, 1139)]), none, none, some (3, 1, 0, 0, 0, .null, []), some (0, 1, 0, 0, 0, .int 0, []), some (1, 1, 2, 0, 0, .null, []), some (32, 3, 223, 3, 48, .null, [(0, 1142)]), none, none, some (9, 1, 0, 0, 0, .null, []), some (35, 1, 0, 0, 0, .null, []), some (1, 1, 1, 0, 0, .null, []), some (0, 2, 0, 0, 0, .int 7, []), none, some (16, 3, 75, 1, 0, .null, [])],
  [none, none, some (3, 1, 0, 0, 0, .null, []), some (0, 2, 0, 0, 0, .int 80, []), none, some (32, 3, 221, 2, 48, .null, [(0, 1139)]), none, none, some (3, 1, 0, 0, 0, .null, []), some (0, 1, 0, 0, 0, .int 4, []), some (1, 1, 2, 0, 0, .null, []), some (32, 3, 223, 3, 48, .null, [(0, 1142)]), none, none, some (4, 1, 3, 0, 0, .null, []), some (1, 1, 3, 0, 0, .null, [])],
  [some (3, 1, 0, 0, 0, .null, []), some (3, 1, 0, 0, 0, .null, []), some (20, 3, 12, 43, 0, .null, [(0, 1143)]), none, none, some (0, 1, 0, 0, 0, .int 2, []), some (32, 3, 224, 3, 48, .null, [(0, 1144)]), none, none, some (7, 1, 0, 0, 0, .null, []), some (35, 1, 0, 0, 0, .null, []), some (3, 1, 0, 0, 0, .null, []), some (0, 2, 0, 0, 0, .int 10, []), none, some (32, 3, 221, 2, 48, .null, [(0, 1139)]), none],
  [none, some (3, 1, 0, 0, 0, .null, []), some (3, 1, 0, 0, 0, .null, []), some (20, 3, 12, 43, 0, .null, [(0, 1143)]), none, none, some (1, 1, 2, 0, 0, .null, []), some (32, 3, 222, 3, 48, .null, [(0, 1140)]), none, none, some (0, 1, 0, 0, 0, .int 2, []), some (7, 1, 0, 2, 0, .null, []), some (35, 1, 0, 0, 0, .null, [])]]
/-- ColdShodModel.nailsAs(II)I -/
def zi_224 : List (List (Option zI)) := [[some (1, 1, 1, 0, 0, .null, []), some (0, 1, 0, 0, 0, .int 3, []), some (16, 3, 10, 0, 0, .null, []), none, none, some (1, 1, 1, 0, 0, .null, []), some (0, 1, 0, 0, 0, .int 5, []), some (16, 3, 25, 1, 0, .null, []), none, none, some (3, 1, 0, 0, 0, .null, []), some (0, 2, 0, 0, 0, .int 40, []), none, some (32, 3, 221, 2, 48, .null, [(0, 1139)]), none, none],
  [some (3, 1, 0, 0, 0, .null, []), some (0, 1, 0, 0, 0, .int 2, []), some (1, 1, 2, 0, 0, .null, []), some (32, 3, 224, 3, 48, .null, [(0, 1144)]), none, none, some (0, 1, 0, 0, 0, .int 3, []), some (7, 1, 0, 2, 0, .null, []), some (35, 1, 0, 0, 0, .null, []), some (1, 1, 1, 0, 0, .null, []), some (0, 1, 0, 0, 0, .int 4, []), some (16, 3, 36, 0, 0, .null, []), none, none, some (1, 1, 1, 0, 0, .null, []), some (0, 2, 0, 0, 0, .int 7, [])],
  [none, some (16, 3, 61, 1, 0, .null, []), none, none, some (3, 1, 0, 0, 0, .null, []), some (0, 2, 0, 0, 0, .int 50, []), none, some (32, 3, 221, 2, 48, .null, [(0, 1139)]), none, none, some (3, 1, 0, 0, 0, .null, []), some (0, 1, 0, 0, 0, .int 1, []), some (1, 1, 2, 0, 0, .null, []), some (32, 3, 224, 3, 48, .null, [(0, 1144)]), none, none],
  [some (4, 1, 3, 0, 0, .null, []), some (1, 1, 3, 0, 0, .null, []), some (3, 1, 0, 0, 0, .null, []), some (3, 1, 0, 0, 0, .null, []), some (20, 3, 12, 43, 0, .null, [(0, 1143)]), none, none, some (0, 1, 0, 0, 0, .int 2, []), some (32, 3, 222, 3, 48, .null, [(0, 1140)]), none, none, some (7, 1, 0, 1, 0, .null, []), some (35, 1, 0, 0, 0, .null, []), some (3, 1, 0, 0, 0, .null, []), some (0, 2, 0, 0, 0, .int 11, []), none],
  [some (32, 3, 221, 2, 48, .null, [(0, 1139)]), none, none, some (1, 1, 2, 0, 0, .null, []), some (3, 1, 0, 0, 0, .null, []), some (20, 3, 12, 44, 0, .null, [(0, 1141)]), none, none, some (7, 1, 0, 5, 0, .null, []), some (35, 1, 0, 0, 0, .null, [])]]
/-- ColdShodModel.tellsAs(II)I -/
def zi_225 : List (List (Option zI)) := [[some (1, 1, 1, 0, 0, .null, []), some (0, 1, 0, 0, 0, .int 5, []), some (16, 3, 20, 1, 0, .null, []), none, none, some (3, 1, 0, 0, 0, .null, []), some (0, 2, 0, 0, 0, .int 60, []), none, some (32, 3, 221, 2, 48, .null, [(0, 1139)]), none, none, some (3, 1, 0, 0, 0, .null, []), some (0, 1, 0, 0, 0, .int 3, []), some (1, 1, 2, 0, 0, .null, []), some (32, 3, 225, 3, 48, .null, [(0, 1145)]), none],
  [none, some (0, 1, 0, 0, 0, .int 5, []), some (7, 1, 0, 5, 0, .null, []), some (35, 1, 0, 0, 0, .null, []), some (1, 1, 1, 0, 0, .null, []), some (0, 2, 0, 0, 0, .int 7, []), none, some (16, 3, 41, 1, 0, .null, []), none, none, some (3, 1, 0, 0, 0, .null, []), some (0, 2, 0, 0, 0, .int 81, []), none, some (32, 3, 221, 2, 48, .null, [(0, 1139)]), none, none],
  [some (3, 1, 0, 0, 0, .null, []), some (0, 1, 0, 0, 0, .int 4, []), some (1, 1, 2, 0, 0, .null, []), some (32, 3, 225, 3, 48, .null, [(0, 1145)]), none, none, some (0, 1, 0, 0, 0, .int 1, []), some (7, 1, 0, 1, 0, .null, []), some (35, 1, 0, 0, 0, .null, []), some (3, 1, 0, 0, 0, .null, []), some (0, 1, 0, 0, 0, .int 2, []), some (32, 3, 221, 2, 48, .null, [(0, 1139)]), none, none, some (3, 1, 0, 0, 0, .null, []), some (3, 1, 0, 0, 0, .null, [])],
  [some (20, 3, 12, 43, 0, .null, [(0, 1143)]), none, none, some (1, 1, 2, 0, 0, .null, []), some (32, 3, 223, 3, 48, .null, [(0, 1142)]), none, none, some (4, 1, 3, 0, 0, .null, []), some (1, 1, 3, 0, 0, .null, []), some (3, 1, 0, 0, 0, .null, []), some (3, 1, 0, 0, 0, .null, []), some (20, 3, 12, 43, 0, .null, [(0, 1143)]), none, none, some (0, 1, 0, 0, 0, .int 1, []), some (32, 3, 224, 3, 48, .null, [(0, 1144)])],
  [none, none, some (7, 1, 0, 1, 0, .null, []), some (35, 1, 0, 0, 0, .null, [])]]
/-- ColdShodModel.act(III)I -/
def zi_226 : List (List (Option zI)) := [[some (3, 1, 0, 0, 0, .null, []), some (0, 1, 0, 0, 0, .int 0, []), some (21, 3, 12, 42, 0, .null, [(0, 1138)]), none, none, some (3, 1, 0, 0, 0, .null, []), some (1, 1, 1, 0, 0, .null, []), some (32, 3, 217, 2, 48, .null, [(0, 1146)]), none, none, some (15, 3, 15, 1, 0, .null, []), none, none, some (0, 1, 0, 0, 0, .int 0, []), some (35, 1, 0, 0, 0, .null, []), some (3, 1, 0, 0, 0, .null, [])],
  [some (3, 1, 0, 0, 0, .null, []), some (20, 3, 12, 40, 1, .null, [(0, 1049)]), none, none, some (1, 1, 1, 0, 0, .null, []), some (22, 1, 0, 0, 0, .null, []), some (21, 3, 12, 43, 0, .null, [(0, 1143)]), none, none, some (3, 1, 0, 0, 0, .null, []), some (1, 1, 1, 0, 0, .null, []), some (21, 3, 12, 44, 0, .null, [(0, 1141)]), none, none, some (1, 1, 2, 0, 0, .null, []), some (18, 29, 100, 0, 0, .null, [(0, 60), (1, 70), (2, 80), (3, 90)])],
  [none, none, none, none, none, none, none, none, none, none, none, none, none, none, none, none],
  [none, none, none, none, none, none, none, none, none, none, none, none, some (3, 1, 0, 0, 0, .null, []), some (3, 1, 0, 0, 0, .null, []), some (20, 3, 12, 43, 0, .null, [(0, 1143)]), none],
  [none, some (1, 1, 3, 0, 0, .null, []), some (32, 3, 222, 3, 48, .null, [(0, 1140)]), none, none, some (35, 1, 0, 0, 0, .null, []), some (3, 1, 0, 0, 0, .null, []), some (3, 1, 0, 0, 0, .null, []), some (20, 3, 12, 43, 0, .null, [(0, 1143)]), none, none, some (1, 1, 3, 0, 0, .null, []), some (32, 3, 223, 3, 48, .null, [(0, 1142)]), none, none, some (35, 1, 0, 0, 0, .null, [])],
  [some (3, 1, 0, 0, 0, .null, []), some (3, 1, 0, 0, 0, .null, []), some (20, 3, 12, 43, 0, .null, [(0, 1143)]), none, none, some (1, 1, 3, 0, 0, .null, []), some (32, 3, 224, 3, 48, .null, [(0, 1144)]), none, none, some (35, 1, 0, 0, 0, .null, []), some (3, 1, 0, 0, 0, .null, []), some (3, 1, 0, 0, 0, .null, []), some (20, 3, 12, 43, 0, .null, [(0, 1143)]), none, none, some (1, 1, 3, 0, 0, .null, [])],
  [some (32, 3, 225, 3, 48, .null, [(0, 1145)]), none, none, some (35, 1, 0, 0, 0, .null, []), some (0, 1, 0, 0, 0, .int 0, []), some (35, 1, 0, 0, 0, .null, [])]]
/-- ColdShodModel.trace(I)I -/
def zi_227 : List (List (Option zI)) := [[some (1, 1, 1, 0, 0, .null, []), some (15, 3, 27, 2, 0, .null, []), none, none, some (1, 1, 1, 0, 0, .null, []), some (3, 1, 0, 0, 0, .null, []), some (20, 3, 12, 42, 0, .null, [(0, 1138)]), none, none, some (16, 3, 27, 3, 0, .null, []), none, none, some (1, 1, 1, 0, 0, .null, []), some (0, 2, 0, 0, 0, .int 24, []), none, some (16, 3, 27, 3, 0, .null, [])],
  [none, none, some (3, 1, 0, 0, 0, .null, []), some (20, 3, 12, 41, 1, .null, [(0, 1050)]), none, none, some (1, 1, 1, 0, 0, .null, []), some (22, 1, 0, 0, 0, .null, []), some (17, 3, 28, 0, 0, .null, []), none, none, some (0, 1, 0, 0, 0, .int (-1), []), some (35, 1, 0, 0, 0, .null, [])]]
/-- ColdShodModel.isShelf(I)Z -/
def zi_228 : List (List (Option zI)) := [[some (1, 1, 0, 0, 0, .null, []), some (10, 1, 0, 0, 0, .null, []), some (0, 1, 0, 0, 0, .long 0, []), some (0, 3, 0, 0, 0, .long 5, [(0, 1063)]), none, none, some (32, 3, 143, 3, 49, .null, [(0, 1059)]), none, none, some (35, 1, 0, 0, 1, .null, [])]]
/-- ColdShodModel.keep(II)I -/
def zi_229 : List (List (Option zI)) := [[some (1, 1, 1, 0, 0, .null, []), some (32, 3, 228, 1, 49, .null, [(0, 1069)]), none, none, some (15, 3, 20, 0, 0, .null, []), none, none, some (1, 1, 2, 0, 0, .null, []), some (0, 1, 0, 0, 0, .int (-1), []), some (16, 3, 22, 0, 0, .null, []), none, none, some (3, 1, 0, 0, 0, .null, []), some (1, 1, 2, 0, 0, .null, []), some (32, 3, 217, 2, 48, .null, [(0, 1146)]), none],
  [none, some (15, 3, 22, 1, 0, .null, []), none, none, some (0, 1, 0, 0, 0, .int (-1), []), some (35, 1, 0, 0, 0, .null, []), some (3, 1, 0, 0, 0, .null, []), some (20, 3, 12, 45, 1, .null, [(0, 1051)]), none, none, some (1, 1, 1, 0, 0, .null, []), some (1, 1, 2, 0, 0, .null, []), some (25, 1, 0, 0, 0, .null, []), some (3, 1, 0, 0, 0, .null, []), some (20, 3, 12, 46, 1, .null, [(0, 1052)]), none],
  [none, some (1, 1, 1, 0, 0, .null, []), some (0, 1, 0, 0, 0, .int 0, []), some (25, 1, 0, 0, 0, .null, []), some (0, 1, 0, 0, 0, .int 1, []), some (35, 1, 0, 0, 0, .null, [])]]
/-- ColdShodModel.row(III)I -/
def zi_230 : List (List (Option zI)) := [[some (1, 1, 1, 0, 0, .null, []), some (32, 3, 228, 1, 49, .null, [(0, 1069)]), none, none, some (15, 3, 25, 0, 0, .null, []), none, none, some (1, 1, 2, 0, 0, .null, []), some (10, 1, 0, 0, 0, .null, []), some (0, 1, 0, 0, 0, .long 0, []), some (0, 3, 0, 0, 0, .long 4, [(0, 1113)]), none, none, some (32, 3, 143, 3, 49, .null, [(0, 1059)]), none, none],
  [some (15, 3, 25, 0, 0, .null, []), none, none, some (1, 1, 3, 0, 0, .null, []), some (0, 2, 0, 0, 0, .int 60, []), none, some (16, 3, 27, 5, 0, .null, []), none, none, some (0, 1, 0, 0, 0, .int (-1), []), some (35, 1, 0, 0, 0, .null, []), some (1, 1, 3, 0, 0, .null, []), some (15, 3, 34, 3, 0, .null, []), none, none, some (0, 2, 0, 0, 0, .int (-14), [])],
  [none, some (35, 1, 0, 0, 0, .null, []), some (3, 1, 0, 0, 0, .null, []), some (20, 3, 12, 45, 1, .null, [(0, 1051)]), none, none, some (1, 1, 1, 0, 0, .null, []), some (0, 2, 0, 0, 0, .int 50, []), none, some (1, 1, 2, 0, 0, .null, []), some (7, 1, 0, 0, 0, .null, []), some (25, 1, 0, 0, 0, .null, []), some (3, 1, 0, 0, 0, .null, []), some (20, 3, 12, 46, 1, .null, [(0, 1052)]), none, none],
  [some (1, 1, 1, 0, 0, .null, []), some (1, 1, 3, 0, 0, .null, []), some (25, 1, 0, 0, 0, .null, []), some (0, 2, 0, 0, 0, .int 60, []), none, some (1, 1, 1, 0, 0, .null, []), some (7, 1, 0, 2, 0, .null, []), some (4, 2, 4, 0, 0, .null, []), none, some (1, 2, 4, 0, 0, .null, []), none, some (0, 2, 0, 0, 0, .int 60, []), none, some (1, 1, 1, 0, 0, .null, []), some (7, 1, 0, 2, 0, .null, []), some (0, 2, 0, 0, 0, .int 60, [])],
  [none, some (7, 1, 0, 0, 0, .null, []), some (16, 3, 83, 3, 0, .null, []), none, none, some (3, 1, 0, 0, 0, .null, []), some (20, 3, 12, 47, 1, .null, [(0, 1053)]), none, none, some (1, 2, 4, 0, 0, .null, []), none, some (0, 1, 0, 0, 0, .long 0, []), some (26, 1, 0, 0, 0, .null, []), some (19, 3, 4, 0, 0, .int 1, []), none, none],
  [some (17, 3, 57, 0, 0, .null, []), none, none, some (0, 1, 0, 0, 0, .int 1, []), some (35, 1, 0, 0, 0, .null, [])]]
/-- ColdShodModel.refusal(II)I -/
def zi_231 : List (List (Option zI)) := [[some (1, 1, 1, 0, 0, .null, []), some (32, 3, 228, 1, 49, .null, [(0, 1069)]), none, none, some (15, 3, 9, 1, 0, .null, []), none, none, some (0, 1, 0, 0, 0, .int (-1), []), some (35, 1, 0, 0, 0, .null, []), some (3, 1, 0, 0, 0, .null, []), some (20, 3, 12, 45, 1, .null, [(0, 1051)]), none, none, some (1, 1, 1, 0, 0, .null, []), some (22, 1, 0, 0, 0, .null, []), some (15, 3, 21, 3, 0, .null, [])],
  [none, none, some (0, 2, 0, 0, 0, .int (-11), []), none, some (35, 1, 0, 0, 0, .null, []), some (3, 1, 0, 0, 0, .null, []), some (20, 3, 12, 45, 1, .null, [(0, 1051)]), none, none, some (1, 1, 1, 0, 0, .null, []), some (22, 1, 0, 0, 0, .null, []), some (0, 2, 0, 0, 0, .int 50, []), none, some (16, 3, 35, 3, 0, .null, []), none, none],
  [some (0, 2, 0, 0, 0, .int (-12), []), none, some (35, 1, 0, 0, 0, .null, []), some (1, 1, 2, 0, 0, .null, []), some (15, 3, 53, 2, 0, .null, []), none, none, some (1, 1, 2, 0, 0, .null, []), some (3, 1, 0, 0, 0, .null, []), some (20, 3, 12, 46, 1, .null, [(0, 1052)]), none, none, some (1, 1, 1, 0, 0, .null, []), some (22, 1, 0, 0, 0, .null, []), some (16, 3, 53, 3, 0, .null, []), none],
  [none, some (0, 1, 0, 0, 0, .int 0, []), some (17, 3, 55, 0, 0, .null, []), none, none, some (0, 2, 0, 0, 0, .int (-13), []), none, some (35, 1, 0, 0, 0, .null, [])]]
/-- ColdShodModel.asSort(IJ)J -/
def zi_232 : List (List (Option zI)) := [[some (1, 1, 0, 0, 0, .null, []), some (15, 3, 11, 1, 0, .null, []), none, none, some (2, 1, 1, 0, 0, .null, []), some (11, 1, 0, 0, 0, .null, []), some (9, 1, 0, 1, 0, .null, []), some (10, 1, 0, 0, 0, .null, []), some (17, 3, 54, 0, 0, .null, []), none, none, some (1, 1, 0, 0, 0, .null, []), some (0, 1, 0, 0, 0, .int 1, []), some (16, 3, 23, 1, 0, .null, []), none, none],
  [some (2, 1, 1, 0, 0, .null, []), some (11, 1, 0, 0, 0, .null, []), some (9, 1, 0, 2, 0, .null, []), some (10, 1, 0, 0, 0, .null, []), some (17, 3, 54, 0, 0, .null, []), none, none, some (1, 1, 0, 0, 0, .null, []), some (0, 1, 0, 0, 0, .int 2, []), some (16, 3, 34, 1, 0, .null, []), none, none, some (2, 1, 1, 0, 0, .null, []), some (11, 1, 0, 0, 0, .null, []), some (10, 1, 0, 0, 0, .null, []), some (17, 3, 54, 0, 0, .null, [])],
  [none, none, some (1, 1, 0, 0, 0, .null, []), some (0, 1, 0, 0, 0, .int 4, []), some (16, 3, 53, 1, 0, .null, []), none, none, some (2, 1, 1, 0, 0, .null, []), some (0, 1, 0, 0, 0, .long 0, []), some (14, 1, 0, 0, 0, .null, []), some (15, 3, 49, 0, 0, .null, []), none, none, some (0, 1, 0, 0, 0, .long 1, []), some (17, 3, 54, 0, 0, .null, []), none],
  [none, some (0, 1, 0, 0, 0, .long 0, []), some (17, 3, 54, 0, 0, .null, []), none, none, some (2, 1, 1, 0, 0, .null, []), some (36, 1, 0, 0, 0, .null, [])]]
/-- ColdShodModel.put(IIJ)I -/
def zi_233 : List (List (Option zI)) := [[some (3, 1, 0, 0, 0, .null, []), some (1, 1, 1, 0, 0, .null, []), some (1, 1, 2, 0, 0, .null, []), some (32, 3, 231, 3, 48, .null, [(0, 1147)]), none, none, some (4, 2, 5, 0, 0, .null, []), none, some (1, 2, 5, 0, 0, .null, []), none, some (15, 3, 37, 1, 0, .null, []), none, none, some (3, 1, 0, 0, 0, .null, []), some (20, 3, 12, 47, 1, .null, [(0, 1053)]), none],
  [none, some (0, 2, 0, 0, 0, .int 60, []), none, some (1, 1, 1, 0, 0, .null, []), some (7, 1, 0, 2, 0, .null, []), some (1, 1, 2, 0, 0, .null, []), some (7, 1, 0, 0, 0, .null, []), some (3, 1, 0, 0, 0, .null, []), some (20, 3, 12, 45, 1, .null, [(0, 1051)]), none, none, some (1, 1, 1, 0, 0, .null, []), some (22, 1, 0, 0, 0, .null, []), some (0, 2, 0, 0, 0, .int 50, []), none, some (7, 1, 0, 1, 0, .null, [])],
  [some (2, 1, 3, 0, 0, .null, []), some (32, 3, 232, 2, 49, .null, [(0, 1148)]), none, none, some (26, 1, 0, 0, 0, .null, []), some (1, 2, 5, 0, 0, .null, []), none, some (15, 3, 46, 1, 0, .null, []), none, none, some (0, 1, 0, 0, 0, .int 1, []), some (17, 3, 48, 0, 0, .null, []), none, none, some (1, 2, 5, 0, 0, .null, []), none],
  [some (35, 1, 0, 0, 0, .null, [])]]
/-- ColdShodModel.element(II)J -/
def zi_234 : List (List (Option zI)) := [[some (3, 1, 0, 0, 0, .null, []), some (1, 1, 1, 0, 0, .null, []), some (1, 1, 2, 0, 0, .null, []), some (32, 3, 231, 3, 48, .null, [(0, 1147)]), none, none, some (15, 3, 15, 0, 0, .null, []), none, none, some (0, 3, 0, 0, 0, .long (-9223372036854775808), [(0, 1149)]), none, none, some (17, 3, 26, 0, 0, .null, []), none, none, some (3, 1, 0, 0, 0, .null, [])],
  [some (20, 3, 12, 47, 1, .null, [(0, 1053)]), none, none, some (0, 2, 0, 0, 0, .int 60, []), none, some (1, 1, 1, 0, 0, .null, []), some (7, 1, 0, 2, 0, .null, []), some (1, 1, 2, 0, 0, .null, []), some (7, 1, 0, 0, 0, .null, []), some (23, 1, 0, 0, 0, .null, []), some (36, 1, 0, 0, 0, .null, [])]]
/-- ColdShodModel.shift(IIIII)I -/
def zi_235 : List (List (Option zI)) := [[some (1, 1, 1, 0, 0, .null, []), some (32, 3, 228, 1, 49, .null, [(0, 1069)]), none, none, some (15, 3, 14, 0, 0, .null, []), none, none, some (1, 1, 3, 0, 0, .null, []), some (32, 3, 228, 1, 49, .null, [(0, 1069)]), none, none, some (15, 3, 16, 1, 0, .null, []), none, none, some (0, 1, 0, 0, 0, .int (-1), []), some (35, 1, 0, 0, 0, .null, [])],
  [some (3, 1, 0, 0, 0, .null, []), some (20, 3, 12, 45, 1, .null, [(0, 1051)]), none, none, some (1, 1, 1, 0, 0, .null, []), some (22, 1, 0, 0, 0, .null, []), some (15, 3, 34, 2, 0, .null, []), none, none, some (3, 1, 0, 0, 0, .null, []), some (20, 3, 12, 45, 1, .null, [(0, 1051)]), none, none, some (1, 1, 3, 0, 0, .null, []), some (22, 1, 0, 0, 0, .null, []), some (15, 3, 37, 3, 0, .null, [])],
  [none, none, some (0, 2, 0, 0, 0, .int (-11), []), none, some (35, 1, 0, 0, 0, .null, []), some (3, 1, 0, 0, 0, .null, []), some (20, 3, 12, 45, 1, .null, [(0, 1051)]), none, none, some (1, 1, 1, 0, 0, .null, []), some (22, 1, 0, 0, 0, .null, []), some (0, 2, 0, 0, 0, .int 50, []), none, some (16, 3, 63, 2, 0, .null, []), none, none],
  [some (3, 1, 0, 0, 0, .null, []), some (20, 3, 12, 45, 1, .null, [(0, 1051)]), none, none, some (1, 1, 1, 0, 0, .null, []), some (22, 1, 0, 0, 0, .null, []), some (3, 1, 0, 0, 0, .null, []), some (20, 3, 12, 45, 1, .null, [(0, 1051)]), none, none, some (1, 1, 3, 0, 0, .null, []), some (22, 1, 0, 0, 0, .null, []), some (16, 3, 66, 0, 0, .null, []), none, none, some (0, 2, 0, 0, 0, .int (-12), [])],
  [none, some (35, 1, 0, 0, 0, .null, []), some (1, 2, 5, 0, 0, .null, []), none, some (15, 3, 107, 2, 0, .null, []), none, none, some (1, 1, 2, 0, 0, .null, []), some (15, 3, 107, 2, 0, .null, []), none, none, some (1, 2, 4, 0, 0, .null, []), none, some (15, 3, 107, 2, 0, .null, []), none, none],
  [some (1, 1, 2, 0, 0, .null, []), some (3, 1, 0, 0, 0, .null, []), some (20, 3, 12, 46, 1, .null, [(0, 1052)]), none, none, some (1, 1, 1, 0, 0, .null, []), some (22, 1, 0, 0, 0, .null, []), some (1, 2, 5, 0, 0, .null, []), none, some (7, 1, 0, 1, 0, .null, []), some (16, 3, 107, 4, 0, .null, []), none, none, some (1, 2, 4, 0, 0, .null, []), none, some (3, 1, 0, 0, 0, .null, [])],
  [some (20, 3, 12, 46, 1, .null, [(0, 1052)]), none, none, some (1, 1, 3, 0, 0, .null, []), some (22, 1, 0, 0, 0, .null, []), some (1, 2, 5, 0, 0, .null, []), none, some (7, 1, 0, 1, 0, .null, []), some (16, 3, 110, 5, 0, .null, []), none, none, some (0, 2, 0, 0, 0, .int (-13), []), none, some (35, 1, 0, 0, 0, .null, []), some (0, 1, 0, 0, 0, .int 0, []), some (4, 2, 6, 0, 0, .null, [])],
  [none, some (1, 2, 6, 0, 0, .null, []), none, some (1, 2, 5, 0, 0, .null, []), none, some (16, 3, 147, 3, 0, .null, []), none, none, some (3, 1, 0, 0, 0, .null, []), some (20, 3, 12, 48, 1, .null, [(0, 1054)]), none, none, some (1, 2, 6, 0, 0, .null, []), none, some (3, 1, 0, 0, 0, .null, []), some (20, 3, 12, 47, 1, .null, [(0, 1053)])],
  [none, none, some (0, 2, 0, 0, 0, .int 60, []), none, some (1, 1, 1, 0, 0, .null, []), some (7, 1, 0, 2, 0, .null, []), some (1, 1, 2, 0, 0, .null, []), some (7, 1, 0, 0, 0, .null, []), some (1, 2, 6, 0, 0, .null, []), none, some (7, 1, 0, 0, 0, .null, []), some (23, 1, 0, 0, 0, .null, []), some (26, 1, 0, 0, 0, .null, []), some (19, 3, 6, 0, 0, .int 1, []), none, none],
  [some (17, 3, 113, 0, 0, .null, []), none, none, some (0, 1, 0, 0, 0, .int 0, []), some (4, 2, 6, 0, 0, .null, []), none, some (1, 2, 6, 0, 0, .null, []), none, some (1, 2, 5, 0, 0, .null, []), none, some (16, 3, 185, 3, 0, .null, []), none, none, some (3, 1, 0, 0, 0, .null, []), some (20, 3, 12, 47, 1, .null, [(0, 1053)]), none],
  [none, some (0, 2, 0, 0, 0, .int 60, []), none, some (1, 1, 3, 0, 0, .null, []), some (7, 1, 0, 2, 0, .null, []), some (1, 2, 4, 0, 0, .null, []), none, some (7, 1, 0, 0, 0, .null, []), some (1, 2, 6, 0, 0, .null, []), none, some (7, 1, 0, 0, 0, .null, []), some (3, 1, 0, 0, 0, .null, []), some (20, 3, 12, 48, 1, .null, [(0, 1054)]), none, none, some (1, 2, 6, 0, 0, .null, [])],
  [none, some (23, 1, 0, 0, 0, .null, []), some (26, 1, 0, 0, 0, .null, []), some (19, 3, 6, 0, 0, .int 1, []), none, none, some (17, 3, 150, 0, 0, .null, []), none, none, some (1, 2, 5, 0, 0, .null, []), none, some (35, 1, 0, 0, 0, .null, [])]]
/-- ColdShodModel.taken(II)I -/
def zi_236 : List (List (Option zI)) := [[some (1, 1, 1, 0, 0, .null, []), some (32, 3, 228, 1, 49, .null, [(0, 1069)]), none, none, some (15, 3, 19, 0, 0, .null, []), none, none, some (1, 1, 2, 0, 0, .null, []), some (10, 1, 0, 0, 0, .null, []), some (0, 1, 0, 0, 0, .long 0, []), some (0, 3, 0, 0, 0, .long 7, [(0, 1062)]), none, none, some (32, 3, 143, 3, 49, .null, [(0, 1059)]), none, none],
  [some (15, 3, 21, 1, 0, .null, []), none, none, some (0, 1, 0, 0, 0, .int (-1), []), some (35, 1, 0, 0, 0, .null, []), some (3, 1, 0, 0, 0, .null, []), some (20, 3, 12, 45, 1, .null, [(0, 1051)]), none, none, some (1, 1, 1, 0, 0, .null, []), some (22, 1, 0, 0, 0, .null, []), some (15, 3, 33, 3, 0, .null, []), none, none, some (0, 2, 0, 0, 0, .int (-11), []), none],
  [some (35, 1, 0, 0, 0, .null, []), some (3, 1, 0, 0, 0, .null, []), some (20, 3, 12, 45, 1, .null, [(0, 1051)]), none, none, some (1, 1, 1, 0, 0, .null, []), some (22, 1, 0, 0, 0, .null, []), some (0, 2, 0, 0, 0, .int 50, []), none, some (16, 3, 47, 2, 0, .null, []), none, none, some (0, 2, 0, 0, 0, .int (-12), []), none, some (35, 1, 0, 0, 0, .null, []), some (3, 1, 0, 0, 0, .null, [])],
  [some (3, 1, 0, 0, 0, .null, []), some (20, 3, 12, 45, 1, .null, [(0, 1051)]), none, none, some (1, 1, 1, 0, 0, .null, []), some (22, 1, 0, 0, 0, .null, []), some (32, 3, 218, 2, 48, .null, [(0, 1150)]), none, none, some (4, 1, 3, 0, 0, .null, []), some (1, 1, 3, 0, 0, .null, []), some (1, 1, 2, 0, 0, .null, []), some (16, 3, 75, 0, 0, .null, []), none, none, some (1, 1, 3, 0, 0, .null, [])],
  [some (15, 3, 75, 5, 0, .null, []), none, none, some (1, 1, 3, 0, 0, .null, []), some (32, 3, 220, 1, 49, .null, [(0, 1151)]), none, none, some (4, 1, 3, 0, 0, .null, []), some (17, 3, 58, 0, 0, .null, []), none, none, some (1, 1, 3, 0, 0, .null, []), some (1, 1, 2, 0, 0, .null, []), some (16, 3, 93, 1, 0, .null, []), none, none],
  [some (3, 1, 0, 0, 0, .null, []), some (3, 1, 0, 0, 0, .null, []), some (20, 3, 12, 45, 1, .null, [(0, 1051)]), none, none, some (1, 1, 1, 0, 0, .null, []), some (22, 1, 0, 0, 0, .null, []), some (32, 3, 218, 2, 48, .null, [(0, 1150)]), none, none, some (17, 3, 95, 0, 0, .null, []), none, none, some (0, 2, 0, 0, 0, .int (-12), []), none, some (35, 1, 0, 0, 0, .null, [])]]
/-- ColdShodModel.count(I)I -/
def zi_237 : List (List (Option zI)) := [[some (1, 1, 1, 0, 0, .null, []), some (18, 43, 79, 0, 0, .null, [(0, 44), (1, 49), (2, 54), (3, 59), (4, 64), (5, 69), (6, 74)]), none, none, none, none, none, none, none, none, none, none, none, none, none, none],
  [none, none, none, none, none, none, none, none, none, none, none, none, none, none, none, none],
  [none, none, none, none, none, none, none, none, none, none, none, none, some (3, 1, 0, 0, 0, .null, []), some (20, 3, 12, 6, 0, .null, [(0, 1058)]), none, none],
  [some (35, 1, 0, 0, 0, .null, []), some (3, 1, 0, 0, 0, .null, []), some (20, 3, 12, 7, 0, .null, [(0, 1060)]), none, none, some (35, 1, 0, 0, 0, .null, []), some (3, 1, 0, 0, 0, .null, []), some (20, 3, 12, 8, 0, .null, [(0, 1061)]), none, none, some (35, 1, 0, 0, 0, .null, []), some (3, 1, 0, 0, 0, .null, []), some (20, 3, 12, 12, 0, .null, [(0, 1084)]), none, none, some (35, 1, 0, 0, 0, .null, [])],
  [some (3, 1, 0, 0, 0, .null, []), some (20, 3, 12, 5, 0, .null, [(0, 1056)]), none, none, some (35, 1, 0, 0, 0, .null, []), some (3, 1, 0, 0, 0, .null, []), some (20, 3, 12, 39, 0, .null, [(0, 1137)]), none, none, some (35, 1, 0, 0, 0, .null, []), some (3, 1, 0, 0, 0, .null, []), some (20, 3, 12, 42, 0, .null, [(0, 1138)]), none, none, some (35, 1, 0, 0, 0, .null, []), some (0, 1, 0, 0, 0, .int (-1), [])],
  [some (35, 1, 0, 0, 0, .null, [])]]
/-- java/lang/Integer.bitCount(I)I -/
def zi_238 : List (List (Option zI)) := [[some (1, 1, 0, 0, 0, .null, []), some (1, 1, 0, 0, 0, .null, []), some (0, 1, 0, 0, 0, .int 1, []), some (7, 1, 0, 8, 0, .null, []), some (0, 3, 0, 0, 0, .int 1431655765, [(0, 1152)]), none, none, some (7, 1, 0, 3, 0, .null, []), some (7, 1, 0, 1, 0, .null, []), some (4, 1, 0, 0, 0, .null, []), some (1, 1, 0, 0, 0, .null, []), some (0, 3, 0, 0, 0, .int 858993459, [(0, 1153)]), none, none, some (7, 1, 0, 3, 0, .null, []), some (1, 1, 0, 0, 0, .null, [])],
  [some (0, 1, 0, 0, 0, .int 2, []), some (7, 1, 0, 8, 0, .null, []), some (0, 3, 0, 0, 0, .int 858993459, [(0, 1153)]), none, none, some (7, 1, 0, 3, 0, .null, []), some (7, 1, 0, 0, 0, .null, []), some (4, 1, 0, 0, 0, .null, []), some (1, 1, 0, 0, 0, .null, []), some (1, 1, 0, 0, 0, .null, []), some (0, 1, 0, 0, 0, .int 4, []), some (7, 1, 0, 8, 0, .null, []), some (7, 1, 0, 0, 0, .null, []), some (0, 3, 0, 0, 0, .int 252645135, [(0, 1154)]), none, none],
  [some (7, 1, 0, 3, 0, .null, []), some (4, 1, 0, 0, 0, .null, []), some (1, 1, 0, 0, 0, .null, []), some (1, 1, 0, 0, 0, .null, []), some (0, 2, 0, 0, 0, .int 8, []), none, some (7, 1, 0, 8, 0, .null, []), some (7, 1, 0, 0, 0, .null, []), some (4, 1, 0, 0, 0, .null, []), some (1, 1, 0, 0, 0, .null, []), some (1, 1, 0, 0, 0, .null, []), some (0, 2, 0, 0, 0, .int 16, []), none, some (7, 1, 0, 8, 0, .null, []), some (7, 1, 0, 0, 0, .null, []), some (4, 1, 0, 0, 0, .null, [])],
  [some (1, 1, 0, 0, 0, .null, []), some (0, 2, 0, 0, 0, .int 63, []), none, some (7, 1, 0, 3, 0, .null, []), some (35, 1, 0, 0, 0, .null, [])]]
/-- java/util/Arrays.fill([JJ)V -/
def zi_239 : List (List (Option zI)) := [[some (0, 1, 0, 0, 0, .int 0, []), some (4, 1, 3, 0, 0, .null, []), some (3, 1, 0, 0, 0, .null, []), some (28, 1, 0, 0, 0, .null, []), some (4, 2, 4, 0, 0, .null, []), none, some (1, 1, 3, 0, 0, .null, []), some (1, 2, 4, 0, 0, .null, []), none, some (16, 3, 22, 3, 0, .null, []), none, none, some (3, 1, 0, 0, 0, .null, []), some (1, 1, 3, 0, 0, .null, []), some (2, 1, 1, 0, 0, .null, []), some (26, 1, 0, 0, 0, .null, [])],
  [some (19, 3, 3, 0, 0, .int 1, []), none, none, some (17, 3, 6, 0, 0, .null, []), none, none, some (38, 1, 0, 0, 0, .null, [])]]
/-- java/util/Arrays.fill([II)V -/
def zi_240 : List (List (Option zI)) := [[some (0, 1, 0, 0, 0, .int 0, []), some (4, 1, 2, 0, 0, .null, []), some (3, 1, 0, 0, 0, .null, []), some (28, 1, 0, 0, 0, .null, []), some (4, 1, 3, 0, 0, .null, []), some (1, 1, 2, 0, 0, .null, []), some (1, 1, 3, 0, 0, .null, []), some (16, 3, 20, 3, 0, .null, []), none, none, some (3, 1, 0, 0, 0, .null, []), some (1, 1, 2, 0, 0, .null, []), some (1, 1, 1, 0, 0, .null, []), some (25, 1, 0, 0, 0, .null, []), some (19, 3, 2, 0, 0, .int 1, []), none],
  [none, some (17, 3, 5, 0, 0, .null, []), none, none, some (38, 1, 0, 0, 0, .null, [])]]
/-- ColdShodLaw.law([I)Z -/
def zi_241_0 : List (Option zI) := [some (29, 3, 11, 14, 0, .null, [(0, 1155), (0, 717), (0, 270)]), none, none, some (39, 1, 0, 0, 0, .null, []), some (32, 3, 92, 1, 46, .null, [(0, 1156)]), none, none, some (6, 1, 1, 0, 0, .null, []), some (29, 3, 12, 49, 0, .null, [(0, 1157), (0, 718), (0, 418)]), none, none, some (39, 1, 0, 0, 0, .null, []), some (32, 3, 147, 1, 50, .null, [(0, 1158)]), none, none, some (6, 1, 2, 0, 0, .null, [])]
def zi_241_1 : List (Option zI) := [some (0, 1, 0, 0, 0, .int 0, []), some (4, 1, 3, 0, 0, .null, []), some (1, 1, 3, 0, 0, .null, []), some (3, 1, 0, 0, 0, .null, []), some (28, 1, 0, 0, 0, .null, []), some (0, 2, 0, 0, 0, .int 6, []), none, some (7, 1, 0, 1, 0, .null, []), some (16, 3, 1420, 4, 0, .null, []), none, none, some (3, 1, 0, 0, 0, .null, []), some (1, 1, 3, 0, 0, .null, []), some (22, 1, 0, 0, 0, .null, []), some (0, 2, 0, 0, 0, .int 63, []), none]
def zi_241_2 : List (Option zI) := [some (7, 1, 0, 3, 0, .null, []), some (18, 167, 1414, 0, 0, .null, [(0, 200), (1, 223), (2, 256), (3, 289), (4, 332), (5, 375), (6, 408), (7, 431), (8, 444), (9, 477), (10, 520), (11, 563), (12, 606), (13, 639), (14, 662), (15, 675), (16, 698), (17, 731), (18, 774), (19, 817), (20, 870), (21, 903), (22, 936), (23, 949), (24, 972), (25, 985), (26, 998), (27, 1011), (28, 1024), (29, 1047), (30, 1090), (31, 1113), (32, 1146), (33, 1189), (34, 1262), (35, 1295), (36, 1358), (37, 1391)]), none, none, none, none, none, none, none, none, none, none, none, none, none, none]
def zi_241_3 : List (Option zI) := [none, none, none, none, none, none, none, none, none, none, none, none, none, none, none, none]
def zi_241_4 : List (Option zI) := [none, none, none, none, none, none, none, none, none, none, none, none, none, none, none, none]
def zi_241_5 : List (Option zI) := [none, none, none, none, none, none, none, none, none, none, none, none, none, none, none, none]
def zi_241_6 : List (Option zI) := [none, none, none, none, none, none, none, none, none, none, none, none, none, none, none, none]
def zi_241_7 : List (Option zI) := [none, none, none, none, none, none, none, none, none, none, none, none, none, none, none, none]
def zi_241_8 : List (Option zI) := [none, none, none, none, none, none, none, none, none, none, none, none, none, none, none, none]
def zi_241_9 : List (Option zI) := [none, none, none, none, none, none, none, none, none, none, none, none, none, none, none, none]
def zi_241_10 : List (Option zI) := [none, none, none, none, none, none, none, none, none, none, none, none, none, none, none, none]
def zi_241_11 : List (Option zI) := [none, none, none, none, none, none, none, none, none, none, none, none, none, none, none, none]
def zi_241_12 : List (Option zI) := [none, none, none, none, none, none, none, none, some (3, 1, 1, 0, 0, .null, []), some (3, 1, 0, 0, 0, .null, []), some (1, 1, 3, 0, 0, .null, []), some (0, 1, 0, 0, 0, .int 1, []), some (7, 1, 0, 0, 0, .null, []), some (22, 1, 0, 0, 0, .null, []), some (32, 3, 93, 2, 44, .null, [(0, 1159)]), none]
def zi_241_13 : List (Option zI) := [none, some (42, 1, 0, 0, 0, .null, []), some (3, 1, 2, 0, 0, .null, []), some (3, 1, 0, 0, 0, .null, []), some (1, 1, 3, 0, 0, .null, []), some (0, 1, 0, 0, 0, .int 1, []), some (7, 1, 0, 0, 0, .null, []), some (22, 1, 0, 0, 0, .null, []), some (32, 3, 155, 2, 48, .null, [(0, 1160)]), none, none, some (42, 1, 0, 0, 0, .null, []), some (17, 3, 1414, 0, 0, .null, []), none, none, some (3, 1, 1, 0, 0, .null, [])]
def zi_241_14 : List (Option zI) := [some (3, 1, 0, 0, 0, .null, []), some (1, 1, 3, 0, 0, .null, []), some (0, 1, 0, 0, 0, .int 1, []), some (7, 1, 0, 0, 0, .null, []), some (22, 1, 0, 0, 0, .null, []), some (3, 1, 0, 0, 0, .null, []), some (1, 1, 3, 0, 0, .null, []), some (0, 1, 0, 0, 0, .int 2, []), some (7, 1, 0, 0, 0, .null, []), some (22, 1, 0, 0, 0, .null, []), some (32, 3, 94, 3, 44, .null, [(0, 1161)]), none, none, some (42, 1, 0, 0, 0, .null, []), some (3, 1, 2, 0, 0, .null, []), some (3, 1, 0, 0, 0, .null, [])]
def zi_241_15 : List (Option zI) := [some (1, 1, 3, 0, 0, .null, []), some (0, 1, 0, 0, 0, .int 1, []), some (7, 1, 0, 0, 0, .null, []), some (22, 1, 0, 0, 0, .null, []), some (3, 1, 0, 0, 0, .null, []), some (1, 1, 3, 0, 0, .null, []), some (0, 1, 0, 0, 0, .int 2, []), some (7, 1, 0, 0, 0, .null, []), some (22, 1, 0, 0, 0, .null, []), some (32, 3, 156, 3, 48, .null, [(0, 1162)]), none, none, some (42, 1, 0, 0, 0, .null, []), some (17, 3, 1414, 0, 0, .null, []), none, none]
def zi_241_16 : List (Option zI) := [some (3, 1, 1, 0, 0, .null, []), some (3, 1, 0, 0, 0, .null, []), some (1, 1, 3, 0, 0, .null, []), some (0, 1, 0, 0, 0, .int 1, []), some (7, 1, 0, 0, 0, .null, []), some (22, 1, 0, 0, 0, .null, []), some (3, 1, 0, 0, 0, .null, []), some (1, 1, 3, 0, 0, .null, []), some (0, 1, 0, 0, 0, .int 2, []), some (7, 1, 0, 0, 0, .null, []), some (22, 1, 0, 0, 0, .null, []), some (32, 3, 95, 3, 44, .null, [(0, 1163)]), none, none, some (42, 1, 0, 0, 0, .null, []), some (3, 1, 2, 0, 0, .null, [])]
def zi_241_17 : List (Option zI) := [some (3, 1, 0, 0, 0, .null, []), some (1, 1, 3, 0, 0, .null, []), some (0, 1, 0, 0, 0, .int 1, []), some (7, 1, 0, 0, 0, .null, []), some (22, 1, 0, 0, 0, .null, []), some (3, 1, 0, 0, 0, .null, []), some (1, 1, 3, 0, 0, .null, []), some (0, 1, 0, 0, 0, .int 2, []), some (7, 1, 0, 0, 0, .null, []), some (22, 1, 0, 0, 0, .null, []), some (32, 3, 159, 3, 48, .null, [(0, 1164)]), none, none, some (42, 1, 0, 0, 0, .null, []), some (17, 3, 1414, 0, 0, .null, []), none]
def zi_241_18 : List (Option zI) := [none, some (3, 1, 1, 0, 0, .null, []), some (3, 1, 0, 0, 0, .null, []), some (1, 1, 3, 0, 0, .null, []), some (0, 1, 0, 0, 0, .int 1, []), some (7, 1, 0, 0, 0, .null, []), some (22, 1, 0, 0, 0, .null, []), some (3, 1, 0, 0, 0, .null, []), some (1, 1, 3, 0, 0, .null, []), some (0, 1, 0, 0, 0, .int 2, []), some (7, 1, 0, 0, 0, .null, []), some (22, 1, 0, 0, 0, .null, []), some (3, 1, 0, 0, 0, .null, []), some (1, 1, 3, 0, 0, .null, []), some (0, 1, 0, 0, 0, .int 3, []), some (7, 1, 0, 0, 0, .null, [])]
def zi_241_19 : List (Option zI) := [some (22, 1, 0, 0, 0, .null, []), some (32, 3, 96, 4, 44, .null, [(0, 1165)]), none, none, some (42, 1, 0, 0, 0, .null, []), some (3, 1, 2, 0, 0, .null, []), some (3, 1, 0, 0, 0, .null, []), some (1, 1, 3, 0, 0, .null, []), some (0, 1, 0, 0, 0, .int 1, []), some (7, 1, 0, 0, 0, .null, []), some (22, 1, 0, 0, 0, .null, []), some (3, 1, 0, 0, 0, .null, []), some (1, 1, 3, 0, 0, .null, []), some (0, 1, 0, 0, 0, .int 2, []), some (7, 1, 0, 0, 0, .null, []), some (22, 1, 0, 0, 0, .null, [])]
def zi_241_20 : List (Option zI) := [some (3, 1, 0, 0, 0, .null, []), some (1, 1, 3, 0, 0, .null, []), some (0, 1, 0, 0, 0, .int 3, []), some (7, 1, 0, 0, 0, .null, []), some (22, 1, 0, 0, 0, .null, []), some (32, 3, 160, 4, 48, .null, [(0, 1166)]), none, none, some (42, 1, 0, 0, 0, .null, []), some (17, 3, 1414, 0, 0, .null, []), none, none, some (3, 1, 1, 0, 0, .null, []), some (3, 1, 0, 0, 0, .null, []), some (1, 1, 3, 0, 0, .null, []), some (0, 1, 0, 0, 0, .int 1, [])]
def zi_241_21 : List (Option zI) := [some (7, 1, 0, 0, 0, .null, []), some (22, 1, 0, 0, 0, .null, []), some (3, 1, 0, 0, 0, .null, []), some (1, 1, 3, 0, 0, .null, []), some (0, 1, 0, 0, 0, .int 2, []), some (7, 1, 0, 0, 0, .null, []), some (22, 1, 0, 0, 0, .null, []), some (3, 1, 0, 0, 0, .null, []), some (1, 1, 3, 0, 0, .null, []), some (0, 1, 0, 0, 0, .int 3, []), some (7, 1, 0, 0, 0, .null, []), some (22, 1, 0, 0, 0, .null, []), some (32, 3, 98, 4, 44, .null, [(0, 1167)]), none, none, some (42, 1, 0, 0, 0, .null, [])]
def zi_241_22 : List (Option zI) := [some (3, 1, 2, 0, 0, .null, []), some (3, 1, 0, 0, 0, .null, []), some (1, 1, 3, 0, 0, .null, []), some (0, 1, 0, 0, 0, .int 1, []), some (7, 1, 0, 0, 0, .null, []), some (22, 1, 0, 0, 0, .null, []), some (3, 1, 0, 0, 0, .null, []), some (1, 1, 3, 0, 0, .null, []), some (0, 1, 0, 0, 0, .int 2, []), some (7, 1, 0, 0, 0, .null, []), some (22, 1, 0, 0, 0, .null, []), some (3, 1, 0, 0, 0, .null, []), some (1, 1, 3, 0, 0, .null, []), some (0, 1, 0, 0, 0, .int 3, []), some (7, 1, 0, 0, 0, .null, []), some (22, 1, 0, 0, 0, .null, [])]
def zi_241_23 : List (Option zI) := [some (32, 3, 163, 4, 48, .null, [(0, 1168)]), none, none, some (42, 1, 0, 0, 0, .null, []), some (17, 3, 1414, 0, 0, .null, []), none, none, some (3, 1, 1, 0, 0, .null, []), some (3, 1, 0, 0, 0, .null, []), some (1, 1, 3, 0, 0, .null, []), some (0, 1, 0, 0, 0, .int 1, []), some (7, 1, 0, 0, 0, .null, []), some (22, 1, 0, 0, 0, .null, []), some (3, 1, 0, 0, 0, .null, []), some (1, 1, 3, 0, 0, .null, []), some (0, 1, 0, 0, 0, .int 2, [])]
def zi_241_24 : List (Option zI) := [some (7, 1, 0, 0, 0, .null, []), some (22, 1, 0, 0, 0, .null, []), some (32, 3, 99, 3, 44, .null, [(0, 1169)]), none, none, some (42, 1, 0, 0, 0, .null, []), some (3, 1, 2, 0, 0, .null, []), some (3, 1, 0, 0, 0, .null, []), some (1, 1, 3, 0, 0, .null, []), some (0, 1, 0, 0, 0, .int 1, []), some (7, 1, 0, 0, 0, .null, []), some (22, 1, 0, 0, 0, .null, []), some (3, 1, 0, 0, 0, .null, []), some (1, 1, 3, 0, 0, .null, []), some (0, 1, 0, 0, 0, .int 2, []), some (7, 1, 0, 0, 0, .null, [])]
def zi_241_25 : List (Option zI) := [some (22, 1, 0, 0, 0, .null, []), some (32, 3, 164, 3, 48, .null, [(0, 1170)]), none, none, some (42, 1, 0, 0, 0, .null, []), some (17, 3, 1414, 0, 0, .null, []), none, none, some (3, 1, 1, 0, 0, .null, []), some (3, 1, 0, 0, 0, .null, []), some (1, 1, 3, 0, 0, .null, []), some (0, 1, 0, 0, 0, .int 1, []), some (7, 1, 0, 0, 0, .null, []), some (22, 1, 0, 0, 0, .null, []), some (32, 3, 100, 2, 44, .null, [(0, 1171)]), none]
def zi_241_26 : List (Option zI) := [none, some (42, 1, 0, 0, 0, .null, []), some (3, 1, 2, 0, 0, .null, []), some (3, 1, 0, 0, 0, .null, []), some (1, 1, 3, 0, 0, .null, []), some (0, 1, 0, 0, 0, .int 1, []), some (7, 1, 0, 0, 0, .null, []), some (22, 1, 0, 0, 0, .null, []), some (32, 3, 165, 2, 48, .null, [(0, 1172)]), none, none, some (42, 1, 0, 0, 0, .null, []), some (17, 3, 1414, 0, 0, .null, []), none, none, some (3, 1, 1, 0, 0, .null, [])]
def zi_241_27 : List (Option zI) := [some (32, 3, 101, 1, 44, .null, [(0, 1173)]), none, none, some (42, 1, 0, 0, 0, .null, []), some (3, 1, 2, 0, 0, .null, []), some (32, 3, 177, 1, 48, .null, [(0, 1174)]), none, none, some (42, 1, 0, 0, 0, .null, []), some (17, 3, 1414, 0, 0, .null, []), none, none, some (3, 1, 1, 0, 0, .null, []), some (3, 1, 0, 0, 0, .null, []), some (1, 1, 3, 0, 0, .null, []), some (0, 1, 0, 0, 0, .int 1, [])]
def zi_241_28 : List (Option zI) := [some (7, 1, 0, 0, 0, .null, []), some (22, 1, 0, 0, 0, .null, []), some (3, 1, 0, 0, 0, .null, []), some (1, 1, 3, 0, 0, .null, []), some (0, 1, 0, 0, 0, .int 2, []), some (7, 1, 0, 0, 0, .null, []), some (22, 1, 0, 0, 0, .null, []), some (32, 3, 102, 3, 44, .null, [(0, 1175)]), none, none, some (42, 1, 0, 0, 0, .null, []), some (3, 1, 2, 0, 0, .null, []), some (3, 1, 0, 0, 0, .null, []), some (1, 1, 3, 0, 0, .null, []), some (0, 1, 0, 0, 0, .int 1, []), some (7, 1, 0, 0, 0, .null, [])]
def zi_241_29 : List (Option zI) := [some (22, 1, 0, 0, 0, .null, []), some (3, 1, 0, 0, 0, .null, []), some (1, 1, 3, 0, 0, .null, []), some (0, 1, 0, 0, 0, .int 2, []), some (7, 1, 0, 0, 0, .null, []), some (22, 1, 0, 0, 0, .null, []), some (32, 3, 181, 3, 48, .null, [(0, 1176)]), none, none, some (42, 1, 0, 0, 0, .null, []), some (17, 3, 1414, 0, 0, .null, []), none, none, some (3, 1, 1, 0, 0, .null, []), some (3, 1, 0, 0, 0, .null, []), some (1, 1, 3, 0, 0, .null, [])]
def zi_241_30 : List (Option zI) := [some (0, 1, 0, 0, 0, .int 1, []), some (7, 1, 0, 0, 0, .null, []), some (22, 1, 0, 0, 0, .null, []), some (3, 1, 0, 0, 0, .null, []), some (1, 1, 3, 0, 0, .null, []), some (0, 1, 0, 0, 0, .int 2, []), some (7, 1, 0, 0, 0, .null, []), some (22, 1, 0, 0, 0, .null, []), some (3, 1, 0, 0, 0, .null, []), some (1, 1, 3, 0, 0, .null, []), some (0, 1, 0, 0, 0, .int 3, []), some (7, 1, 0, 0, 0, .null, []), some (22, 1, 0, 0, 0, .null, []), some (32, 3, 103, 4, 44, .null, [(0, 1177)]), none, none]
def zi_241_31 : List (Option zI) := [some (42, 1, 0, 0, 0, .null, []), some (3, 1, 2, 0, 0, .null, []), some (3, 1, 0, 0, 0, .null, []), some (1, 1, 3, 0, 0, .null, []), some (0, 1, 0, 0, 0, .int 1, []), some (7, 1, 0, 0, 0, .null, []), some (22, 1, 0, 0, 0, .null, []), some (3, 1, 0, 0, 0, .null, []), some (1, 1, 3, 0, 0, .null, []), some (0, 1, 0, 0, 0, .int 2, []), some (7, 1, 0, 0, 0, .null, []), some (22, 1, 0, 0, 0, .null, []), some (3, 1, 0, 0, 0, .null, []), some (1, 1, 3, 0, 0, .null, []), some (0, 1, 0, 0, 0, .int 3, []), some (7, 1, 0, 0, 0, .null, [])]
def zi_241_32 : List (Option zI) := [some (22, 1, 0, 0, 0, .null, []), some (32, 3, 189, 4, 48, .null, [(0, 1178)]), none, none, some (42, 1, 0, 0, 0, .null, []), some (17, 3, 1414, 0, 0, .null, []), none, none, some (3, 1, 1, 0, 0, .null, []), some (3, 1, 0, 0, 0, .null, []), some (1, 1, 3, 0, 0, .null, []), some (0, 1, 0, 0, 0, .int 1, []), some (7, 1, 0, 0, 0, .null, []), some (22, 1, 0, 0, 0, .null, []), some (3, 1, 0, 0, 0, .null, []), some (1, 1, 3, 0, 0, .null, [])]
def zi_241_33 : List (Option zI) := [some (0, 1, 0, 0, 0, .int 2, []), some (7, 1, 0, 0, 0, .null, []), some (22, 1, 0, 0, 0, .null, []), some (3, 1, 0, 0, 0, .null, []), some (1, 1, 3, 0, 0, .null, []), some (0, 1, 0, 0, 0, .int 3, []), some (7, 1, 0, 0, 0, .null, []), some (22, 1, 0, 0, 0, .null, []), some (32, 3, 104, 4, 44, .null, [(0, 1179)]), none, none, some (42, 1, 0, 0, 0, .null, []), some (3, 1, 2, 0, 0, .null, []), some (3, 1, 0, 0, 0, .null, []), some (1, 1, 3, 0, 0, .null, []), some (0, 1, 0, 0, 0, .int 1, [])]
def zi_241_34 : List (Option zI) := [some (7, 1, 0, 0, 0, .null, []), some (22, 1, 0, 0, 0, .null, []), some (3, 1, 0, 0, 0, .null, []), some (1, 1, 3, 0, 0, .null, []), some (0, 1, 0, 0, 0, .int 2, []), some (7, 1, 0, 0, 0, .null, []), some (22, 1, 0, 0, 0, .null, []), some (3, 1, 0, 0, 0, .null, []), some (1, 1, 3, 0, 0, .null, []), some (0, 1, 0, 0, 0, .int 3, []), some (7, 1, 0, 0, 0, .null, []), some (22, 1, 0, 0, 0, .null, []), some (32, 3, 191, 4, 48, .null, [(0, 1180)]), none, none, some (42, 1, 0, 0, 0, .null, [])]
def zi_241_35 : List (Option zI) := [some (17, 3, 1414, 0, 0, .null, []), none, none, some (3, 1, 1, 0, 0, .null, []), some (3, 1, 0, 0, 0, .null, []), some (1, 1, 3, 0, 0, .null, []), some (0, 1, 0, 0, 0, .int 1, []), some (7, 1, 0, 0, 0, .null, []), some (22, 1, 0, 0, 0, .null, []), some (3, 1, 0, 0, 0, .null, []), some (1, 1, 3, 0, 0, .null, []), some (0, 1, 0, 0, 0, .int 2, []), some (7, 1, 0, 0, 0, .null, []), some (22, 1, 0, 0, 0, .null, []), some (3, 1, 0, 0, 0, .null, []), some (1, 1, 3, 0, 0, .null, [])]
def zi_241_36 : List (Option zI) := [some (0, 1, 0, 0, 0, .int 3, []), some (7, 1, 0, 0, 0, .null, []), some (22, 1, 0, 0, 0, .null, []), some (32, 3, 105, 4, 44, .null, [(0, 1181)]), none, none, some (42, 1, 0, 0, 0, .null, []), some (3, 1, 2, 0, 0, .null, []), some (3, 1, 0, 0, 0, .null, []), some (1, 1, 3, 0, 0, .null, []), some (0, 1, 0, 0, 0, .int 1, []), some (7, 1, 0, 0, 0, .null, []), some (22, 1, 0, 0, 0, .null, []), some (3, 1, 0, 0, 0, .null, []), some (1, 1, 3, 0, 0, .null, []), some (0, 1, 0, 0, 0, .int 2, [])]
def zi_241_37 : List (Option zI) := [some (7, 1, 0, 0, 0, .null, []), some (22, 1, 0, 0, 0, .null, []), some (3, 1, 0, 0, 0, .null, []), some (1, 1, 3, 0, 0, .null, []), some (0, 1, 0, 0, 0, .int 3, []), some (7, 1, 0, 0, 0, .null, []), some (22, 1, 0, 0, 0, .null, []), some (32, 3, 193, 4, 48, .null, [(0, 1182)]), none, none, some (42, 1, 0, 0, 0, .null, []), some (17, 3, 1414, 0, 0, .null, []), none, none, some (3, 1, 1, 0, 0, .null, []), some (3, 1, 0, 0, 0, .null, [])]
def zi_241_38 : List (Option zI) := [some (1, 1, 3, 0, 0, .null, []), some (0, 1, 0, 0, 0, .int 1, []), some (7, 1, 0, 0, 0, .null, []), some (22, 1, 0, 0, 0, .null, []), some (3, 1, 0, 0, 0, .null, []), some (1, 1, 3, 0, 0, .null, []), some (0, 1, 0, 0, 0, .int 2, []), some (7, 1, 0, 0, 0, .null, []), some (22, 1, 0, 0, 0, .null, []), some (32, 3, 106, 3, 44, .null, [(0, 1183)]), none, none, some (42, 1, 0, 0, 0, .null, []), some (3, 1, 2, 0, 0, .null, []), some (3, 1, 0, 0, 0, .null, []), some (1, 1, 3, 0, 0, .null, [])]
def zi_241_39 : List (Option zI) := [some (0, 1, 0, 0, 0, .int 1, []), some (7, 1, 0, 0, 0, .null, []), some (22, 1, 0, 0, 0, .null, []), some (3, 1, 0, 0, 0, .null, []), some (1, 1, 3, 0, 0, .null, []), some (0, 1, 0, 0, 0, .int 2, []), some (7, 1, 0, 0, 0, .null, []), some (22, 1, 0, 0, 0, .null, []), some (32, 3, 194, 3, 48, .null, [(0, 1184)]), none, none, some (42, 1, 0, 0, 0, .null, []), some (17, 3, 1414, 0, 0, .null, []), none, none, some (3, 1, 1, 0, 0, .null, [])]
def zi_241_40 : List (Option zI) := [some (3, 1, 0, 0, 0, .null, []), some (1, 1, 3, 0, 0, .null, []), some (0, 1, 0, 0, 0, .int 1, []), some (7, 1, 0, 0, 0, .null, []), some (22, 1, 0, 0, 0, .null, []), some (32, 3, 107, 2, 44, .null, [(0, 1185)]), none, none, some (42, 1, 0, 0, 0, .null, []), some (3, 1, 2, 0, 0, .null, []), some (3, 1, 0, 0, 0, .null, []), some (1, 1, 3, 0, 0, .null, []), some (0, 1, 0, 0, 0, .int 1, []), some (7, 1, 0, 0, 0, .null, []), some (22, 1, 0, 0, 0, .null, []), some (32, 3, 199, 2, 48, .null, [(0, 1186)])]
def zi_241_41 : List (Option zI) := [none, none, some (42, 1, 0, 0, 0, .null, []), some (17, 3, 1414, 0, 0, .null, []), none, none, some (3, 1, 1, 0, 0, .null, []), some (32, 3, 108, 1, 44, .null, [(0, 1187)]), none, none, some (42, 1, 0, 0, 0, .null, []), some (3, 1, 2, 0, 0, .null, []), some (32, 3, 200, 1, 48, .null, [(0, 1188)]), none, none, some (42, 1, 0, 0, 0, .null, [])]
def zi_241_42 : List (Option zI) := [some (17, 3, 1414, 0, 0, .null, []), none, none, some (3, 1, 1, 0, 0, .null, []), some (3, 1, 0, 0, 0, .null, []), some (1, 1, 3, 0, 0, .null, []), some (0, 1, 0, 0, 0, .int 1, []), some (7, 1, 0, 0, 0, .null, []), some (22, 1, 0, 0, 0, .null, []), some (32, 3, 109, 2, 44, .null, [(0, 1189)]), none, none, some (42, 1, 0, 0, 0, .null, []), some (3, 1, 2, 0, 0, .null, []), some (3, 1, 0, 0, 0, .null, []), some (1, 1, 3, 0, 0, .null, [])]
def zi_241_43 : List (Option zI) := [some (0, 1, 0, 0, 0, .int 1, []), some (7, 1, 0, 0, 0, .null, []), some (22, 1, 0, 0, 0, .null, []), some (32, 3, 202, 2, 48, .null, [(0, 1190)]), none, none, some (42, 1, 0, 0, 0, .null, []), some (17, 3, 1414, 0, 0, .null, []), none, none, some (3, 1, 1, 0, 0, .null, []), some (3, 1, 0, 0, 0, .null, []), some (1, 1, 3, 0, 0, .null, []), some (0, 1, 0, 0, 0, .int 1, []), some (7, 1, 0, 0, 0, .null, []), some (22, 1, 0, 0, 0, .null, [])]
def zi_241_44 : List (Option zI) := [some (3, 1, 0, 0, 0, .null, []), some (1, 1, 3, 0, 0, .null, []), some (0, 1, 0, 0, 0, .int 2, []), some (7, 1, 0, 0, 0, .null, []), some (22, 1, 0, 0, 0, .null, []), some (32, 3, 110, 3, 44, .null, [(0, 1191)]), none, none, some (42, 1, 0, 0, 0, .null, []), some (3, 1, 2, 0, 0, .null, []), some (3, 1, 0, 0, 0, .null, []), some (1, 1, 3, 0, 0, .null, []), some (0, 1, 0, 0, 0, .int 1, []), some (7, 1, 0, 0, 0, .null, []), some (22, 1, 0, 0, 0, .null, []), some (3, 1, 0, 0, 0, .null, [])]
def zi_241_45 : List (Option zI) := [some (1, 1, 3, 0, 0, .null, []), some (0, 1, 0, 0, 0, .int 2, []), some (7, 1, 0, 0, 0, .null, []), some (22, 1, 0, 0, 0, .null, []), some (32, 3, 205, 3, 48, .null, [(0, 1192)]), none, none, some (42, 1, 0, 0, 0, .null, []), some (17, 3, 1414, 0, 0, .null, []), none, none, some (3, 1, 1, 0, 0, .null, []), some (3, 1, 0, 0, 0, .null, []), some (1, 1, 3, 0, 0, .null, []), some (0, 1, 0, 0, 0, .int 1, []), some (7, 1, 0, 0, 0, .null, [])]
def zi_241_46 : List (Option zI) := [some (22, 1, 0, 0, 0, .null, []), some (3, 1, 0, 0, 0, .null, []), some (1, 1, 3, 0, 0, .null, []), some (0, 1, 0, 0, 0, .int 2, []), some (7, 1, 0, 0, 0, .null, []), some (22, 1, 0, 0, 0, .null, []), some (3, 1, 0, 0, 0, .null, []), some (1, 1, 3, 0, 0, .null, []), some (0, 1, 0, 0, 0, .int 3, []), some (7, 1, 0, 0, 0, .null, []), some (22, 1, 0, 0, 0, .null, []), some (32, 3, 111, 4, 44, .null, [(0, 1193)]), none, none, some (42, 1, 0, 0, 0, .null, []), some (3, 1, 2, 0, 0, .null, [])]
def zi_241_47 : List (Option zI) := [some (3, 1, 0, 0, 0, .null, []), some (1, 1, 3, 0, 0, .null, []), some (0, 1, 0, 0, 0, .int 1, []), some (7, 1, 0, 0, 0, .null, []), some (22, 1, 0, 0, 0, .null, []), some (3, 1, 0, 0, 0, .null, []), some (1, 1, 3, 0, 0, .null, []), some (0, 1, 0, 0, 0, .int 2, []), some (7, 1, 0, 0, 0, .null, []), some (22, 1, 0, 0, 0, .null, []), some (3, 1, 0, 0, 0, .null, []), some (1, 1, 3, 0, 0, .null, []), some (0, 1, 0, 0, 0, .int 3, []), some (7, 1, 0, 0, 0, .null, []), some (22, 1, 0, 0, 0, .null, []), some (32, 3, 206, 4, 48, .null, [(0, 1194)])]
def zi_241_48 : List (Option zI) := [none, none, some (42, 1, 0, 0, 0, .null, []), some (17, 3, 1414, 0, 0, .null, []), none, none, some (3, 1, 1, 0, 0, .null, []), some (3, 1, 0, 0, 0, .null, []), some (1, 1, 3, 0, 0, .null, []), some (0, 1, 0, 0, 0, .int 1, []), some (7, 1, 0, 0, 0, .null, []), some (22, 1, 0, 0, 0, .null, []), some (3, 1, 0, 0, 0, .null, []), some (1, 1, 3, 0, 0, .null, []), some (0, 1, 0, 0, 0, .int 2, []), some (7, 1, 0, 0, 0, .null, [])]
def zi_241_49 : List (Option zI) := [some (22, 1, 0, 0, 0, .null, []), some (3, 1, 0, 0, 0, .null, []), some (1, 1, 3, 0, 0, .null, []), some (0, 1, 0, 0, 0, .int 3, []), some (7, 1, 0, 0, 0, .null, []), some (22, 1, 0, 0, 0, .null, []), some (32, 3, 112, 4, 44, .null, [(0, 1195)]), none, none, some (42, 1, 0, 0, 0, .null, []), some (3, 1, 2, 0, 0, .null, []), some (3, 1, 0, 0, 0, .null, []), some (1, 1, 3, 0, 0, .null, []), some (0, 1, 0, 0, 0, .int 1, []), some (7, 1, 0, 0, 0, .null, []), some (22, 1, 0, 0, 0, .null, [])]
def zi_241_50 : List (Option zI) := [some (3, 1, 0, 0, 0, .null, []), some (1, 1, 3, 0, 0, .null, []), some (0, 1, 0, 0, 0, .int 2, []), some (7, 1, 0, 0, 0, .null, []), some (22, 1, 0, 0, 0, .null, []), some (3, 1, 0, 0, 0, .null, []), some (1, 1, 3, 0, 0, .null, []), some (0, 1, 0, 0, 0, .int 3, []), some (7, 1, 0, 0, 0, .null, []), some (22, 1, 0, 0, 0, .null, []), some (32, 3, 208, 4, 48, .null, [(0, 1196)]), none, none, some (42, 1, 0, 0, 0, .null, []), some (17, 3, 1414, 0, 0, .null, []), none]
def zi_241_51 : List (Option zI) := [none, some (3, 1, 1, 0, 0, .null, []), some (3, 1, 0, 0, 0, .null, []), some (1, 1, 3, 0, 0, .null, []), some (0, 1, 0, 0, 0, .int 1, []), some (7, 1, 0, 0, 0, .null, []), some (22, 1, 0, 0, 0, .null, []), some (3, 1, 0, 0, 0, .null, []), some (1, 1, 3, 0, 0, .null, []), some (0, 1, 0, 0, 0, .int 2, []), some (7, 1, 0, 0, 0, .null, []), some (22, 1, 0, 0, 0, .null, []), some (3, 1, 0, 0, 0, .null, []), some (1, 1, 3, 0, 0, .null, []), some (0, 1, 0, 0, 0, .int 3, []), some (7, 1, 0, 0, 0, .null, [])]
def zi_241_52 : List (Option zI) := [some (22, 1, 0, 0, 0, .null, []), some (3, 1, 0, 0, 0, .null, []), some (1, 1, 3, 0, 0, .null, []), some (0, 1, 0, 0, 0, .int 4, []), some (7, 1, 0, 0, 0, .null, []), some (22, 1, 0, 0, 0, .null, []), some (32, 3, 116, 5, 44, .null, [(0, 1197)]), none, none, some (42, 1, 0, 0, 0, .null, []), some (3, 1, 2, 0, 0, .null, []), some (3, 1, 0, 0, 0, .null, []), some (1, 1, 3, 0, 0, .null, []), some (0, 1, 0, 0, 0, .int 1, []), some (7, 1, 0, 0, 0, .null, []), some (22, 1, 0, 0, 0, .null, [])]
def zi_241_53 : List (Option zI) := [some (3, 1, 0, 0, 0, .null, []), some (1, 1, 3, 0, 0, .null, []), some (0, 1, 0, 0, 0, .int 2, []), some (7, 1, 0, 0, 0, .null, []), some (22, 1, 0, 0, 0, .null, []), some (3, 1, 0, 0, 0, .null, []), some (1, 1, 3, 0, 0, .null, []), some (0, 1, 0, 0, 0, .int 3, []), some (7, 1, 0, 0, 0, .null, []), some (22, 1, 0, 0, 0, .null, []), some (3, 1, 0, 0, 0, .null, []), some (1, 1, 3, 0, 0, .null, []), some (0, 1, 0, 0, 0, .int 4, []), some (7, 1, 0, 0, 0, .null, []), some (22, 1, 0, 0, 0, .null, []), some (32, 3, 209, 5, 48, .null, [(0, 1198)])]
def zi_241_54 : List (Option zI) := [none, none, some (42, 1, 0, 0, 0, .null, []), some (17, 3, 1414, 0, 0, .null, []), none, none, some (3, 1, 1, 0, 0, .null, []), some (3, 1, 0, 0, 0, .null, []), some (1, 1, 3, 0, 0, .null, []), some (0, 1, 0, 0, 0, .int 1, []), some (7, 1, 0, 0, 0, .null, []), some (22, 1, 0, 0, 0, .null, []), some (3, 1, 0, 0, 0, .null, []), some (1, 1, 3, 0, 0, .null, []), some (0, 1, 0, 0, 0, .int 2, []), some (7, 1, 0, 0, 0, .null, [])]
def zi_241_55 : List (Option zI) := [some (22, 1, 0, 0, 0, .null, []), some (32, 3, 117, 3, 44, .null, [(0, 1199)]), none, none, some (42, 1, 0, 0, 0, .null, []), some (3, 1, 2, 0, 0, .null, []), some (3, 1, 0, 0, 0, .null, []), some (1, 1, 3, 0, 0, .null, []), some (0, 1, 0, 0, 0, .int 1, []), some (7, 1, 0, 0, 0, .null, []), some (22, 1, 0, 0, 0, .null, []), some (3, 1, 0, 0, 0, .null, []), some (1, 1, 3, 0, 0, .null, []), some (0, 1, 0, 0, 0, .int 2, []), some (7, 1, 0, 0, 0, .null, []), some (22, 1, 0, 0, 0, .null, [])]
def zi_241_56 : List (Option zI) := [some (32, 3, 211, 3, 48, .null, [(0, 1200)]), none, none, some (42, 1, 0, 0, 0, .null, []), some (17, 3, 1414, 0, 0, .null, []), none, none, some (3, 1, 1, 0, 0, .null, []), some (3, 1, 0, 0, 0, .null, []), some (1, 1, 3, 0, 0, .null, []), some (0, 1, 0, 0, 0, .int 1, []), some (7, 1, 0, 0, 0, .null, []), some (22, 1, 0, 0, 0, .null, []), some (3, 1, 0, 0, 0, .null, []), some (1, 1, 3, 0, 0, .null, []), some (0, 1, 0, 0, 0, .int 2, [])]
def zi_241_57 : List (Option zI) := [some (7, 1, 0, 0, 0, .null, []), some (22, 1, 0, 0, 0, .null, []), some (32, 3, 118, 3, 44, .null, [(0, 1201)]), none, none, some (42, 1, 0, 0, 0, .null, []), some (3, 1, 2, 0, 0, .null, []), some (3, 1, 0, 0, 0, .null, []), some (1, 1, 3, 0, 0, .null, []), some (0, 1, 0, 0, 0, .int 1, []), some (7, 1, 0, 0, 0, .null, []), some (22, 1, 0, 0, 0, .null, []), some (3, 1, 0, 0, 0, .null, []), some (1, 1, 3, 0, 0, .null, []), some (0, 1, 0, 0, 0, .int 2, []), some (7, 1, 0, 0, 0, .null, [])]
def zi_241_58 : List (Option zI) := [some (22, 1, 0, 0, 0, .null, []), some (32, 3, 212, 3, 48, .null, [(0, 1202)]), none, none, some (42, 1, 0, 0, 0, .null, []), some (17, 3, 1414, 0, 0, .null, []), none, none, some (3, 1, 1, 0, 0, .null, []), some (32, 3, 119, 1, 44, .null, [(0, 1203)]), none, none, some (42, 1, 0, 0, 0, .null, []), some (3, 1, 2, 0, 0, .null, []), some (32, 3, 213, 1, 48, .null, [(0, 1204)]), none]
def zi_241_59 : List (Option zI) := [none, some (42, 1, 0, 0, 0, .null, []), some (17, 3, 1414, 0, 0, .null, []), none, none, some (3, 1, 1, 0, 0, .null, []), some (3, 1, 0, 0, 0, .null, []), some (1, 1, 3, 0, 0, .null, []), some (0, 1, 0, 0, 0, .int 1, []), some (7, 1, 0, 0, 0, .null, []), some (22, 1, 0, 0, 0, .null, []), some (32, 3, 120, 2, 44, .null, [(0, 1205)]), none, none, some (42, 1, 0, 0, 0, .null, []), some (3, 1, 2, 0, 0, .null, [])]
def zi_241_60 : List (Option zI) := [some (3, 1, 0, 0, 0, .null, []), some (1, 1, 3, 0, 0, .null, []), some (0, 1, 0, 0, 0, .int 1, []), some (7, 1, 0, 0, 0, .null, []), some (22, 1, 0, 0, 0, .null, []), some (32, 3, 214, 2, 48, .null, [(0, 1206)]), none, none, some (42, 1, 0, 0, 0, .null, []), some (17, 3, 1414, 0, 0, .null, []), none, none, some (3, 1, 1, 0, 0, .null, []), some (32, 3, 121, 1, 44, .null, [(0, 1207)]), none, none]
def zi_241_61 : List (Option zI) := [some (42, 1, 0, 0, 0, .null, []), some (3, 1, 2, 0, 0, .null, []), some (32, 3, 215, 1, 48, .null, [(0, 1208)]), none, none, some (42, 1, 0, 0, 0, .null, []), some (17, 3, 1414, 0, 0, .null, []), none, none, some (3, 1, 1, 0, 0, .null, []), some (32, 3, 122, 1, 44, .null, [(0, 1209)]), none, none, some (42, 1, 0, 0, 0, .null, []), some (3, 1, 2, 0, 0, .null, []), some (32, 3, 216, 1, 48, .null, [(0, 1210)])]
def zi_241_62 : List (Option zI) := [none, none, some (42, 1, 0, 0, 0, .null, []), some (17, 3, 1414, 0, 0, .null, []), none, none, some (3, 1, 1, 0, 0, .null, []), some (32, 3, 123, 1, 44, .null, [(0, 1211)]), none, none, some (42, 1, 0, 0, 0, .null, []), some (3, 1, 2, 0, 0, .null, []), some (32, 3, 149, 1, 48, .null, [(0, 1212)]), none, none, some (42, 1, 0, 0, 0, .null, [])]
def zi_241_63 : List (Option zI) := [some (17, 3, 1414, 0, 0, .null, []), none, none, some (3, 1, 1, 0, 0, .null, []), some (32, 3, 124, 1, 44, .null, [(0, 1213)]), none, none, some (42, 1, 0, 0, 0, .null, []), some (3, 1, 2, 0, 0, .null, []), some (32, 3, 150, 1, 48, .null, [(0, 1214)]), none, none, some (42, 1, 0, 0, 0, .null, []), some (17, 3, 1414, 0, 0, .null, []), none, none]
def zi_241_64 : List (Option zI) := [some (3, 1, 1, 0, 0, .null, []), some (3, 1, 0, 0, 0, .null, []), some (1, 1, 3, 0, 0, .null, []), some (0, 1, 0, 0, 0, .int 1, []), some (7, 1, 0, 0, 0, .null, []), some (22, 1, 0, 0, 0, .null, []), some (32, 3, 125, 2, 44, .null, [(0, 1215)]), none, none, some (42, 1, 0, 0, 0, .null, []), some (3, 1, 2, 0, 0, .null, []), some (3, 1, 0, 0, 0, .null, []), some (1, 1, 3, 0, 0, .null, []), some (0, 1, 0, 0, 0, .int 1, []), some (7, 1, 0, 0, 0, .null, []), some (22, 1, 0, 0, 0, .null, [])]
def zi_241_65 : List (Option zI) := [some (32, 3, 219, 2, 48, .null, [(0, 1216)]), none, none, some (42, 1, 0, 0, 0, .null, []), some (17, 3, 1414, 0, 0, .null, []), none, none, some (3, 1, 1, 0, 0, .null, []), some (3, 1, 0, 0, 0, .null, []), some (1, 1, 3, 0, 0, .null, []), some (0, 1, 0, 0, 0, .int 1, []), some (7, 1, 0, 0, 0, .null, []), some (22, 1, 0, 0, 0, .null, []), some (3, 1, 0, 0, 0, .null, []), some (1, 1, 3, 0, 0, .null, []), some (0, 1, 0, 0, 0, .int 2, [])]
def zi_241_66 : List (Option zI) := [some (7, 1, 0, 0, 0, .null, []), some (22, 1, 0, 0, 0, .null, []), some (3, 1, 0, 0, 0, .null, []), some (1, 1, 3, 0, 0, .null, []), some (0, 1, 0, 0, 0, .int 3, []), some (7, 1, 0, 0, 0, .null, []), some (22, 1, 0, 0, 0, .null, []), some (32, 3, 126, 4, 44, .null, [(0, 1217)]), none, none, some (42, 1, 0, 0, 0, .null, []), some (3, 1, 2, 0, 0, .null, []), some (3, 1, 0, 0, 0, .null, []), some (1, 1, 3, 0, 0, .null, []), some (0, 1, 0, 0, 0, .int 1, []), some (7, 1, 0, 0, 0, .null, [])]
def zi_241_67 : List (Option zI) := [some (22, 1, 0, 0, 0, .null, []), some (3, 1, 0, 0, 0, .null, []), some (1, 1, 3, 0, 0, .null, []), some (0, 1, 0, 0, 0, .int 2, []), some (7, 1, 0, 0, 0, .null, []), some (22, 1, 0, 0, 0, .null, []), some (3, 1, 0, 0, 0, .null, []), some (1, 1, 3, 0, 0, .null, []), some (0, 1, 0, 0, 0, .int 3, []), some (7, 1, 0, 0, 0, .null, []), some (22, 1, 0, 0, 0, .null, []), some (32, 3, 226, 4, 48, .null, [(0, 1218)]), none, none, some (42, 1, 0, 0, 0, .null, []), some (17, 3, 1414, 0, 0, .null, [])]
def zi_241_68 : List (Option zI) := [none, none, some (3, 1, 1, 0, 0, .null, []), some (3, 1, 0, 0, 0, .null, []), some (1, 1, 3, 0, 0, .null, []), some (0, 1, 0, 0, 0, .int 1, []), some (7, 1, 0, 0, 0, .null, []), some (22, 1, 0, 0, 0, .null, []), some (32, 3, 127, 2, 44, .null, [(0, 1219)]), none, none, some (42, 1, 0, 0, 0, .null, []), some (3, 1, 2, 0, 0, .null, []), some (3, 1, 0, 0, 0, .null, []), some (1, 1, 3, 0, 0, .null, []), some (0, 1, 0, 0, 0, .int 1, [])]
def zi_241_69 : List (Option zI) := [some (7, 1, 0, 0, 0, .null, []), some (22, 1, 0, 0, 0, .null, []), some (32, 3, 227, 2, 48, .null, [(0, 1220)]), none, none, some (42, 1, 0, 0, 0, .null, []), some (17, 3, 1414, 0, 0, .null, []), none, none, some (3, 1, 1, 0, 0, .null, []), some (3, 1, 0, 0, 0, .null, []), some (1, 1, 3, 0, 0, .null, []), some (0, 1, 0, 0, 0, .int 1, []), some (7, 1, 0, 0, 0, .null, []), some (22, 1, 0, 0, 0, .null, []), some (3, 1, 0, 0, 0, .null, [])]
def zi_241_70 : List (Option zI) := [some (1, 1, 3, 0, 0, .null, []), some (0, 1, 0, 0, 0, .int 2, []), some (7, 1, 0, 0, 0, .null, []), some (22, 1, 0, 0, 0, .null, []), some (32, 3, 128, 3, 44, .null, [(0, 1221)]), none, none, some (42, 1, 0, 0, 0, .null, []), some (3, 1, 2, 0, 0, .null, []), some (3, 1, 0, 0, 0, .null, []), some (1, 1, 3, 0, 0, .null, []), some (0, 1, 0, 0, 0, .int 1, []), some (7, 1, 0, 0, 0, .null, []), some (22, 1, 0, 0, 0, .null, []), some (3, 1, 0, 0, 0, .null, []), some (1, 1, 3, 0, 0, .null, [])]
def zi_241_71 : List (Option zI) := [some (0, 1, 0, 0, 0, .int 2, []), some (7, 1, 0, 0, 0, .null, []), some (22, 1, 0, 0, 0, .null, []), some (32, 3, 229, 3, 48, .null, [(0, 1222)]), none, none, some (42, 1, 0, 0, 0, .null, []), some (17, 3, 1414, 0, 0, .null, []), none, none, some (3, 1, 1, 0, 0, .null, []), some (3, 1, 0, 0, 0, .null, []), some (1, 1, 3, 0, 0, .null, []), some (0, 1, 0, 0, 0, .int 1, []), some (7, 1, 0, 0, 0, .null, []), some (22, 1, 0, 0, 0, .null, [])]
def zi_241_72 : List (Option zI) := [some (3, 1, 0, 0, 0, .null, []), some (1, 1, 3, 0, 0, .null, []), some (0, 1, 0, 0, 0, .int 2, []), some (7, 1, 0, 0, 0, .null, []), some (22, 1, 0, 0, 0, .null, []), some (3, 1, 0, 0, 0, .null, []), some (1, 1, 3, 0, 0, .null, []), some (0, 1, 0, 0, 0, .int 3, []), some (7, 1, 0, 0, 0, .null, []), some (22, 1, 0, 0, 0, .null, []), some (32, 3, 129, 4, 44, .null, [(0, 1223)]), none, none, some (3, 1, 2, 0, 0, .null, []), some (3, 1, 0, 0, 0, .null, []), some (1, 1, 3, 0, 0, .null, [])]
def zi_241_73 : List (Option zI) := [some (0, 1, 0, 0, 0, .int 1, []), some (7, 1, 0, 0, 0, .null, []), some (22, 1, 0, 0, 0, .null, []), some (3, 1, 0, 0, 0, .null, []), some (1, 1, 3, 0, 0, .null, []), some (0, 1, 0, 0, 0, .int 2, []), some (7, 1, 0, 0, 0, .null, []), some (22, 1, 0, 0, 0, .null, []), some (3, 1, 0, 0, 0, .null, []), some (1, 1, 3, 0, 0, .null, []), some (0, 1, 0, 0, 0, .int 3, []), some (7, 1, 0, 0, 0, .null, []), some (22, 1, 0, 0, 0, .null, []), some (32, 3, 230, 4, 48, .null, [(0, 1224)]), none, none]
def zi_241_74 : List (Option zI) := [some (16, 3, 1414, 0, 0, .null, []), none, none, some (0, 1, 0, 0, 0, .int 0, []), some (35, 1, 0, 0, 1, .null, []), some (3, 1, 1, 0, 0, .null, []), some (3, 1, 0, 0, 0, .null, []), some (1, 1, 3, 0, 0, .null, []), some (0, 1, 0, 0, 0, .int 1, []), some (7, 1, 0, 0, 0, .null, []), some (22, 1, 0, 0, 0, .null, []), some (3, 1, 0, 0, 0, .null, []), some (1, 1, 3, 0, 0, .null, []), some (0, 1, 0, 0, 0, .int 2, []), some (7, 1, 0, 0, 0, .null, []), some (22, 1, 0, 0, 0, .null, [])]
def zi_241_75 : List (Option zI) := [some (3, 1, 0, 0, 0, .null, []), some (1, 1, 3, 0, 0, .null, []), some (0, 1, 0, 0, 0, .int 3, []), some (7, 1, 0, 0, 0, .null, []), some (22, 1, 0, 0, 0, .null, []), some (10, 1, 0, 0, 0, .null, []), some (0, 2, 0, 0, 0, .int 32, []), none, some (13, 1, 0, 0, 0, .null, []), some (3, 1, 0, 0, 0, .null, []), some (1, 1, 3, 0, 0, .null, []), some (0, 1, 0, 0, 0, .int 4, []), some (7, 1, 0, 0, 0, .null, []), some (22, 1, 0, 0, 0, .null, []), some (10, 1, 0, 0, 0, .null, []), some (0, 3, 0, 0, 0, .long 4294967295, [(0, 1225)])]
def zi_241_76 : List (Option zI) := [none, none, some (12, 1, 0, 0, 0, .null, []), some (12, 1, 0, 1, 0, .null, []), some (32, 3, 130, 4, 44, .null, [(0, 1226)]), none, none, some (42, 1, 0, 0, 0, .null, []), some (3, 1, 2, 0, 0, .null, []), some (3, 1, 0, 0, 0, .null, []), some (1, 1, 3, 0, 0, .null, []), some (0, 1, 0, 0, 0, .int 1, []), some (7, 1, 0, 0, 0, .null, []), some (22, 1, 0, 0, 0, .null, []), some (3, 1, 0, 0, 0, .null, []), some (1, 1, 3, 0, 0, .null, [])]
def zi_241_77 : List (Option zI) := [some (0, 1, 0, 0, 0, .int 2, []), some (7, 1, 0, 0, 0, .null, []), some (22, 1, 0, 0, 0, .null, []), some (3, 1, 0, 0, 0, .null, []), some (1, 1, 3, 0, 0, .null, []), some (0, 1, 0, 0, 0, .int 3, []), some (7, 1, 0, 0, 0, .null, []), some (22, 1, 0, 0, 0, .null, []), some (10, 1, 0, 0, 0, .null, []), some (0, 2, 0, 0, 0, .int 32, []), none, some (13, 1, 0, 0, 0, .null, []), some (3, 1, 0, 0, 0, .null, []), some (1, 1, 3, 0, 0, .null, []), some (0, 1, 0, 0, 0, .int 4, []), some (7, 1, 0, 0, 0, .null, [])]
def zi_241_78 : List (Option zI) := [some (22, 1, 0, 0, 0, .null, []), some (10, 1, 0, 0, 0, .null, []), some (0, 3, 0, 0, 0, .long 4294967295, [(0, 1225)]), none, none, some (12, 1, 0, 0, 0, .null, []), some (12, 1, 0, 1, 0, .null, []), some (32, 3, 233, 4, 48, .null, [(0, 1227)]), none, none, some (42, 1, 0, 0, 0, .null, []), some (17, 3, 1414, 0, 0, .null, []), none, none, some (3, 1, 1, 0, 0, .null, []), some (3, 1, 0, 0, 0, .null, [])]
def zi_241_79 : List (Option zI) := [some (1, 1, 3, 0, 0, .null, []), some (0, 1, 0, 0, 0, .int 1, []), some (7, 1, 0, 0, 0, .null, []), some (22, 1, 0, 0, 0, .null, []), some (3, 1, 0, 0, 0, .null, []), some (1, 1, 3, 0, 0, .null, []), some (0, 1, 0, 0, 0, .int 2, []), some (7, 1, 0, 0, 0, .null, []), some (22, 1, 0, 0, 0, .null, []), some (32, 3, 131, 3, 44, .null, [(0, 1228)]), none, none, some (44, 1, 0, 0, 0, .null, []), some (3, 1, 2, 0, 0, .null, []), some (3, 1, 0, 0, 0, .null, []), some (1, 1, 3, 0, 0, .null, [])]
def zi_241_80 : List (Option zI) := [some (0, 1, 0, 0, 0, .int 1, []), some (7, 1, 0, 0, 0, .null, []), some (22, 1, 0, 0, 0, .null, []), some (3, 1, 0, 0, 0, .null, []), some (1, 1, 3, 0, 0, .null, []), some (0, 1, 0, 0, 0, .int 2, []), some (7, 1, 0, 0, 0, .null, []), some (22, 1, 0, 0, 0, .null, []), some (32, 3, 234, 3, 48, .null, [(0, 1229)]), none, none, some (44, 1, 0, 0, 0, .null, []), some (17, 3, 1414, 0, 0, .null, []), none, none, some (3, 1, 1, 0, 0, .null, [])]
def zi_241_81 : List (Option zI) := [some (3, 1, 0, 0, 0, .null, []), some (1, 1, 3, 0, 0, .null, []), some (0, 1, 0, 0, 0, .int 1, []), some (7, 1, 0, 0, 0, .null, []), some (22, 1, 0, 0, 0, .null, []), some (3, 1, 0, 0, 0, .null, []), some (1, 1, 3, 0, 0, .null, []), some (0, 1, 0, 0, 0, .int 2, []), some (7, 1, 0, 0, 0, .null, []), some (22, 1, 0, 0, 0, .null, []), some (3, 1, 0, 0, 0, .null, []), some (1, 1, 3, 0, 0, .null, []), some (0, 1, 0, 0, 0, .int 3, []), some (7, 1, 0, 0, 0, .null, []), some (22, 1, 0, 0, 0, .null, []), some (3, 1, 0, 0, 0, .null, [])]
def zi_241_82 : List (Option zI) := [some (1, 1, 3, 0, 0, .null, []), some (0, 1, 0, 0, 0, .int 4, []), some (7, 1, 0, 0, 0, .null, []), some (22, 1, 0, 0, 0, .null, []), some (3, 1, 0, 0, 0, .null, []), some (1, 1, 3, 0, 0, .null, []), some (0, 1, 0, 0, 0, .int 5, []), some (7, 1, 0, 0, 0, .null, []), some (22, 1, 0, 0, 0, .null, []), some (32, 3, 132, 6, 44, .null, [(0, 1230)]), none, none, some (42, 1, 0, 0, 0, .null, []), some (3, 1, 2, 0, 0, .null, []), some (3, 1, 0, 0, 0, .null, []), some (1, 1, 3, 0, 0, .null, [])]
def zi_241_83 : List (Option zI) := [some (0, 1, 0, 0, 0, .int 1, []), some (7, 1, 0, 0, 0, .null, []), some (22, 1, 0, 0, 0, .null, []), some (3, 1, 0, 0, 0, .null, []), some (1, 1, 3, 0, 0, .null, []), some (0, 1, 0, 0, 0, .int 2, []), some (7, 1, 0, 0, 0, .null, []), some (22, 1, 0, 0, 0, .null, []), some (3, 1, 0, 0, 0, .null, []), some (1, 1, 3, 0, 0, .null, []), some (0, 1, 0, 0, 0, .int 3, []), some (7, 1, 0, 0, 0, .null, []), some (22, 1, 0, 0, 0, .null, []), some (3, 1, 0, 0, 0, .null, []), some (1, 1, 3, 0, 0, .null, []), some (0, 1, 0, 0, 0, .int 4, [])]
def zi_241_84 : List (Option zI) := [some (7, 1, 0, 0, 0, .null, []), some (22, 1, 0, 0, 0, .null, []), some (3, 1, 0, 0, 0, .null, []), some (1, 1, 3, 0, 0, .null, []), some (0, 1, 0, 0, 0, .int 5, []), some (7, 1, 0, 0, 0, .null, []), some (22, 1, 0, 0, 0, .null, []), some (32, 3, 235, 6, 48, .null, [(0, 1231)]), none, none, some (42, 1, 0, 0, 0, .null, []), some (17, 3, 1414, 0, 0, .null, []), none, none, some (3, 1, 1, 0, 0, .null, []), some (3, 1, 0, 0, 0, .null, [])]
def zi_241_85 : List (Option zI) := [some (1, 1, 3, 0, 0, .null, []), some (0, 1, 0, 0, 0, .int 1, []), some (7, 1, 0, 0, 0, .null, []), some (22, 1, 0, 0, 0, .null, []), some (3, 1, 0, 0, 0, .null, []), some (1, 1, 3, 0, 0, .null, []), some (0, 1, 0, 0, 0, .int 2, []), some (7, 1, 0, 0, 0, .null, []), some (22, 1, 0, 0, 0, .null, []), some (32, 3, 133, 3, 44, .null, [(0, 1232)]), none, none, some (42, 1, 0, 0, 0, .null, []), some (3, 1, 2, 0, 0, .null, []), some (3, 1, 0, 0, 0, .null, []), some (1, 1, 3, 0, 0, .null, [])]
def zi_241_86 : List (Option zI) := [some (0, 1, 0, 0, 0, .int 1, []), some (7, 1, 0, 0, 0, .null, []), some (22, 1, 0, 0, 0, .null, []), some (3, 1, 0, 0, 0, .null, []), some (1, 1, 3, 0, 0, .null, []), some (0, 1, 0, 0, 0, .int 2, []), some (7, 1, 0, 0, 0, .null, []), some (22, 1, 0, 0, 0, .null, []), some (32, 3, 236, 3, 48, .null, [(0, 1233)]), none, none, some (42, 1, 0, 0, 0, .null, []), some (17, 3, 1414, 0, 0, .null, []), none, none, some (3, 1, 1, 0, 0, .null, [])]
def zi_241_87 : List (Option zI) := [some (3, 1, 0, 0, 0, .null, []), some (1, 1, 3, 0, 0, .null, []), some (0, 1, 0, 0, 0, .int 1, []), some (7, 1, 0, 0, 0, .null, []), some (22, 1, 0, 0, 0, .null, []), some (32, 3, 134, 2, 44, .null, [(0, 1234)]), none, none, some (42, 1, 0, 0, 0, .null, []), some (3, 1, 2, 0, 0, .null, []), some (3, 1, 0, 0, 0, .null, []), some (1, 1, 3, 0, 0, .null, []), some (0, 1, 0, 0, 0, .int 1, []), some (7, 1, 0, 0, 0, .null, []), some (22, 1, 0, 0, 0, .null, []), some (32, 3, 237, 2, 48, .null, [(0, 1235)])]
def zi_241_88 : List (Option zI) := [none, none, some (42, 1, 0, 0, 0, .null, []), some (17, 3, 1414, 0, 0, .null, []), none, none, some (19, 3, 3, 0, 0, .int 6, []), none, none, some (17, 3, 18, 0, 0, .null, []), none, none, some (0, 1, 0, 0, 0, .int 1, []), some (35, 1, 0, 0, 1, .null, [])]
def zi_241 : List (List (Option zI)) := [zi_241_0, zi_241_1, zi_241_2, zi_241_3, zi_241_4, zi_241_5, zi_241_6, zi_241_7, zi_241_8, zi_241_9, zi_241_10, zi_241_11, zi_241_12, zi_241_13, zi_241_14, zi_241_15, zi_241_16, zi_241_17, zi_241_18, zi_241_19, zi_241_20, zi_241_21, zi_241_22, zi_241_23, zi_241_24, zi_241_25, zi_241_26, zi_241_27, zi_241_28, zi_241_29, zi_241_30, zi_241_31, zi_241_32, zi_241_33, zi_241_34, zi_241_35, zi_241_36, zi_241_37, zi_241_38, zi_241_39, zi_241_40, zi_241_41, zi_241_42, zi_241_43, zi_241_44, zi_241_45, zi_241_46, zi_241_47, zi_241_48, zi_241_49, zi_241_50, zi_241_51, zi_241_52, zi_241_53, zi_241_54, zi_241_55, zi_241_56, zi_241_57, zi_241_58, zi_241_59, zi_241_60, zi_241_61, zi_241_62, zi_241_63, zi_241_64, zi_241_65, zi_241_66, zi_241_67, zi_241_68, zi_241_69, zi_241_70, zi_241_71, zi_241_72, zi_241_73, zi_241_74, zi_241_75, zi_241_76, zi_241_77, zi_241_78, zi_241_79, zi_241_80, zi_241_81, zi_241_82, zi_241_83, zi_241_84, zi_241_85, zi_241_86, zi_241_87, zi_241_88]
def zia : List (List (List (List (Option zI)))) := [[zi_0, zi_1, zi_2, zi_3, zi_4, zi_5, zi_6, zi_7, zi_8, zi_9, zi_10, zi_11, zi_12, zi_13, zi_14, zi_15], [zi_16, zi_17, zi_18, zi_19, zi_20, zi_21, zi_22, zi_23, zi_24, zi_25, zi_26, zi_27, zi_28, zi_29, zi_30, zi_31], [zi_32, zi_33, zi_34, zi_35, zi_36, zi_37, zi_38, zi_39, zi_40, zi_41, zi_42, zi_43, zi_44, zi_45, zi_46, zi_47], [zi_48, zi_49, zi_50, zi_51, zi_52, zi_53, zi_54, zi_55, zi_56, zi_57, zi_58, zi_59, zi_60, zi_61, zi_62, zi_63], [zi_64, zi_65, zi_66, zi_67, zi_68, zi_69, zi_70, zi_71, zi_72, zi_73, zi_74, zi_75, zi_76, zi_77, zi_78, zi_79], [zi_80, zi_81, zi_82, zi_83, zi_84, zi_85, zi_86, zi_87, zi_88, zi_89, zi_90, zi_91, zi_92, zi_93, zi_94, zi_95], [zi_96, zi_97, zi_98, zi_99, zi_100, zi_101, zi_102, zi_103, zi_104, zi_105, zi_106, zi_107, zi_108, zi_109, zi_110, zi_111], [zi_112, zi_113, zi_114, zi_115, zi_116, zi_117, zi_118, zi_119, zi_120, zi_121, zi_122, zi_123, zi_124, zi_125, zi_126, zi_127], [zi_128, zi_129, zi_130, zi_131, zi_132, zi_133, zi_134, zi_135, zi_136, zi_137, zi_138, zi_139, zi_140, zi_141, zi_142, zi_143], [zi_144, zi_145, zi_146, zi_147, zi_148, zi_149, zi_150, zi_151, zi_152, zi_153, zi_154, zi_155, zi_156, zi_157, zi_158, zi_159], [zi_160, zi_161, zi_162, zi_163, zi_164, zi_165, zi_166, zi_167, zi_168, zi_169, zi_170, zi_171, zi_172, zi_173, zi_174, zi_175], [zi_176, zi_177, zi_178, zi_179, zi_180, zi_181, zi_182, zi_183, zi_184, zi_185, zi_186, zi_187, zi_188, zi_189, zi_190, zi_191], [zi_192, zi_193, zi_194, zi_195, zi_196, zi_197, zi_198, zi_199, zi_200, zi_201, zi_202, zi_203, zi_204, zi_205, zi_206, zi_207], [zi_208, zi_209, zi_210, zi_211, zi_212, zi_213, zi_214, zi_215, zi_216, zi_217, zi_218, zi_219, zi_220, zi_221, zi_222, zi_223], [zi_224, zi_225, zi_226, zi_227, zi_228, zi_229, zi_230, zi_231, zi_232, zi_233, zi_234, zi_235, zi_236, zi_237, zi_238, zi_239], [zi_240, zi_241]]
/-- the instruction of a method at a pc -/
def zi (mi pc : Nat) : Option zI := match zget zia (mi / 16) with
  | some g => match zget g (mi % 16) with
    | some t => match zget t (pc / 16) with
      | some r => match zget r (pc % 16) with
        | some e => e
        | _ => none
      | _ => none
    | _ => none
  | _ => none
/-- name, code, locals, what it returns, how many parameters, whether it is static, its own words by place: code, initialized, static or instance, selects -/
abbrev zM : Type := MethodName × ByteArray × Nat × Option FieldType × Nat × Bool × Nat × Nat × Nat × Nat
def zMlaw : zM := (yL_law, code, 4, ret, 1, true, 0, 0, 0, 0)
def zm_0 : List zM := [(yX0_init, prog_2_method_1_code, 1, none, 0, false, 0, 1, 2, 0),
  (yX0_has, prog_2_method_2_code, 2, (some .boolean), 1, false, 3, 1, 4, 5),
  (yX0_add, prog_2_method_3_code, 2, (some .int), 1, false, 6, 1, 7, 8),
  (yX0_isUnder, prog_2_method_4_code, 4, (some .boolean), 2, true, 9, 1, 10, 0),
  (yX0_bodyThatRan, prog_2_method_5_code, 2, (some .int), 1, false, 11, 1, 12, 13),
  (yX0_perform, prog_2_method_6_code, 4, (some .int), 3, false, 14, 1, 15, 16),
  (yX0_run, prog_2_method_7_code, 7, (some .int), 4, false, 17, 1, 18, 19),
  (yX0_work, prog_2_method_8_code, 5, (some .int), 4, false, 20, 1, 21, 22),
  (yX1_init, prog_3_method_1_code, 1, none, 0, false, 23, 24, 25, 0),
  (yX1_note, prog_3_method_2_code, 5, none, 4, false, 26, 24, 27, 28),
  (yX1_forgetFirst, prog_3_method_3_code, 1, none, 0, false, 29, 24, 30, 31),
  (yX1_takeBack, prog_3_method_4_code, 2, none, 1, false, 32, 24, 33, 34),
  (yX1_doAgain, prog_3_method_5_code, 2, none, 1, false, 35, 24, 36, 37),
  (yX2_init, prog_4_method_1_code, 2, none, 0, false, 38, 39, 40, 0),
  (yX2_hasHead, prog_4_method_2_code, 2, (some .boolean), 1, false, 41, 39, 42, 43),
  (yX2_hasIdea, prog_4_method_3_code, 2, (some .boolean), 1, false, 44, 39, 45, 46)]
def zm_1 : List zM := [(yX2_hasRoad, prog_4_method_4_code, 2, (some .boolean), 1, false, 47, 39, 48, 49),
  (yX2_layRoad, prog_4_method_5_code, 5, (some .int), 3, false, 50, 39, 51, 52),
  (yX2_isThere, prog_4_method_6_code, 3, (some .boolean), 2, false, 53, 39, 54, 55),
  (yX2_canBe, prog_4_method_7_code, 4, (some .boolean), 2, false, 56, 39, 57, 58),
  (yX2_numberOf, prog_4_method_8_code, 3, (some .int), 2, false, 59, 39, 60, 61),
  (yX2_setNumber, prog_4_method_9_code, 4, none, 3, false, 62, 39, 63, 64),
  (yX2_willBehind, prog_4_method_10_code, 2, (some .int), 1, false, 65, 39, 66, 67),
  (yX2_wearOf, prog_4_method_11_code, 3, (some .int), 2, false, 68, 39, 69, 70),
  (yX2_travel, prog_4_method_12_code, 5, (some .int), 2, false, 71, 39, 72, 73),
  (yX2_letAllAsk, prog_4_method_13_code, 5, none, 0, false, 74, 39, 75, 76),
  (yX2_firstOfOthers, prog_4_method_14_code, 4, (some .int), 1, false, 77, 39, 78, 79),
  (yX2_nearestOfOthers, prog_4_method_15_code, 5, (some .int), 2, false, 80, 39, 81, 82),
  (yX2_isRatherHead, prog_4_method_16_code, 3, (some .boolean), 2, false, 83, 39, 84, 85),
  (yX2_isRatherIdea, prog_4_method_17_code, 6, (some .boolean), 3, false, 86, 39, 87, 88),
  (yX2_isSettled, prog_4_method_18_code, 4, (some .boolean), 0, false, 89, 39, 90, 91),
  (yX2_fewestYokes, prog_4_method_19_code, 4, (some .int), 0, false, 92, 39, 93, 94)]
def zm_2 : List zM := [(yX2_greatestClash, prog_4_method_20_code, 3, (some .int), 0, false, 95, 39, 96, 97),
  (yX2_allClash, prog_4_method_21_code, 5, (some .boolean), 1, false, 98, 39, 99, 100),
  (yX3_init, prog_5_method_1_code, 1, none, 0, false, 101, 102, 103, 0),
  (yX3_become, prog_5_method_2_code, 2, none, 1, false, 104, 102, 105, 106),
  (yX3_becomeByDeeds, prog_5_method_3_code, 2, none, 1, false, 107, 102, 108, 109),
  (yX3_grip, prog_5_method_4_code, 1, (some .int), 0, false, 110, 102, 111, 112),
  (yX3_isLame, prog_5_method_5_code, 1, (some .boolean), 0, false, 113, 102, 114, 115),
  (yX3_canClimb, prog_5_method_6_code, 2, (some .boolean), 1, false, 116, 102, 117, 118),
  (yX3_setsOutOn, prog_5_method_7_code, 2, (some .boolean), 1, false, 119, 102, 120, 121),
  (yX3_wearBy, prog_5_method_8_code, 2, none, 1, false, 122, 102, 123, 124),
  (yX3_cool, prog_5_method_9_code, 2, none, 1, false, 125, 102, 126, 127),
  (yX3_strike, prog_5_method_10_code, 2, (some .boolean), 1, false, 128, 102, 129, 130),
  (yX3_heatUp, prog_5_method_11_code, 2, (some .boolean), 0, false, 131, 102, 132, 133),
  (yX3_drawTo, prog_5_method_12_code, 2, (some .boolean), 1, false, 134, 102, 135, 136),
  (yX3_nail, prog_5_method_13_code, 1, (some .boolean), 0, false, 137, 102, 138, 139),
  (yX4_init, prog_6_method_1_code, 1, none, 0, false, 140, 141, 142, 0)]
def zm_3 : List zM := [(yX4_read, prog_6_method_2_code, 6, none, 2, false, 143, 141, 144, 145),
  (yX4_allGone, prog_6_method_3_code, 4, (some .boolean), 2, false, 146, 141, 147, 148),
  (yX4_goesStage, prog_6_method_4_code, 6, (some .boolean), 3, false, 149, 141, 150, 151),
  (yX4_firstWrong, prog_6_method_5_code, 6, (some .int), 3, false, 152, 141, 153, 154),
  (yX5_init, prog_7_method_1_code, 1, none, 0, false, 155, 156, 157, 0),
  (yX5_clear, prog_7_method_2_code, 1, none, 0, false, 158, 156, 159, 160),
  (yX5_add, prog_7_method_3_code, 2, none, 1, false, 161, 156, 162, 163),
  (yX5_addName, prog_7_method_4_code, 2, none, 1, false, 164, 156, 165, 166),
  (yX5_addSkip, prog_7_method_5_code, 1, (some .int), 0, false, 167, 156, 168, 169),
  (yX5_endSkip, prog_7_method_6_code, 2, none, 1, false, 170, 156, 171, 172),
  (yX5_worth, prog_7_method_7_code, 8, (some .int), 1, false, 173, 156, 174, 175),
  (yX5_isName, prog_7_method_8_code, 1, (some .boolean), 1, true, 176, 156, 177, 0),
  (yX5_joined, prog_7_method_9_code, 3, (some .int), 3, true, 178, 156, 179, 0),
  (yX6_init, prog_8_method_1_code, 1, none, 0, false, 180, 181, 182, 0),
  (yX6_take, prog_8_method_2_code, 2, (some .boolean), 1, false, 183, 181, 184, 185),
  (yX6_readInto, prog_8_method_3_code, 3, (some .int), 1, false, 186, 181, 187, 188)]
def zm_4 : List zM := [(yX6_readLine, prog_8_method_4_code, 3, (some .boolean), 1, false, 189, 181, 190, 191),
  (yX6_readLevel, prog_8_method_5_code, 7, (some .boolean), 3, false, 192, 181, 193, 194),
  (yX6_readOperand, prog_8_method_6_code, 5, (some .boolean), 2, false, 195, 181, 196, 197),
  (yX6_readNumber, prog_8_method_7_code, 4, (some .boolean), 1, false, 198, 181, 199, 200),
  (yX6_letter, prog_8_method_8_code, 1, (some .int), 0, false, 201, 181, 202, 203),
  (yX6_passes, prog_8_method_9_code, 2, (some .boolean), 1, false, 204, 181, 205, 206),
  (yX6_isDigit, prog_8_method_10_code, 1, (some .boolean), 1, true, 207, 181, 208, 0),
  (yX6_nameOf, prog_8_method_11_code, 1, (some .int), 1, true, 209, 181, 210, 0),
  (yX6_levelOf, prog_8_method_12_code, 1, (some .int), 1, true, 211, 181, 212, 0),
  (yX7_init, prog_9_method_1_code, 1, none, 0, false, 213, 214, 215, 0),
  (yX7_farEnd, prog_9_method_2_code, 2, (some .int), 1, false, 216, 214, 217, 218),
  (yX8_init, prog_10_method_1_code, 1, none, 0, false, 219, 220, 221, 0),
  (yX8_holdSmith, prog_10_method_2_code, 2, none, 1, false, 222, 220, 223, 224),
  (yX8_holdRow, prog_10_method_3_code, 3, none, 2, false, 225, 220, 226, 227),
  (yX8_isBytes, prog_10_method_4_code, 1, (some .boolean), 0, false, 228, 220, 229, 230),
  (yX8_hasRange, prog_10_method_5_code, 3, (some .boolean), 2, false, 231, 220, 232, 233)]
def zm_5 : List zM := [(yX8_cut, prog_10_method_6_code, 3, (some .long), 1, false, 234, 220, 235, 236),
  (yX9_init, prog_11_method_1_code, 1, none, 0, false, 237, 238, 239, 0),
  (yX9_fewestFor, prog_11_method_2_code, 5, (some .int), 3, false, 240, 238, 241, 242),
  (yX9_addNext, prog_11_method_3_code, 5, none, 2, false, 243, 238, 244, 245),
  (yX9_isFound, prog_11_method_4_code, 3, (some .boolean), 1, false, 246, 238, 247, 248),
  (yX9_tellPlan, prog_11_method_5_code, 5, (some .int), 1, false, 249, 238, 250, 251),
  (yX9_stateOf, prog_11_method_6_code, 1, (some .int), 1, true, 252, 238, 253, 0),
  (yX9_recall, prog_11_method_7_code, 3, none, 2, false, 254, 238, 255, 256),
  (yX10_init, prog_12_method_1_code, 2, none, 0, false, 257, 258, 259, 0),
  (yX10_seek, prog_12_method_2_code, 5, none, 4, false, 260, 258, 261, 262),
  (yX10_follow, prog_12_method_3_code, 9, none, 5, false, 263, 258, 264, 265),
  (yX10_weigh, prog_12_method_4_code, 4, none, 1, false, 266, 258, 267, 268),
  (yX11_init, prog_1_method_1_code, 2, none, 0, false, 269, 270, 271, 0),
  (yX11_head, prog_1_method_2_code, 2, (some .int), 1, false, 272, 270, 273, 274),
  (yX11_idea, prog_1_method_3_code, 4, (some .int), 2, false, 275, 270, 276, 277),
  (yX11_road, prog_1_method_4_code, 3, (some .int), 2, false, 278, 270, 279, 280)]
def zm_6 : List zM := [(yX11_roads, prog_1_method_5_code, 7, (some .int), 3, false, 281, 270, 282, 283),
  (yX11_layRoadFrom, prog_1_method_6_code, 9, (some .boolean), 2, false, 284, 270, 285, 286),
  (yX11_mend, prog_1_method_7_code, 5, (some .int), 3, false, 287, 270, 288, 289),
  (yX11_of, prog_1_method_8_code, 3, (some .int), 2, false, 290, 270, 291, 292),
  (yX11_feed, prog_1_method_9_code, 2, (some .int), 1, false, 293, 270, 294, 295),
  (yX11_law, prog_1_method_10_code, 3, (some .int), 0, false, 296, 270, 297, 298),
  (yX11_wears, prog_1_method_11_code, 3, (some .int), 2, false, 299, 270, 300, 301),
  (yX11_journey, prog_1_method_12_code, 7, (some .int), 3, false, 302, 270, 303, 304),
  (yX11_strokes, prog_1_method_13_code, 6, (some .int), 3, false, 305, 270, 306, 307),
  (yX11_way, prog_1_method_14_code, 4, (some .int), 3, false, 308, 270, 309, 310),
  (yX11_reach, prog_1_method_15_code, 9, (some .int), 2, false, 311, 270, 312, 313),
  (yX11_asks, prog_1_method_16_code, 2, (some .int), 1, false, 314, 270, 315, 316),
  (yX11_settled, prog_1_method_17_code, 1, (some .int), 0, false, 317, 270, 318, 319),
  (yX11_yokes, prog_1_method_18_code, 3, (some .int), 1, false, 320, 270, 321, 322),
  (yX11_judge, prog_1_method_19_code, 4, (some .int), 2, false, 323, 270, 324, 325),
  (yX11_edge, prog_1_method_20_code, 9, (some .int), 3, false, 326, 270, 327, 328)]
def zm_7 : List zM := [(yX11_byTurns, prog_1_method_21_code, 5, (some .int), 3, false, 329, 270, 330, 331),
  (yX11_wornAtBest, prog_1_method_22_code, 3, (some .int), 2, false, 332, 270, 333, 334),
  (yX11_leastBySmith, prog_1_method_23_code, 7, (some .int), 2, false, 335, 270, 336, 337),
  (yX11_mostByKicker, prog_1_method_24_code, 6, (some .int), 2, false, 338, 270, 339, 340),
  (yX11_drawn, prog_1_method_25_code, 14, (some .int), 4, false, 341, 270, 342, 343),
  (yX11_stroke, prog_1_method_26_code, 4, (some .int), 2, false, 344, 270, 345, 346),
  (yX11_goes, prog_1_method_27_code, 6, (some .int), 2, false, 347, 270, 348, 349),
  (yX11_deal, prog_1_method_28_code, 3, (some .int), 0, false, 350, 270, 351, 352),
  (yX11_led, prog_1_method_29_code, 2, (some .int), 1, false, 353, 270, 354, 355),
  (yX11_image, prog_1_method_30_code, 2, (some .int), 0, false, 356, 270, 357, 358),
  (yX11_back, prog_1_method_31_code, 2, (some .int), 0, false, 359, 270, 360, 361),
  (yX11_undo, prog_1_method_32_code, 1, (some .int), 0, false, 362, 270, 363, 364),
  (yX11_redo, prog_1_method_33_code, 1, (some .int), 0, false, 365, 270, 366, 367),
  (yX11_body, prog_1_method_34_code, 2, (some .int), 1, false, 368, 270, 369, 370),
  (yX11_act, prog_1_method_35_code, 4, (some .int), 3, false, 371, 270, 372, 373),
  (yX11_trace, prog_1_method_36_code, 2, (some .int), 1, false, 374, 270, 375, 376)]
def zm_8 : List zM := [(yX11_keep, prog_1_method_37_code, 3, (some .int), 2, false, 377, 270, 378, 379),
  (yX11_row, prog_1_method_38_code, 4, (some .int), 3, false, 380, 270, 381, 382),
  (yX11_put, prog_1_method_39_code, 6, (some .int), 3, false, 383, 270, 384, 385),
  (yX11_element, prog_1_method_40_code, 3, (some .long), 2, false, 386, 270, 387, 388),
  (yX11_shift, prog_1_method_41_code, 8, (some .int), 5, false, 389, 270, 390, 391),
  (yX11_taken, prog_1_method_42_code, 5, (some .int), 2, false, 392, 270, 393, 394),
  (yX11_count, prog_1_method_43_code, 2, (some .int), 1, false, 395, 270, 396, 397),
  (yX11_isShelf, prog_1_method_44_code, 1, (some .boolean), 1, true, 398, 270, 399, 0),
  (yX11_areShelves, prog_1_method_45_code, 1, (some .boolean), 1, true, 400, 270, 401, 0),
  (yX11_isPlace, prog_1_method_46_code, 2, (some .boolean), 1, true, 402, 270, 403, 0),
  (yX11_areUnlikePlaces, prog_1_method_47_code, 1, (some .boolean), 1, true, 404, 270, 405, 0),
  (yX11_thoughtOf, prog_1_method_48_code, 2, (some (.object "ColdShod$Idea")), 1, false, 406, 270, 407, 408),
  (yX11_refusalOfBytes, prog_1_method_49_code, 1, (some .int), 1, true, 409, 270, 410, 0),
  (yX11_refusalOfEdge, prog_1_method_50_code, 3, (some .int), 1, false, 411, 270, 412, 413),
  (yX11_refusalOfElement, prog_1_method_51_code, 3, (some .int), 2, false, 414, 270, 415, 416),
  (yX12_within, prog_14_method_1_code, 6, (some .boolean), 3, true, 417, 418, 419, 0)]
def zm_9 : List zM := [(yX12_isIn, prog_14_method_2_code, 2, (some .boolean), 2, true, 420, 418, 421, 0),
  (yX12_bitsOf, prog_14_method_3_code, 3, (some .int), 1, true, 422, 418, 423, 0),
  (yX12_sizeOf, prog_14_method_4_code, 1, (some .int), 1, true, 424, 418, 425, 0),
  (yX12_init, prog_14_method_5_code, 2, none, 0, false, 426, 418, 427, 0),
  (yX12_becomes, prog_14_method_6_code, 5, (some .int), 2, false, 428, 418, 429, 430),
  (yX12_undo, prog_14_method_7_code, 1, (some .int), 0, false, 431, 418, 432, 433),
  (yX12_redo, prog_14_method_8_code, 1, (some .int), 0, false, 434, 418, 435, 436),
  (yX12_isHead, prog_14_method_9_code, 3, (some .boolean), 1, false, 437, 418, 438, 439),
  (yX12_isIdea, prog_14_method_10_code, 3, (some .boolean), 1, false, 440, 418, 441, 442),
  (yX12_isRoad, prog_14_method_11_code, 3, (some .boolean), 1, false, 443, 418, 444, 445),
  (yX12_isPlace, prog_14_method_12_code, 2, (some .boolean), 1, true, 446, 418, 447, 0),
  (yX12_head, prog_14_method_13_code, 2, (some .int), 1, false, 448, 418, 449, 450),
  (yX12_idea, prog_14_method_14_code, 3, (some .int), 2, false, 451, 418, 452, 453),
  (yX12_mayCome, prog_14_method_15_code, 6, (some .boolean), 3, true, 454, 418, 455, 0),
  (yX12_adds, prog_14_method_16_code, 4, none, 3, false, 456, 418, 457, 458),
  (yX12_road, prog_14_method_17_code, 3, (some .int), 2, false, 459, 418, 460, 461)]
def zm_10 : List zM := [(yX12_roads, prog_14_method_18_code, 7, (some .int), 3, false, 462, 418, 463, 464),
  (yX12_placeOf, prog_14_method_19_code, 3, (some .int), 2, false, 465, 418, 466, 467),
  (yX12_mayBecome, prog_14_method_20_code, 3, (some .boolean), 2, false, 468, 418, 469, 470),
  (yX12_mend, prog_14_method_21_code, 5, (some .int), 3, false, 471, 418, 472, 473),
  (yX12_of, prog_14_method_22_code, 4, (some .int), 2, false, 474, 418, 475, 476),
  (yX12_feed, prog_14_method_23_code, 2, (some .int), 1, false, 477, 418, 478, 479),
  (yX12_byteAt, prog_14_method_24_code, 1, (some .int), 0, false, 480, 418, 481, 482),
  (yX12_wrong, prog_14_method_25_code, 1, (some .int), 0, false, 483, 418, 484, 485),
  (yX12_takes, prog_14_method_26_code, 2, (some .boolean), 1, false, 486, 418, 487, 488),
  (yX12_either, prog_14_method_27_code, 3, (some .int), 0, false, 489, 418, 490, 491),
  (yX12_both, prog_14_method_28_code, 3, (some .int), 0, false, 492, 418, 493, 494),
  (yX12_compared, prog_14_method_29_code, 4, (some .int), 0, false, 495, 418, 496, 497),
  (yX12_sums, prog_14_method_30_code, 4, (some .int), 0, false, 498, 418, 499, 500),
  (yX12_product, prog_14_method_31_code, 4, (some .int), 0, false, 501, 418, 502, 503),
  (yX12_nameOf, prog_14_method_32_code, 1, (some .int), 1, true, 504, 418, 505, 0),
  (yX12_one, prog_14_method_33_code, 5, (some .int), 0, false, 506, 418, 507, 508)]
def zm_11 : List zM := [(yX12_workOut, prog_14_method_34_code, 8, (some .int), 2, false, 509, 418, 510, 511),
  (yX12_law, prog_14_method_35_code, 4, (some .int), 0, false, 512, 418, 513, 514),
  (yX12_begins, prog_14_method_36_code, 3, none, 1, false, 515, 418, 516, 517),
  (yX12_gripOf, prog_14_method_37_code, 1, (some .int), 1, true, 518, 418, 519, 0),
  (yX12_wearsNow, prog_14_method_38_code, 4, (some .int), 1, false, 520, 418, 521, 522),
  (yX12_wears, prog_14_method_39_code, 3, (some .int), 2, false, 523, 418, 524, 525),
  (yX12_mayGo, prog_14_method_40_code, 2, (some .boolean), 1, false, 526, 418, 527, 528),
  (yX12_goesRoad, prog_14_method_41_code, 3, none, 1, false, 529, 418, 530, 531),
  (yX12_strikes, prog_14_method_42_code, 2, (some .boolean), 1, false, 532, 418, 533, 534),
  (yX12_drawsBy, prog_14_method_43_code, 2, (some .boolean), 1, false, 535, 418, 536, 537),
  (yX12_bytesIs, prog_14_method_44_code, 2, (some .int), 1, false, 538, 418, 539, 540),
  (yX12_roadMany, prog_14_method_45_code, 3, (some .int), 1, false, 541, 418, 542, 543),
  (yX12_goesJourney, prog_14_method_46_code, 3, none, 1, false, 544, 418, 545, 546),
  (yX12_journey, prog_14_method_47_code, 4, (some .int), 3, false, 547, 418, 548, 549),
  (yX12_goesBy, prog_14_method_48_code, 6, (some .boolean), 4, false, 550, 418, 551, 552),
  (yX12_strokes, prog_14_method_49_code, 5, (some .int), 3, false, 553, 418, 554, 555)]
def zm_12 : List zM := [(yX12_triesWay, prog_14_method_50_code, 8, none, 5, false, 556, 418, 557, 558),
  (yX12_way, prog_14_method_51_code, 4, (some .int), 3, false, 559, 418, 560, 561),
  (yX12_reach, prog_14_method_52_code, 6, (some .int), 2, false, 562, 418, 563, 564),
  (yX12_headRather, prog_14_method_53_code, 6, (some .boolean), 3, false, 565, 418, 566, 567),
  (yX12_ideaRather, prog_14_method_54_code, 3, (some .boolean), 2, false, 568, 418, 569, 570),
  (yX12_ideaOf, prog_14_method_55_code, 3, (some .int), 1, false, 571, 418, 572, 573),
  (yX12_allAsk, prog_14_method_56_code, 5, none, 0, false, 574, 418, 575, 576),
  (yX12_asks, prog_14_method_57_code, 2, (some .int), 1, false, 577, 418, 578, 579),
  (yX12_settled, prog_14_method_58_code, 6, (some .int), 0, false, 580, 418, 581, 582),
  (yX12_goTogether, prog_14_method_59_code, 3, (some .boolean), 2, false, 583, 418, 584, 585),
  (yX12_yokes, prog_14_method_60_code, 7, (some .int), 1, false, 586, 418, 587, 588),
  (yX12_rowsAre, prog_14_method_61_code, 2, (some .int), 1, false, 589, 418, 590, 591),
  (yX12_firstFalse, prog_14_method_62_code, 5, (some .int), 2, false, 592, 418, 593, 594),
  (yX12_judge, prog_14_method_63_code, 3, (some .int), 2, false, 595, 418, 596, 597),
  (yX12_edge, prog_14_method_64_code, 8, (some .int), 3, false, 598, 418, 599, 600),
  (yX12_playsFrom, prog_14_method_65_code, 7, (some .int), 3, false, 601, 418, 602, 603)]
def zm_13 : List zM := [(yX12_byTurns, prog_14_method_66_code, 5, (some .int), 3, false, 604, 418, 605, 606),
  (yX12_drawn, prog_14_method_67_code, 11, (some .int), 4, false, 607, 418, 608, 609),
  (yX12_keepsOwn, prog_14_method_68_code, 3, none, 1, false, 610, 418, 611, 612),
  (yX12_stroke, prog_14_method_69_code, 4, (some .int), 2, false, 613, 418, 614, 615),
  (yX12_goes, prog_14_method_70_code, 3, (some .int), 2, false, 616, 418, 617, 618),
  (yX12_deal, prog_14_method_71_code, 3, (some .int), 0, false, 619, 418, 620, 621),
  (yX12_led, prog_14_method_72_code, 2, (some .int), 1, false, 622, 418, 623, 624),
  (yX12_image, prog_14_method_73_code, 2, (some .int), 0, false, 625, 418, 626, 627),
  (yX12_back, prog_14_method_74_code, 2, (some .int), 0, false, 628, 418, 629, 630),
  (yX12_isBody, prog_14_method_75_code, 2, (some .boolean), 1, false, 631, 418, 632, 633),
  (yX12_kindOf, prog_14_method_76_code, 2, (some .int), 1, false, 634, 418, 635, 636),
  (yX12_body, prog_14_method_77_code, 2, (some .int), 1, false, 637, 418, 638, 639),
  (yX12_above, prog_14_method_78_code, 1, (some .int), 1, true, 640, 418, 641, 0),
  (yX12_runs, prog_14_method_79_code, 2, none, 1, false, 642, 418, 643, 644),
  (yX12_heatsAs, prog_14_method_80_code, 3, (some .int), 2, false, 645, 418, 646, 647),
  (yX12_drawsAs, prog_14_method_81_code, 4, (some .int), 2, false, 648, 418, 649, 650)]
def zm_14 : List zM := [(yX12_nailsAs, prog_14_method_82_code, 4, (some .int), 2, false, 651, 418, 652, 653),
  (yX12_tellsAs, prog_14_method_83_code, 4, (some .int), 2, false, 654, 418, 655, 656),
  (yX12_act, prog_14_method_84_code, 4, (some .int), 3, false, 657, 418, 658, 659),
  (yX12_trace, prog_14_method_85_code, 2, (some .int), 1, false, 660, 418, 661, 662),
  (yX12_isShelf, prog_14_method_86_code, 1, (some .boolean), 1, true, 663, 418, 664, 0),
  (yX12_keep, prog_14_method_87_code, 3, (some .int), 2, false, 665, 418, 666, 667),
  (yX12_row, prog_14_method_88_code, 5, (some .int), 3, false, 668, 418, 669, 670),
  (yX12_refusal, prog_14_method_89_code, 3, (some .int), 2, false, 671, 418, 672, 673),
  (yX12_asSort, prog_14_method_90_code, 3, (some .long), 2, true, 674, 418, 675, 0),
  (yX12_put, prog_14_method_91_code, 6, (some .int), 3, false, 676, 418, 677, 678),
  (yX12_element, prog_14_method_92_code, 3, (some .long), 2, false, 679, 418, 680, 681),
  (yX12_shift, prog_14_method_93_code, 7, (some .int), 5, false, 682, 418, 683, 684),
  (yX12_taken, prog_14_method_94_code, 4, (some .int), 2, false, 685, 418, 686, 687),
  (yX12_count, prog_14_method_95_code, 2, (some .int), 1, false, 688, 418, 689, 690),
  (yJ6_bitCount_0f7a4, prog_15_method_49_code, 1, (some .int), 1, true, 691, 692, 693, 0),
  (yJ7_fill_d0a16, prog_18_method_101_code, 5, none, 2, true, 694, 695, 696, 0)]
def zm_15 : List zM := [(yJ7_fill_53178, prog_18_method_103_code, 4, none, 2, true, 697, 695, 698, 0),
  zMlaw]
def zma : List (List zM) := [zm_0, zm_1, zm_2, zm_3, zm_4, zm_5, zm_6, zm_7, zm_8, zm_9, zm_10, zm_11, zm_12, zm_13, zm_14, zm_15]
def zm (mi : Nat) : Option zM := match zget zma (mi / 16) with
  | some g => zget g (mi % 16)
  | _ => none
def zLa : List (List Nat) := [[1, 2, 2, 4, 2, 4, 7, 5, 1, 5, 1, 2, 2, 2, 2, 2], [2, 5, 3, 4, 3, 4, 2, 3, 5, 5, 4, 5, 3, 6, 4, 4], [3, 5, 1, 2, 2, 1, 1, 2, 2, 2, 2, 2, 2, 2, 1, 1], [6, 4, 6, 6, 1, 1, 2, 2, 1, 2, 8, 1, 3, 1, 2, 3], [3, 7, 5, 4, 1, 2, 1, 1, 1, 1, 2, 1, 2, 3, 1, 3], [3, 1, 5, 5, 3, 5, 1, 3, 2, 5, 9, 4, 2, 2, 4, 3], [7, 9, 5, 3, 2, 3, 3, 7, 6, 4, 9, 2, 1, 3, 4, 9], [5, 3, 7, 6, 14, 4, 6, 3, 2, 2, 2, 1, 1, 2, 4, 2], [3, 4, 6, 3, 8, 5, 2, 1, 1, 2, 1, 2, 1, 3, 3, 6], [2, 3, 1, 2, 5, 1, 1, 3, 3, 3, 2, 2, 3, 6, 4, 3], [7, 3, 3, 5, 4, 2, 1, 1, 2, 3, 3, 4, 4, 4, 1, 5], [8, 4, 3, 1, 4, 3, 2, 3, 2, 2, 2, 3, 3, 4, 6, 5], [8, 4, 6, 6, 3, 3, 5, 2, 6, 3, 7, 2, 5, 3, 8, 7], [5, 11, 3, 4, 3, 3, 2, 2, 2, 2, 2, 2, 1, 2, 3, 4], [4, 4, 4, 2, 1, 3, 5, 3, 3, 6, 3, 7, 4, 2, 1, 5], [4, 4]]
/-- how many locals a method has -/
def zL (mi : Nat) : Nat := match zget zLa (mi / 16) with
  | some g => (zget g (mi % 16)).getD 0
  | _ => 0
/-- the number of the law itself: nobody calls it -/
abbrev zlaw : Nat := 241
def zfa : List (List Bool) := [[true, false, false, true, false, false], [false, false, true, true, true, true], [true, true, true, true, true, true, false, false, false, true, true], [false, false, false, false, false, false, false], [true, false, false, false], [false, true, false, true], [true, false, false], [false, false, false, false, false], [false, false, false, false, true], [true, true, true, true, true, true, false], [true, false, false, true, true], [true, true, true, true, true, true, true, true, true, true, true, true, false, false], [true, true, true, true, false, false, false, false, false, true, true, true, false, true, false, false, false, false, false, false, true, true, false, false, false, false, true, true, true, false, false, true, true, true, true, false, false, true, true, false, true, true, false, false, false, true, true, true, true]]
/-- whether a field holds a reference -/
def zft (c k : Nat) : Bool := match zget zfa c with
  | some g => (zget g k).getD false
  | _ => false
def zrun : Nat → Nat → Nat → zC → Option (Option Value × zH)
  | 0, _, _, _ => none
  | f + 1, d, mi, x => match zi mi x.1 with
    | none => none
    | some e => match zstep e x with
      | none => none
      | some (.inl y) => zrun f d mi y
      | some (.inr (.inr r)) => some (r, x.2.2.2)
      | some (.inr (.inl (a, as, y))) => match d with
        | 0 => none
        | d1 + 1 => match zrun f d1 a (0, zpad (zL a) (zargs as), [], x.2.2.2) with
          | none => none
          | some (r, h1) => zrun f (d1 + 1) mi (y.1, y.2.1, r.toList ++ y.2.2.1, h1)
end
section
/-! THE TABLES AND THE PRINTED CODE: each entry is what decode and the words of the Statement say. -/
def zw (p : Nat) : Option Cond := match zget zW (p / 16) with
  | some g => zget g (p % 16)
  | _ => none
def zis (p : Nat) (w : Cond) : Bool := decide (zw p = some w)
def zp (sw : List (Int32 × Nat)) (k : Nat) : Nat := match zget sw k with
  | some q => q.2
  | _ => 0
/-- the classes of rows of objects, and the static rows -/
def zcn : Nat → String
  | 2 => RX3
  | 3 => RX7
  | _ => RX8
def zsC : Nat → String
  | 1 => RX11
  | 2 => RX11
  | 3 => RX11
  | _ => RX0
def zsN : Nat → String
  | 1 => "MOST"
  | 2 => "LEAST"
  | 3 => "SMITH_DEEDS"
  | 4 => "ABOVE"
  | _ => "BODIES"
def zcnd : ClassFile.Cond → Nat
  | .eq => 0
  | .ne => 1
  | .lt => 2
  | .ge => 3
  | .gt => 4
  | .le => 5
def zc0 (own : String) (len : Nat) (v : Value) (sw : List (Int32 × Nat)) : Instr → Bool
  | .iconst n => decide (len = 1) && decide (v = .int (Int32.ofInt n))
  | .bipush n => decide (len = 2) && decide (v = .int (Int8.ofInt n).toInt32)
  | .sipush n => decide (len = 3) && decide (v = .int (Int16.ofInt n).toInt32)
  | .ldc k => decide (len = 2) && (match v with
    | .int x => zis (zp sw 0) (.constant own k x)
    | _ => false)
  | .ldc_w k => decide (len = 3) && (match v with
    | .int x => zis (zp sw 0) (.constant own k x)
    | _ => false)
  | .lconst n => decide (len = 1) && decide (v = .long (Int64.ofNat n))
  | .ldc2_w k => decide (len = 3) && (match v with
    | .long x => zis (zp sw 0) (.constantLong own k x)
    | _ => false)
  | _ => false
def zc1 (len a : Nat) : Instr → Bool
  | .iload n => decide (len = 2) && decide (a = n)
  | .iload_n k => decide (len = 1) && decide ((k : Nat) = a)
  | _ => false
def zc2 (len a : Nat) : Instr → Bool
  | .lload n => decide (len = 2) && decide (a = n)
  | .lload_n k => decide (len = 1) && decide ((k : Nat) = a)
  | _ => false
def zc3 (len a : Nat) : Instr → Bool
  | .aload n => decide (len = 2) && decide (a = n)
  | .aload_n k => decide (len = 1) && decide ((k : Nat) = a)
  | _ => false
def zc4 (L len a : Nat) : Instr → Bool
  | .istore n => decide (len = 2) && decide (a = n) && decide (a < L)
  | .istore_n k => decide (len = 1) && decide ((k : Nat) = a) && decide (a < L)
  | _ => false
def zc5 (L len a : Nat) : Instr → Bool
  | .lstore n => decide (len = 2) && decide (a = n) && decide (a + 1 < L)
  | .lstore_n k => decide (len = 1) && decide ((k : Nat) = a) && decide (a + 1 < L)
  | _ => false
def zc6 (L len a : Nat) : Instr → Bool
  | .astore n => decide (len = 2) && decide (a = n) && decide (a < L)
  | .astore_n k => decide (len = 1) && decide ((k : Nat) = a) && decide (a < L)
  | _ => false
def zc7 (len b : Nat) : Instr → Bool
  | .iadd => decide (len = 1) && decide (b = 0)
  | .isub => decide (len = 1) && decide (b = 1)
  | .imul => decide (len = 1) && decide (b = 2)
  | .iand => decide (len = 1) && decide (b = 3)
  | .ior => decide (len = 1) && decide (b = 4)
  | .ixor => decide (len = 1) && decide (b = 5)
  | .ishl => decide (len = 1) && decide (b = 6)
  | .ishr => decide (len = 1) && decide (b = 7)
  | .iushr => decide (len = 1) && decide (b = 8)
  | _ => false
def zc8 (len b : Nat) : Instr → Bool
  | .idiv => decide (len = 1) && decide (b = 0)
  | .irem => decide (len = 1) && decide (b = 1)
  | _ => false
def zc9 (len b : Nat) : Instr → Bool
  | .ineg => decide (len = 1) && decide (b = 0)
  | .i2b => decide (len = 1) && decide (b = 1)
  | .i2s => decide (len = 1) && decide (b = 2)
  | _ => false
def zc10 (len : Nat) : Instr → Bool
  | .i2l => decide (len = 1)
  | _ => false
def zc11 (len : Nat) : Instr → Bool
  | .l2i => decide (len = 1)
  | _ => false
def zc12 (len b : Nat) : Instr → Bool
  | .land => decide (len = 1) && decide (b = 0)
  | .lor => decide (len = 1) && decide (b = 1)
  | _ => false
def zc13 (len : Nat) : Instr → Bool
  | .lshl => decide (len = 1)
  | _ => false
def zc14 (len : Nat) : Instr → Bool
  | .lcmp => decide (len = 1)
  | _ => false
def zc15 (pc len a b : Nat) : Instr → Bool
  | .ifCond k off => decide (len = 3) && decide (zcnd k = b) && decide ((pc : Int) + off = (a : Int))
  | _ => false
def zc16 (pc len a b : Nat) : Instr → Bool
  | .if_icmp k off => decide (len = 3) && decide (zcnd k = b) && decide ((pc : Int) + off = (a : Int))
  | _ => false
def zc17 (pc len a : Nat) : Instr → Bool
  | .goto off => decide (len = 3) && decide ((pc : Int) + off = (a : Int))
  | _ => false
/-- a table's rows, from the number lo on -/
def zrows (pc : Nat) : Int → List Int → List (Int32 × Nat) → Bool
  | _, [], [] => true
  | lo, o :: os, (k, t) :: r => decide (k.toInt = lo) && decide ((pc : Int) + o = (t : Int)) && zrows pc (lo + 1) os r
  | _, _, _ => false
def zrowl (pc : Nat) : List (Int × Int) → List (Int32 × Nat) → Bool
  | [], [] => true
  | (n, o) :: os, (k, t) :: r => decide (k.toInt = n) && decide ((pc : Int) + o = (t : Int)) && zrowl pc os r
  | _, _ => false
def zc18 (pc a : Nat) (sw : List (Int32 × Nat)) : Instr → Bool
  | .tableswitch d lo hi offs => decide ((pc : Int) + d = (a : Int)) && decide (hi = lo + (offs.toList.length : Int) - 1) && zrows pc lo offs.toList sw
  | .lookupswitch d ps => decide ((pc : Int) + d = (a : Int)) && (ps.toList.zip (ps.toList.drop 1)).all (fun (a, next) => a.1 < next.1) && zrowl pc ps.toList sw
  | _ => false
def zc19 (L len a : Nat) (v : Value) : Instr → Bool
  | .iinc n k => decide (len = 3) && decide (a = n) && decide (v = .int (Int32.ofInt k)) && decide (a < L)
  | _ => false
def zc20 (own : String) (len a b c : Nat) (sw : List (Int32 × Nat)) : Instr → Bool
  | .getfield k => decide (len = 3) && (match zget vwCl a with
    | some q => decide (b < q.2.2) && zis (zp sw 0) (.fieldLink own k q.1 (q.2.1 b).2.1 (q.2.1 b).2.2.1) && (match c with
      | 1 => zft a b
      | _ => !zft a b)
    | _ => false)
  | _ => false
def zfty (c : Nat) (t : Option FieldType) : Bool := match c, t with
  | 0, some .int => true
  | 2, some .boolean => true
  | 1, some (.object _) => true
  | 1, some (.array _) => true
  | _, _ => false
def zc21 (y : MethodName) (len a b c : Nat) (sw : List (Int32 × Nat)) : Instr → Bool
  | .putfield k => decide (len = 3) && (match zget vwCl a with
    | some q => decide (b < q.2.2) && zis (zp sw 0) (.fieldLink y.cls k q.1 (q.2.1 b).2.1 (q.2.1 b).2.2.1) && zfty c (parseFieldDescriptor (q.2.1 b).2.2.1) && (match c with
      | 1 => zft a b
      | _ => !zft a b) && (!(q.2.1 b).2.2.2 || (decide (y.name = "<init>") && decide ((q.2.1 b).1 = y.cls)))
    | _ => false)
  | _ => false
def zc22 (len : Nat) : Instr → Bool
  | .iaload => decide (len = 1)
  | _ => false
def zc23 (len : Nat) : Instr → Bool
  | .laload => decide (len = 1)
  | _ => false
def zc24 (len : Nat) : Instr → Bool
  | .aaload => decide (len = 1)
  | _ => false
def zc25 (len : Nat) : Instr → Bool
  | .iastore => decide (len = 1)
  | _ => false
def zc26 (len : Nat) : Instr → Bool
  | .lastore => decide (len = 1)
  | _ => false
def zc27 (len : Nat) : Instr → Bool
  | .aastore => decide (len = 1)
  | _ => false
def zc28 (len : Nat) : Instr → Bool
  | .arraylength => decide (len = 1)
  | _ => false
def zc29 (own : String) (len a b : Nat) (sw : List (Int32 × Nat)) : Instr → Bool
  | .new k => decide (len = 3) && (match zget vwCl a with
    | some q => decide (b = q.2.2) && zis (zp sw 0) (.classLink own k q.1) && zis (zp sw 1) (.instantiable q.1 q.2.2) && zis (zp sw 2) (.initialized q.1)
    | _ => false)
  | _ => false
def zc30 (own : String) (len a : Nat) (sw : List (Int32 × Nat)) : Instr → Bool
  | .newarray t => decide (len = 2) && (match t with
    | .int => decide (a = 0) && zis (zp sw 0) (.arrayClass .int)
    | .long => decide (a = 1) && zis (zp sw 0) (.arrayClass .long)
    | _ => false)
  | .anewarray k => decide (len = 3) && decide (2 ≤ a) && decide (a ≤ 4) && zis (zp sw 0) (.classLink own k (zcn a))
  | _ => false
def zc31 (own : String) (len b : Nat) (sw : List (Int32 × Nat)) : Instr → Bool
  | .invokestatic k => decide (len = 3) && zis (zp sw 3) (.initialized "java/lang/Math") && (match b with
    | 0 => zis (zp sw 0) (.methodLink own k Lib.Math.max.name) && zis (zp sw 1) (.code Lib.Math.max.name Lib.Math.max.code 2 (some .int)) && zis (zp sw 2) (.static Lib.Math.max.name)
    | 1 => zis (zp sw 0) (.methodLink own k Lib.Math.min.name) && zis (zp sw 1) (.code Lib.Math.min.name Lib.Math.min.code 2 (some .int)) && zis (zp sw 2) (.static Lib.Math.min.name)
    | 2 => zis (zp sw 0) (.methodLink own k Lib.Math.abs.name) && zis (zp sw 1) (.code Lib.Math.abs.name Lib.Math.abs.code 1 (some .int)) && zis (zp sw 2) (.static Lib.Math.abs.name)
    | _ => false)
  | _ => false
/-- the class of an object by its number -/
def zkn (c : Nat) : Option String := match zget vwCl c with
  | some q => some q.1
  | _ => none
def zc32 (own : String) (len a b c ci : Nat) (sw : List (Int32 × Nat)) (M : zM) : Instr → Bool
  | .invokevirtual k => decide (len = 3) && decide (c = 0) && decide (a ≠ zlaw) && decide (M.2.2.2.2.2.1 = false) && decide (b = M.2.2.2.2.1 + 1) && decide (zkn ci = some M.1.cls) && decide (M.1.name ≠ "<init>") && zis (zp sw 0) (.methodLink own k M.1)
  | .invokestatic k => decide (len = 3) && decide (c = 1) && decide (a ≠ zlaw) && decide (M.2.2.2.2.2.1 = true) && decide (b = M.2.2.2.2.1) && zis (zp sw 0) (.methodLink own k M.1)
  | .invokespecial k => decide (len = 3) && decide (a ≠ zlaw) && decide (M.2.2.2.2.2.1 = false) && decide (M.1.name = "<init>") && decide (M.2.2.2.1 = none) && decide (b = M.2.2.2.2.1 + 1) && decide (zkn ci = some M.1.cls) && (match c with
    | 2 => zis (zp sw 0) (.methodLink own k M.1)
    | 3 => decide (zget zN (zp sw 0) = some (.methodLinkNest own k M.1 RX11))
    | _ => false)
  | _ => false
def zc33 (own : String) (len : Nat) (sw : List (Int32 × Nat)) : Instr → Bool
  | .invokespecial k => decide (len = 3) && zis (zp sw 0) (.methodLink own k objectInit)
  | _ => false
def zc34 (own : String) (len : Nat) (sw : List (Int32 × Nat)) : Instr → Bool
  | .invokestatic k => decide (len = 3) && zis (zp sw 0) (.methodLink own k arraycopyName)
  | _ => false
def zc35 (len c : Nat) (r : Option FieldType) : Instr → Bool
  | .ireturn => decide (len = 1) && (match c, r with
    | 0, some .int => true
    | 1, some .boolean => true
    | _, _ => false)
  | _ => false
def zc36 (len : Nat) (r : Option FieldType) : Instr → Bool
  | .lreturn => decide (len = 1) && (match r with
    | some .long => true
    | _ => false)
  | _ => false
def zc37 (len : Nat) (r : Option FieldType) : Instr → Bool
  | .areturn => decide (len = 1) && (match r with
    | some (.object _) => true
    | _ => false)
  | _ => false
def zc38 (len : Nat) (r : Option FieldType) : Instr → Bool
  | .return_ => decide (len = 1) && (match r with
    | none => true
    | _ => false)
  | _ => false
def zc39 (len : Nat) : Instr → Bool
  | .dup => decide (len = 1)
  | _ => false
def zc40 (len : Nat) : Instr → Bool
  | .dup_x1 => decide (len = 1)
  | _ => false
def zc41 (len : Nat) : Instr → Bool
  | .dup2 => decide (len = 1)
  | _ => false
def zc42 (len : Nat) : Instr → Bool
  | .pop => decide (len = 1)
  | _ => false
def zc43 (own : String) (len a c : Nat) (sw : List (Int32 × Nat)) : Instr → Bool
  | .getstatic k => decide (len = 3) && decide (1 ≤ a) && decide (a ≤ 5) && (match c with
    | 0 => zis (zp sw 0) (.fieldLink own k (zsC a) (zsN a) "[I")
    | 1 => decide (zget zN (zp sw 0) = some (.fieldLinkNest own k (zsC a) (zsN a) "[I" RX11))
    | _ => false)
  | _ => false
def zc44 (len : Nat) : Instr → Bool
  | .pop2 => decide (len = 1)
  | _ => false
def zcI (M : zM) (pc : Nat) : zI → Instr → Bool := fun (op, len, a, b, c, v, sw) i => match op with
  | 0 => zc0 M.1.cls len v sw i
  | 1 => zc1 len a i
  | 2 => zc2 len a i
  | 3 => zc3 len a i
  | 4 => zc4 M.2.2.1 len a i
  | 5 => zc5 M.2.2.1 len a i
  | 6 => zc6 M.2.2.1 len a i
  | 7 => zc7 len b i
  | 8 => zc8 len b i
  | 9 => zc9 len b i
  | 10 => zc10 len i
  | 11 => zc11 len i
  | 12 => zc12 len b i
  | 13 => zc13 len i
  | 14 => zc14 len i
  | 15 => zc15 pc len a b i
  | 16 => zc16 pc len a b i
  | 17 => zc17 pc len a i
  | 18 => zc18 pc a sw i
  | 19 => zc19 M.2.2.1 len a v i
  | 20 => zc20 M.1.cls len a b c sw i
  | 21 => zc21 M.1 len a b c sw i
  | 22 => zc22 len i
  | 23 => zc23 len i
  | 24 => zc24 len i
  | 25 => zc25 len i
  | 26 => zc26 len i
  | 27 => zc27 len i
  | 28 => zc28 len i
  | 29 => zc29 M.1.cls len a b sw i
  | 30 => zc30 M.1.cls len a sw i
  | 31 => zc31 M.1.cls len b sw i
  | 32 => match zm a with
    | some M2 => zc32 M.1.cls len a b (c % 4) (c / 4) sw M2 i
    | _ => false
  | 33 => zc33 M.1.cls len sw i
  | 34 => zc34 M.1.cls len sw i
  | 35 => zc35 len c M.2.2.2.1 i
  | 36 => zc36 len M.2.2.2.1 i
  | 37 => zc37 len M.2.2.2.1 i
  | 38 => zc38 len M.2.2.2.1 i
  | 39 => zc39 len i
  | 40 => zc40 len i
  | 41 => zc41 len i
  | 42 => zc42 len i
  | 43 => zc43 M.1.cls len a c sw i
  | 44 => zc44 len i
  | _ => false
def zchk (M : zM) (pc : Nat) (e : zI) : Bool := match decode M.2.1 pc with
  | .ok (i, n) => decide (n = e.2.1) && zcI M pc e i
  | _ => false
def zckR (M : zM) : Nat → List (Option zI) → Bool
  | _, [] => true
  | pc, none :: r => zckR M (pc + 1) r
  | pc, some e :: r => zchk M pc e && zckR M (pc + 1) r
def zckT (M : zM) : Nat → List (List (Option zI)) → Bool
  | _, [] => true
  | pc, r :: t => zckR M pc r && zckT M (pc + 16) t
def zckM (mi : Nat) (t : List (List (Option zI))) : Bool := match zm mi with
  | some M => zckT M 0 t
  | _ => false
theorem zckR_at {M : zM} : ∀ {r : List (Option zI)} {pc j : Nat} {e : zI}, zckR M pc r = true → zget r j = some (some e) → zchk M (pc + j) e = true
  | [], _, _, _, _, h => by simp [zget] at h
  | none :: r, pc, 0, e, _, h => by simp [zget] at h
  | some x :: r, pc, 0, e, hc, h => by
    simp only [zget, Option.some.injEq] at h
    subst h
    simp only [zckR, Bool.and_eq_true] at hc
    exact hc.1
  | none :: r, pc, j + 1, e, hc, h => by
    have := zckR_at (r := r) (pc := pc + 1) (j := j) (e := e) hc h
    rw [show pc + (j + 1) = pc + 1 + j by omega]
    exact this
  | some x :: r, pc, j + 1, e, hc, h => by
    simp only [zckR, Bool.and_eq_true] at hc
    have := zckR_at (r := r) (pc := pc + 1) (j := j) (e := e) hc.2 h
    rw [show pc + (j + 1) = pc + 1 + j by omega]
    exact this
theorem zckT_at {M : zM} : ∀ {t : List (List (Option zI))} {pc q : Nat} {r : List (Option zI)}, zckT M pc t = true → zget t q = some r → zckR M (pc + 16 * q) r = true
  | [], _, _, _, _, h => by simp [zget] at h
  | x :: t, pc, 0, r, hc, h => by
    simp only [zget, Option.some.injEq] at h
    subst h
    simp only [zckT, Bool.and_eq_true] at hc
    exact hc.1
  | x :: t, pc, q + 1, r, hc, h => by
    simp only [zckT, Bool.and_eq_true] at hc
    have := zckT_at (t := t) (pc := pc + 16) (q := q) (r := r) hc.2 h
    rw [show pc + 16 * (q + 1) = pc + 16 + 16 * q by omega]
    exact this
end
section
theorem zck_0 : zckM 0 zi_0 = true := by decide +kernel
theorem zck_1 : zckM 1 zi_1 = true := by decide +kernel
theorem zck_2 : zckM 2 zi_2 = true := by decide +kernel
theorem zck_3 : zckM 3 zi_3 = true := by decide +kernel
theorem zck_4 : zckM 4 zi_4 = true := by decide +kernel
theorem zck_5 : zckM 5 zi_5 = true := by decide +kernel
theorem zck_6 : zckM 6 zi_6 = true := by decide +kernel
theorem zck_7 : zckM 7 zi_7 = true := by decide +kernel
theorem zck_8 : zckM 8 zi_8 = true := by decide +kernel
theorem zck_9 : zckM 9 zi_9 = true := by decide +kernel
theorem zck_10 : zckM 10 zi_10 = true := by decide +kernel
theorem zck_11 : zckM 11 zi_11 = true := by decide +kernel
theorem zck_12 : zckM 12 zi_12 = true := by decide +kernel
theorem zck_13 : zckM 13 zi_13 = true := by decide +kernel
theorem zck_14 : zckM 14 zi_14 = true := by decide +kernel
theorem zck_15 : zckM 15 zi_15 = true := by decide +kernel
theorem zck_16 : zckM 16 zi_16 = true := by decide +kernel
theorem zck_17 : zckM 17 zi_17 = true := by decide +kernel
theorem zck_18 : zckM 18 zi_18 = true := by decide +kernel
theorem zck_19 : zckM 19 zi_19 = true := by decide +kernel
theorem zck_20 : zckM 20 zi_20 = true := by decide +kernel
theorem zck_21 : zckM 21 zi_21 = true := by decide +kernel
theorem zck_22 : zckM 22 zi_22 = true := by decide +kernel
theorem zck_23 : zckM 23 zi_23 = true := by decide +kernel
theorem zck_24 : zckM 24 zi_24 = true := by decide +kernel
theorem zck_25 : zckM 25 zi_25 = true := by decide +kernel
theorem zck_26 : zckM 26 zi_26 = true := by decide +kernel
theorem zck_27 : zckM 27 zi_27 = true := by decide +kernel
theorem zck_28 : zckM 28 zi_28 = true := by decide +kernel
theorem zck_29 : zckM 29 zi_29 = true := by decide +kernel
theorem zck_30 : zckM 30 zi_30 = true := by decide +kernel
theorem zck_31 : zckM 31 zi_31 = true := by decide +kernel
theorem zck_32 : zckM 32 zi_32 = true := by decide +kernel
theorem zck_33 : zckM 33 zi_33 = true := by decide +kernel
theorem zck_34 : zckM 34 zi_34 = true := by decide +kernel
theorem zck_35 : zckM 35 zi_35 = true := by decide +kernel
theorem zck_36 : zckM 36 zi_36 = true := by decide +kernel
theorem zck_37 : zckM 37 zi_37 = true := by decide +kernel
theorem zck_38 : zckM 38 zi_38 = true := by decide +kernel
theorem zck_39 : zckM 39 zi_39 = true := by decide +kernel
theorem zck_40 : zckM 40 zi_40 = true := by decide +kernel
theorem zck_41 : zckM 41 zi_41 = true := by decide +kernel
theorem zck_42 : zckM 42 zi_42 = true := by decide +kernel
theorem zck_43 : zckM 43 zi_43 = true := by decide +kernel
end
section
theorem zck_44 : zckM 44 zi_44 = true := by decide +kernel
theorem zck_45 : zckM 45 zi_45 = true := by decide +kernel
theorem zck_46 : zckM 46 zi_46 = true := by decide +kernel
theorem zck_47 : zckM 47 zi_47 = true := by decide +kernel
theorem zck_48 : zckM 48 zi_48 = true := by decide +kernel
theorem zck_49 : zckM 49 zi_49 = true := by decide +kernel
theorem zck_50 : zckM 50 zi_50 = true := by decide +kernel
theorem zck_51 : zckM 51 zi_51 = true := by decide +kernel
theorem zck_52 : zckM 52 zi_52 = true := by decide +kernel
theorem zck_53 : zckM 53 zi_53 = true := by decide +kernel
theorem zck_54 : zckM 54 zi_54 = true := by decide +kernel
theorem zck_55 : zckM 55 zi_55 = true := by decide +kernel
theorem zck_56 : zckM 56 zi_56 = true := by decide +kernel
theorem zck_57 : zckM 57 zi_57 = true := by decide +kernel
theorem zck_58 : zckM 58 zi_58 = true := by decide +kernel
theorem zck_59 : zckM 59 zi_59 = true := by decide +kernel
theorem zck_60 : zckM 60 zi_60 = true := by decide +kernel
theorem zck_61 : zckM 61 zi_61 = true := by decide +kernel
theorem zck_62 : zckM 62 zi_62 = true := by decide +kernel
theorem zck_63 : zckM 63 zi_63 = true := by decide +kernel
theorem zck_64 : zckM 64 zi_64 = true := by decide +kernel
theorem zck_65 : zckM 65 zi_65 = true := by decide +kernel
theorem zck_66 : zckM 66 zi_66 = true := by decide +kernel
theorem zck_67 : zckM 67 zi_67 = true := by decide +kernel
theorem zck_68 : zckM 68 zi_68 = true := by decide +kernel
theorem zck_69 : zckM 69 zi_69 = true := by decide +kernel
theorem zck_70 : zckM 70 zi_70 = true := by decide +kernel
theorem zck_71 : zckM 71 zi_71 = true := by decide +kernel
theorem zck_72 : zckM 72 zi_72 = true := by decide +kernel
theorem zck_73 : zckM 73 zi_73 = true := by decide +kernel
theorem zck_74 : zckM 74 zi_74 = true := by decide +kernel
theorem zck_75 : zckM 75 zi_75 = true := by decide +kernel
theorem zck_76 : zckM 76 zi_76 = true := by decide +kernel
theorem zck_77 : zckM 77 zi_77 = true := by decide +kernel
theorem zck_78 : zckM 78 zi_78 = true := by decide +kernel
theorem zck_79 : zckM 79 zi_79 = true := by decide +kernel
theorem zck_80 : zckM 80 zi_80 = true := by decide +kernel
theorem zck_81 : zckM 81 zi_81 = true := by decide +kernel
theorem zck_82 : zckM 82 zi_82 = true := by decide +kernel
theorem zck_83 : zckM 83 zi_83 = true := by decide +kernel
theorem zck_84 : zckM 84 zi_84 = true := by decide +kernel
theorem zck_85 : zckM 85 zi_85 = true := by decide +kernel
theorem zck_86 : zckM 86 zi_86 = true := by decide +kernel
theorem zck_87 : zckM 87 zi_87 = true := by decide +kernel
theorem zck_88 : zckM 88 zi_88 = true := by decide +kernel
theorem zck_89 : zckM 89 zi_89 = true := by decide +kernel
theorem zck_90 : zckM 90 zi_90 = true := by decide +kernel
theorem zck_91 : zckM 91 zi_91 = true := by decide +kernel
theorem zck_92 : zckM 92 zi_92 = true := by decide +kernel
end
section
theorem zck_93 : zckM 93 zi_93 = true := by decide +kernel
theorem zck_94 : zckM 94 zi_94 = true := by decide +kernel
theorem zck_95 : zckM 95 zi_95 = true := by decide +kernel
theorem zck_96 : zckM 96 zi_96 = true := by decide +kernel
theorem zck_97 : zckM 97 zi_97 = true := by decide +kernel
theorem zck_98 : zckM 98 zi_98 = true := by decide +kernel
theorem zck_99 : zckM 99 zi_99 = true := by decide +kernel
theorem zck_100 : zckM 100 zi_100 = true := by decide +kernel
theorem zck_101 : zckM 101 zi_101 = true := by decide +kernel
theorem zck_102 : zckM 102 zi_102 = true := by decide +kernel
theorem zck_103 : zckM 103 zi_103 = true := by decide +kernel
theorem zck_104 : zckM 104 zi_104 = true := by decide +kernel
theorem zck_105 : zckM 105 zi_105 = true := by decide +kernel
theorem zck_106 : zckM 106 zi_106 = true := by decide +kernel
theorem zck_107 : zckM 107 zi_107 = true := by decide +kernel
theorem zck_108 : zckM 108 zi_108 = true := by decide +kernel
theorem zck_109 : zckM 109 zi_109 = true := by decide +kernel
theorem zck_110 : zckM 110 zi_110 = true := by decide +kernel
theorem zck_111 : zckM 111 zi_111 = true := by decide +kernel
theorem zck_112 : zckM 112 zi_112 = true := by decide +kernel
theorem zck_113 : zckM 113 zi_113 = true := by decide +kernel
theorem zck_114 : zckM 114 zi_114 = true := by decide +kernel
theorem zck_115 : zckM 115 zi_115 = true := by decide +kernel
theorem zck_116 : zckM 116 zi_116 = true := by decide +kernel
theorem zck_117 : zckM 117 zi_117 = true := by decide +kernel
theorem zck_118 : zckM 118 zi_118 = true := by decide +kernel
theorem zck_119 : zckM 119 zi_119 = true := by decide +kernel
theorem zck_120 : zckM 120 zi_120 = true := by decide +kernel
theorem zck_121 : zckM 121 zi_121 = true := by decide +kernel
theorem zck_122 : zckM 122 zi_122 = true := by decide +kernel
theorem zck_123 : zckM 123 zi_123 = true := by decide +kernel
theorem zck_124 : zckM 124 zi_124 = true := by decide +kernel
theorem zck_125 : zckM 125 zi_125 = true := by decide +kernel
theorem zck_126 : zckM 126 zi_126 = true := by decide +kernel
theorem zck_127 : zckM 127 zi_127 = true := by decide +kernel
theorem zck_128 : zckM 128 zi_128 = true := by decide +kernel
theorem zck_129 : zckM 129 zi_129 = true := by decide +kernel
theorem zck_130 : zckM 130 zi_130 = true := by decide +kernel
theorem zck_131 : zckM 131 zi_131 = true := by decide +kernel
theorem zck_132 : zckM 132 zi_132 = true := by decide +kernel
end
section
theorem zck_133 : zckM 133 zi_133 = true := by decide +kernel
theorem zck_134 : zckM 134 zi_134 = true := by decide +kernel
theorem zck_135 : zckM 135 zi_135 = true := by decide +kernel
theorem zck_136 : zckM 136 zi_136 = true := by decide +kernel
theorem zck_137 : zckM 137 zi_137 = true := by decide +kernel
theorem zck_138 : zckM 138 zi_138 = true := by decide +kernel
theorem zck_139 : zckM 139 zi_139 = true := by decide +kernel
theorem zck_140 : zckM 140 zi_140 = true := by decide +kernel
theorem zck_141 : zckM 141 zi_141 = true := by decide +kernel
theorem zck_142 : zckM 142 zi_142 = true := by decide +kernel
theorem zck_143 : zckM 143 zi_143 = true := by decide +kernel
theorem zck_144 : zckM 144 zi_144 = true := by decide +kernel
theorem zck_145 : zckM 145 zi_145 = true := by decide +kernel
theorem zck_146 : zckM 146 zi_146 = true := by decide +kernel
theorem zck_147 : zckM 147 zi_147 = true := by decide +kernel
theorem zck_148 : zckM 148 zi_148 = true := by decide +kernel
theorem zck_149 : zckM 149 zi_149 = true := by decide +kernel
theorem zck_150 : zckM 150 zi_150 = true := by decide +kernel
theorem zck_151 : zckM 151 zi_151 = true := by decide +kernel
theorem zck_152 : zckM 152 zi_152 = true := by decide +kernel
theorem zck_153 : zckM 153 zi_153 = true := by decide +kernel
theorem zck_154 : zckM 154 zi_154 = true := by decide +kernel
theorem zck_155 : zckM 155 zi_155 = true := by decide +kernel
theorem zck_156 : zckM 156 zi_156 = true := by decide +kernel
theorem zck_157 : zckM 157 zi_157 = true := by decide +kernel
theorem zck_158 : zckM 158 zi_158 = true := by decide +kernel
theorem zck_159 : zckM 159 zi_159 = true := by decide +kernel
theorem zck_160 : zckM 160 zi_160 = true := by decide +kernel
theorem zck_161 : zckM 161 zi_161 = true := by decide +kernel
theorem zck_162 : zckM 162 zi_162 = true := by decide +kernel
theorem zck_163 : zckM 163 zi_163 = true := by decide +kernel
theorem zck_164 : zckM 164 zi_164 = true := by decide +kernel
theorem zck_165 : zckM 165 zi_165 = true := by decide +kernel
theorem zck_166 : zckM 166 zi_166 = true := by decide +kernel
theorem zck_167 : zckM 167 zi_167 = true := by decide +kernel
theorem zck_168 : zckM 168 zi_168 = true := by decide +kernel
theorem zck_169 : zckM 169 zi_169 = true := by decide +kernel
theorem zck_170 : zckM 170 zi_170 = true := by decide +kernel
theorem zck_171 : zckM 171 zi_171 = true := by decide +kernel
theorem zck_172 : zckM 172 zi_172 = true := by decide +kernel
theorem zck_173 : zckM 173 zi_173 = true := by decide +kernel
theorem zck_174 : zckM 174 zi_174 = true := by decide +kernel
theorem zck_175 : zckM 175 zi_175 = true := by decide +kernel
theorem zck_176 : zckM 176 zi_176 = true := by decide +kernel
end
section
theorem zck_177 : zckM 177 zi_177 = true := by decide +kernel
theorem zck_178 : zckM 178 zi_178 = true := by decide +kernel
theorem zck_179 : zckM 179 zi_179 = true := by decide +kernel
theorem zck_180 : zckM 180 zi_180 = true := by decide +kernel
theorem zck_181 : zckM 181 zi_181 = true := by decide +kernel
theorem zck_182 : zckM 182 zi_182 = true := by decide +kernel
theorem zck_183 : zckM 183 zi_183 = true := by decide +kernel
theorem zck_184 : zckM 184 zi_184 = true := by decide +kernel
theorem zck_185 : zckM 185 zi_185 = true := by decide +kernel
theorem zck_186 : zckM 186 zi_186 = true := by decide +kernel
theorem zck_187 : zckM 187 zi_187 = true := by decide +kernel
theorem zck_188 : zckM 188 zi_188 = true := by decide +kernel
theorem zck_189 : zckM 189 zi_189 = true := by decide +kernel
theorem zck_190 : zckM 190 zi_190 = true := by decide +kernel
theorem zck_191 : zckM 191 zi_191 = true := by decide +kernel
theorem zck_192 : zckM 192 zi_192 = true := by decide +kernel
theorem zck_193 : zckM 193 zi_193 = true := by decide +kernel
theorem zck_194 : zckM 194 zi_194 = true := by decide +kernel
theorem zck_195 : zckM 195 zi_195 = true := by decide +kernel
theorem zck_196 : zckM 196 zi_196 = true := by decide +kernel
theorem zck_197 : zckM 197 zi_197 = true := by decide +kernel
theorem zck_198 : zckM 198 zi_198 = true := by decide +kernel
theorem zck_199 : zckM 199 zi_199 = true := by decide +kernel
theorem zck_200 : zckM 200 zi_200 = true := by decide +kernel
theorem zck_201 : zckM 201 zi_201 = true := by decide +kernel
theorem zck_202 : zckM 202 zi_202 = true := by decide +kernel
end
section
theorem zck_203 : zckM 203 zi_203 = true := by decide +kernel
theorem zck_204 : zckM 204 zi_204 = true := by decide +kernel
theorem zck_205 : zckM 205 zi_205 = true := by decide +kernel
theorem zck_206 : zckM 206 zi_206 = true := by decide +kernel
theorem zck_207 : zckM 207 zi_207 = true := by decide +kernel
theorem zck_208 : zckM 208 zi_208 = true := by decide +kernel
theorem zck_209 : zckM 209 zi_209 = true := by decide +kernel
theorem zck_210 : zckM 210 zi_210 = true := by decide +kernel
theorem zck_211 : zckM 211 zi_211 = true := by decide +kernel
theorem zck_212 : zckM 212 zi_212 = true := by decide +kernel
theorem zck_213 : zckM 213 zi_213 = true := by decide +kernel
theorem zck_214 : zckM 214 zi_214 = true := by decide +kernel
theorem zck_215 : zckM 215 zi_215 = true := by decide +kernel
theorem zck_216 : zckM 216 zi_216 = true := by decide +kernel
theorem zck_217 : zckM 217 zi_217 = true := by decide +kernel
theorem zck_218 : zckM 218 zi_218 = true := by decide +kernel
theorem zck_219 : zckM 219 zi_219 = true := by decide +kernel
theorem zck_220 : zckM 220 zi_220 = true := by decide +kernel
theorem zck_221 : zckM 221 zi_221 = true := by decide +kernel
theorem zck_222 : zckM 222 zi_222 = true := by decide +kernel
theorem zck_223 : zckM 223 zi_223 = true := by decide +kernel
theorem zck_224 : zckM 224 zi_224 = true := by decide +kernel
theorem zck_225 : zckM 225 zi_225 = true := by decide +kernel
theorem zck_226 : zckM 226 zi_226 = true := by decide +kernel
theorem zck_227 : zckM 227 zi_227 = true := by decide +kernel
theorem zck_228 : zckM 228 zi_228 = true := by decide +kernel
theorem zck_229 : zckM 229 zi_229 = true := by decide +kernel
theorem zck_230 : zckM 230 zi_230 = true := by decide +kernel
theorem zck_231 : zckM 231 zi_231 = true := by decide +kernel
theorem zck_232 : zckM 232 zi_232 = true := by decide +kernel
theorem zck_233 : zckM 233 zi_233 = true := by decide +kernel
theorem zck_234 : zckM 234 zi_234 = true := by decide +kernel
theorem zck_235 : zckM 235 zi_235 = true := by decide +kernel
theorem zck_236 : zckM 236 zi_236 = true := by decide +kernel
end
section
theorem zck_237 : zckM 237 zi_237 = true := by decide +kernel
theorem zck_238 : zckM 238 zi_238 = true := by decide +kernel
theorem zck_239 : zckM 239 zi_239 = true := by decide +kernel
theorem zck_240 : zckM 240 zi_240 = true := by decide +kernel
end
section
theorem zck_241_0 : zckR zMlaw 0 zi_241_0 = true := by decide +kernel
theorem zck_241_1 : zckR zMlaw 16 zi_241_1 = true := by decide +kernel
theorem zck_241_2 : zckR zMlaw 32 zi_241_2 = true := by decide +kernel
theorem zck_241_3 : zckR zMlaw 48 zi_241_3 = true := by decide +kernel
theorem zck_241_4 : zckR zMlaw 64 zi_241_4 = true := by decide +kernel
theorem zck_241_5 : zckR zMlaw 80 zi_241_5 = true := by decide +kernel
theorem zck_241_6 : zckR zMlaw 96 zi_241_6 = true := by decide +kernel
theorem zck_241_7 : zckR zMlaw 112 zi_241_7 = true := by decide +kernel
theorem zck_241_8 : zckR zMlaw 128 zi_241_8 = true := by decide +kernel
theorem zck_241_9 : zckR zMlaw 144 zi_241_9 = true := by decide +kernel
theorem zck_241_10 : zckR zMlaw 160 zi_241_10 = true := by decide +kernel
theorem zck_241_11 : zckR zMlaw 176 zi_241_11 = true := by decide +kernel
end
section
theorem zck_241_12 : zckR zMlaw 192 zi_241_12 = true := by decide +kernel
theorem zck_241_13 : zckR zMlaw 208 zi_241_13 = true := by decide +kernel
theorem zck_241_14 : zckR zMlaw 224 zi_241_14 = true := by decide +kernel
theorem zck_241_15 : zckR zMlaw 240 zi_241_15 = true := by decide +kernel
theorem zck_241_16 : zckR zMlaw 256 zi_241_16 = true := by decide +kernel
theorem zck_241_17 : zckR zMlaw 272 zi_241_17 = true := by decide +kernel
theorem zck_241_18 : zckR zMlaw 288 zi_241_18 = true := by decide +kernel
theorem zck_241_19 : zckR zMlaw 304 zi_241_19 = true := by decide +kernel
theorem zck_241_20 : zckR zMlaw 320 zi_241_20 = true := by decide +kernel
theorem zck_241_21 : zckR zMlaw 336 zi_241_21 = true := by decide +kernel
theorem zck_241_22 : zckR zMlaw 352 zi_241_22 = true := by decide +kernel
theorem zck_241_23 : zckR zMlaw 368 zi_241_23 = true := by decide +kernel
end
section
theorem zck_241_24 : zckR zMlaw 384 zi_241_24 = true := by decide +kernel
theorem zck_241_25 : zckR zMlaw 400 zi_241_25 = true := by decide +kernel
theorem zck_241_26 : zckR zMlaw 416 zi_241_26 = true := by decide +kernel
theorem zck_241_27 : zckR zMlaw 432 zi_241_27 = true := by decide +kernel
theorem zck_241_28 : zckR zMlaw 448 zi_241_28 = true := by decide +kernel
theorem zck_241_29 : zckR zMlaw 464 zi_241_29 = true := by decide +kernel
theorem zck_241_30 : zckR zMlaw 480 zi_241_30 = true := by decide +kernel
theorem zck_241_31 : zckR zMlaw 496 zi_241_31 = true := by decide +kernel
theorem zck_241_32 : zckR zMlaw 512 zi_241_32 = true := by decide +kernel
theorem zck_241_33 : zckR zMlaw 528 zi_241_33 = true := by decide +kernel
theorem zck_241_34 : zckR zMlaw 544 zi_241_34 = true := by decide +kernel
theorem zck_241_35 : zckR zMlaw 560 zi_241_35 = true := by decide +kernel
end
section
theorem zck_241_36 : zckR zMlaw 576 zi_241_36 = true := by decide +kernel
theorem zck_241_37 : zckR zMlaw 592 zi_241_37 = true := by decide +kernel
theorem zck_241_38 : zckR zMlaw 608 zi_241_38 = true := by decide +kernel
theorem zck_241_39 : zckR zMlaw 624 zi_241_39 = true := by decide +kernel
theorem zck_241_40 : zckR zMlaw 640 zi_241_40 = true := by decide +kernel
theorem zck_241_41 : zckR zMlaw 656 zi_241_41 = true := by decide +kernel
theorem zck_241_42 : zckR zMlaw 672 zi_241_42 = true := by decide +kernel
theorem zck_241_43 : zckR zMlaw 688 zi_241_43 = true := by decide +kernel
theorem zck_241_44 : zckR zMlaw 704 zi_241_44 = true := by decide +kernel
theorem zck_241_45 : zckR zMlaw 720 zi_241_45 = true := by decide +kernel
theorem zck_241_46 : zckR zMlaw 736 zi_241_46 = true := by decide +kernel
theorem zck_241_47 : zckR zMlaw 752 zi_241_47 = true := by decide +kernel
end
section
theorem zck_241_48 : zckR zMlaw 768 zi_241_48 = true := by decide +kernel
theorem zck_241_49 : zckR zMlaw 784 zi_241_49 = true := by decide +kernel
theorem zck_241_50 : zckR zMlaw 800 zi_241_50 = true := by decide +kernel
theorem zck_241_51 : zckR zMlaw 816 zi_241_51 = true := by decide +kernel
theorem zck_241_52 : zckR zMlaw 832 zi_241_52 = true := by decide +kernel
theorem zck_241_53 : zckR zMlaw 848 zi_241_53 = true := by decide +kernel
theorem zck_241_54 : zckR zMlaw 864 zi_241_54 = true := by decide +kernel
theorem zck_241_55 : zckR zMlaw 880 zi_241_55 = true := by decide +kernel
theorem zck_241_56 : zckR zMlaw 896 zi_241_56 = true := by decide +kernel
theorem zck_241_57 : zckR zMlaw 912 zi_241_57 = true := by decide +kernel
theorem zck_241_58 : zckR zMlaw 928 zi_241_58 = true := by decide +kernel
theorem zck_241_59 : zckR zMlaw 944 zi_241_59 = true := by decide +kernel
end
section
theorem zck_241_60 : zckR zMlaw 960 zi_241_60 = true := by decide +kernel
theorem zck_241_61 : zckR zMlaw 976 zi_241_61 = true := by decide +kernel
theorem zck_241_62 : zckR zMlaw 992 zi_241_62 = true := by decide +kernel
theorem zck_241_63 : zckR zMlaw 1008 zi_241_63 = true := by decide +kernel
theorem zck_241_64 : zckR zMlaw 1024 zi_241_64 = true := by decide +kernel
theorem zck_241_65 : zckR zMlaw 1040 zi_241_65 = true := by decide +kernel
theorem zck_241_66 : zckR zMlaw 1056 zi_241_66 = true := by decide +kernel
theorem zck_241_67 : zckR zMlaw 1072 zi_241_67 = true := by decide +kernel
theorem zck_241_68 : zckR zMlaw 1088 zi_241_68 = true := by decide +kernel
theorem zck_241_69 : zckR zMlaw 1104 zi_241_69 = true := by decide +kernel
theorem zck_241_70 : zckR zMlaw 1120 zi_241_70 = true := by decide +kernel
theorem zck_241_71 : zckR zMlaw 1136 zi_241_71 = true := by decide +kernel
end
section
theorem zck_241_72 : zckR zMlaw 1152 zi_241_72 = true := by decide +kernel
theorem zck_241_73 : zckR zMlaw 1168 zi_241_73 = true := by decide +kernel
theorem zck_241_74 : zckR zMlaw 1184 zi_241_74 = true := by decide +kernel
theorem zck_241_75 : zckR zMlaw 1200 zi_241_75 = true := by decide +kernel
theorem zck_241_76 : zckR zMlaw 1216 zi_241_76 = true := by decide +kernel
theorem zck_241_77 : zckR zMlaw 1232 zi_241_77 = true := by decide +kernel
theorem zck_241_78 : zckR zMlaw 1248 zi_241_78 = true := by decide +kernel
theorem zck_241_79 : zckR zMlaw 1264 zi_241_79 = true := by decide +kernel
theorem zck_241_80 : zckR zMlaw 1280 zi_241_80 = true := by decide +kernel
theorem zck_241_81 : zckR zMlaw 1296 zi_241_81 = true := by decide +kernel
theorem zck_241_82 : zckR zMlaw 1312 zi_241_82 = true := by decide +kernel
theorem zck_241_83 : zckR zMlaw 1328 zi_241_83 = true := by decide +kernel
end
section
theorem zck_241_84 : zckR zMlaw 1344 zi_241_84 = true := by decide +kernel
theorem zck_241_85 : zckR zMlaw 1360 zi_241_85 = true := by decide +kernel
theorem zck_241_86 : zckR zMlaw 1376 zi_241_86 = true := by decide +kernel
theorem zck_241_87 : zckR zMlaw 1392 zi_241_87 = true := by decide +kernel
theorem zck_241_88 : zckR zMlaw 1408 zi_241_88 = true := by decide +kernel
end
section
theorem z_and {a b : Bool} (ha : a = true) (hb : b = true) : (a && b) = true := by rw [ha, hb]; rfl
def zckG : Nat → List (List (List (Option zI))) → Bool
  | _, [] => true
  | mi, t :: r => zckM mi t && zckG (mi + 1) r
def zckA : Nat → List (List (List (List (Option zI)))) → Bool
  | _, [] => true
  | mi, g :: r => zckG mi g && zckA (mi + 16) r
set_option maxRecDepth 20000 in
theorem zck_241T : zckT zMlaw 0 zi_241 = true := z_and zck_241_0 (z_and zck_241_1 (z_and zck_241_2 (z_and zck_241_3 (z_and zck_241_4 (z_and zck_241_5 (z_and zck_241_6 (z_and zck_241_7 (z_and zck_241_8 (z_and zck_241_9 (z_and zck_241_10 (z_and zck_241_11 (z_and zck_241_12 (z_and zck_241_13 (z_and zck_241_14 (z_and zck_241_15 (z_and zck_241_16 (z_and zck_241_17 (z_and zck_241_18 (z_and zck_241_19 (z_and zck_241_20 (z_and zck_241_21 (z_and zck_241_22 (z_and zck_241_23 (z_and zck_241_24 (z_and zck_241_25 (z_and zck_241_26 (z_and zck_241_27 (z_and zck_241_28 (z_and zck_241_29 (z_and zck_241_30 (z_and zck_241_31 (z_and zck_241_32 (z_and zck_241_33 (z_and zck_241_34 (z_and zck_241_35 (z_and zck_241_36 (z_and zck_241_37 (z_and zck_241_38 (z_and zck_241_39 (z_and zck_241_40 (z_and zck_241_41 (z_and zck_241_42 (z_and zck_241_43 (z_and zck_241_44 (z_and zck_241_45 (z_and zck_241_46 (z_and zck_241_47 (z_and zck_241_48 (z_and zck_241_49 (z_and zck_241_50 (z_and zck_241_51 (z_and zck_241_52 (z_and zck_241_53 (z_and zck_241_54 (z_and zck_241_55 (z_and zck_241_56 (z_and zck_241_57 (z_and zck_241_58 (z_and zck_241_59 (z_and zck_241_60 (z_and zck_241_61 (z_and zck_241_62 (z_and zck_241_63 (z_and zck_241_64 (z_and zck_241_65 (z_and zck_241_66 (z_and zck_241_67 (z_and zck_241_68 (z_and zck_241_69 (z_and zck_241_70 (z_and zck_241_71 (z_and zck_241_72 (z_and zck_241_73 (z_and zck_241_74 (z_and zck_241_75 (z_and zck_241_76 (z_and zck_241_77 (z_and zck_241_78 (z_and zck_241_79 (z_and zck_241_80 (z_and zck_241_81 (z_and zck_241_82 (z_and zck_241_83 (z_and zck_241_84 (z_and zck_241_85 (z_and zck_241_86 (z_and zck_241_87 (z_and zck_241_88 (rfl)))))))))))))))))))))))))))))))))))))))))))))))))))))))))))))))))))))))))))))))))))))))))
set_option maxRecDepth 20000 in
theorem zck_241 : zckM 241 zi_241 = true := zck_241T
theorem zckG_0 : zckG 0 [zi_0, zi_1, zi_2, zi_3, zi_4, zi_5, zi_6, zi_7, zi_8, zi_9, zi_10, zi_11, zi_12, zi_13, zi_14, zi_15] = true := z_and zck_0 (z_and zck_1 (z_and zck_2 (z_and zck_3 (z_and zck_4 (z_and zck_5 (z_and zck_6 (z_and zck_7 (z_and zck_8 (z_and zck_9 (z_and zck_10 (z_and zck_11 (z_and zck_12 (z_and zck_13 (z_and zck_14 (z_and zck_15 (rfl))))))))))))))))
theorem zckG_1 : zckG 16 [zi_16, zi_17, zi_18, zi_19, zi_20, zi_21, zi_22, zi_23, zi_24, zi_25, zi_26, zi_27, zi_28, zi_29, zi_30, zi_31] = true := z_and zck_16 (z_and zck_17 (z_and zck_18 (z_and zck_19 (z_and zck_20 (z_and zck_21 (z_and zck_22 (z_and zck_23 (z_and zck_24 (z_and zck_25 (z_and zck_26 (z_and zck_27 (z_and zck_28 (z_and zck_29 (z_and zck_30 (z_and zck_31 (rfl))))))))))))))))
theorem zckG_2 : zckG 32 [zi_32, zi_33, zi_34, zi_35, zi_36, zi_37, zi_38, zi_39, zi_40, zi_41, zi_42, zi_43, zi_44, zi_45, zi_46, zi_47] = true := z_and zck_32 (z_and zck_33 (z_and zck_34 (z_and zck_35 (z_and zck_36 (z_and zck_37 (z_and zck_38 (z_and zck_39 (z_and zck_40 (z_and zck_41 (z_and zck_42 (z_and zck_43 (z_and zck_44 (z_and zck_45 (z_and zck_46 (z_and zck_47 (rfl))))))))))))))))
theorem zckG_3 : zckG 48 [zi_48, zi_49, zi_50, zi_51, zi_52, zi_53, zi_54, zi_55, zi_56, zi_57, zi_58, zi_59, zi_60, zi_61, zi_62, zi_63] = true := z_and zck_48 (z_and zck_49 (z_and zck_50 (z_and zck_51 (z_and zck_52 (z_and zck_53 (z_and zck_54 (z_and zck_55 (z_and zck_56 (z_and zck_57 (z_and zck_58 (z_and zck_59 (z_and zck_60 (z_and zck_61 (z_and zck_62 (z_and zck_63 (rfl))))))))))))))))
theorem zckG_4 : zckG 64 [zi_64, zi_65, zi_66, zi_67, zi_68, zi_69, zi_70, zi_71, zi_72, zi_73, zi_74, zi_75, zi_76, zi_77, zi_78, zi_79] = true := z_and zck_64 (z_and zck_65 (z_and zck_66 (z_and zck_67 (z_and zck_68 (z_and zck_69 (z_and zck_70 (z_and zck_71 (z_and zck_72 (z_and zck_73 (z_and zck_74 (z_and zck_75 (z_and zck_76 (z_and zck_77 (z_and zck_78 (z_and zck_79 (rfl))))))))))))))))
theorem zckG_5 : zckG 80 [zi_80, zi_81, zi_82, zi_83, zi_84, zi_85, zi_86, zi_87, zi_88, zi_89, zi_90, zi_91, zi_92, zi_93, zi_94, zi_95] = true := z_and zck_80 (z_and zck_81 (z_and zck_82 (z_and zck_83 (z_and zck_84 (z_and zck_85 (z_and zck_86 (z_and zck_87 (z_and zck_88 (z_and zck_89 (z_and zck_90 (z_and zck_91 (z_and zck_92 (z_and zck_93 (z_and zck_94 (z_and zck_95 (rfl))))))))))))))))
theorem zckG_6 : zckG 96 [zi_96, zi_97, zi_98, zi_99, zi_100, zi_101, zi_102, zi_103, zi_104, zi_105, zi_106, zi_107, zi_108, zi_109, zi_110, zi_111] = true := z_and zck_96 (z_and zck_97 (z_and zck_98 (z_and zck_99 (z_and zck_100 (z_and zck_101 (z_and zck_102 (z_and zck_103 (z_and zck_104 (z_and zck_105 (z_and zck_106 (z_and zck_107 (z_and zck_108 (z_and zck_109 (z_and zck_110 (z_and zck_111 (rfl))))))))))))))))
theorem zckG_7 : zckG 112 [zi_112, zi_113, zi_114, zi_115, zi_116, zi_117, zi_118, zi_119, zi_120, zi_121, zi_122, zi_123, zi_124, zi_125, zi_126, zi_127] = true := z_and zck_112 (z_and zck_113 (z_and zck_114 (z_and zck_115 (z_and zck_116 (z_and zck_117 (z_and zck_118 (z_and zck_119 (z_and zck_120 (z_and zck_121 (z_and zck_122 (z_and zck_123 (z_and zck_124 (z_and zck_125 (z_and zck_126 (z_and zck_127 (rfl))))))))))))))))
theorem zckG_8 : zckG 128 [zi_128, zi_129, zi_130, zi_131, zi_132, zi_133, zi_134, zi_135, zi_136, zi_137, zi_138, zi_139, zi_140, zi_141, zi_142, zi_143] = true := z_and zck_128 (z_and zck_129 (z_and zck_130 (z_and zck_131 (z_and zck_132 (z_and zck_133 (z_and zck_134 (z_and zck_135 (z_and zck_136 (z_and zck_137 (z_and zck_138 (z_and zck_139 (z_and zck_140 (z_and zck_141 (z_and zck_142 (z_and zck_143 (rfl))))))))))))))))
theorem zckG_9 : zckG 144 [zi_144, zi_145, zi_146, zi_147, zi_148, zi_149, zi_150, zi_151, zi_152, zi_153, zi_154, zi_155, zi_156, zi_157, zi_158, zi_159] = true := z_and zck_144 (z_and zck_145 (z_and zck_146 (z_and zck_147 (z_and zck_148 (z_and zck_149 (z_and zck_150 (z_and zck_151 (z_and zck_152 (z_and zck_153 (z_and zck_154 (z_and zck_155 (z_and zck_156 (z_and zck_157 (z_and zck_158 (z_and zck_159 (rfl))))))))))))))))
theorem zckG_10 : zckG 160 [zi_160, zi_161, zi_162, zi_163, zi_164, zi_165, zi_166, zi_167, zi_168, zi_169, zi_170, zi_171, zi_172, zi_173, zi_174, zi_175] = true := z_and zck_160 (z_and zck_161 (z_and zck_162 (z_and zck_163 (z_and zck_164 (z_and zck_165 (z_and zck_166 (z_and zck_167 (z_and zck_168 (z_and zck_169 (z_and zck_170 (z_and zck_171 (z_and zck_172 (z_and zck_173 (z_and zck_174 (z_and zck_175 (rfl))))))))))))))))
theorem zckG_11 : zckG 176 [zi_176, zi_177, zi_178, zi_179, zi_180, zi_181, zi_182, zi_183, zi_184, zi_185, zi_186, zi_187, zi_188, zi_189, zi_190, zi_191] = true := z_and zck_176 (z_and zck_177 (z_and zck_178 (z_and zck_179 (z_and zck_180 (z_and zck_181 (z_and zck_182 (z_and zck_183 (z_and zck_184 (z_and zck_185 (z_and zck_186 (z_and zck_187 (z_and zck_188 (z_and zck_189 (z_and zck_190 (z_and zck_191 (rfl))))))))))))))))
theorem zckG_12 : zckG 192 [zi_192, zi_193, zi_194, zi_195, zi_196, zi_197, zi_198, zi_199, zi_200, zi_201, zi_202, zi_203, zi_204, zi_205, zi_206, zi_207] = true := z_and zck_192 (z_and zck_193 (z_and zck_194 (z_and zck_195 (z_and zck_196 (z_and zck_197 (z_and zck_198 (z_and zck_199 (z_and zck_200 (z_and zck_201 (z_and zck_202 (z_and zck_203 (z_and zck_204 (z_and zck_205 (z_and zck_206 (z_and zck_207 (rfl))))))))))))))))
theorem zckG_13 : zckG 208 [zi_208, zi_209, zi_210, zi_211, zi_212, zi_213, zi_214, zi_215, zi_216, zi_217, zi_218, zi_219, zi_220, zi_221, zi_222, zi_223] = true := z_and zck_208 (z_and zck_209 (z_and zck_210 (z_and zck_211 (z_and zck_212 (z_and zck_213 (z_and zck_214 (z_and zck_215 (z_and zck_216 (z_and zck_217 (z_and zck_218 (z_and zck_219 (z_and zck_220 (z_and zck_221 (z_and zck_222 (z_and zck_223 (rfl))))))))))))))))
theorem zckG_14 : zckG 224 [zi_224, zi_225, zi_226, zi_227, zi_228, zi_229, zi_230, zi_231, zi_232, zi_233, zi_234, zi_235, zi_236, zi_237, zi_238, zi_239] = true := z_and zck_224 (z_and zck_225 (z_and zck_226 (z_and zck_227 (z_and zck_228 (z_and zck_229 (z_and zck_230 (z_and zck_231 (z_and zck_232 (z_and zck_233 (z_and zck_234 (z_and zck_235 (z_and zck_236 (z_and zck_237 (z_and zck_238 (z_and zck_239 (rfl))))))))))))))))
theorem zckG_15 : zckG 240 [zi_240, zi_241] = true := z_and zck_240 (z_and zck_241 (rfl))
theorem zck_all : zckA 0 zia = true := z_and zckG_0 (z_and zckG_1 (z_and zckG_2 (z_and zckG_3 (z_and zckG_4 (z_and zckG_5 (z_and zckG_6 (z_and zckG_7 (z_and zckG_8 (z_and zckG_9 (z_and zckG_10 (z_and zckG_11 (z_and zckG_12 (z_and zckG_13 (z_and zckG_14 (z_and zckG_15 (rfl))))))))))))))))
theorem zckG_at : ∀ {g : List (List (List (Option zI)))} {mi j : Nat} {t : List (List (Option zI))}, zckG mi g = true → zget g j = some t → zckM (mi + j) t = true
  | [], _, _, _, _, h => by simp [zget] at h
  | x :: g, mi, 0, t, hc, h => by
    simp only [zget, Option.some.injEq] at h
    subst h
    simp only [zckG, Bool.and_eq_true] at hc
    exact hc.1
  | x :: g, mi, j + 1, t, hc, h => by
    simp only [zckG, Bool.and_eq_true] at hc
    have := zckG_at (g := g) (mi := mi + 1) (j := j) (t := t) hc.2 h
    rw [show mi + (j + 1) = mi + 1 + j by omega]
    exact this
theorem zckA_at : ∀ {a : List (List (List (List (Option zI))))} {mi q : Nat} {g : List (List (List (Option zI)))}, zckA mi a = true → zget a q = some g → zckG (mi + 16 * q) g = true
  | [], _, _, _, _, h => by simp [zget] at h
  | x :: a, mi, 0, g, hc, h => by
    simp only [zget, Option.some.injEq] at h
    subst h
    simp only [zckA, Bool.and_eq_true] at hc
    exact hc.1
  | x :: a, mi, q + 1, g, hc, h => by
    simp only [zckA, Bool.and_eq_true] at hc
    have := zckA_at (a := a) (mi := mi + 16) (q := q) (g := g) hc.2 h
    rw [show mi + 16 * (q + 1) = mi + 16 + 16 * q by omega]
    exact this
/-- an entry of the tables is what the code says at its place -/
theorem zi_ok {mi pc : Nat} {e : zI} (h : zi mi pc = some e) : ∃ M, zm mi = some M ∧ zchk M pc e = true := by
  unfold zi at h
  cases h1 : zget zia (mi / 16) with
  | none => simp [h1] at h
  | some g =>
    rw [h1] at h
    cases h2 : zget g (mi % 16) with
    | none => simp [h2] at h
    | some t =>
      simp only [h2] at h
      cases h3 : zget t (pc / 16) with
      | none => simp [h3] at h
      | some r =>
        simp only [h3] at h
        cases h4 : zget r (pc % 16) with
        | none => simp [h4] at h
        | some x =>
          simp only [h4] at h
          subst h
          have a1 := zckG_at (zckA_at zck_all h1) h2
          rw [show 0 + 16 * (mi / 16) + mi % 16 = mi by omega] at a1
          unfold zckM at a1
          cases h5 : zm mi with
          | none => simp [h5] at a1
          | some M =>
            simp only [h5] at a1
            have a2 := zckR_at (zckT_at a1 h3) h4
            rw [show 0 + 16 * (pc / 16) + pc % 16 = pc by omega] at a2
            exact ⟨M, rfl, a2⟩
end
section
def zWp : List (List Nat) := [[302, 84, 301, 986, 984, 985, 974, 972, 973, 1058, 1057, 1006, 1004, 1005, 982, 980], [981, 990, 989, 28, 998, 997, 29, 275, 83, 274, 566, 564, 565, 570, 569, 1], [957, 955, 956, 966, 964, 965, 106, 78, 105, 531, 529, 530, 535, 533, 534, 539], [537, 538, 503, 501, 502, 527, 525, 526, 543, 541, 542, 552, 550, 551, 562, 560], [561, 919, 917, 918, 657, 655, 656, 712, 710, 711, 820, 818, 819, 827, 826, 19], [835, 834, 21, 831, 830, 20, 839, 838, 22, 847, 845, 846, 855, 853, 854, 859], [857, 858, 869, 868, 23, 136, 80, 135, 696, 694, 695, 700, 698, 699, 558, 556], [557, 720, 718, 719, 724, 722, 723, 716, 714, 715, 730, 728, 729, 736, 734, 735], [766, 764, 765, 770, 769, 13, 774, 773, 14, 779, 778, 15, 330, 85, 329, 688], [686, 687, 704, 702, 703, 708, 707, 9, 885, 883, 884, 116, 79, 115, 597, 595], [596, 624, 622, 623, 631, 629, 630, 643, 641, 642, 647, 645, 646, 664, 662, 663], [667, 666, 673, 672, 258, 82, 257, 585, 583, 584, 593, 591, 592, 601, 600, 2], [605, 604, 3, 609, 608, 4, 620, 619, 6, 613, 612, 5, 636, 635, 7, 616], [615, 627, 626, 639, 638, 181, 81, 180, 805, 803, 804, 411, 88, 410, 1015, 1013], [1014, 1023, 1021, 1022, 514, 512, 513, 1051, 1049, 1050, 1038, 1036, 1037, 351, 86, 350], [745, 743, 744, 762, 761, 12, 783, 782, 16, 758, 757, 11, 748, 747, 752, 751], [10, 382, 87, 381, 791, 789, 790, 796, 795, 17, 800, 799, 18, 98, 77, 97], [484, 482, 483, 488, 486, 487, 492, 490, 491, 507, 505, 506, 518, 517, 0, 523], [521, 522, 577, 575, 576, 581, 579, 580, 589, 587, 588, 651, 649, 650, 681, 679], [680, 741, 739, 740, 787, 785, 786, 810, 808, 809, 815, 813, 814, 843, 841, 842], [851, 849, 850, 874, 872, 873, 889, 887, 888, 893, 891, 892, 897, 896, 25, 901], [900, 26, 908, 907, 27, 915, 913, 914, 926, 924, 925, 930, 928, 929, 935, 933], [934, 939, 937, 938, 943, 941, 942, 948, 946, 947, 953, 951, 952, 962, 960, 961], [970, 968, 969, 978, 976, 977, 1002, 1000, 1001, 1010, 1008, 1009, 1019, 1017, 1018, 1030], [1028, 1029, 1042, 1040, 1041, 1047, 1045, 1046, 1055, 1053, 1054, 1062, 1060, 1061, 510, 509], [877, 876, 498, 497, 495, 494, 692, 691, 8, 684, 683, 881, 880, 24, 1034, 1033], [30, 1232, 89, 1231, 1421, 1420, 1456, 1455, 1368, 1367, 1067, 1066, 1293, 1292, 37, 1220], [1218, 1219, 1224, 1222, 1223, 1273, 1272, 33, 1279, 1278, 34, 1284, 1283, 35, 1247, 1246], [1228, 1226, 1227, 1236, 1234, 1235, 1244, 1243, 1253, 1252, 31, 1241, 1239, 1240, 1257, 1255], [1256, 1269, 1268, 32, 1288, 1287, 36, 1265, 1263, 1264, 1298, 1296, 1297, 1305, 1303, 1304], [1342, 1341, 45, 1346, 1345, 46, 1350, 1349, 47, 1318, 1317, 39, 1322, 1321, 40, 1326], [1325, 41, 1330, 1329, 42, 1334, 1333, 43, 1353, 1352, 1338, 1337, 44, 1314, 1313, 38], [1310, 1308, 1309, 1361, 1360, 48, 1301, 1300, 1365, 1364, 49, 1357, 1355, 1356, 1393, 1392], [54, 1389, 1388, 53, 1405, 1404, 56, 1409, 1408, 57, 1376, 1375, 50, 1385, 1384, 52], [1381, 1380, 51, 1372, 1370, 1371, 1401, 1400, 55, 1397, 1395, 1396, 1418, 1417, 58, 1413], [1411, 1412, 1425, 1423, 1424, 1437, 1436, 60, 1445, 1444, 62, 1441, 1440, 61, 1433, 1432], [59, 1429, 1427, 1428, 1449, 1447, 1448, 1460, 1459, 63, 1453, 1451, 1452, 1468, 1467, 64], [1472, 1471, 65, 1464, 1462, 1463, 1476, 1474, 1475, 1484, 1483, 66, 1480, 1478, 1479, 1488], [1486, 1487, 1499, 1498, 67, 1495, 1493, 1494, 1503, 1501, 1502, 1507, 1505, 1506, 1511, 1509], [1510, 1515, 1513, 1514, 1519, 1517, 1518, 1531, 1530, 68, 1591, 1590, 75, 1523, 1521, 1522], [1594, 1593, 1539, 1538, 70, 1535, 1534, 69, 1543, 1542, 71, 1547, 1546, 72, 1551, 1550], [73, 1527, 1525, 1526, 1555, 1553, 1554, 1260, 1259, 1559, 1557, 1558, 1563, 1561, 1562, 1571], [1570, 74, 1574, 1573, 1567, 1565, 1566, 1578, 1576, 1577, 1583, 1581, 1582, 1587, 1585, 1586], [1598, 1596, 1597, 862, 93, 861, 1026, 92, 1025, 823, 822, 100, 101, 573, 572, 90], [132, 436, 299, 272, 103, 133, 327, 113, 255, 178, 408, 348, 379, 95, 1064, 303], [304, 310, 306, 993, 308, 983, 311, 312, 987, 991, 995, 276, 281, 282, 283, 284], [279, 277, 567, 571, 958, 107, 207, 209, 108, 211, 110, 213, 217, 219, 112, 227], [229, 220, 222, 225, 184, 187, 191, 528, 532, 536, 553, 554, 140, 144, 149, 153], [156, 159, 161, 194, 195, 555, 658, 660, 659, 91, 661, 674, 676, 675, 677, 670], [669, 713, 726, 727, 732, 119, 733, 821, 824, 832, 828, 836, 860, 866, 137, 160], [138, 155, 697, 141, 145, 151, 157, 193, 725, 717, 721, 731, 737, 767, 771, 776], [775, 331, 332, 333, 419, 423, 334, 336, 705, 215, 709, 190, 147, 117, 120, 122], [121, 118, 632, 665, 668, 671, 259, 260, 261, 594, 263, 598, 633, 602, 621, 640], [644, 606, 610, 637, 614, 617, 625, 628, 182, 183, 186, 412, 413, 422, 415, 417], [420, 1024, 352, 355, 357, 358, 359, 360, 353, 361, 746, 362, 749, 754, 755, 759], [763, 780, 143, 148, 152, 158, 753, 383, 386, 392, 384, 393, 388, 792, 793, 797], [224, 214, 802, 806, 189, 146, 390, 801, 99, 102, 104, 438, 254, 439, 271, 440], [298, 441, 326, 442, 347, 443, 378, 380, 444, 405, 445, 407, 446, 447, 448, 449], [450, 451, 221, 208, 210, 223, 212, 139, 142, 493, 500, 508, 414, 511, 421, 515], [424, 496, 519, 524, 540, 548, 549, 559, 563, 582, 262, 230, 590, 228, 652, 653], [216, 654, 682, 226, 685, 689, 701, 335, 337, 150, 154, 742, 356, 788, 389, 391], [387, 185, 188, 811, 816, 817, 218, 844, 852, 856, 870, 875, 878, 882, 894, 898], [905, 902, 693, 904, 909, 910, 911, 916, 920, 921, 922, 931, 192, 162, 944, 949], [278, 954, 280, 963, 971, 979, 1003, 1011, 1012, 1020, 1031, 1035, 1043, 418, 1048, 416], [305, 1056, 307, 309, 499, 1068, 1069, 1070, 1071, 1072, 1078, 1079, 1080, 1082, 1089, 1090], [1095, 1096, 1097, 1100, 1101, 1102, 1103, 1106, 1107, 1109, 1110, 1114, 1115, 1116, 1117, 1083], [1074, 1073, 1075, 1230, 1076, 1077, 1248, 1229, 1237, 1245, 1249, 1242, 1250, 1258, 1261, 1270], [1274, 1275, 1276, 1280, 1281, 1289, 1266, 1285, 1290, 1294, 1299, 1306, 1081, 1085, 1086, 1084], [1087, 1339, 1319, 1347, 1323, 1327, 1331, 1335, 1088, 1343, 1315, 1351, 1311, 1366, 1358, 1362], [1091, 1092, 1390, 1406, 1093, 1094, 1382, 1386, 1373, 1377, 1378, 1402, 1398, 1098, 1099, 1419], [1415, 1414, 1434, 1438, 1442, 1430, 1454, 1457, 1465, 1469, 1481, 1489, 1490, 1491, 1496, 1104], [1105, 1108, 1111, 1536, 1532, 1113, 1540, 1112, 1544, 1548, 1528, 1568, 1572, 1579, 1588, 1592], [863, 864, 865, 94, 96, 1063, 1065, 481, 1225, 485, 1233, 489, 1238, 504, 1254, 520], [1262, 574, 1295, 578, 1302, 586, 1307, 648, 1354, 678, 1369, 738, 1394, 784, 1410, 807], [1422, 812, 1426, 840, 1446, 848, 1450, 871, 1461, 886, 1473, 890, 1477, 912, 1485, 923], [1492, 927, 1500, 932, 1504, 936, 1508, 940, 1512, 945, 1516, 950, 1217, 959, 1221, 967], [1520, 975, 1524, 999, 1552, 1007, 1556, 1016, 1560, 1599, 1027, 1564, 1039, 1575, 1044, 1580], [1052, 1584, 1059, 1595]]
def zNp : List Nat := [114, 134, 179, 544, 546, 354, 385, 256, 273, 300, 328, 349, 409, 437]
abbrev zCw : List (List Cond) := [u_ws RX0 TX0 6, u_ws RX1 TX1 6, u_ws RX2 TX2 11, u_ws RX3 TX3 7, u_ws RX4 TX4 4, u_ws RX5 TX5 4, u_ws RX6 TX6 3, u_ws RX7 TX7 5, u_ws RX8 TX8 5, u_ws RX9 TX9 7, u_ws RX10 TX10 5, u_ws RX11 TX11 14, u_ws RX12 TX12 49]
def zCp : List (List Nat) := [[313, 315, 317, 319, 321, 323], [285, 287, 289, 291, 293, 295], [231, 233, 235, 237, 239, 241, 243, 245, 247, 249, 251], [163, 165, 167, 169, 171, 173, 175], [338, 340, 342, 344], [123, 125, 127, 129], [264, 266, 268], [196, 198, 200, 202, 204], [425, 427, 429, 431, 433], [363, 365, 367, 369, 371, 373, 375], [394, 396, 398, 400, 402], [452, 454, 456, 458, 460, 462, 464, 466, 468, 470, 472, 474, 476, 478], [1118, 1120, 1122, 1124, 1126, 1128, 1130, 1132, 1134, 1136, 1138, 1140, 1142, 1144, 1146, 1148, 1150, 1152, 1154, 1156, 1158, 1160, 1162, 1164, 1166, 1168, 1170, 1172, 1174, 1176, 1178, 1180, 1182, 1184, 1186, 1188, 1190, 1192, 1194, 1196, 1198, 1200, 1202, 1204, 1206, 1208, 1210, 1212, 1214]]
def zWall : List Cond := zW.flatten ++ zCw.flatten
def zat (l : List Cond) (p : Nat) (w : Cond) : Bool := decide (zget l p = some w)
def zatl (l : List Cond) : List Nat → List Cond → Bool
  | [], [] => true
  | p :: ps, w :: ws => zat l p w && zatl l ps ws
  | _, _ => false
def zatll (l : List Cond) : List (List Nat) → List (List Cond) → Bool
  | [], [] => true
  | p :: ps, w :: ws => zatl l p w && zatll l ps ws
  | _, _ => false
theorem zget_mem6 {α : Type} : ∀ {l : List α} {i : Nat} {x : α}, zget l i = some x → x ∈ l
  | [], i, x, h => by simp [zget] at h
  | a :: l, 0, x, h => by simp only [zget, Option.some.injEq] at h; subst h; exact List.mem_cons_self
  | _ :: l, i + 1, x, h => List.mem_cons_of_mem _ (zget_mem6 (l := l) (i := i) h)
theorem zatl_in {l : List Cond} : ∀ {ps : List Nat} {ws : List Cond}, zatl l ps ws = true → ∀ w ∈ ws, w ∈ l
  | [], [], _, w, h => by simp at h
  | p :: ps, x :: ws, hc, w, h => by
    simp only [zatl, Bool.and_eq_true, zat, decide_eq_true_eq] at hc
    rcases List.mem_cons.mp h with rfl | h
    · exact zget_mem6 hc.1
    · exact zatl_in hc.2 w h
  | [], _ :: _, hc, _, _ => by simp [zatl] at hc
  | _ :: _, [], _, w, h => by simp at h
theorem zatll_in {l : List Cond} : ∀ {ps : List (List Nat)} {ws : List (List Cond)}, zatll l ps ws = true → ∀ w ∈ ws.flatten, w ∈ l
  | [], [], _, w, h => by simp at h
  | p :: ps, x :: ws, hc, w, h => by
    simp only [zatll, Bool.and_eq_true] at hc
    rw [List.flatten_cons] at h
    rcases List.mem_append.mp h with h | h
    · exact zatl_in hc.1 w h
    · exact zatll_in hc.2 w h
  | [], _ :: _, hc, _, _ => by simp [zatll] at hc
  | _ :: _, [], _, w, h => by simp at h
end
section
theorem zWa_0 : zatl lw_tbl [302, 84, 301, 986, 984, 985, 974, 972, 973, 1058, 1057, 1006, 1004, 1005, 982, 980] zW_0 = true := by decide +kernel
theorem zWa_1 : zatl lw_tbl [981, 990, 989, 28, 998, 997, 29, 275, 83, 274, 566, 564, 565, 570, 569, 1] zW_1 = true := by decide +kernel
theorem zWa_2 : zatl lw_tbl [957, 955, 956, 966, 964, 965, 106, 78, 105, 531, 529, 530, 535, 533, 534, 539] zW_2 = true := by decide +kernel
theorem zWa_3 : zatl lw_tbl [537, 538, 503, 501, 502, 527, 525, 526, 543, 541, 542, 552, 550, 551, 562, 560] zW_3 = true := by decide +kernel
theorem zWa_4 : zatl lw_tbl [561, 919, 917, 918, 657, 655, 656, 712, 710, 711, 820, 818, 819, 827, 826, 19] zW_4 = true := by decide +kernel
theorem zWa_5 : zatl lw_tbl [835, 834, 21, 831, 830, 20, 839, 838, 22, 847, 845, 846, 855, 853, 854, 859] zW_5 = true := by decide +kernel
theorem zWa_6 : zatl lw_tbl [857, 858, 869, 868, 23, 136, 80, 135, 696, 694, 695, 700, 698, 699, 558, 556] zW_6 = true := by decide +kernel
theorem zWa_7 : zatl lw_tbl [557, 720, 718, 719, 724, 722, 723, 716, 714, 715, 730, 728, 729, 736, 734, 735] zW_7 = true := by decide +kernel
theorem zWa_8 : zatl lw_tbl [766, 764, 765, 770, 769, 13, 774, 773, 14, 779, 778, 15, 330, 85, 329, 688] zW_8 = true := by decide +kernel
theorem zWa_9 : zatl lw_tbl [686, 687, 704, 702, 703, 708, 707, 9, 885, 883, 884, 116, 79, 115, 597, 595] zW_9 = true := by decide +kernel
theorem zWa_10 : zatl lw_tbl [596, 624, 622, 623, 631, 629, 630, 643, 641, 642, 647, 645, 646, 664, 662, 663] zW_10 = true := by decide +kernel
theorem zWa_11 : zatl lw_tbl [667, 666, 673, 672, 258, 82, 257, 585, 583, 584, 593, 591, 592, 601, 600, 2] zW_11 = true := by decide +kernel
end
section
theorem zWa_12 : zatl lw_tbl [605, 604, 3, 609, 608, 4, 620, 619, 6, 613, 612, 5, 636, 635, 7, 616] zW_12 = true := by decide +kernel
theorem zWa_13 : zatl lw_tbl [615, 627, 626, 639, 638, 181, 81, 180, 805, 803, 804, 411, 88, 410, 1015, 1013] zW_13 = true := by decide +kernel
theorem zWa_14 : zatl lw_tbl [1014, 1023, 1021, 1022, 514, 512, 513, 1051, 1049, 1050, 1038, 1036, 1037, 351, 86, 350] zW_14 = true := by decide +kernel
theorem zWa_15 : zatl lw_tbl [745, 743, 744, 762, 761, 12, 783, 782, 16, 758, 757, 11, 748, 747, 752, 751] zW_15 = true := by decide +kernel
theorem zWa_16 : zatl lw_tbl [10, 382, 87, 381, 791, 789, 790, 796, 795, 17, 800, 799, 18, 98, 77, 97] zW_16 = true := by decide +kernel
theorem zWa_17 : zatl lw_tbl [484, 482, 483, 488, 486, 487, 492, 490, 491, 507, 505, 506, 518, 517, 0, 523] zW_17 = true := by decide +kernel
theorem zWa_18 : zatl lw_tbl [521, 522, 577, 575, 576, 581, 579, 580, 589, 587, 588, 651, 649, 650, 681, 679] zW_18 = true := by decide +kernel
theorem zWa_19 : zatl lw_tbl [680, 741, 739, 740, 787, 785, 786, 810, 808, 809, 815, 813, 814, 843, 841, 842] zW_19 = true := by decide +kernel
theorem zWa_20 : zatl lw_tbl [851, 849, 850, 874, 872, 873, 889, 887, 888, 893, 891, 892, 897, 896, 25, 901] zW_20 = true := by decide +kernel
theorem zWa_21 : zatl lw_tbl [900, 26, 908, 907, 27, 915, 913, 914, 926, 924, 925, 930, 928, 929, 935, 933] zW_21 = true := by decide +kernel
theorem zWa_22 : zatl lw_tbl [934, 939, 937, 938, 943, 941, 942, 948, 946, 947, 953, 951, 952, 962, 960, 961] zW_22 = true := by decide +kernel
theorem zWa_23 : zatl lw_tbl [970, 968, 969, 978, 976, 977, 1002, 1000, 1001, 1010, 1008, 1009, 1019, 1017, 1018, 1030] zW_23 = true := by decide +kernel
end
section
theorem zWa_24 : zatl lw_tbl [1028, 1029, 1042, 1040, 1041, 1047, 1045, 1046, 1055, 1053, 1054, 1062, 1060, 1061, 510, 509] zW_24 = true := by decide +kernel
theorem zWa_25 : zatl lw_tbl [877, 876, 498, 497, 495, 494, 692, 691, 8, 684, 683, 881, 880, 24, 1034, 1033] zW_25 = true := by decide +kernel
theorem zWa_26 : zatl lw_tbl [30, 1232, 89, 1231, 1421, 1420, 1456, 1455, 1368, 1367, 1067, 1066, 1293, 1292, 37, 1220] zW_26 = true := by decide +kernel
theorem zWa_27 : zatl lw_tbl [1218, 1219, 1224, 1222, 1223, 1273, 1272, 33, 1279, 1278, 34, 1284, 1283, 35, 1247, 1246] zW_27 = true := by decide +kernel
theorem zWa_28 : zatl lw_tbl [1228, 1226, 1227, 1236, 1234, 1235, 1244, 1243, 1253, 1252, 31, 1241, 1239, 1240, 1257, 1255] zW_28 = true := by decide +kernel
theorem zWa_29 : zatl lw_tbl [1256, 1269, 1268, 32, 1288, 1287, 36, 1265, 1263, 1264, 1298, 1296, 1297, 1305, 1303, 1304] zW_29 = true := by decide +kernel
theorem zWa_30 : zatl lw_tbl [1342, 1341, 45, 1346, 1345, 46, 1350, 1349, 47, 1318, 1317, 39, 1322, 1321, 40, 1326] zW_30 = true := by decide +kernel
theorem zWa_31 : zatl lw_tbl [1325, 41, 1330, 1329, 42, 1334, 1333, 43, 1353, 1352, 1338, 1337, 44, 1314, 1313, 38] zW_31 = true := by decide +kernel
theorem zWa_32 : zatl lw_tbl [1310, 1308, 1309, 1361, 1360, 48, 1301, 1300, 1365, 1364, 49, 1357, 1355, 1356, 1393, 1392] zW_32 = true := by decide +kernel
theorem zWa_33 : zatl lw_tbl [54, 1389, 1388, 53, 1405, 1404, 56, 1409, 1408, 57, 1376, 1375, 50, 1385, 1384, 52] zW_33 = true := by decide +kernel
theorem zWa_34 : zatl lw_tbl [1381, 1380, 51, 1372, 1370, 1371, 1401, 1400, 55, 1397, 1395, 1396, 1418, 1417, 58, 1413] zW_34 = true := by decide +kernel
theorem zWa_35 : zatl lw_tbl [1411, 1412, 1425, 1423, 1424, 1437, 1436, 60, 1445, 1444, 62, 1441, 1440, 61, 1433, 1432] zW_35 = true := by decide +kernel
end
section
theorem zWa_36 : zatl lw_tbl [59, 1429, 1427, 1428, 1449, 1447, 1448, 1460, 1459, 63, 1453, 1451, 1452, 1468, 1467, 64] zW_36 = true := by decide +kernel
theorem zWa_37 : zatl lw_tbl [1472, 1471, 65, 1464, 1462, 1463, 1476, 1474, 1475, 1484, 1483, 66, 1480, 1478, 1479, 1488] zW_37 = true := by decide +kernel
theorem zWa_38 : zatl lw_tbl [1486, 1487, 1499, 1498, 67, 1495, 1493, 1494, 1503, 1501, 1502, 1507, 1505, 1506, 1511, 1509] zW_38 = true := by decide +kernel
theorem zWa_39 : zatl lw_tbl [1510, 1515, 1513, 1514, 1519, 1517, 1518, 1531, 1530, 68, 1591, 1590, 75, 1523, 1521, 1522] zW_39 = true := by decide +kernel
theorem zWa_40 : zatl lw_tbl [1594, 1593, 1539, 1538, 70, 1535, 1534, 69, 1543, 1542, 71, 1547, 1546, 72, 1551, 1550] zW_40 = true := by decide +kernel
theorem zWa_41 : zatl lw_tbl [73, 1527, 1525, 1526, 1555, 1553, 1554, 1260, 1259, 1559, 1557, 1558, 1563, 1561, 1562, 1571] zW_41 = true := by decide +kernel
theorem zWa_42 : zatl lw_tbl [1570, 74, 1574, 1573, 1567, 1565, 1566, 1578, 1576, 1577, 1583, 1581, 1582, 1587, 1585, 1586] zW_42 = true := by decide +kernel
theorem zWa_43 : zatl lw_tbl [1598, 1596, 1597, 862, 93, 861, 1026, 92, 1025, 823, 822, 100, 101, 573, 572, 90] zW_43 = true := by decide +kernel
theorem zWa_44 : zatl lw_tbl [132, 436, 299, 272, 103, 133, 327, 113, 255, 178, 408, 348, 379, 95, 1064, 303] zW_44 = true := by decide +kernel
theorem zWa_45 : zatl lw_tbl [304, 310, 306, 993, 308, 983, 311, 312, 987, 991, 995, 276, 281, 282, 283, 284] zW_45 = true := by decide +kernel
theorem zWa_46 : zatl lw_tbl [279, 277, 567, 571, 958, 107, 207, 209, 108, 211, 110, 213, 217, 219, 112, 227] zW_46 = true := by decide +kernel
theorem zWa_47 : zatl lw_tbl [229, 220, 222, 225, 184, 187, 191, 528, 532, 536, 553, 554, 140, 144, 149, 153] zW_47 = true := by decide +kernel
end
section
theorem zWa_48 : zatl lw_tbl [156, 159, 161, 194, 195, 555, 658, 660, 659, 91, 661, 674, 676, 675, 677, 670] zW_48 = true := by decide +kernel
theorem zWa_49 : zatl lw_tbl [669, 713, 726, 727, 732, 119, 733, 821, 824, 832, 828, 836, 860, 866, 137, 160] zW_49 = true := by decide +kernel
theorem zWa_50 : zatl lw_tbl [138, 155, 697, 141, 145, 151, 157, 193, 725, 717, 721, 731, 737, 767, 771, 776] zW_50 = true := by decide +kernel
theorem zWa_51 : zatl lw_tbl [775, 331, 332, 333, 419, 423, 334, 336, 705, 215, 709, 190, 147, 117, 120, 122] zW_51 = true := by decide +kernel
theorem zWa_52 : zatl lw_tbl [121, 118, 632, 665, 668, 671, 259, 260, 261, 594, 263, 598, 633, 602, 621, 640] zW_52 = true := by decide +kernel
theorem zWa_53 : zatl lw_tbl [644, 606, 610, 637, 614, 617, 625, 628, 182, 183, 186, 412, 413, 422, 415, 417] zW_53 = true := by decide +kernel
theorem zWa_54 : zatl lw_tbl [420, 1024, 352, 355, 357, 358, 359, 360, 353, 361, 746, 362, 749, 754, 755, 759] zW_54 = true := by decide +kernel
theorem zWa_55 : zatl lw_tbl [763, 780, 143, 148, 152, 158, 753, 383, 386, 392, 384, 393, 388, 792, 793, 797] zW_55 = true := by decide +kernel
theorem zWa_56 : zatl lw_tbl [224, 214, 802, 806, 189, 146, 390, 801, 99, 102, 104, 438, 254, 439, 271, 440] zW_56 = true := by decide +kernel
theorem zWa_57 : zatl lw_tbl [298, 441, 326, 442, 347, 443, 378, 380, 444, 405, 445, 407, 446, 447, 448, 449] zW_57 = true := by decide +kernel
theorem zWa_58 : zatl lw_tbl [450, 451, 221, 208, 210, 223, 212, 139, 142, 493, 500, 508, 414, 511, 421, 515] zW_58 = true := by decide +kernel
theorem zWa_59 : zatl lw_tbl [424, 496, 519, 524, 540, 548, 549, 559, 563, 582, 262, 230, 590, 228, 652, 653] zW_59 = true := by decide +kernel
end
section
theorem zWa_60 : zatl lw_tbl [216, 654, 682, 226, 685, 689, 701, 335, 337, 150, 154, 742, 356, 788, 389, 391] zW_60 = true := by decide +kernel
theorem zWa_61 : zatl lw_tbl [387, 185, 188, 811, 816, 817, 218, 844, 852, 856, 870, 875, 878, 882, 894, 898] zW_61 = true := by decide +kernel
theorem zWa_62 : zatl lw_tbl [905, 902, 693, 904, 909, 910, 911, 916, 920, 921, 922, 931, 192, 162, 944, 949] zW_62 = true := by decide +kernel
theorem zWa_63 : zatl lw_tbl [278, 954, 280, 963, 971, 979, 1003, 1011, 1012, 1020, 1031, 1035, 1043, 418, 1048, 416] zW_63 = true := by decide +kernel
theorem zWa_64 : zatl lw_tbl [305, 1056, 307, 309, 499, 1068, 1069, 1070, 1071, 1072, 1078, 1079, 1080, 1082, 1089, 1090] zW_64 = true := by decide +kernel
theorem zWa_65 : zatl lw_tbl [1095, 1096, 1097, 1100, 1101, 1102, 1103, 1106, 1107, 1109, 1110, 1114, 1115, 1116, 1117, 1083] zW_65 = true := by decide +kernel
theorem zWa_66 : zatl lw_tbl [1074, 1073, 1075, 1230, 1076, 1077, 1248, 1229, 1237, 1245, 1249, 1242, 1250, 1258, 1261, 1270] zW_66 = true := by decide +kernel
theorem zWa_67 : zatl lw_tbl [1274, 1275, 1276, 1280, 1281, 1289, 1266, 1285, 1290, 1294, 1299, 1306, 1081, 1085, 1086, 1084] zW_67 = true := by decide +kernel
theorem zWa_68 : zatl lw_tbl [1087, 1339, 1319, 1347, 1323, 1327, 1331, 1335, 1088, 1343, 1315, 1351, 1311, 1366, 1358, 1362] zW_68 = true := by decide +kernel
theorem zWa_69 : zatl lw_tbl [1091, 1092, 1390, 1406, 1093, 1094, 1382, 1386, 1373, 1377, 1378, 1402, 1398, 1098, 1099, 1419] zW_69 = true := by decide +kernel
theorem zWa_70 : zatl lw_tbl [1415, 1414, 1434, 1438, 1442, 1430, 1454, 1457, 1465, 1469, 1481, 1489, 1490, 1491, 1496, 1104] zW_70 = true := by decide +kernel
theorem zWa_71 : zatl lw_tbl [1105, 1108, 1111, 1536, 1532, 1113, 1540, 1112, 1544, 1548, 1528, 1568, 1572, 1579, 1588, 1592] zW_71 = true := by decide +kernel
end
section
theorem zWa_72 : zatl lw_tbl [863, 864, 865, 94, 96, 1063, 1065, 481, 1225, 485, 1233, 489, 1238, 504, 1254, 520] zW_72 = true := by decide +kernel
theorem zWa_73 : zatl lw_tbl [1262, 574, 1295, 578, 1302, 586, 1307, 648, 1354, 678, 1369, 738, 1394, 784, 1410, 807] zW_73 = true := by decide +kernel
theorem zWa_74 : zatl lw_tbl [1422, 812, 1426, 840, 1446, 848, 1450, 871, 1461, 886, 1473, 890, 1477, 912, 1485, 923] zW_74 = true := by decide +kernel
theorem zWa_75 : zatl lw_tbl [1492, 927, 1500, 932, 1504, 936, 1508, 940, 1512, 945, 1516, 950, 1217, 959, 1221, 967] zW_75 = true := by decide +kernel
theorem zWa_76 : zatl lw_tbl [1520, 975, 1524, 999, 1552, 1007, 1556, 1016, 1560, 1599, 1027, 1564, 1039, 1575, 1044, 1580] zW_76 = true := by decide +kernel
theorem zWa_77 : zatl lw_tbl [1052, 1584, 1059, 1595] zW_77 = true := by decide +kernel
end
section
set_option maxRecDepth 20000 in
theorem zW_at : zatll lw_tbl zWp zW = true := z_and zWa_0 (z_and zWa_1 (z_and zWa_2 (z_and zWa_3 (z_and zWa_4 (z_and zWa_5 (z_and zWa_6 (z_and zWa_7 (z_and zWa_8 (z_and zWa_9 (z_and zWa_10 (z_and zWa_11 (z_and zWa_12 (z_and zWa_13 (z_and zWa_14 (z_and zWa_15 (z_and zWa_16 (z_and zWa_17 (z_and zWa_18 (z_and zWa_19 (z_and zWa_20 (z_and zWa_21 (z_and zWa_22 (z_and zWa_23 (z_and zWa_24 (z_and zWa_25 (z_and zWa_26 (z_and zWa_27 (z_and zWa_28 (z_and zWa_29 (z_and zWa_30 (z_and zWa_31 (z_and zWa_32 (z_and zWa_33 (z_and zWa_34 (z_and zWa_35 (z_and zWa_36 (z_and zWa_37 (z_and zWa_38 (z_and zWa_39 (z_and zWa_40 (z_and zWa_41 (z_and zWa_42 (z_and zWa_43 (z_and zWa_44 (z_and zWa_45 (z_and zWa_46 (z_and zWa_47 (z_and zWa_48 (z_and zWa_49 (z_and zWa_50 (z_and zWa_51 (z_and zWa_52 (z_and zWa_53 (z_and zWa_54 (z_and zWa_55 (z_and zWa_56 (z_and zWa_57 (z_and zWa_58 (z_and zWa_59 (z_and zWa_60 (z_and zWa_61 (z_and zWa_62 (z_and zWa_63 (z_and zWa_64 (z_and zWa_65 (z_and zWa_66 (z_and zWa_67 (z_and zWa_68 (z_and zWa_69 (z_and zWa_70 (z_and zWa_71 (z_and zWa_72 (z_and zWa_73 (z_and zWa_74 (z_and zWa_75 (z_and zWa_76 (z_and zWa_77 (rfl))))))))))))))))))))))))))))))))))))))))))))))))))))))))))))))))))))))))))))))
theorem zCa_0 : zatl lw_tbl [313, 315, 317, 319, 321, 323] (u_ws RX0 TX0 6) = true := by decide +kernel
theorem zCa_1 : zatl lw_tbl [285, 287, 289, 291, 293, 295] (u_ws RX1 TX1 6) = true := by decide +kernel
theorem zCa_2 : zatl lw_tbl [231, 233, 235, 237, 239, 241, 243, 245, 247, 249, 251] (u_ws RX2 TX2 11) = true := by decide +kernel
theorem zCa_3 : zatl lw_tbl [163, 165, 167, 169, 171, 173, 175] (u_ws RX3 TX3 7) = true := by decide +kernel
theorem zCa_4 : zatl lw_tbl [338, 340, 342, 344] (u_ws RX4 TX4 4) = true := by decide +kernel
theorem zCa_5 : zatl lw_tbl [123, 125, 127, 129] (u_ws RX5 TX5 4) = true := by decide +kernel
theorem zCa_6 : zatl lw_tbl [264, 266, 268] (u_ws RX6 TX6 3) = true := by decide +kernel
theorem zCa_7 : zatl lw_tbl [196, 198, 200, 202, 204] (u_ws RX7 TX7 5) = true := by decide +kernel
theorem zCa_8 : zatl lw_tbl [425, 427, 429, 431, 433] (u_ws RX8 TX8 5) = true := by decide +kernel
theorem zCa_9 : zatl lw_tbl [363, 365, 367, 369, 371, 373, 375] (u_ws RX9 TX9 7) = true := by decide +kernel
theorem zCa_10 : zatl lw_tbl [394, 396, 398, 400, 402] (u_ws RX10 TX10 5) = true := by decide +kernel
theorem zCa_11 : zatl lw_tbl [452, 454, 456, 458, 460, 462, 464, 466, 468, 470, 472, 474, 476, 478] (u_ws RX11 TX11 14) = true := by decide +kernel
theorem zCa_12 : zatl lw_tbl [1118, 1120, 1122, 1124, 1126, 1128, 1130, 1132, 1134, 1136, 1138, 1140, 1142, 1144, 1146, 1148, 1150, 1152, 1154, 1156, 1158, 1160, 1162, 1164, 1166, 1168, 1170, 1172, 1174, 1176, 1178, 1180, 1182, 1184, 1186, 1188, 1190, 1192, 1194, 1196, 1198, 1200, 1202, 1204, 1206, 1208, 1210, 1212, 1214] (u_ws RX12 TX12 49) = true := by decide +kernel
set_option maxRecDepth 20000 in
theorem zC_at : zatll lw_tbl zCp zCw = true := z_and zCa_0 (z_and zCa_1 (z_and zCa_2 (z_and zCa_3 (z_and zCa_4 (z_and zCa_5 (z_and zCa_6 (z_and zCa_7 (z_and zCa_8 (z_and zCa_9 (z_and zCa_10 (z_and zCa_11 (z_and zCa_12 (rfl)))))))))))))
end
section
theorem zN_at : zatl lw_tbl zNp zN = true := by decide +kernel
theorem zWall_in : ∀ w ∈ zWall, w ∈ lw_tbl := fun w h => (List.mem_append.mp h).elim (zatll_in zW_at w) (zatll_in zC_at w)
theorem zN_in : ∀ w ∈ zN, w ∈ lw_tbl := zatl_in zN_at
theorem zWall_good : zWall.all goodWord = true := by decide +kernel
theorem zN_tabs : zN.all (fun w => w.onTables) = true := by decide +kernel
theorem zin_0 : ∀ w ∈ u_ws RX0 TX0 6, w ∈ zWall := fun w h => List.mem_append_right _ (List.mem_flatten.mpr ⟨_, List.mem_of_getElem? (i := 0) rfl, h⟩)
theorem zin_1 : ∀ w ∈ u_ws RX1 TX1 6, w ∈ zWall := fun w h => List.mem_append_right _ (List.mem_flatten.mpr ⟨_, List.mem_of_getElem? (i := 1) rfl, h⟩)
theorem zin_2 : ∀ w ∈ u_ws RX2 TX2 11, w ∈ zWall := fun w h => List.mem_append_right _ (List.mem_flatten.mpr ⟨_, List.mem_of_getElem? (i := 2) rfl, h⟩)
theorem zin_3 : ∀ w ∈ u_ws RX3 TX3 7, w ∈ zWall := fun w h => List.mem_append_right _ (List.mem_flatten.mpr ⟨_, List.mem_of_getElem? (i := 3) rfl, h⟩)
theorem zin_4 : ∀ w ∈ u_ws RX4 TX4 4, w ∈ zWall := fun w h => List.mem_append_right _ (List.mem_flatten.mpr ⟨_, List.mem_of_getElem? (i := 4) rfl, h⟩)
theorem zin_5 : ∀ w ∈ u_ws RX5 TX5 4, w ∈ zWall := fun w h => List.mem_append_right _ (List.mem_flatten.mpr ⟨_, List.mem_of_getElem? (i := 5) rfl, h⟩)
theorem zin_6 : ∀ w ∈ u_ws RX6 TX6 3, w ∈ zWall := fun w h => List.mem_append_right _ (List.mem_flatten.mpr ⟨_, List.mem_of_getElem? (i := 6) rfl, h⟩)
theorem zin_7 : ∀ w ∈ u_ws RX7 TX7 5, w ∈ zWall := fun w h => List.mem_append_right _ (List.mem_flatten.mpr ⟨_, List.mem_of_getElem? (i := 7) rfl, h⟩)
theorem zin_8 : ∀ w ∈ u_ws RX8 TX8 5, w ∈ zWall := fun w h => List.mem_append_right _ (List.mem_flatten.mpr ⟨_, List.mem_of_getElem? (i := 8) rfl, h⟩)
theorem zin_9 : ∀ w ∈ u_ws RX9 TX9 7, w ∈ zWall := fun w h => List.mem_append_right _ (List.mem_flatten.mpr ⟨_, List.mem_of_getElem? (i := 9) rfl, h⟩)
theorem zin_10 : ∀ w ∈ u_ws RX10 TX10 5, w ∈ zWall := fun w h => List.mem_append_right _ (List.mem_flatten.mpr ⟨_, List.mem_of_getElem? (i := 10) rfl, h⟩)
theorem zin_11 : ∀ w ∈ u_ws RX11 TX11 14, w ∈ zWall := fun w h => List.mem_append_right _ (List.mem_flatten.mpr ⟨_, List.mem_of_getElem? (i := 11) rfl, h⟩)
theorem zin_12 : ∀ w ∈ u_ws RX12 TX12 49, w ∈ zWall := fun w h => List.mem_append_right _ (List.mem_flatten.mpr ⟨_, List.mem_of_getElem? (i := 12) rfl, h⟩)
theorem zw_in {p : Nat} {w : Cond} (h : zis p w = true) : w ∈ zWall := by
  have h : zw p = some w := of_decide_eq_true h
  unfold zw at h
  cases h1 : zget zW (p / 16) with
  | none =>
    rw [h1] at h
    cases h
  | some g =>
    rw [h1] at h
    exact List.mem_append_left _ (List.mem_flatten.mpr ⟨g, zget_mem6 h1, zget_mem6 h⟩)
/-- a method's own words -/
def zmchk (mi : Nat) (M : zM) : Bool := match M with
  | (y, cc, L, r, n, st, p0, p1, p2, p3) => zis p0 (.code y cc L r) && zis p1 (.initialized y.cls) && (bif st then zis p2 (.static y) else zis p2 (.instanceMethod y) && (decide (y.name = "<init>") || zis p3 (.selects y.cls y y))) && decide (plainName y.cls = true) && decide (y.cls ≠ "java/lang/invoke/MethodHandle" ∧ y.cls ≠ "java/lang/invoke/VarHandle") && decide ((parseMethodDescriptor y.desc).map (fun d => d.parameters.length) = some n) && decide (L ≤ 20) && decide (zL mi = L)
def zmG : Nat → List zM → Bool
  | _, [] => true
  | mi, M :: r => (decide (mi = zlaw) || zmchk mi M) && zmG (mi + 1) r
def zmA : Nat → List (List zM) → Bool
  | _, [] => true
  | mi, g :: r => zmG mi g && zmA (mi + 16) r
end
section
theorem zmG_0 : zmG 0 zm_0 = true := by decide +kernel
theorem zmG_1 : zmG 16 zm_1 = true := by decide +kernel
theorem zmG_2 : zmG 32 zm_2 = true := by decide +kernel
theorem zmG_3 : zmG 48 zm_3 = true := by decide +kernel
theorem zmG_4 : zmG 64 zm_4 = true := by decide +kernel
theorem zmG_5 : zmG 80 zm_5 = true := by decide +kernel
theorem zmG_6 : zmG 96 zm_6 = true := by decide +kernel
theorem zmG_7 : zmG 112 zm_7 = true := by decide +kernel
end
section
theorem zmG_8 : zmG 128 zm_8 = true := by decide +kernel
theorem zmG_9 : zmG 144 zm_9 = true := by decide +kernel
theorem zmG_10 : zmG 160 zm_10 = true := by decide +kernel
theorem zmG_11 : zmG 176 zm_11 = true := by decide +kernel
theorem zmG_12 : zmG 192 zm_12 = true := by decide +kernel
theorem zmG_13 : zmG 208 zm_13 = true := by decide +kernel
theorem zmG_14 : zmG 224 zm_14 = true := by decide +kernel
theorem zmG_15 : zmG 240 zm_15 = true := by decide +kernel
end
section
set_option maxRecDepth 20000 in
theorem zmA_ok : zmA 0 zma = true := z_and zmG_0 (z_and zmG_1 (z_and zmG_2 (z_and zmG_3 (z_and zmG_4 (z_and zmG_5 (z_and zmG_6 (z_and zmG_7 (z_and zmG_8 (z_and zmG_9 (z_and zmG_10 (z_and zmG_11 (z_and zmG_12 (z_and zmG_13 (z_and zmG_14 (z_and zmG_15 (rfl))))))))))))))))
theorem zmG_at : ∀ {g : List zM} {mi j : Nat} {M : zM}, zmG mi g = true → zget g j = some M → mi + j = zlaw ∨ zmchk (mi + j) M = true
  | [], _, _, _, _, h => by simp [zget] at h
  | x :: g, mi, 0, t, hc, h => by
    simp only [zget, Option.some.injEq] at h
    subst h
    simp only [zmG, Bool.and_eq_true, Bool.or_eq_true, decide_eq_true_eq] at hc
    exact hc.1
  | x :: g, mi, j + 1, t, hc, h => by
    simp only [zmG, Bool.and_eq_true] at hc
    have := zmG_at (g := g) (mi := mi + 1) (j := j) (M := t) hc.2 h
    rw [show mi + (j + 1) = mi + 1 + j by omega]
    exact this
theorem zmA_at : ∀ {a : List (List zM)} {mi q : Nat} {g : List zM}, zmA mi a = true → zget a q = some g → zmG (mi + 16 * q) g = true
  | [], _, _, _, _, h => by simp [zget] at h
  | x :: a, mi, 0, g, hc, h => by
    simp only [zget, Option.some.injEq] at h
    subst h
    simp only [zmA, Bool.and_eq_true] at hc
    exact hc.1
  | x :: a, mi, q + 1, g, hc, h => by
    simp only [zmA, Bool.and_eq_true] at hc
    have := zmA_at (a := a) (mi := mi + 16) (q := q) (g := g) hc.2 h
    rw [show mi + 16 * (q + 1) = mi + 16 + 16 * q by omega]
    exact this
theorem zm_ok {mi : Nat} {M : zM} (h : zm mi = some M) (hl : mi ≠ zlaw) : zmchk mi M = true := by
  unfold zm at h
  cases h1 : zget zma (mi / 16) with
  | none => simp [h1] at h
  | some g =>
    simp only [h1] at h
    have a := zmG_at (zmA_at zmA_ok h1) h
    rw [show 0 + 16 * (mi / 16) + mi % 16 = mi by omega] at a
    exact a.resolve_left hl
end
section
/-! THE SMALL MACHINE AND THE REAL ONE: what a heap holds, and a step at a time. -/
def zad (sa : Nat → Nat) (base k : Nat) : Nat := if k < 6 then sa k else base + (k - 6)
def zA (base : Nat) : Nat → Prop := fun q => base ≤ q
def zv (ad : Nat → Nat) : Value → Value
  | .ref k => .ref (ad k)
  | v => v
theorem zv_cat (ad : Nat → Nat) (v : Value) : (zv ad v).category = v.category := by cases v <;> rfl
theorem zlong_cat (v : Value) : zlong v = true ↔ v.category = 2 := by cases v <;> simp [zlong, Value.category]
theorem zcat_sum (ad : Nat → Nat) : ∀ st : List Value, ((st.map (zv ad)).map fun v => v.category).sum = zcat st
  | [] => rfl
  | v :: r => by
    have ih := zcat_sum ad r
    simp only [List.map_cons, List.sum_cons, zcat, zv_cat, ih]
    cases v <;> rfl
def zfv (ad : Nat → Nat) (h : zH) (k c j : Nat) : Value := bif zft c j then va_rf ((h.2.2.2 k j).map ad) else .int (h.2.1 k j)
def zrq (ad : Nat → Nat) (U : State) (H : Heap) (h : zH) (k n t : Nat) : Prop := ∃ cA : ClassId, H[ad k]? = some (arrV cA n (fun j => va_rf ((h.2.2.2 k j).map ad))) ∧ ArrOfT U cA (.object (zcn t)) ∧ va_RA U cA (.object (zcn t))
/-- what a cell of the small machine is on the heap -/
def zcell (D : va_G) (ad : Nat → Nat) (A : Nat → Prop) (U : State) (H : Heap) (h : zH) (k n : Nat) : Nat → Prop
  | 0 => ∃ cA : ClassId, H[ad k]? = some (arrV cA n (fun j => .int (h.2.1 k j))) ∧ ArrOfT U cA .int
  | 1 => ∃ cA : ClassId, H[ad k]? = some (arrV cA n (fun j => .long (h.2.2.1 k j))) ∧ ArrOfT U cA .long
  | 2 => zrq ad U H h k n 2
  | 3 => zrq ad U H h k n 3
  | 4 => zrq ad U H h k n 4
  | 5 => va_T .int (ad k) n (fun j => .int (h.2.1 k j)) A U H
  | t => ∃ q : vw_C, 10 ≤ t ∧ zget vwCl (t - 10) = some q ∧ q.2.2 = n ∧ t_OB (ad k) (D.1 (t - 10)) n (D.2 (t - 10)) H (zfv ad h k (t - 10))
def zlen (h : zH) : Nat := h.1.length
def zslots : List (Nat × Nat) → Nat
  | [] => 0
  | q :: r => q.2 + zslots r
def zRep (D : va_G) (sa : Nat → Nat) (base : Nat) (U : State) (H : Heap) (h : zH) : Prop :=
  H.size + 6 = base + h.1.length ∧ 6 ≤ h.1.length ∧ (∀ k t n, zget h.1 k = some (t, n) → zcell D (zad sa base) (zA base) U H h k n t) ∧ (∀ k t n, zget h.1 k = some (t, n) → (k < 6 ↔ t = 5)) ∧ ∀ k t n, zget h.1 k = some (t, n) → n < 2 ^ 31
/-- what stays true of the tables all along -/
def zG (D : va_G) (sa : Nat → Nat) (base : Nat) (U : State) (H : Heap) : Prop :=
  va_K D vwCl [] U ∧ (∀ w ∈ zN, va_Nw w U) ∧ (∀ t, 2 ≤ t → t ≤ 4 → va_AO (zcn t) U) ∧ ∀ a, 1 ≤ a → a ≤ 5 → va_Z (zsC a) (zsN a) "[I" (.ref (sa a)) (zA base) U H
def zlvl (ad : Nat → Nat) : Nat → List (Option Value) → List (Nat × Value)
  | _, [] => []
  | i, none :: r => zlvl ad (i + 1) r
  | i, some v :: r => (i, zv ad v) :: zlvl ad (i + 1) r
theorem zlvl_mem (ad : Nat → Nat) : ∀ (lo : List (Option Value)) (i : Nat) (q : Nat × Value), q ∈ zlvl ad i lo ↔ ∃ k v, zget lo k = some (some v) ∧ q = (i + k, zv ad v)
  | [], i, q => by simp [zlvl, zget]
  | none :: r, i, q => by
    simp only [zlvl]
    rw [zlvl_mem ad r (i + 1) q]
    constructor
    · rintro ⟨k, v, h1, h2⟩
      exact ⟨k + 1, v, h1, by rw [h2, Nat.add_assoc, Nat.add_comm 1 k]⟩
    · rintro ⟨k, v, h1, h2⟩
      cases k with
      | zero => simp [zget] at h1
      | succ k => exact ⟨k, v, h1, by rw [h2, Nat.add_assoc, Nat.add_comm 1 k]⟩
  | some w :: r, i, q => by
    simp only [zlvl, List.mem_cons]
    rw [zlvl_mem ad r (i + 1) q]
    constructor
    · rintro (h | ⟨k, v, h1, h2⟩)
      · exact ⟨0, w, rfl, h⟩
      · exact ⟨k + 1, v, h1, by rw [h2, Nat.add_assoc, Nat.add_comm 1 k]⟩
    · rintro ⟨k, v, h1, h2⟩
      cases k with
      | zero =>
        simp only [zget, Option.some.injEq] at h1
        subst h1
        exact Or.inl h2
      | succ k => exact Or.inr ⟨k, v, h1, by rw [h2, Nat.add_assoc, Nat.add_comm 1 k]⟩
theorem zget_put_eq {α : Type} : ∀ (l : List α) (i : Nat) (x : α), i < l.length → zget (zput l i x) i = some x
  | [], i, x, h => by simp at h
  | _ :: l, 0, x, _ => rfl
  | _ :: l, i + 1, x, h => zget_put_eq l i x (by simp at h; omega)
theorem zget_put_ne {α : Type} : ∀ (l : List α) (i j : Nat) (x : α), j ≠ i → zget (zput l i x) j = zget l j
  | [], i, j, x, _ => rfl
  | _ :: l, 0, 0, x, h => absurd rfl h
  | _ :: l, 0, j + 1, x, _ => rfl
  | _ :: l, i + 1, 0, x, _ => rfl
  | _ :: l, i + 1, j + 1, x, h => zget_put_ne l i j x (fun e => h (by rw [e]))
theorem zput_length {α : Type} : ∀ (l : List α) (i : Nat) (x : α), (zput l i x).length = l.length
  | [], i, x => rfl
  | _ :: l, 0, x => rfl
  | _ :: l, i + 1, x => by simp [zput, zput_length l i x]
theorem zget_lt {α : Type} : ∀ {l : List α} {i : Nat} {x : α}, zget l i = some x → i < l.length
  | [], i, x, h => by simp [zget] at h
  | _ :: l, 0, x, _ => by simp
  | _ :: l, i + 1, x, h => by have := zget_lt (l := l) (i := i) (x := x) h; simp; omega
theorem zget_of_lt {α : Type} : ∀ {l : List α} {i : Nat}, i < l.length → ∃ x, zget l i = some x
  | [], i, h => by simp at h
  | a :: l, 0, _ => ⟨a, rfl⟩
  | _ :: l, i + 1, h => zget_of_lt (l := l) (i := i) (by simp at h; omega)
theorem zget_mem {α : Type} : ∀ {l : List α} {i : Nat} {x : α}, zget l i = some x → x ∈ l
  | [], i, x, h => by simp [zget] at h
  | a :: l, 0, x, h => by simp only [zget, Option.some.injEq] at h; subst h; exact List.mem_cons_self
  | _ :: l, i + 1, x, h => List.mem_cons_of_mem _ (zget_mem (l := l) (i := i) h)
theorem zget_app {α : Type} : ∀ {l r : List α} {i : Nat} {x : α}, zget l i = some x → zget (l ++ r) i = some x
  | [], _, i, x, h => by simp [zget] at h
  | a :: l, _, 0, x, h => h
  | _ :: l, r, i + 1, x, h => zget_app (l := l) (r := r) (i := i) h
theorem zget_new {α : Type} : ∀ (l : List α) (a : α) (i : Nat) (x : α), zget (l ++ [a]) i = some x → zget l i = some x ∨ (i = l.length ∧ x = a)
  | [], a, 0, x, h => by simp only [List.nil_append, zget, Option.some.injEq] at h; exact Or.inr ⟨rfl, h.symm⟩
  | [], a, i + 1, x, h => by simp [zget] at h
  | _ :: l, a, 0, x, h => Or.inl h
  | _ :: l, a, i + 1, x, h => by
    rcases zget_new l a i x h with q | ⟨q, e⟩
    · exact Or.inl q
    · exact Or.inr ⟨by simp [q], e⟩
theorem zclr_length (lo : List (Option Value)) (i : Nat) : (zclr lo i).length = lo.length := by
  cases i with
  | zero => rfl
  | succ j =>
    simp only [zclr]
    split
    · rename_i w h
      cases hw : zlong w
      · rfl
      · simp [zput_length]
    · rfl
theorem zst1_length (lo : List (Option Value)) (i : Nat) (v : Value) : (zst1 lo i v).length = lo.length := by simp [zst1, zput_length, zclr_length]
theorem zst2_length (lo : List (Option Value)) (i : Nat) (v : Value) : (zst2 lo i v).length = lo.length := by simp [zst2, zput_length, zclr_length]
theorem zclr_get (lo : List (Option Value)) (i k : Nat) (w : Value) (h : zget (zclr lo i) k = some (some w)) : zget lo k = some (some w) ∧ ¬ (k + 1 = i ∧ zlong w = true) := by
  cases i with
  | zero => exact ⟨h, fun q => by omega⟩
  | succ j =>
    simp only [zclr] at h
    split at h
    · rename_i w' hw'
      cases hl : zlong w'
      · rw [hl] at h
        refine ⟨h, fun q => ?_⟩
        have : k = j := by omega
        subst this
        have hh : zget lo k = some (some w) := h
        rw [hw'] at hh
        cases hh
        rw [hl] at q
        exact absurd q.2 (by decide)
      · rw [hl] at h
        have h : zget (zput lo j none) k = some (some w) := h
        by_cases hk : k = j
        · subst hk
          rw [zget_put_eq _ _ _ (zget_lt hw')] at h
          cases h
        · rw [zget_put_ne _ _ _ _ hk] at h
          exact ⟨h, fun q => hk (by omega)⟩
    · rename_i hn
      refine ⟨h, fun q => ?_⟩
      have : k = j := by omega
      subst this
      exact hn w h
theorem zst1_lv {ad : Nat → Nat} {ls : Array Slot} {L : Nat} {lo : List (Option Value)} {i : Nat} {v : Value} (hlo : lo.length = L) (hi : i < L)
    (h : lv_has ls L ((i, zv ad v) :: (zlvl ad 0 lo).filter (fun q => !(q.1 == i) && !(q.1 + 1 == i && q.2.category == 2)))) : lv_has ls L (zlvl ad 0 (zst1 lo i v)) := by
  refine ⟨h.1, h.2.1, fun q hq => h.2.2 q ?_⟩
  obtain ⟨k, w, h1, h2⟩ := (zlvl_mem ad _ 0 q).mp hq
  rw [Nat.zero_add] at h2
  subst h2
  by_cases hk : k = i
  · subst hk
    rw [zst1, zget_put_eq _ _ _ (by rw [zclr_length, hlo]; exact hi)] at h1
    simp only [Option.some.injEq] at h1
    subst h1
    exact List.mem_cons_self
  · rw [zst1, zget_put_ne _ _ _ _ hk] at h1
    obtain ⟨h3, h4⟩ := zclr_get _ _ _ _ h1
    refine List.mem_cons_of_mem _ (List.mem_filter.mpr ⟨(zlvl_mem ad lo 0 _).mpr ⟨k, w, h3, by rw [Nat.zero_add]⟩, ?_⟩)
    have e1 : ¬ (k = i) := hk
    have e2 : ¬ (k + 1 = i ∧ w.category = 2) := fun q => h4 ⟨q.1, (zlong_cat w).mpr q.2⟩
    simp only [zv_cat, Bool.and_eq_true, Bool.not_eq_true', beq_eq_false_iff_ne, ne_eq, e1, not_false_eq_true, true_and]
    rw [Bool.and_eq_false_iff]
    by_cases hz : k + 1 = i
    · right
      simp only [beq_eq_false_iff_ne, ne_eq]
      exact fun q => e2 ⟨hz, q⟩
    · left
      simp only [beq_eq_false_iff_ne, ne_eq]
      exact hz
theorem zst2_lv {ad : Nat → Nat} {ls : Array Slot} {L : Nat} {lo : List (Option Value)} {i : Nat} {v : Value} (hlo : lo.length = L) (hi : i + 1 < L)
    (h : lv_has ls L ((i, zv ad v) :: (zlvl ad 0 lo).filter (fun q => !(q.1 == i) && (!(q.1 == i + 1) && !(q.1 + 1 == i && q.2.category == 2))))) : lv_has ls L (zlvl ad 0 (zst2 lo i v)) := by
  refine ⟨h.1, h.2.1, fun q hq => h.2.2 q ?_⟩
  obtain ⟨k, w, h1, h2⟩ := (zlvl_mem ad _ 0 q).mp hq
  rw [Nat.zero_add] at h2
  subst h2
  by_cases hk2 : k = i + 1
  · subst hk2
    rw [zst2, zget_put_eq _ _ _ (by rw [zput_length, zclr_length, hlo]; exact hi)] at h1
    cases h1
  rw [zst2, zget_put_ne _ _ _ _ hk2] at h1
  by_cases hk : k = i
  · subst hk
    rw [zget_put_eq _ _ _ (by rw [zclr_length, hlo]; omega)] at h1
    simp only [Option.some.injEq] at h1
    subst h1
    exact List.mem_cons_self
  · rw [zget_put_ne _ _ _ _ hk] at h1
    obtain ⟨h3, h4⟩ := zclr_get _ _ _ _ h1
    refine List.mem_cons_of_mem _ (List.mem_filter.mpr ⟨(zlvl_mem ad lo 0 _).mpr ⟨k, w, h3, by rw [Nat.zero_add]⟩, ?_⟩)
    have e1 : ¬ (k = i) := hk
    have e2 : ¬ (k + 1 = i ∧ w.category = 2) := fun q => h4 ⟨q.1, (zlong_cat w).mpr q.2⟩
    simp only [zv_cat, Bool.and_eq_true, Bool.not_eq_true', beq_eq_false_iff_ne, ne_eq, e1, hk2, not_false_eq_true, true_and]
    rw [Bool.and_eq_false_iff]
    by_cases hz : k + 1 = i
    · right
      simp only [beq_eq_false_iff_ne, ne_eq]
      exact fun q => e2 ⟨hz, q⟩
    · left
      simp only [beq_eq_false_iff_ne, ne_eq]
      exact hz
theorem zlv_get {ad : Nat → Nat} {ls : Array Slot} {L : Nat} {lo : List (Option Value)} {i : Nat} {v : Value} (h : lv_has ls L (zlvl ad 0 lo)) (hg : zget lo i = some (some v)) : ls[i]? = some (.val (zv ad v)) :=
  h.2.2 (i, zv ad v) ((zlvl_mem ad lo 0 _).mpr ⟨i, v, hg, by rw [Nat.zero_add]⟩)
theorem zlv_idx {ad : Nat → Nat} {lo : List (Option Value)} {i : Nat} {v : Value} (hg : zget lo i = some (some v)) : ∃ k : Nat, (zlvl ad 0 lo)[k]? = some (i, zv ad v) :=
  List.getElem?_of_mem ((zlvl_mem ad lo 0 _).mpr ⟨i, v, hg, by rw [Nat.zero_add]⟩)
/-! numbers as places -/
theorem zix_lt {i : Int32} {n : Nat} (h : zix i < n) (hn : n < 2 ^ 31 + 1) : ¬ i < 0 ∧ i.toNatClampNeg = zix i := by
  have h1 : i.toBitVec.toNat < 2147483648 := by unfold zix at h; omega
  have h2 : i.toInt = (i.toBitVec.toNat : Int) := by
    show i.toBitVec.toInt = _
    rw [BitVec.toInt_eq_toNat_of_lt (by omega)]
  constructor
  · rw [Int32.lt_iff_toInt_lt, h2]
    simp
  · show i.toInt.toNat = _
    rw [h2]
    rfl
theorem zix_in {i : Int32} {n : Nat} (h : zix i < n) (hn : n < 2 ^ 31) : vp_in i n := by
  obtain ⟨h1, h2⟩ := zix_lt h (by omega)
  intro q
  rcases q with q | q
  · exact h1 q
  · omega
theorem zsame_up {α : Type} {f : Nat → Nat → α} {o k : Nat} {v : α} : zup f o k v o k = v := by simp [zup]
theorem zne_up {α : Type} {f : Nat → Nat → α} {o k o' k' : Nat} {v : α} (h : ¬ (o' = o ∧ k' = k)) : zup f o k v o' k' = f o' k' := by
  unfold zup
  cases e : (Nat.beq o' o && Nat.beq k' k)
  · rfl
  · simp only [Bool.and_eq_true, Nat.beq_eq] at e
    exact absurd e h
theorem zup_row {α : Type} {f : Nat → Nat → α} {o k o' : Nat} {v : α} (h : o' ≠ o) : zup f o k v o' = f o' := by
  funext k'
  exact zne_up (fun q => h q.1)
theorem zrow_ne {α : Type} {f : Nat → Nat → α} {o o' : Nat} {r : Nat → α} (h : o' ≠ o) : zrow f o r o' = f o' := by
  funext k'
  unfold zrow
  cases e : Nat.beq o' o
  · rfl
  · exact absurd (Nat.beq_eq.mp e) h
theorem zrow_eq {α : Type} {f : Nat → Nat → α} {o : Nat} {r : Nat → α} : zrow f o r o = r := by
  funext k'
  simp [zrow]
end
section
/-! A STEP AT A TIME: what the small machine does, the real one does: instructions that leave the cells alone. -/
def zX (p : Program) (s : State) (m : MethodId) (args : Array Value) (meth : Method) (c : Code) (M : zM) (D : va_G) (sa : Nat → Nat) (base : Nat) : Prop :=
  p.tables.exec = Jvm.exec ∧ c.code = M.2.1 ∧ c.maxLocals = M.2.2.1 ∧ s.vm.findClass M.1.cls = some m.cls ∧ (M.1.name = "<init>" → meth.name = "<init>") ∧ (∀ w ∈ zWall, w.before args s = true) ∧ zG D sa base s s.heap ∧ base ≤ s.heap.size
def zIn (D : va_G) (sa : Nat → Nat) (base L : Nat) (s : State) (H : Heap) (locs : List Loc) (lo : List (Option Value)) (h : zH) (ls : Array Slot) : Prop :=
  lv_has ls L (zlvl (zad sa base) 0 lo) ∧ lo.length = L ∧ zRep D sa base s H h ∧ va_S (zA base) s.heap H locs
def zK (p : Program) (l : Launch) (e : Env) (R : Room) (s : State) (m : MethodId) (args : Array Value) (below : List Frame) (meth : Method) (c : Code) (cells slots : Nat) (Q : State → Prop) (D : va_G) (sa : Nat → Nat) (base L : Nat) (h : zH) (y : zC) : Prop :=
  ∀ (ls' : Array Slot) (H' : Heap) (locs' : List Loc) (cells' slots' : Nat), zIn D sa base L s H' locs' y.2.1 y.2.2.2 ls' → cells' + h.1.length = cells + y.2.2.2.1.length → slots' + zslots h.1 = slots + zslots y.2.2.2.1 → W p l e R s m args below meth c H' locs' cells' slots' Q (F0 m y.1 ls' (y.2.2.1.map (zv (zad sa base))))
theorem zcat1 {ad : Nat → Nat} {v : Value} (h : zlong v = false) : (zv ad v).category = 1 := by
  rw [zv_cat]
  rcases lv_cat v with q | q
  · exact q
  · rw [(zlong_cat v).mpr q] at h
    exact absurd h (by decide)
/-- a table's row -/
theorem zrows_in {pc : Nat} {x : Int32} {d : Nat} : ∀ {lo : Int} {os : List Int} {r : List (Int32 × Nat)}, zrows pc lo os r = true → ¬ x.toInt < lo → ¬ lo + (os.length : Int) - 1 < x.toInt → ∃ off, os[(x.toInt - lo).toNat]? = some off ∧ (pc : Int) + off = (zsw x r d : Int)
  | lo, [], [], _, h1, h2 => by simp at h2; omega
  | lo, [], _ :: _, h, _, _ => by simp [zrows] at h
  | lo, _ :: _, [], h, _, _ => by simp [zrows] at h
  | lo, o :: os, (k, t) :: r, h, h1, h2 => by
    simp only [zrows, Bool.and_eq_true, decide_eq_true_eq] at h
    obtain ⟨⟨e1, e2⟩, e3⟩ := h
    by_cases hx : x = k
    · subst hx
      refine ⟨o, ?_, ?_⟩
      · rw [e1]
        simp
      · simp only [zsw, if_pos rfl]
        exact e2
    · have hne : x.toInt ≠ lo := fun q => hx (Int32.toInt_inj.mp (q.trans e1.symm))
      obtain ⟨off, f1, f2⟩ := zrows_in (x := x) (d := d) e3 (by omega) (by simp only [List.length_cons] at h2; omega)
      refine ⟨off, ?_, ?_⟩
      · rw [show (x.toInt - lo).toNat = (x.toInt - (lo + 1)).toNat + 1 by omega]
        simpa using f1
      · simp only [zsw, if_neg hx]
        exact f2
theorem zrows_out {pc : Nat} {x : Int32} {d : Nat} : ∀ {lo : Int} {os : List Int} {r : List (Int32 × Nat)}, zrows pc lo os r = true → (x.toInt < lo ∨ lo + (os.length : Int) - 1 < x.toInt) → zsw x r d = d
  | lo, [], [], _, _ => rfl
  | lo, [], _ :: _, h, _ => by simp [zrows] at h
  | lo, _ :: _, [], h, _ => by simp [zrows] at h
  | lo, o :: os, (k, t) :: r, h, h1 => by
    simp only [zrows, Bool.and_eq_true, decide_eq_true_eq] at h
    obtain ⟨⟨e1, e2⟩, e3⟩ := h
    simp only [List.length_cons] at h1
    have hx : ¬ x = k := fun q => by subst q; omega
    simp only [zsw, if_neg hx]
    exact zrows_out (x := x) (d := d) e3 (by omega)
theorem zrowl_at {pc : Nat} {x : Int32} {d : Nat} {df : Int} (hd : (pc : Int) + df = (d : Int)) : ∀ {ps : List (Int × Int)} {r : List (Int32 × Nat)}, zrowl pc ps r = true → (pc : Int) + Op.lookupswitch.offset ps df x.toInt = (zsw x r d : Int)
  | [], [], _ => hd
  | [], _ :: _, h => by simp [zrowl] at h
  | _ :: _, [], h => by simp [zrowl] at h
  | (n, o) :: ps, (k, t) :: r, h => by
    simp only [zrowl, Bool.and_eq_true, decide_eq_true_eq] at h
    obtain ⟨⟨e1, e2⟩, e3⟩ := h
    rw [Op.lookupswitch.offset_cons]
    by_cases hx : x = k
    · subst hx
      rw [if_pos e1.symm]
      simp only [zsw, if_pos rfl]
      exact e2
    · have hne : ¬ n = x.toInt := fun q => hx (Int32.toInt_inj.mp (q.symm.trans e1.symm))
      rw [if_neg hne]
      simp only [zsw, if_neg hx]
      exact zrowl_at hd e3
section ZW
variable {p : Program} {l : Launch} {e : Env} {R : Room} {s : State} {m : MethodId} {args : Array Value} {below : List Frame} {meth : Method} {c : Code} {H : Heap} {locs : List Loc} {cells slots : Nat} {Q : State → Prop}
variable {M : zM} {D : va_G} {sa : Nat → Nat} {base : Nat} {pc len a b k3 : Nat} {v : Value} {sw : List (Int32 × Nat)} {i : Instr} {lo : List (Option Value)} {st : List Value} {h : zH} {ls : Array Slot} {y : zC}
theorem zw_0 (C : zX p s m args meth c M D sa base) (hd : decode M.2.1 pc = .ok (i, len)) (hc : zc0 M.1.cls len v sw i = true) (I : zIn D sa base M.2.2.1 s H locs lo h ls) (hs : zs0 len v (pc, lo, st, h) = some (.inl y)) (kk : zK p l e R s m args below meth c cells slots Q D sa base M.2.2.1 h y) : W p l e R s m args below meth c H locs cells slots Q (F0 m pc ls (st.map (zv (zad sa base)))) := by
  obtain ⟨hx, hb, hml, hown, hnm, hts, hG, hbs⟩ := C
  simp only [zs0] at hs
  simp only [zgo, Option.some.injEq, Sum.inl.injEq] at hs
  subst hs
  unfold zc0 at hc
  split at hc
  · simp only [Bool.and_eq_true, decide_eq_true_eq] at hc
    obtain ⟨h1, h2⟩ := hc
    subst h1; subst h2
    exact lv_iconst hx hb hd rfl (kk _ _ _ _ _ I rfl rfl)
  · simp only [Bool.and_eq_true, decide_eq_true_eq] at hc
    obtain ⟨h1, h2⟩ := hc
    subst h1; subst h2
    exact lv_bipush hx hb hd rfl (kk _ _ _ _ _ I rfl rfl)
  · simp only [Bool.and_eq_true, decide_eq_true_eq] at hc
    obtain ⟨h1, h2⟩ := hc
    subst h1; subst h2
    exact lv_sipush hx hb hd rfl (kk _ _ _ _ _ I rfl rfl)
  · rw [Bool.and_eq_true, decide_eq_true_eq] at hc
    obtain ⟨h1, h2⟩ := hc
    subst h1
    split at h2
    · exact lv_ldc hx hb hown (hts _ (zw_in h2)) hd (kk _ _ _ _ _ I rfl rfl)
    · cases h2
  · rw [Bool.and_eq_true, decide_eq_true_eq] at hc
    obtain ⟨h1, h2⟩ := hc
    subst h1
    split at h2
    · exact lv_ldcw hx hb hown (hts _ (zw_in h2)) hd (kk _ _ _ _ _ I rfl rfl)
    · cases h2
  · simp only [Bool.and_eq_true, decide_eq_true_eq] at hc
    obtain ⟨h1, h2⟩ := hc
    subst h1; subst h2
    exact lv_lconst hx hb hd rfl (kk _ _ _ _ _ I rfl rfl)
  · rw [Bool.and_eq_true, decide_eq_true_eq] at hc
    obtain ⟨h1, h2⟩ := hc
    subst h1
    split at h2
    · exact lv_ldc2 hx hb hown (hts _ (zw_in h2)) hd (kk _ _ _ _ _ I rfl rfl)
    · cases h2
  · cases hc
theorem zw_1 (C : zX p s m args meth c M D sa base) (hd : decode M.2.1 pc = .ok (i, len)) (hc : zc1 len a i = true) (I : zIn D sa base M.2.2.1 s H locs lo h ls) (hs : zs1 len a (pc, lo, st, h) = some (.inl y)) (kk : zK p l e R s m args below meth c cells slots Q D sa base M.2.2.1 h y) : W p l e R s m args below meth c H locs cells slots Q (F0 m pc ls (st.map (zv (zad sa base)))) := by
  obtain ⟨hx, hb, hml, hown, hnm, hts, hG, hbs⟩ := C
  simp only [zs1] at hs
  split at hs
  · rename_i x hg
    simp only [zgo, Option.some.injEq, Sum.inl.injEq] at hs
    subst hs
    unfold zc1 at hc
    split at hc
    · simp only [Bool.and_eq_true, decide_eq_true_eq] at hc
      obtain ⟨h1, h2⟩ := hc
      subst h1; subst h2
      exact lv_iload hx hb hd (zlv_get I.1 hg) (kk _ _ _ _ _ I rfl rfl)
    · simp only [Bool.and_eq_true, decide_eq_true_eq] at hc
      obtain ⟨h1, h2⟩ := hc
      subst h1
      exact lv_iload_n hx hb hd h2 (zlv_get I.1 hg) (kk _ _ _ _ _ I rfl rfl)
    · cases hc
  · cases hs
theorem zw_2 (C : zX p s m args meth c M D sa base) (hd : decode M.2.1 pc = .ok (i, len)) (hc : zc2 len a i = true) (I : zIn D sa base M.2.2.1 s H locs lo h ls) (hs : zs2 len a (pc, lo, st, h) = some (.inl y)) (kk : zK p l e R s m args below meth c cells slots Q D sa base M.2.2.1 h y) : W p l e R s m args below meth c H locs cells slots Q (F0 m pc ls (st.map (zv (zad sa base)))) := by
  obtain ⟨hx, hb, hml, hown, hnm, hts, hG, hbs⟩ := C
  simp only [zs2] at hs
  split at hs
  · rename_i x hg
    simp only [zgo, Option.some.injEq, Sum.inl.injEq] at hs
    subst hs
    unfold zc2 at hc
    split at hc
    · simp only [Bool.and_eq_true, decide_eq_true_eq] at hc
      obtain ⟨h1, h2⟩ := hc
      subst h1; subst h2
      exact lv_lload hx hb hd (zlv_get I.1 hg) (kk _ _ _ _ _ I rfl rfl)
    · simp only [Bool.and_eq_true, decide_eq_true_eq] at hc
      obtain ⟨h1, h2⟩ := hc
      subst h1
      exact lv_lload_n hx hb hd h2 (zlv_get I.1 hg) (kk _ _ _ _ _ I rfl rfl)
    · cases hc
  · cases hs
theorem zw_3 (C : zX p s m args meth c M D sa base) (hd : decode M.2.1 pc = .ok (i, len)) (hc : zc3 len a i = true) (I : zIn D sa base M.2.2.1 s H locs lo h ls) (hs : zs3 len a (pc, lo, st, h) = some (.inl y)) (kk : zK p l e R s m args below meth c cells slots Q D sa base M.2.2.1 h y) : W p l e R s m args below meth c H locs cells slots Q (F0 m pc ls (st.map (zv (zad sa base)))) := by
  obtain ⟨hx, hb, hml, hown, hnm, hts, hG, hbs⟩ := C
  simp only [zs3] at hs
  split at hs
  · rename_i x hg
    simp only [zgo, Option.some.injEq, Sum.inl.injEq] at hs
    subst hs
    unfold zc3 at hc
    split at hc
    · simp only [Bool.and_eq_true, decide_eq_true_eq] at hc
      obtain ⟨h1, h2⟩ := hc
      subst h1; subst h2
      exact lv_aload hx hb hd (zlv_get I.1 hg) (kk _ _ _ _ _ I rfl rfl)
    · simp only [Bool.and_eq_true, decide_eq_true_eq] at hc
      obtain ⟨h1, h2⟩ := hc
      subst h1
      exact lv_aload_n hx hb hd h2 (zlv_get I.1 hg) (kk _ _ _ _ _ I rfl rfl)
    · cases hc
  · cases hs
theorem zw_4 (C : zX p s m args meth c M D sa base) (hd : decode M.2.1 pc = .ok (i, len)) (hc : zc4 M.2.2.1 len a i = true) (I : zIn D sa base M.2.2.1 s H locs lo h ls) (hs : zs4 len a (pc, lo, st, h) = some (.inl y)) (kk : zK p l e R s m args below meth c cells slots Q D sa base M.2.2.1 h y) : W p l e R s m args below meth c H locs cells slots Q (F0 m pc ls (st.map (zv (zad sa base)))) := by
  obtain ⟨hx, hb, hml, hown, hnm, hts, hG, hbs⟩ := C
  simp only [zs4] at hs
  split at hs
  · simp only [zgo, Option.some.injEq, Sum.inl.injEq] at hs
    subst hs
    unfold zc4 at hc
    split at hc
    · simp only [Bool.and_eq_true, decide_eq_true_eq] at hc
      obtain ⟨⟨h1, h2⟩, h3⟩ := hc
      subst h1; subst h2
      exact lv_istore hx hb hd I.1 h3 rfl (fun ls' hl => kk _ _ _ _ _ ⟨zst1_lv I.2.1 h3 hl, by rw [zst1_length]; exact I.2.1, I.2.2⟩ rfl rfl)
    · simp only [Bool.and_eq_true, decide_eq_true_eq] at hc
      obtain ⟨⟨h1, h2⟩, h3⟩ := hc
      subst h1
      exact lv_istore_n hx hb hd h2 I.1 h3 rfl (fun ls' hl => kk _ _ _ _ _ ⟨zst1_lv I.2.1 h3 hl, by rw [zst1_length]; exact I.2.1, I.2.2⟩ rfl rfl)
    · cases hc
  · cases hs
theorem zw_5 (C : zX p s m args meth c M D sa base) (hd : decode M.2.1 pc = .ok (i, len)) (hc : zc5 M.2.2.1 len a i = true) (I : zIn D sa base M.2.2.1 s H locs lo h ls) (hs : zs5 len a (pc, lo, st, h) = some (.inl y)) (kk : zK p l e R s m args below meth c cells slots Q D sa base M.2.2.1 h y) : W p l e R s m args below meth c H locs cells slots Q (F0 m pc ls (st.map (zv (zad sa base)))) := by
  obtain ⟨hx, hb, hml, hown, hnm, hts, hG, hbs⟩ := C
  simp only [zs5] at hs
  split at hs
  · simp only [zgo, Option.some.injEq, Sum.inl.injEq] at hs
    subst hs
    unfold zc5 at hc
    split at hc
    · simp only [Bool.and_eq_true, decide_eq_true_eq] at hc
      obtain ⟨⟨h1, h2⟩, h3⟩ := hc
      subst h1; subst h2
      exact lv_lstore hx hb hd I.1 h3 rfl (fun ls' hl => kk _ _ _ _ _ ⟨zst2_lv I.2.1 h3 hl, by rw [zst2_length]; exact I.2.1, I.2.2⟩ rfl rfl)
    · simp only [Bool.and_eq_true, decide_eq_true_eq] at hc
      obtain ⟨⟨h1, h2⟩, h3⟩ := hc
      subst h1
      exact lv_lstore_n hx hb hd h2 I.1 h3 rfl (fun ls' hl => kk _ _ _ _ _ ⟨zst2_lv I.2.1 h3 hl, by rw [zst2_length]; exact I.2.1, I.2.2⟩ rfl rfl)
    · cases hc
  · cases hs
theorem zw_6 (C : zX p s m args meth c M D sa base) (hd : decode M.2.1 pc = .ok (i, len)) (hc : zc6 M.2.2.1 len a i = true) (I : zIn D sa base M.2.2.1 s H locs lo h ls) (hs : zs6 len a (pc, lo, st, h) = some (.inl y)) (kk : zK p l e R s m args below meth c cells slots Q D sa base M.2.2.1 h y) : W p l e R s m args below meth c H locs cells slots Q (F0 m pc ls (st.map (zv (zad sa base)))) := by
  obtain ⟨hx, hb, hml, hown, hnm, hts, hG, hbs⟩ := C
  simp only [zs6] at hs
  split at hs
  · simp only [zgo, Option.some.injEq, Sum.inl.injEq] at hs
    subst hs
    unfold zc6 at hc
    split at hc
    · simp only [Bool.and_eq_true, decide_eq_true_eq] at hc
      obtain ⟨⟨h1, h2⟩, h3⟩ := hc
      subst h1; subst h2
      exact lv_astore hx hb hd I.1 h3 rfl (fun ls' hl => kk _ _ _ _ _ ⟨zst1_lv I.2.1 h3 hl, by rw [zst1_length]; exact I.2.1, I.2.2⟩ rfl rfl)
    · simp only [Bool.and_eq_true, decide_eq_true_eq] at hc
      obtain ⟨⟨h1, h2⟩, h3⟩ := hc
      subst h1
      exact lv_astore_n hx hb hd h2 I.1 h3 rfl (fun ls' hl => kk _ _ _ _ _ ⟨zst1_lv I.2.1 h3 hl, by rw [zst1_length]; exact I.2.1, I.2.2⟩ rfl rfl)
    · cases hc
  · cases hs
theorem zw_7 (C : zX p s m args meth c M D sa base) (hd : decode M.2.1 pc = .ok (i, len)) (hc : zc7 len b i = true) (I : zIn D sa base M.2.2.1 s H locs lo h ls) (hs : zs7 len b (pc, lo, st, h) = some (.inl y)) (kk : zK p l e R s m args below meth c cells slots Q D sa base M.2.2.1 h y) : W p l e R s m args below meth c H locs cells slots Q (F0 m pc ls (st.map (zv (zad sa base)))) := by
  obtain ⟨hx, hb, hml, hown, hnm, hts, hG, hbs⟩ := C
  simp only [zs7] at hs
  split at hs
  · simp only [zgo, Option.some.injEq, Sum.inl.injEq] at hs
    subst hs
    unfold zc7 at hc
    split at hc
    · simp only [Bool.and_eq_true, decide_eq_true_eq] at hc
      obtain ⟨h1, h2⟩ := hc
      subst h1; subst h2
      exact lv_iadd hx hb hd (kk _ _ _ _ _ I rfl rfl)
    · simp only [Bool.and_eq_true, decide_eq_true_eq] at hc
      obtain ⟨h1, h2⟩ := hc
      subst h1; subst h2
      exact lv_isub hx hb hd (kk _ _ _ _ _ I rfl rfl)
    · simp only [Bool.and_eq_true, decide_eq_true_eq] at hc
      obtain ⟨h1, h2⟩ := hc
      subst h1; subst h2
      exact lv_imul hx hb hd (kk _ _ _ _ _ I rfl rfl)
    · simp only [Bool.and_eq_true, decide_eq_true_eq] at hc
      obtain ⟨h1, h2⟩ := hc
      subst h1; subst h2
      exact lv_iand hx hb hd (kk _ _ _ _ _ I rfl rfl)
    · simp only [Bool.and_eq_true, decide_eq_true_eq] at hc
      obtain ⟨h1, h2⟩ := hc
      subst h1; subst h2
      exact lv_ior hx hb hd (kk _ _ _ _ _ I rfl rfl)
    · simp only [Bool.and_eq_true, decide_eq_true_eq] at hc
      obtain ⟨h1, h2⟩ := hc
      subst h1; subst h2
      exact lv_ixor hx hb hd (kk _ _ _ _ _ I rfl rfl)
    · simp only [Bool.and_eq_true, decide_eq_true_eq] at hc
      obtain ⟨h1, h2⟩ := hc
      subst h1; subst h2
      exact lv_ishl hx hb hd (kk _ _ _ _ _ I rfl rfl)
    · simp only [Bool.and_eq_true, decide_eq_true_eq] at hc
      obtain ⟨h1, h2⟩ := hc
      subst h1; subst h2
      exact lv_ishr hx hb hd (kk _ _ _ _ _ I rfl rfl)
    · simp only [Bool.and_eq_true, decide_eq_true_eq] at hc
      obtain ⟨h1, h2⟩ := hc
      subst h1; subst h2
      exact lv_iushr hx hb hd rfl (kk _ _ _ _ _ I rfl rfl)
    · cases hc
  · cases hs
theorem zw_8 (C : zX p s m args meth c M D sa base) (hd : decode M.2.1 pc = .ok (i, len)) (hc : zc8 len b i = true) (I : zIn D sa base M.2.2.1 s H locs lo h ls) (hs : zs8 len b (pc, lo, st, h) = some (.inl y)) (kk : zK p l e R s m args below meth c cells slots Q D sa base M.2.2.1 h y) : W p l e R s m args below meth c H locs cells slots Q (F0 m pc ls (st.map (zv (zad sa base)))) := by
  obtain ⟨hx, hb, hml, hown, hnm, hts, hG, hbs⟩ := C
  simp only [zs8] at hs
  split at hs
  · split at hs
    · cases hs
    · rename_i hy
      simp only [zgo, Option.some.injEq, Sum.inl.injEq] at hs
      subst hs
      unfold zc8 at hc
      split at hc
      · simp only [Bool.and_eq_true, decide_eq_true_eq] at hc
        obtain ⟨h1, h2⟩ := hc
        subst h1; subst h2
        exact lv_idiv hx hb hd hy (kk _ _ _ _ _ I rfl rfl)
      · simp only [Bool.and_eq_true, decide_eq_true_eq] at hc
        obtain ⟨h1, h2⟩ := hc
        subst h1; subst h2
        exact lv_irem hx hb hd hy (kk _ _ _ _ _ I rfl rfl)
      · cases hc
  · cases hs
theorem zw_9 (C : zX p s m args meth c M D sa base) (hd : decode M.2.1 pc = .ok (i, len)) (hc : zc9 len b i = true) (I : zIn D sa base M.2.2.1 s H locs lo h ls) (hs : zs9 len b (pc, lo, st, h) = some (.inl y)) (kk : zK p l e R s m args below meth c cells slots Q D sa base M.2.2.1 h y) : W p l e R s m args below meth c H locs cells slots Q (F0 m pc ls (st.map (zv (zad sa base)))) := by
  obtain ⟨hx, hb, hml, hown, hnm, hts, hG, hbs⟩ := C
  simp only [zs9] at hs
  split at hs
  · simp only [zgo, Option.some.injEq, Sum.inl.injEq] at hs
    subst hs
    unfold zc9 at hc
    split at hc
    · simp only [Bool.and_eq_true, decide_eq_true_eq] at hc
      obtain ⟨h1, h2⟩ := hc
      subst h1; subst h2
      exact lv_ineg hx hb hd (kk _ _ _ _ _ I rfl rfl)
    · simp only [Bool.and_eq_true, decide_eq_true_eq] at hc
      obtain ⟨h1, h2⟩ := hc
      subst h1; subst h2
      exact lv_i2b hx hb hd rfl (kk _ _ _ _ _ I rfl rfl)
    · simp only [Bool.and_eq_true, decide_eq_true_eq] at hc
      obtain ⟨h1, h2⟩ := hc
      subst h1; subst h2
      exact lv_i2s hx hb hd rfl (kk _ _ _ _ _ I rfl rfl)
    · cases hc
  · cases hs
theorem zw_10 (C : zX p s m args meth c M D sa base) (hd : decode M.2.1 pc = .ok (i, len)) (hc : zc10 len i = true) (I : zIn D sa base M.2.2.1 s H locs lo h ls) (hs : zs10 len (pc, lo, st, h) = some (.inl y)) (kk : zK p l e R s m args below meth c cells slots Q D sa base M.2.2.1 h y) : W p l e R s m args below meth c H locs cells slots Q (F0 m pc ls (st.map (zv (zad sa base)))) := by
  obtain ⟨hx, hb, hml, hown, hnm, hts, hG, hbs⟩ := C
  simp only [zs10] at hs
  split at hs
  · simp only [zgo, Option.some.injEq, Sum.inl.injEq] at hs
    subst hs
    unfold zc10 at hc
    split at hc
    · simp only [Bool.and_eq_true, decide_eq_true_eq] at hc
      subst hc
      exact lv_i2l hx hb hd rfl (kk _ _ _ _ _ I rfl rfl)
    · cases hc
  · cases hs
theorem zw_11 (C : zX p s m args meth c M D sa base) (hd : decode M.2.1 pc = .ok (i, len)) (hc : zc11 len i = true) (I : zIn D sa base M.2.2.1 s H locs lo h ls) (hs : zs11 len (pc, lo, st, h) = some (.inl y)) (kk : zK p l e R s m args below meth c cells slots Q D sa base M.2.2.1 h y) : W p l e R s m args below meth c H locs cells slots Q (F0 m pc ls (st.map (zv (zad sa base)))) := by
  obtain ⟨hx, hb, hml, hown, hnm, hts, hG, hbs⟩ := C
  simp only [zs11] at hs
  split at hs
  · simp only [zgo, Option.some.injEq, Sum.inl.injEq] at hs
    subst hs
    unfold zc11 at hc
    split at hc
    · simp only [Bool.and_eq_true, decide_eq_true_eq] at hc
      subst hc
      exact lv_l2i hx hb hd rfl (kk _ _ _ _ _ I rfl rfl)
    · cases hc
  · cases hs
theorem zw_12 (C : zX p s m args meth c M D sa base) (hd : decode M.2.1 pc = .ok (i, len)) (hc : zc12 len b i = true) (I : zIn D sa base M.2.2.1 s H locs lo h ls) (hs : zs12 len b (pc, lo, st, h) = some (.inl y)) (kk : zK p l e R s m args below meth c cells slots Q D sa base M.2.2.1 h y) : W p l e R s m args below meth c H locs cells slots Q (F0 m pc ls (st.map (zv (zad sa base)))) := by
  obtain ⟨hx, hb, hml, hown, hnm, hts, hG, hbs⟩ := C
  simp only [zs12] at hs
  split at hs
  · simp only [zgo, Option.some.injEq, Sum.inl.injEq] at hs
    subst hs
    unfold zc12 at hc
    split at hc
    · simp only [Bool.and_eq_true, decide_eq_true_eq] at hc
      obtain ⟨h1, h2⟩ := hc
      subst h1; subst h2
      exact lv_land hx hb hd (kk _ _ _ _ _ I rfl rfl)
    · simp only [Bool.and_eq_true, decide_eq_true_eq] at hc
      obtain ⟨h1, h2⟩ := hc
      subst h1; subst h2
      exact lv_lor hx hb hd (kk _ _ _ _ _ I rfl rfl)
    · cases hc
  · cases hs
theorem zw_13 (C : zX p s m args meth c M D sa base) (hd : decode M.2.1 pc = .ok (i, len)) (hc : zc13 len i = true) (I : zIn D sa base M.2.2.1 s H locs lo h ls) (hs : zs13 len (pc, lo, st, h) = some (.inl y)) (kk : zK p l e R s m args below meth c cells slots Q D sa base M.2.2.1 h y) : W p l e R s m args below meth c H locs cells slots Q (F0 m pc ls (st.map (zv (zad sa base)))) := by
  obtain ⟨hx, hb, hml, hown, hnm, hts, hG, hbs⟩ := C
  simp only [zs13] at hs
  split at hs
  · simp only [zgo, Option.some.injEq, Sum.inl.injEq] at hs
    subst hs
    unfold zc13 at hc
    split at hc
    · simp only [Bool.and_eq_true, decide_eq_true_eq] at hc
      subst hc
      exact lv_lshl hx hb hd rfl (kk _ _ _ _ _ I rfl rfl)
    · cases hc
  · cases hs
theorem zw_14 (C : zX p s m args meth c M D sa base) (hd : decode M.2.1 pc = .ok (i, len)) (hc : zc14 len i = true) (I : zIn D sa base M.2.2.1 s H locs lo h ls) (hs : zs14 len (pc, lo, st, h) = some (.inl y)) (kk : zK p l e R s m args below meth c cells slots Q D sa base M.2.2.1 h y) : W p l e R s m args below meth c H locs cells slots Q (F0 m pc ls (st.map (zv (zad sa base)))) := by
  obtain ⟨hx, hb, hml, hown, hnm, hts, hG, hbs⟩ := C
  simp only [zs14] at hs
  split at hs
  · simp only [zgo, Option.some.injEq, Sum.inl.injEq] at hs
    subst hs
    unfold zc14 at hc
    split at hc
    · simp only [Bool.and_eq_true, decide_eq_true_eq] at hc
      subst hc
      exact W.lcmp hx hb hd (kk _ _ _ _ _ I rfl rfl)
    · cases hc
  · cases hs
theorem zw_15 (C : zX p s m args meth c M D sa base) (hd : decode M.2.1 pc = .ok (i, len)) (hc : zc15 pc len a b i = true) (I : zIn D sa base M.2.2.1 s H locs lo h ls) (hs : zs15 len a b (pc, lo, st, h) = some (.inl y)) (kk : zK p l e R s m args below meth c cells slots Q D sa base M.2.2.1 h y) : W p l e R s m args below meth c H locs cells slots Q (F0 m pc ls (st.map (zv (zad sa base)))) := by
  obtain ⟨hx, hb, hml, hown, hnm, hts, hG, hbs⟩ := C
  simp only [zs15] at hs
  split at hs
  · simp only [zgo, Option.some.injEq, Sum.inl.injEq] at hs
    subst hs
    unfold zc15 at hc
    split at hc
    · rename_i kd off
      simp only [Bool.and_eq_true, decide_eq_true_eq] at hc
      obtain ⟨⟨h1, h2⟩, h3⟩ := hc
      subst h1; subst h2
      have K : ∀ n' : Nat, zif (zcnd kd) _ a (pc + 3) = n' → W p l e R s m args below meth c H locs cells slots Q (F0 m n' ls (List.map (zv (zad sa base)) _)) := fun n' q => q ▸ kk _ _ _ _ _ I rfl rfl
      cases kd with
      | eq => exact lv_if_eq hx hb hd h3 (fun q => K _ (if_pos q)) (fun q => K _ (if_neg q))
      | ne => exact lv_if_ne hx hb hd h3 (fun q => K _ (if_neg q)) (fun q => K _ (if_pos q))
      | lt => exact lv_if_lt hx hb hd h3 (fun q => K _ (if_pos q)) (fun q => K _ (if_neg q))
      | ge => exact lv_if_ge hx hb hd h3 (fun q => K _ (if_neg (Int32.not_lt.mpr q))) (fun q => K _ (if_pos (Int32.not_le.mp q)))
      | gt => exact lv_if_gt hx hb hd h3 (fun q => K _ (if_pos q)) (fun q => K _ (if_neg q))
      | le => exact lv_if_le hx hb hd h3 (fun q => K _ (if_neg (Int32.not_lt.mpr q))) (fun q => K _ (if_pos (Int32.not_le.mp q)))
    · cases hc
  · cases hs
theorem zw_16 (C : zX p s m args meth c M D sa base) (hd : decode M.2.1 pc = .ok (i, len)) (hc : zc16 pc len a b i = true) (I : zIn D sa base M.2.2.1 s H locs lo h ls) (hs : zs16 len a b (pc, lo, st, h) = some (.inl y)) (kk : zK p l e R s m args below meth c cells slots Q D sa base M.2.2.1 h y) : W p l e R s m args below meth c H locs cells slots Q (F0 m pc ls (st.map (zv (zad sa base)))) := by
  obtain ⟨hx, hb, hml, hown, hnm, hts, hG, hbs⟩ := C
  simp only [zs16] at hs
  split at hs
  · simp only [zgo, Option.some.injEq, Sum.inl.injEq] at hs
    subst hs
    unfold zc16 at hc
    split at hc
    · rename_i kd off
      simp only [Bool.and_eq_true, decide_eq_true_eq] at hc
      obtain ⟨⟨h1, h2⟩, h3⟩ := hc
      subst h1; subst h2
      have K : ∀ n' : Nat, zicmp (zcnd kd) _ _ a (pc + 3) = n' → W p l e R s m args below meth c H locs cells slots Q (F0 m n' ls (List.map (zv (zad sa base)) _)) := fun n' q => q ▸ kk _ _ _ _ _ I rfl rfl
      cases kd with
      | eq => exact lv_icmp_eq hx hb hd h3 (fun q => K _ (if_pos q)) (fun q => K _ (if_neg q))
      | ne => exact lv_icmp_ne hx hb hd h3 (fun q => K _ (if_neg q)) (fun q => K _ (if_pos q))
      | lt => exact lv_icmp_lt hx hb hd h3 (fun q => K _ (if_pos q)) (fun q => K _ (if_neg q))
      | ge => exact lv_icmp_ge hx hb hd h3 (fun q => K _ (if_neg (Int32.not_lt.mpr q))) (fun q => K _ (if_pos (Int32.not_le.mp q)))
      | gt => exact lv_icmp_gt hx hb hd h3 (fun q => K _ (if_pos q)) (fun q => K _ (if_neg q))
      | le => exact lv_icmp_le hx hb hd h3 (fun q => K _ (if_neg (Int32.not_lt.mpr q))) (fun q => K _ (if_pos (Int32.not_le.mp q)))
    · cases hc
  · cases hs
theorem zw_17 (C : zX p s m args meth c M D sa base) (hd : decode M.2.1 pc = .ok (i, len)) (hc : zc17 pc len a i = true) (I : zIn D sa base M.2.2.1 s H locs lo h ls) (hs : zs17 a (pc, lo, st, h) = some (.inl y)) (kk : zK p l e R s m args below meth c cells slots Q D sa base M.2.2.1 h y) : W p l e R s m args below meth c H locs cells slots Q (F0 m pc ls (st.map (zv (zad sa base)))) := by
  obtain ⟨hx, hb, hml, hown, hnm, hts, hG, hbs⟩ := C
  simp only [zs17] at hs
  simp only [zgo, Option.some.injEq, Sum.inl.injEq] at hs
  subst hs
  unfold zc17 at hc
  split at hc
  · simp only [Bool.and_eq_true, decide_eq_true_eq] at hc
    obtain ⟨h1, h2⟩ := hc
    subst h1
    exact lv_goto hx hb hd h2 (kk _ _ _ _ _ I rfl rfl)
  · cases hc
theorem zw_18 (C : zX p s m args meth c M D sa base) (hd : decode M.2.1 pc = .ok (i, len)) (hc : zc18 pc a sw i = true) (I : zIn D sa base M.2.2.1 s H locs lo h ls) (hs : zs18 a sw (pc, lo, st, h) = some (.inl y)) (kk : zK p l e R s m args below meth c cells slots Q D sa base M.2.2.1 h y) : W p l e R s m args below meth c H locs cells slots Q (F0 m pc ls (st.map (zv (zad sa base)))) := by
  obtain ⟨hx, hb, hml, hown, hnm, hts, hG, hbs⟩ := C
  simp only [zs18] at hs
  split at hs
  · rename_i x r
    simp only [zgo, Option.some.injEq, Sum.inl.injEq] at hs
    subst hs
    unfold zc18 at hc
    split at hc
    · rename_i d lw hi offs
      simp only [Bool.and_eq_true, decide_eq_true_eq] at hc
      obtain ⟨⟨h1, h2⟩, h3⟩ := hc
      by_cases hin : x.toInt < lw ∨ hi < x.toInt
      · have q := zrows_out (x := x) (d := a) h3 (by rw [← h2]; exact hin)
        refine lv_tableOut (tgt := a) hx hb hd hin h1 ?_
        have K := kk _ _ _ _ _ I rfl rfl
        simp only [q] at K
        exact K
      · obtain ⟨off, f1, f2⟩ := zrows_in (x := x) (d := a) h3 (fun q => hin (Or.inl q)) (by rw [← h2]; exact fun q => hin (Or.inr q))
        exact lv_tableIn hx hb hd (fun q => hin (Or.inl q)) (fun q => hin (Or.inr q)) (by rw [← Array.getElem?_toList]; exact f1) f2 (kk _ _ _ _ _ I rfl rfl)
    · simp only [Bool.and_eq_true, decide_eq_true_eq] at hc
      obtain ⟨⟨h1, h2⟩, h3⟩ := hc
      exact lv_lookup hx hb hd h2 rfl (zrowl_at h1 h3) (kk _ _ _ _ _ I rfl rfl)
    · cases hc
  · cases hs
theorem zw_19 (C : zX p s m args meth c M D sa base) (hd : decode M.2.1 pc = .ok (i, len)) (hc : zc19 M.2.2.1 len a v i = true) (I : zIn D sa base M.2.2.1 s H locs lo h ls) (hs : zs19 len a v (pc, lo, st, h) = some (.inl y)) (kk : zK p l e R s m args below meth c cells slots Q D sa base M.2.2.1 h y) : W p l e R s m args below meth c H locs cells slots Q (F0 m pc ls (st.map (zv (zad sa base)))) := by
  obtain ⟨hx, hb, hml, hown, hnm, hts, hG, hbs⟩ := C
  simp only [zs19] at hs
  split at hs
  · rename_i x k hg
    simp only [zgo, Option.some.injEq, Sum.inl.injEq] at hs
    subst hs
    unfold zc19 at hc
    split at hc
    · simp only [Bool.and_eq_true, decide_eq_true_eq] at hc
      obtain ⟨⟨⟨h1, h2⟩, h3⟩, h4⟩ := hc
      subst h1; subst h2
      simp only [Value.int.injEq] at h3
      subst h3
      obtain ⟨j, hj⟩ := zlv_idx (ad := zad sa base) hg
      exact lv_iinc hx hb hd I.1 hj rfl h4 rfl (fun ls' hl => kk _ _ _ _ _ ⟨zst1_lv I.2.1 h4 hl, by rw [zst1_length]; exact I.2.1, I.2.2⟩ rfl rfl)
    · cases hc
  · cases hs
theorem zw_39 (C : zX p s m args meth c M D sa base) (hd : decode M.2.1 pc = .ok (i, len)) (hc : zc39 len i = true) (I : zIn D sa base M.2.2.1 s H locs lo h ls) (hs : zs39 len (pc, lo, st, h) = some (.inl y)) (kk : zK p l e R s m args below meth c cells slots Q D sa base M.2.2.1 h y) : W p l e R s m args below meth c H locs cells slots Q (F0 m pc ls (st.map (zv (zad sa base)))) := by
  obtain ⟨hx, hb, hml, hown, hnm, hts, hG, hbs⟩ := C
  simp only [zs39] at hs
  split at hs
  · rename_i v r
    cases hz : zlong v
    · simp only [hz, cond_false, zgo, Option.some.injEq, Sum.inl.injEq] at hs
      subst hs
      unfold zc39 at hc
      split at hc
      · simp only [Bool.and_eq_true, decide_eq_true_eq] at hc
        subst hc
        exact lv_dup hx hb hd (zcat1 hz) (kk _ _ _ _ _ I rfl rfl)
      · cases hc
    · simp [hz] at hs
  · cases hs
theorem zw_40 (C : zX p s m args meth c M D sa base) (hd : decode M.2.1 pc = .ok (i, len)) (hc : zc40 len i = true) (I : zIn D sa base M.2.2.1 s H locs lo h ls) (hs : zs40 len (pc, lo, st, h) = some (.inl y)) (kk : zK p l e R s m args below meth c cells slots Q D sa base M.2.2.1 h y) : W p l e R s m args below meth c H locs cells slots Q (F0 m pc ls (st.map (zv (zad sa base)))) := by
  obtain ⟨hx, hb, hml, hown, hnm, hts, hG, hbs⟩ := C
  simp only [zs40] at hs
  split at hs
  · rename_i v w r
    cases hz : zlong v
    · cases hz2 : zlong w
      · simp only [hz, hz2, Bool.or_self, cond_false, zgo, Option.some.injEq, Sum.inl.injEq] at hs
        subst hs
        unfold zc40 at hc
        split at hc
        · simp only [Bool.and_eq_true, decide_eq_true_eq] at hc
          subst hc
          exact lv_dup_x1 hx hb hd (zcat1 hz) (zcat1 hz2) (kk _ _ _ _ _ I rfl rfl)
        · cases hc
      · simp [hz, hz2] at hs
    · simp [hz] at hs
  · cases hs
theorem zw_41 (C : zX p s m args meth c M D sa base) (hd : decode M.2.1 pc = .ok (i, len)) (hc : zc41 len i = true) (I : zIn D sa base M.2.2.1 s H locs lo h ls) (hs : zs41 len (pc, lo, st, h) = some (.inl y)) (kk : zK p l e R s m args below meth c cells slots Q D sa base M.2.2.1 h y) : W p l e R s m args below meth c H locs cells slots Q (F0 m pc ls (st.map (zv (zad sa base)))) := by
  obtain ⟨hx, hb, hml, hown, hnm, hts, hG, hbs⟩ := C
  simp only [zs41] at hs
  split at hs
  · rename_i v w r
    cases hz : zlong v
    · cases hz2 : zlong w
      · simp only [hz, hz2, Bool.or_self, cond_false, zgo, Option.some.injEq, Sum.inl.injEq] at hs
        subst hs
        unfold zc41 at hc
        split at hc
        · simp only [Bool.and_eq_true, decide_eq_true_eq] at hc
          subst hc
          exact lv_dup2_11 hx hb hd (zcat1 hz) (zcat1 hz2) (kk _ _ _ _ _ I rfl rfl)
        · cases hc
      · simp [hz, hz2] at hs
    · simp [hz] at hs
  · cases hs
theorem zw_42 (C : zX p s m args meth c M D sa base) (hd : decode M.2.1 pc = .ok (i, len)) (hc : zc42 len i = true) (I : zIn D sa base M.2.2.1 s H locs lo h ls) (hs : zs42 len (pc, lo, st, h) = some (.inl y)) (kk : zK p l e R s m args below meth c cells slots Q D sa base M.2.2.1 h y) : W p l e R s m args below meth c H locs cells slots Q (F0 m pc ls (st.map (zv (zad sa base)))) := by
  obtain ⟨hx, hb, hml, hown, hnm, hts, hG, hbs⟩ := C
  simp only [zs42] at hs
  split at hs
  · rename_i v r
    cases hz : zlong v
    · simp only [hz, cond_false, zgo, Option.some.injEq, Sum.inl.injEq] at hs
      subst hs
      unfold zc42 at hc
      split at hc
      · simp only [Bool.and_eq_true, decide_eq_true_eq] at hc
        subst hc
        exact lv_pop hx hb hd (zcat1 hz) (kk _ _ _ _ _ I rfl rfl)
      · cases hc
    · simp [hz] at hs
  · cases hs
theorem zw_43 (C : zX p s m args meth c M D sa base) (hd : decode M.2.1 pc = .ok (i, len)) (hc : zc43 M.1.cls len a k3 sw i = true) (I : zIn D sa base M.2.2.1 s H locs lo h ls) (hs : zs43 len a (pc, lo, st, h) = some (.inl y)) (kk : zK p l e R s m args below meth c cells slots Q D sa base M.2.2.1 h y) : W p l e R s m args below meth c H locs cells slots Q (F0 m pc ls (st.map (zv (zad sa base)))) := by
  obtain ⟨hx, hb, hml, hown, hnm, hts, hG, hbs⟩ := C
  simp only [zs43] at hs
  simp only [zgo, Option.some.injEq, Sum.inl.injEq] at hs
  subst hs
  unfold zc43 at hc
  split at hc
  · rw [Bool.and_eq_true, Bool.and_eq_true, Bool.and_eq_true, decide_eq_true_eq, decide_eq_true_eq, decide_eq_true_eq] at hc
    obtain ⟨⟨⟨h1, h2⟩, h3⟩, h4⟩ := hc
    subst h1
    have ea : zad sa base a = sa a := if_pos (by omega)
    have K := kk _ _ _ _ _ I rfl rfl
    have K : W p l e R s m args below meth c H locs cells slots Q (F0 m (pc + 3) ls (.ref (sa a) :: st.map (zv (zad sa base)))) := by rw [← ea]; exact K
    split at h4
    · exact va_gets hx hb (hG.2.2.2 a h2 h3) I.2.2.2 hown (hts _ (zw_in h4)) (fun x q => q) hd K
    · rw [decide_eq_true_eq] at h4
      exact va_getsN hx hb (hG.2.2.2 a h2 h3) I.2.2.2 hown (va_Nw.use rfl (hG.2.1 _ (zget_mem h4))) (fun x q => q) hd K
    · cases h4
  · cases hc
theorem zw_44 (C : zX p s m args meth c M D sa base) (hd : decode M.2.1 pc = .ok (i, len)) (hc : zc44 len i = true) (I : zIn D sa base M.2.2.1 s H locs lo h ls) (hs : zs44 len (pc, lo, st, h) = some (.inl y)) (kk : zK p l e R s m args below meth c cells slots Q D sa base M.2.2.1 h y) : W p l e R s m args below meth c H locs cells slots Q (F0 m pc ls (st.map (zv (zad sa base)))) := by
  obtain ⟨hx, hb, hml, hown, hnm, hts, hG, hbs⟩ := C
  simp only [zs44] at hs
  split at hs
  · rename_i v r
    cases hz : zlong v
    · simp [hz] at hs
    · simp only [hz, cond_true, zgo, Option.some.injEq, Sum.inl.injEq] at hs
      subst hs
      unfold zc44 at hc
      split at hc
      · simp only [Bool.and_eq_true, decide_eq_true_eq] at hc
        subst hc
        exact lv_pop2_2 hx hb hd (by rw [zv_cat]; exact (zlong_cat _).mp hz) (kk _ _ _ _ _ I rfl rfl)
      · cases hc
  · cases hs
end ZW
end
section
/-! WHAT THE HEAP HOLDS: kept, changed at one cell, grown by one, seen from another state; the classes' own facts. -/
theorem zget_el {α : Type} : ∀ (l : List α) (i : Nat), zget l i = l[i]?
  | [], _ => rfl
  | _ :: _, 0 => rfl
  | _ :: l, i + 1 => (zget_el l i).trans (by simp)
theorem zcl_el {c : Nat} {q : vw_C} (h : zget vwCl c = some q) : vwCl[c]? = some q := (zget_el _ _).symm.trans h
/-- a class of the table by its number -/
theorem zcl_by {P : Nat → vw_C → Prop} (h0 : P 0 (RX0, TX0, 6)) (h1 : P 1 (RX1, TX1, 6)) (h2 : P 2 (RX2, TX2, 11)) (h3 : P 3 (RX3, TX3, 7)) (h4 : P 4 (RX4, TX4, 4)) (h5 : P 5 (RX5, TX5, 4)) (h6 : P 6 (RX6, TX6, 3)) (h7 : P 7 (RX7, TX7, 5)) (h8 : P 8 (RX8, TX8, 5)) (h9 : P 9 (RX9, TX9, 7)) (h10 : P 10 (RX10, TX10, 5)) (h11 : P 11 (RX11, TX11, 14)) (h12 : P 12 (RX12, TX12, 49)) {c : Nat} {q : vw_C} (h : zget vwCl c = some q) : P c q := by
  match c, h with
  | 0, h => cases h; exact h0
  | 1, h => cases h; exact h1
  | 2, h => cases h; exact h2
  | 3, h => cases h; exact h3
  | 4, h => cases h; exact h4
  | 5, h => cases h; exact h5
  | 6, h => cases h; exact h6
  | 7, h => cases h; exact h7
  | 8, h => cases h; exact h8
  | 9, h => cases h; exact h9
  | 10, h => cases h; exact h10
  | 11, h => cases h; exact h11
  | 12, h => cases h; exact h12
  | _ + 13, h => cases h
theorem zcl_in {c : Nat} {q : vw_C} (h : zget vwCl c = some q) : ∀ w ∈ u_ws q.1 q.2.1 q.2.2, w ∈ zWall :=
  zcl_by (P := fun _ q => ∀ w ∈ u_ws q.1 q.2.1 q.2.2, w ∈ zWall) zin_0 zin_1 zin_2 zin_3 zin_4 zin_5 zin_6 zin_7 zin_8 zin_9 zin_10 zin_11 zin_12 h
theorem zcl_nm {c : Nat} {q : vw_C} (h : zget vwCl c = some q) : ∀ a, a < q.2.2 → ∀ b, b < q.2.2 → a ≠ b → (q.2.1 a).2.1 ≠ (q.2.1 b).2.1 :=
  zcl_by (P := fun _ q => ∀ a, a < q.2.2 → ∀ b, b < q.2.2 → a ≠ b → (q.2.1 a).2.1 ≠ (q.2.1 b).2.1) nmX0 nmX1 nmX2 nmX3 nmX4 nmX5 nmX6 nmX7 nmX8 nmX9 nmX10 nmX11 nmX12 h
theorem zcl_ty {c : Nat} {q : vw_C} (h : zget vwCl c = some q) : ∃ ty : Nat → FieldType, (∀ k, k < q.2.2 → parseFieldDescriptor (q.2.1 k).2.2.1 = some (ty k)) ∧ ∀ k, k < q.2.2 → defaultValue (ty k) = bif zft c k then .null else .int 0 :=
  zcl_by (P := fun c q => ∃ ty : Nat → FieldType, (∀ k, k < q.2.2 → parseFieldDescriptor (q.2.1 k).2.2.1 = some (ty k)) ∧ ∀ k, k < q.2.2 → defaultValue (ty k) = bif zft c k then .null else .int 0)
    ⟨tyX0, tyX0_ok, by decide +kernel⟩ ⟨tyX1, tyX1_ok, by decide +kernel⟩ ⟨tyX2, tyX2_ok, by decide +kernel⟩ ⟨tyX3, tyX3_ok, by decide +kernel⟩ ⟨tyX4, tyX4_ok, by decide +kernel⟩ ⟨tyX5, tyX5_ok, by decide +kernel⟩ ⟨tyX6, tyX6_ok, by decide +kernel⟩ ⟨tyX7, tyX7_ok, by decide +kernel⟩ ⟨tyX8, tyX8_ok, by decide +kernel⟩ ⟨tyX9, tyX9_ok, by decide +kernel⟩ ⟨tyX10, tyX10_ok, by decide +kernel⟩ ⟨tyX11, tyX11_ok, by decide +kernel⟩ ⟨tyX12, tyX12_ok, by decide +kernel⟩ h
theorem zcl_own {c : Nat} {q : vw_C} (h : zget vwCl c = some q) : ∀ k, k < q.2.2 → (q.2.1 k).1 = q.1 :=
  zcl_by (P := fun _ q => ∀ k, k < q.2.2 → (q.2.1 k).1 = q.1) (by decide +kernel) (by decide +kernel) (by decide +kernel) (by decide +kernel) (by decide +kernel) (by decide +kernel) (by decide +kernel) (by decide +kernel) (by decide +kernel) (by decide +kernel) (by decide +kernel) (by decide +kernel) (by decide +kernel) h
theorem zv_rf (ad : Nat → Nat) (r : Option Nat) : zv ad (va_rf r) = va_rf (r.map ad) := by cases r <;> rfl
theorem zad_lo {sa : Nat → Nat} {base k : Nat} (h : k < 6) : zad sa base k = sa k := if_pos h
theorem zad_hi {sa : Nat → Nat} {base k : Nat} (h : 6 ≤ k) : zad sa base k = base + (k - 6) := if_neg (by omega)
section ZR
variable {D : va_G} {ad : Nat → Nat} {A : Nat → Prop} {U U1 : State} {H H1 : Heap} {h h1 : zH} {k n t : Nat} {sa : Nat → Nat} {base : Nat}
theorem zcell_ob (ht : 10 ≤ t) : zcell D ad A U H h k n t = ∃ q : vw_C, 10 ≤ t ∧ zget vwCl (t - 10) = some q ∧ q.2.2 = n ∧ t_OB (ad k) (D.1 (t - 10)) n (D.2 (t - 10)) H (zfv ad h k (t - 10)) := by
  obtain ⟨u, rfl⟩ : ∃ u, t = u + 6 := ⟨t - 6, by omega⟩
  rfl
theorem zfv_eq {c : Nat} (e1 : h1.2.1 k = h.2.1 k) (e3 : h1.2.2.2 k = h.2.2.2 k) : zfv ad h1 k c = zfv ad h k c := by
  funext j
  unfold zfv
  rw [e1, e3]
theorem zcell_kept (q : zcell D ad A U H h k n t) (hq : H1[ad k]? = H[ad k]?) (e1 : h1.2.1 k = h.2.1 k) (e2 : h1.2.2.1 k = h.2.2.1 k) (e3 : h1.2.2.2 k = h.2.2.2 k) : zcell D ad A U H1 h1 k n t := by
  match t, q with
  | 0, q =>
    obtain ⟨cA, a1, a2⟩ := q
    exact ⟨cA, by rw [hq, e1]; exact a1, a2⟩
  | 1, q =>
    obtain ⟨cA, a1, a2⟩ := q
    exact ⟨cA, by rw [hq, e2]; exact a1, a2⟩
  | 2, q =>
    obtain ⟨cA, a1, a2⟩ := q
    exact ⟨cA, by rw [hq, e3]; exact a1, a2⟩
  | 3, q =>
    obtain ⟨cA, a1, a2⟩ := q
    exact ⟨cA, by rw [hq, e3]; exact a1, a2⟩
  | 4, q =>
    obtain ⟨cA, a1, a2⟩ := q
    exact ⟨cA, by rw [hq, e3]; exact a1, a2⟩
  | 5, q =>
    obtain ⟨cell, a1, a2⟩ := q
    exact ⟨cell, by rw [hq]; exact a1, by rw [e1]; exact a2⟩
  | t + 6, q =>
    obtain ⟨x, a1, a2, a3, a4⟩ := q
    exact ⟨x, a1, a2, a3, by rw [zfv_eq e1 e3]; exact a4.kept hq⟩
theorem zcell_lt (q : zcell D ad A U H h k n t) : ad k < H.size := by
  match t, q with
  | 0, q =>
    obtain ⟨cA, a1, a2⟩ := q
    exact (Array.getElem?_eq_some_iff.mp a1).1
  | 1, q =>
    obtain ⟨cA, a1, a2⟩ := q
    exact (Array.getElem?_eq_some_iff.mp a1).1
  | 2, q =>
    obtain ⟨cA, a1, a2⟩ := q
    exact (Array.getElem?_eq_some_iff.mp a1).1
  | 3, q =>
    obtain ⟨cA, a1, a2⟩ := q
    exact (Array.getElem?_eq_some_iff.mp a1).1
  | 4, q =>
    obtain ⟨cA, a1, a2⟩ := q
    exact (Array.getElem?_eq_some_iff.mp a1).1
  | 5, q =>
    obtain ⟨cell, a1, a2⟩ := q
    exact (Array.getElem?_eq_some_iff.mp a1).1
  | t + 6, q =>
    obtain ⟨x, a1, a2, a3, cell, a4, a5⟩ := q
    exact (Array.getElem?_eq_some_iff.mp a4).1
theorem zcell_moved (hvm : U.vm.Alike U1.vm) (q : zcell D ad A U H h k n t) : zcell D ad A U1 H h k n t := by
  match t, q with
  | 0, q =>
    obtain ⟨cA, a1, a2⟩ := q
    exact ⟨cA, a1, arrOfT_moved hvm a2⟩
  | 1, q =>
    obtain ⟨cA, a1, a2⟩ := q
    exact ⟨cA, a1, arrOfT_moved hvm a2⟩
  | 2, q =>
    obtain ⟨cA, a1, a2, a3⟩ := q
    exact ⟨cA, a1, arrOfT_moved hvm a2, a3.moved hvm⟩
  | 3, q =>
    obtain ⟨cA, a1, a2, a3⟩ := q
    exact ⟨cA, a1, arrOfT_moved hvm a2, a3.moved hvm⟩
  | 4, q =>
    obtain ⟨cA, a1, a2, a3⟩ := q
    exact ⟨cA, a1, arrOfT_moved hvm a2, a3.moved hvm⟩
  | 5, q => exact va_T.moved hvm q
  | t + 6, q => exact q
theorem zRep_moved (hvm : U.vm.Alike U1.vm) (r : zRep D sa base U H h) : zRep D sa base U1 H h :=
  ⟨r.1, r.2.1, fun k t n hk => zcell_moved hvm (r.2.2.1 k t n hk), r.2.2.2⟩
theorem zRep_hi (r : zRep D sa base U H h) {o : Nat} (ho : zget h.1 o = some (t, n)) (ht : t ≠ 5) : 6 ≤ o := by
  rcases Nat.lt_or_ge o 6 with q | q
  · exact absurd ((r.2.2.2.1 _ _ _ ho).mp q) ht
  · exact q
theorem zRep_A (r : zRep D sa base U H h) {o : Nat} (ho : zget h.1 o = some (t, n)) (ht : t ≠ 5) : zA base (zad sa base o) := by
  rw [zad_hi (zRep_hi r ho ht)]
  exact Nat.le_add_right _ _
theorem zRep_set (r : zRep D sa base U H h) {o : Nat} (ho : zget h.1 o = some (t, n)) (ht : t ≠ 5) (z : H1.size = H.size) (oq : ∀ q : Nat, q ≠ zad sa base o → H1[q]? = H[q]?) (e0 : h1.1 = h.1) (e1 : ∀ k, k ≠ o → h1.2.1 k = h.2.1 k) (e2 : ∀ k, k ≠ o → h1.2.2.1 k = h.2.2.1 k) (e3 : ∀ k, k ≠ o → h1.2.2.2 k = h.2.2.2 k)
    (hc : zcell D (zad sa base) (zA base) U H1 h1 o n t) : zRep D sa base U H1 h1 := by
  have o6 := zRep_hi r ho ht
  obtain ⟨r1, r2, r3, r4, r5⟩ := r
  refine ⟨by rw [z, e0]; exact r1, by rw [e0]; exact r2, fun k t' n' hk => ?_, by rw [e0]; exact r4, by rw [e0]; exact r5⟩
  rw [e0] at hk
  by_cases hko : k = o
  · subst hko
    rw [ho] at hk
    cases hk
    exact hc
  · refine zcell_kept (r3 k t' n' hk) (oq _ ?_) (e1 k hko) (e2 k hko) (e3 k hko)
    rw [zad_hi o6]
    rcases Nat.lt_or_ge k 6 with q | q
    · have e5 : t' = 5 := (r4 _ _ _ hk).mp q
      subst e5
      have hout : ¬ base ≤ zad sa base k := va_T.out (r3 k 5 n' hk)
      omega
    · rw [zad_hi q]
      omega
theorem zRep_new (r : zRep D sa base U H h) (ht : t ≠ 5) (hn : n < 2 ^ 31) (z : H1.size = H.size + 1) (oq : ∀ q : Nat, q < H.size → H1[q]? = H[q]?) (hc : zcell D (zad sa base) (zA base) U H1 (znew h t n) h.1.length n t) : zRep D sa base U H1 (znew h t n) := by
  obtain ⟨r1, r2, r3, r4, r5⟩ := r
  have hl : (znew h t n).1.length = h.1.length + 1 := by simp [znew]
  refine ⟨by rw [z, hl]; omega, by rw [hl]; omega, fun k t' n' hk => ?_, fun k t' n' hk => ?_, fun k t' n' hk => ?_⟩
  · rcases zget_new _ _ _ _ hk with q | ⟨q, e⟩
    · have hne : k ≠ h.1.length := Nat.ne_of_lt (zget_lt q)
      refine zcell_kept (r3 k t' n' q) (oq _ (zcell_lt (r3 k t' n' q))) (zrow_ne hne) (zrow_ne hne) (zrow_ne hne)
    · subst q
      cases e
      exact hc
  · rcases zget_new _ _ _ _ hk with q | ⟨q, e⟩
    · exact r4 k t' n' q
    · subst q
      cases e
      exact ⟨fun x => by omega, fun x => absurd x ht⟩
  · rcases zget_new _ _ _ _ hk with q | ⟨q, e⟩
    · exact r5 k t' n' q
    · subst q
      cases e
      exact hn
theorem zad_new (r : zRep D sa base U H h) : zad sa base h.1.length = H.size := by
  obtain ⟨r1, r2, -⟩ := r
  rw [zad_hi r2]
  omega
theorem zob (r : zRep D sa base U H h) {o a : Nat} (ho : zget h.1 o = some (10 + a, n)) : ∃ q : vw_C, zget vwCl a = some q ∧ q.2.2 = n ∧ t_OB (zad sa base o) (D.1 a) n (D.2 a) H (zfv (zad sa base) h o a) := by
  have q := r.2.2.1 _ _ _ ho
  rw [zcell_ob (by omega)] at q
  obtain ⟨x, -, a2, a3, a4⟩ := q
  rw [show 10 + a - 10 = a by omega] at a2 a4
  exact ⟨x, a2, a3, a4⟩
theorem zcell_of {o a : Nat} {q : vw_C} (h1 : zget vwCl a = some q) (h2 : q.2.2 = n) (h3 : t_OB (ad o) (D.1 a) n (D.2 a) H (zfv ad h o a)) : zcell D ad A U H h o n (10 + a) := by
  rw [zcell_ob (by omega)]
  rw [show 10 + a - 10 = a by omega]
  exact ⟨q, by omega, h1, h2, h3⟩
end ZR
theorem zN_nest : ∀ w ∈ zN, (∃ a i b n d h, w = .fieldLinkNest a i b n d h) ∨ ∃ a i x h, w = .methodLinkNest a i x h := by
  have h : zN.all (fun w => match w with | .fieldLinkNest .. => true | .methodLinkNest .. => true | _ => false) = true := by decide +kernel
  intro w hw
  have q := List.all_eq_true.mp h w hw
  split at q
  · exact Or.inl ⟨_, _, _, _, _, _, rfl⟩
  · exact Or.inr ⟨_, _, _, _, rfl⟩
  · cases q
theorem zG_warm {D : va_G} {sa : Nat → Nat} {base : Nat} {s U : State} {H : Heap} (hW : s.WarmedH U.vm) (hS : ∀ q : Nat, q < s.heap.size → ¬ base ≤ q → H[q]? = s.heap[q]?) (g : zG D sa base s s.heap) : zG D sa base U H := by
  refine ⟨va_K.moved hW.alike g.1, fun w hw => ?_, fun t h1 h2 => (g.2.2.1 t h1 h2).moved hW.alike, fun a h1 h2 => ((g.2.2.2 a h1 h2).moved hW.alike).kept hS⟩
  rcases zN_nest w hw with ⟨_, _, _, _, _, _, rfl⟩ | ⟨_, _, _, _, rfl⟩
  · exact va_Nw.warmF hW (g.2.1 _ hw)
  · exact va_Nw.warmM hW (g.2.1 _ hw)
theorem zG_same {D : va_G} {sa : Nat → Nat} {base : Nat} {s U : State} {H : Heap} (hvm : s.vm = U.vm) (g : zG D sa base s H) : zG D sa base U H := by
  have ha : s.vm.Alike U.vm := hvm ▸ Vm.Alike.refl s.vm
  refine ⟨va_K.moved ha g.1, fun w hw => ?_, fun t h1 h2 => (g.2.2.1 t h1 h2).moved ha, fun a h1 h2 => (g.2.2.2 a h1 h2).moved ha⟩
  exact va_Nw.same (List.all_eq_true.mp zN_tabs w hw) hvm (g.2.1 w hw)
end
section
/-! INSTRUCTIONS THAT READ AND WRITE CELLS. -/
section ZC
variable {p : Program} {l : Launch} {e : Env} {R : Room} {s : State} {m : MethodId} {args : Array Value} {below : List Frame} {meth : Method} {c : Code} {H : Heap} {locs : List Loc} {cells slots : Nat} {Q : State → Prop}
variable {M : zM} {D : va_G} {sa : Nat → Nat} {base : Nat} {pc len a b k3 : Nat} {v : Value} {sw : List (Int32 × Nat)} {i : Instr} {lo : List (Option Value)} {st : List Value} {h : zH} {ls : Array Slot} {y : zC}
theorem zw_20 (C : zX p s m args meth c M D sa base) (hd : decode M.2.1 pc = .ok (i, len)) (hc : zc20 M.1.cls len a b k3 sw i = true) (I : zIn D sa base M.2.2.1 s H locs lo h ls) (hs : zs20 len a b k3 (pc, lo, st, h) = some (.inl y)) (kk : zK p l e R s m args below meth c cells slots Q D sa base M.2.2.1 h y) : W p l e R s m args below meth c H locs cells slots Q (F0 m pc ls (st.map (zv (zad sa base)))) := by
  obtain ⟨hx, hb, hml, hown, hnm, hts, hG, hbs⟩ := C
  simp only [zs20] at hs
  split at hs
  · rename_i o r
    split at hs
    · rename_i t n ho
      cases hq : (Nat.beq t (10 + a) && Nat.blt b n)
      · simp [hq] at hs
      · simp only [hq, cond_true, zgo, Option.some.injEq, Sum.inl.injEq] at hs
        subst hs
        simp only [Bool.and_eq_true, Nat.beq_eq] at hq
        obtain ⟨ht, hbn⟩ := hq
        subst ht
        obtain ⟨q, q1, q2, cell, g1, g2, g3, g4⟩ := zob I.2.2.1 ho
        unfold zc20 at hc
        split at hc
        · rename_i k
          rw [Bool.and_eq_true, decide_eq_true_eq] at hc
          obtain ⟨h1, h2⟩ := hc
          subst h1
          rw [q1] at h2
          simp only [Bool.and_eq_true, decide_eq_true_eq] at h2
          obtain ⟨⟨h3, h4⟩, h5⟩ := h2
          obtain ⟨hS, hfc, kC, hkC, hkind⟩ := hG.1.1 a q (zcl_el q1)
          obtain ⟨cf, kf, fi, f, hi, hsl⟩ := hS b h3
          have hi2 := hi
          rw [zcl_own q1 b h3] at hi2
          refine W.getf hx hb hown (hts _ (zw_in h4)) hi2 (u_facts hfc hkC (u_lays hts (zcl_in q1) h3) hi).1 g1 (by rw [g3]; exact fun h => by cases h) (by rw [hsl]; exact g4 b (by omega)) rfl rfl hd ?_
          cases k3 with
          | zero =>
            have h5 : (!zft a b) = true := h5
            rw [Bool.not_eq_true'] at h5
            have e5 : zfv (zad sa base) h o a b = zv (zad sa base) (.int (h.2.1 o b)) := by unfold zfv; rw [h5]; rfl
            rw [e5]
            exact kk _ _ _ _ _ I rfl rfl
          | succ k4 =>
            cases k4 with
            | zero =>
              have h5 : zft a b = true := h5
              have e5 : zfv (zad sa base) h o a b = zv (zad sa base) (va_rf (h.2.2.2 o b)) := by unfold zfv; rw [h5, zv_rf]; rfl
              rw [e5]
              exact kk _ _ _ _ _ I rfl rfl
            | succ k5 =>
              have h5 : (!zft a b) = true := h5
              rw [Bool.not_eq_true'] at h5
              have e5 : zfv (zad sa base) h o a b = zv (zad sa base) (.int (h.2.1 o b)) := by unfold zfv; rw [h5]; rfl
              rw [e5]
              exact kk _ _ _ _ _ I rfl rfl
        · cases hc
    · cases hs
  · cases hs
/-- a field is written -/
theorem zput_W (C : zX p s m args meth c M D sa base) {k o' : Nat} (hd : decode M.2.1 pc = .ok (.putfield k, 3)) {q : vw_C} (q1 : zget vwCl a = some q) (h3 : b < q.2.2) (h4 : zis (zp sw 0) (.fieldLink M.1.cls k q.1 (q.2.1 b).2.1 (q.2.1 b).2.2.1) = true) (hfin : (!(q.2.1 b).2.2.2 || (decide (M.1.name = "<init>") && decide ((q.2.1 b).1 = M.1.cls))) = true)
    {ty : FieldType} (hty : parseFieldDescriptor (q.2.1 b).2.2.1 = some ty) (hn : narrow ty v = v) (hfit : fits ty v = true) {V : Nat → Value} (hob : t_OB o' (D.1 a) q.2.2 (D.2 a) H V) {rest : List Value}
    (kk : ∀ (H' : Heap) (j : Nat), t_OB o' (D.1 a) q.2.2 (D.2 a) H' (updV V b v) → H'.size = H.size → (∀ x : Nat, x ≠ o' → H'[x]? = H[x]?) → W p l e R s m args below meth c H' (locs ++ [⟨o', j⟩]) cells slots Q (F0 m (pc + 3) ls rest)) : W p l e R s m args below meth c H locs cells slots Q (F0 m pc ls (v :: .ref o' :: rest)) := by
  obtain ⟨hx, hb, hml, hown, hnm, hts, hG, hbs⟩ := C
  obtain ⟨ty0, hty0, -⟩ := zcl_ty q1
  have hap := va_apart (own := M.1.cls) hts (zcl_in q1) ty0 hty0 (zcl_nm q1) hG.1 (zcl_el q1)
  obtain ⟨cell, g1, g2, g3, g4⟩ := hob
  obtain ⟨hS, hfc, kC, hkC, hkind⟩ := hG.1.1 a q (zcl_el q1)
  obtain ⟨cf, kf, fi, f, hi, hsl⟩ := hS b h3
  have hi2 := hi
  rw [zcl_own q1 b h3] at hi2
  have hst := (u_facts hfc hkC (u_lays hts (zcl_in q1) h3) hi).1
  have hlay := hts _ (zcl_in q1 _ (u_in_lay h3))
  unfold u_lay at hlay
  by_cases hf : (q.2.1 b).2.2.2 = true
  · rw [if_pos hf] at hlay
    rw [hf] at hfin
    simp only [Bool.not_true, Bool.false_or, Bool.and_eq_true, decide_eq_true_eq] at hfin
    have hcf : m.cls = cf := by
      obtain ⟨_, _, c', _, _, _, -, -, hf', -, -, -, hown2, -⟩ := Cond.laysFinal_spec hlay
      have e1 : c' = cf := by have := hi.symm.trans hf'; simp at this; exact this.1.symm
      rw [hfin.2] at hown2
      rw [← e1]; exact Option.some.inj (hown.symm.trans hown2)
    have h6 := u_fits hfc hkC hkind (Or.inr hlay) hi hty hn hfit
    refine W.putFinK hx hb hown (hts _ (zw_in h4)) hi2 hst hcf (hnm hfin.1) (by rw [g2]; exact h6) g1 g3 (by rw [hsl]; exact k2_hasslot (g4 b h3)) rfl rfl hd fun H' e1 e2 e3 => ?_
    rw [hsl] at e1 ⊢
    exact kk H' _ ⟨_, e1, g2, g3, t_set g4 hap h3 v⟩ e2 e3
  · rw [if_neg hf] at hlay
    have h6 := u_store hfc hkC hkind hlay hi hty hn hfit
    refine W.putK hx hb (f := f) ⟨hown, hts _ (zw_in h4), ⟨_, _, _, hi2⟩, hst⟩ (by rw [g2]; exact h6) g1 g3 (by rw [hsl]; exact k2_hasslot (g4 b h3)) rfl rfl hd fun H' e1 e2 e3 => ?_
    rw [hsl] at e1 ⊢
    exact kk H' _ ⟨_, e1, g2, g3, t_set g4 hap h3 v⟩ e2 e3
theorem zS_put {H1 : Heap} {o' j : Nat} (hS : va_S (zA base) s.heap H locs) (z : H1.size = H.size) (oq : ∀ q : Nat, q ≠ o' → H1[q]? = H[q]?) (ho : zA base o') : va_S (zA base) s.heap H1 (locs ++ [⟨o', j⟩]) := hS.put z oq ho
theorem zw_21 (C : zX p s m args meth c M D sa base) (hd : decode M.2.1 pc = .ok (i, len)) (hc : zc21 M.1 len a b k3 sw i = true) (I : zIn D sa base M.2.2.1 s H locs lo h ls) (hs : zs21 len a b k3 (pc, lo, st, h) = some (.inl y)) (kk : zK p l e R s m args below meth c cells slots Q D sa base M.2.2.1 h y) : W p l e R s m args below meth c H locs cells slots Q (F0 m pc ls (st.map (zv (zad sa base)))) := by
  unfold zc21 at hc
  split at hc
  · rename_i k
    rw [Bool.and_eq_true, decide_eq_true_eq] at hc
    obtain ⟨h1, h2⟩ := hc
    subst h1
    simp only [zs21] at hs
    split at hs
    · rename_i x o r
      split at hs
      · rename_i t n ho
        cases hq : (Nat.beq t (10 + a) && Nat.blt b n)
        · simp [hq] at hs
        · simp only [hq, cond_true] at hs
          simp only [Bool.and_eq_true, Nat.beq_eq] at hq
          obtain ⟨ht, hbn⟩ := hq
          subst ht
          obtain ⟨q, q1, q2, hob⟩ := zob I.2.2.1 ho
          subst q2
          rw [q1] at h2
          simp only [Bool.and_eq_true, decide_eq_true_eq] at h2
          obtain ⟨⟨⟨⟨h3, h4⟩, h5⟩, h6⟩, h7⟩ := h2
          have ne : ¬ (10 + a = 5) := by omega
          have goal : ∀ ty, parseFieldDescriptor (q.2.1 b).2.2.1 = some ty → narrow ty (.int x) = .int x → fits ty (.int x) = true → zft a b = false → y = (pc + 3, lo, r, (h.1, zup h.2.1 o b x, h.2.2.1, h.2.2.2)) → W p l e R s m args below meth c H locs cells slots Q (F0 m pc ls (.int x :: .ref (zad sa base o) :: r.map (zv (zad sa base)))) := by
            intro ty p1 p2 p3 p4 p5
            subst p5
            refine zput_W C hd q1 h3 h4 h7 p1 p2 p3 hob (fun H' j f1 f2 f3 => ?_)
            refine kk _ _ _ _ _ ⟨I.1, I.2.1, zRep_set I.2.2.1 ho ne f2 f3 rfl (fun z hz => zup_row hz) (fun _ _ => rfl) (fun _ _ => rfl) (zcell_of q1 rfl (f1.to fun z hz => ?_)), I.2.2.2.put f2 f3 (zRep_A I.2.2.1 ho ne)⟩ rfl rfl
            unfold updV zfv
            by_cases hz2 : z = b
            · subst hz2
              rw [if_pos rfl, p4]
              dsimp only [cond_false]
              rw [zsame_up]
            · rw [if_neg hz2]
              cases zft a z
              · dsimp only [cond_false]
                rw [zne_up (fun w => hz2 w.2)]
              · rfl
          split at hs
          · simp only [zgo, Option.some.injEq, Sum.inl.injEq] at hs
            unfold zfty at h5
            split at h5
            · rename_i _ _ p1
              exact goal _ p1 rfl rfl (by simpa using h6) hs.symm
            · rename_i hk _; cases hk
            · rename_i hk _; cases hk
            · rename_i hk _; cases hk
            · cases h5
          · split at hs
            · rename_i hx2
              simp only [zgo, Option.some.injEq, Sum.inl.injEq] at hs
              unfold zfty at h5
              split at h5
              · rename_i hk _; cases hk
              · rename_i _ _ p1
                exact goal _ p1 (by rcases hx2 with rfl | rfl <;> rfl) (by rcases hx2 with rfl | rfl <;> rfl) (by simpa using h6) hs.symm
              · rename_i hk _; cases hk
              · rename_i hk _; cases hk
              · cases h5
            · cases hs
          · cases hs
      · cases hs
    · rename_i w o r
      split at hs
      · rename_i t n ho
        cases hq : (Nat.beq t (10 + a) && Nat.blt b n)
        · simp [hq] at hs
        · simp only [hq, cond_true] at hs
          simp only [Bool.and_eq_true, Nat.beq_eq] at hq
          obtain ⟨ht, hbn⟩ := hq
          subst ht
          obtain ⟨q, q1, q2, hob⟩ := zob I.2.2.1 ho
          subst q2
          rw [q1] at h2
          simp only [Bool.and_eq_true, decide_eq_true_eq] at h2
          obtain ⟨⟨⟨⟨h3, h4⟩, h5⟩, h6⟩, h7⟩ := h2
          have ne : ¬ (10 + a = 5) := by omega
          have goal : ∀ ty, parseFieldDescriptor (q.2.1 b).2.2.1 = some ty → narrow ty (.ref (zad sa base w)) = .ref (zad sa base w) → fits ty (.ref (zad sa base w)) = true → zft a b = true → y = (pc + 3, lo, r, (h.1, h.2.1, h.2.2.1, zup h.2.2.2 o b (some w))) → W p l e R s m args below meth c H locs cells slots Q (F0 m pc ls (.ref (zad sa base w) :: .ref (zad sa base o) :: r.map (zv (zad sa base)))) := by
            intro ty p1 p2 p3 p4 p5
            subst p5
            refine zput_W C hd q1 h3 h4 h7 p1 p2 p3 hob (fun H' j f1 f2 f3 => ?_)
            refine kk _ _ _ _ _ ⟨I.1, I.2.1, zRep_set I.2.2.1 ho ne f2 f3 rfl (fun _ _ => rfl) (fun _ _ => rfl) (fun z hz => zup_row hz) (zcell_of q1 rfl (f1.to fun z hz => ?_)), I.2.2.2.put f2 f3 (zRep_A I.2.2.1 ho ne)⟩ rfl rfl
            unfold updV zfv
            by_cases hz2 : z = b
            · subst hz2
              rw [if_pos rfl, p4]
              dsimp only [cond_true]
              rw [zsame_up]
              rfl
            · rw [if_neg hz2]
              cases zft a z
              · rfl
              · dsimp only [cond_true]
                rw [zne_up (fun w => hz2 w.2)]
          split at hs
          · simp only [zgo, Option.some.injEq, Sum.inl.injEq] at hs
            unfold zfty at h5
            split at h5
            · rename_i hk _; cases hk
            · rename_i hk _; cases hk
            · rename_i _ _ p1
              exact goal _ p1 rfl rfl h6 hs.symm
            · rename_i _ _ p1
              exact goal _ p1 rfl rfl h6 hs.symm
            · cases h5
          · cases hs
      · cases hs
    · cases hs
  · cases hc
/-- an array of the small machine that is no row of references -/
theorem zw_22 (C : zX p s m args meth c M D sa base) (hd : decode M.2.1 pc = .ok (i, len)) (hc : zc22 len i = true) (I : zIn D sa base M.2.2.1 s H locs lo h ls) (hs : zs22 len (pc, lo, st, h) = some (.inl y)) (kk : zK p l e R s m args below meth c cells slots Q D sa base M.2.2.1 h y) : W p l e R s m args below meth c H locs cells slots Q (F0 m pc ls (st.map (zv (zad sa base)))) := by
  obtain ⟨hx, hb, hml, hown, hnm, hts, hG, hbs⟩ := C
  unfold zc22 at hc
  split at hc
  · rw [decide_eq_true_eq] at hc
    subst hc
    simp only [zs22] at hs
    split at hs
    · rename_i j o r
      split at hs
      · rename_i t n ho
        cases hq : ((Nat.beq t 0 || Nat.beq t 5) && Nat.blt (zix j) n)
        · simp [hq] at hs
        · simp only [hq, cond_true, zgo, Option.some.injEq, Sum.inl.injEq] at hs
          subst hs
          simp only [Bool.and_eq_true, Bool.or_eq_true, Nat.beq_eq] at hq
          obtain ⟨ht, hlt⟩ := hq
          have hlt : zix j < n := Nat.ble_eq.mp hlt
          have hn := I.2.2.1.2.2.2.2 _ _ _ ho
          have hz := zix_lt hlt (by omega)
          rcases ht with rfl | rfl
          · obtain ⟨cA, g1, g2⟩ := I.2.2.1.2.2.1 _ _ _ ho
            refine W.iald hx hb g1 (g2 n _) (fun q => by cases q) (by show ¬ (_ ∨ (arrV _ _ _).slots.size ≤ _); rw [arrV_size]; exact zix_in hlt hn) (by show (arrV _ _ _).slots[_]? = _; rw [hz.2, arrV_read _ _ hlt]; rfl) rfl rfl hd (kk _ _ _ _ _ I rfl rfl)
          · obtain ⟨cell, g1, g2, g3, g4, g5, g6, g7⟩ := I.2.2.1.2.2.1 _ _ _ ho
            refine W.iald hx hb g1 g2 g3 (fun q => ?_) (by rw [hz.2]; exact g6 _ hlt) rfl rfl hd (kk _ _ _ _ _ I rfl rfl)
            rcases q with q | q
            · exact hz.1 q
            · rw [hz.2] at q
              omega
      · cases hs
    · cases hs
  · cases hc
theorem zw_23 (C : zX p s m args meth c M D sa base) (hd : decode M.2.1 pc = .ok (i, len)) (hc : zc23 len i = true) (I : zIn D sa base M.2.2.1 s H locs lo h ls) (hs : zs23 len (pc, lo, st, h) = some (.inl y)) (kk : zK p l e R s m args below meth c cells slots Q D sa base M.2.2.1 h y) : W p l e R s m args below meth c H locs cells slots Q (F0 m pc ls (st.map (zv (zad sa base)))) := by
  obtain ⟨hx, hb, hml, hown, hnm, hts, hG, hbs⟩ := C
  unfold zc23 at hc
  split at hc
  · rw [decide_eq_true_eq] at hc
    subst hc
    simp only [zs23] at hs
    split at hs
    · rename_i j o r
      split at hs
      · rename_i t n ho
        cases hq : (Nat.beq t 1 && Nat.blt (zix j) n)
        · simp [hq] at hs
        · simp only [hq, cond_true, zgo, Option.some.injEq, Sum.inl.injEq] at hs
          subst hs
          simp only [Bool.and_eq_true, Nat.beq_eq] at hq
          obtain ⟨rfl, hlt⟩ := hq
          have hlt : zix j < n := Nat.ble_eq.mp hlt
          have hn := I.2.2.1.2.2.2.2 _ _ _ ho
          have hz := zix_lt hlt (by omega)
          obtain ⟨cA, g1, g2⟩ := I.2.2.1.2.2.1 _ _ _ ho
          refine W.lald hx hb g1 (g2 n _) (fun q => by cases q) (by show ¬ (_ ∨ (arrV _ _ _).slots.size ≤ _); rw [arrV_size]; exact zix_in hlt hn) (by show (arrV _ _ _).slots[_]? = _; rw [hz.2, arrV_read _ _ hlt]; rfl) rfl rfl hd (kk _ _ _ _ _ I rfl rfl)
      · cases hs
    · cases hs
  · cases hc
theorem zrq_of {t n o : Nat} (r : zRep D sa base s H h) (ho : zget h.1 o = some (t, n)) (h2 : 2 ≤ t) (h4 : t ≤ 4) : zrq (zad sa base) s H h o n t := by
  have q := r.2.2.1 _ _ _ ho
  rcases (show t = 2 ∨ t = 3 ∨ t = 4 by omega) with rfl | rfl | rfl <;> exact q
theorem zof_rq {t n o : Nat} {U : State} {H1 : Heap} {h1 : zH} {A : Nat → Prop} (h2 : 2 ≤ t) (h4 : t ≤ 4) (q : zrq (zad sa base) U H1 h1 o n t) : zcell D (zad sa base) A U H1 h1 o n t := by
  rcases (show t = 2 ∨ t = 3 ∨ t = 4 by omega) with rfl | rfl | rfl <;> exact q
theorem zw_24 (C : zX p s m args meth c M D sa base) (hd : decode M.2.1 pc = .ok (i, len)) (hc : zc24 len i = true) (I : zIn D sa base M.2.2.1 s H locs lo h ls) (hs : zs24 len (pc, lo, st, h) = some (.inl y)) (kk : zK p l e R s m args below meth c cells slots Q D sa base M.2.2.1 h y) : W p l e R s m args below meth c H locs cells slots Q (F0 m pc ls (st.map (zv (zad sa base)))) := by
  obtain ⟨hx, hb, hml, hown, hnm, hts, hG, hbs⟩ := C
  unfold zc24 at hc
  split at hc
  · rw [decide_eq_true_eq] at hc
    subst hc
    simp only [zs24] at hs
    split at hs
    · rename_i j o r
      split at hs
      · rename_i t n ho
        cases hq : ((Nat.ble 2 t && Nat.ble t 4) && Nat.blt (zix j) n)
        · simp [hq] at hs
        · simp only [hq, cond_true, zgo, Option.some.injEq, Sum.inl.injEq] at hs
          subst hs
          simp only [Bool.and_eq_true, Nat.ble_eq] at hq
          obtain ⟨⟨h2, h4⟩, hlt⟩ := hq
          have hlt : zix j < n := Nat.ble_eq.mp hlt
          have hn := I.2.2.1.2.2.2.2 _ _ _ ho
          have hz := zix_lt hlt (by omega)
          obtain ⟨cA, g1, g2, g3⟩ := zrq_of I.2.2.1 ho h2 h4
          have K := kk _ _ _ _ _ I rfl rfl
          have K : W p l e R s m args below meth c H locs cells slots Q (F0 m (pc + 1) ls (va_rf ((h.2.2.2 o (zix j)).map (zad sa base)) :: r.map (zv (zad sa base)))) := by rw [← zv_rf]; exact K
          exact W.aald hx hb g1 (g2 n _) rfl (fun q => by cases q) (by show ¬ (_ ∨ (arrV _ _ _).slots.size ≤ _); rw [arrV_size]; exact zix_in hlt hn) (by show (arrV _ _ _).slots[_]? = _; rw [hz.2, arrV_read _ _ hlt]) rfl rfl hd K
      · cases hs
    · cases hs
  · cases hc
theorem zw_25 (C : zX p s m args meth c M D sa base) (hd : decode M.2.1 pc = .ok (i, len)) (hc : zc25 len i = true) (I : zIn D sa base M.2.2.1 s H locs lo h ls) (hs : zs25 len (pc, lo, st, h) = some (.inl y)) (kk : zK p l e R s m args below meth c cells slots Q D sa base M.2.2.1 h y) : W p l e R s m args below meth c H locs cells slots Q (F0 m pc ls (st.map (zv (zad sa base)))) := by
  obtain ⟨hx, hb, hml, hown, hnm, hts, hG, hbs⟩ := C
  unfold zc25 at hc
  split at hc
  · rw [decide_eq_true_eq] at hc
    subst hc
    simp only [zs25] at hs
    split at hs
    · rename_i x j o r
      split at hs
      · rename_i t n ho
        cases hq : (Nat.beq t 0 && Nat.blt (zix j) n)
        · simp [hq] at hs
        · simp only [hq, cond_true, zgo, Option.some.injEq, Sum.inl.injEq] at hs
          subst hs
          simp only [Bool.and_eq_true, Nat.beq_eq] at hq
          obtain ⟨rfl, hlt⟩ := hq
          have hlt : zix j < n := Nat.ble_eq.mp hlt
          have hn := I.2.2.1.2.2.2.2 _ _ _ ho
          have hz := zix_lt hlt (by omega)
          obtain ⟨cA, g1, g2⟩ := I.2.2.1.2.2.1 _ _ _ ho
          refine W.iast hx hb g1 (g2 n _) (fun q => by cases q) (by show ¬ (_ ∨ (arrV _ _ _).slots.size ≤ _); rw [arrV_size]; exact zix_in hlt hn) rfl rfl hd (fun H1 e1 z1 o1 => ?_)
          refine kk _ _ _ _ _ ⟨I.1, I.2.1, zRep_set I.2.2.1 ho (by decide) z1 o1 rfl (fun z hz => zup_row hz) (fun _ _ => rfl) (fun _ _ => rfl) ⟨cA, ?_, g2⟩, I.2.2.2.put z1 o1 (zRep_A I.2.2.1 ho (by decide))⟩ rfl rfl
          rw [e1, arrV_store, hz.2]
          congr 2
          funext q
          unfold updV
          dsimp only
          by_cases hq : q = zix j
          · subst hq
            rw [if_pos rfl, zsame_up]
          · rw [if_neg hq, zne_up (fun w => hq w.2)]
      · cases hs
    · cases hs
  · cases hc
theorem zw_26 (C : zX p s m args meth c M D sa base) (hd : decode M.2.1 pc = .ok (i, len)) (hc : zc26 len i = true) (I : zIn D sa base M.2.2.1 s H locs lo h ls) (hs : zs26 len (pc, lo, st, h) = some (.inl y)) (kk : zK p l e R s m args below meth c cells slots Q D sa base M.2.2.1 h y) : W p l e R s m args below meth c H locs cells slots Q (F0 m pc ls (st.map (zv (zad sa base)))) := by
  obtain ⟨hx, hb, hml, hown, hnm, hts, hG, hbs⟩ := C
  unfold zc26 at hc
  split at hc
  · rw [decide_eq_true_eq] at hc
    subst hc
    simp only [zs26] at hs
    split at hs
    · rename_i x j o r
      split at hs
      · rename_i t n ho
        cases hq : (Nat.beq t 1 && Nat.blt (zix j) n)
        · simp [hq] at hs
        · simp only [hq, cond_true, zgo, Option.some.injEq, Sum.inl.injEq] at hs
          subst hs
          simp only [Bool.and_eq_true, Nat.beq_eq] at hq
          obtain ⟨rfl, hlt⟩ := hq
          have hlt : zix j < n := Nat.ble_eq.mp hlt
          have hn := I.2.2.1.2.2.2.2 _ _ _ ho
          have hz := zix_lt hlt (by omega)
          obtain ⟨cA, g1, g2⟩ := I.2.2.1.2.2.1 _ _ _ ho
          refine W.last hx hb g1 (g2 n _) (fun q => by cases q) (by show ¬ (_ ∨ (arrV _ _ _).slots.size ≤ _); rw [arrV_size]; exact zix_in hlt hn) rfl rfl hd (fun H1 e1 z1 o1 => ?_)
          refine kk _ _ _ _ _ ⟨I.1, I.2.1, zRep_set I.2.2.1 ho (by decide) z1 o1 rfl (fun _ _ => rfl) (fun z hz => zup_row hz) (fun _ _ => rfl) ⟨cA, ?_, g2⟩, I.2.2.2.put z1 o1 (zRep_A I.2.2.1 ho (by decide))⟩ rfl rfl
          rw [e1, arrV_store, hz.2]
          congr 2
          funext q
          unfold updV
          dsimp only
          by_cases hq : q = zix j
          · subst hq
            rw [if_pos rfl, zsame_up]
          · rw [if_neg hq, zne_up (fun w => hq w.2)]
      · cases hs
    · cases hs
  · cases hc
theorem zcomp_cl {t : Nat} (h2 : 2 ≤ t) (h4 : t ≤ 4) : ∃ q : vw_C, zget vwCl (zcomp t) = some q ∧ q.1 = zcn t := by
  rcases (show t = 2 ∨ t = 3 ∨ t = 4 by omega) with rfl | rfl | rfl
  · exact ⟨_, rfl, rfl⟩
  · exact ⟨_, rfl, rfl⟩
  · exact ⟨_, rfl, rfl⟩
theorem zw_27 (C : zX p s m args meth c M D sa base) (hd : decode M.2.1 pc = .ok (i, len)) (hc : zc27 len i = true) (I : zIn D sa base M.2.2.1 s H locs lo h ls) (hs : zs27 len (pc, lo, st, h) = some (.inl y)) (kk : zK p l e R s m args below meth c cells slots Q D sa base M.2.2.1 h y) : W p l e R s m args below meth c H locs cells slots Q (F0 m pc ls (st.map (zv (zad sa base)))) := by
  obtain ⟨hx, hb, hml, hown, hnm, hts, hG, hbs⟩ := C
  unfold zc27 at hc
  split at hc
  · rw [decide_eq_true_eq] at hc
    subst hc
    simp only [zs27] at hs
    split at hs
    · rename_i v j o r
      split at hs
      · rename_i t n t2 n2 ho hv
        cases hq : (((Nat.ble 2 t && Nat.ble t 4) && Nat.beq t2 (10 + zcomp t)) && Nat.blt (zix j) n)
        · simp [hq] at hs
        · simp only [hq, cond_true, zgo, Option.some.injEq, Sum.inl.injEq] at hs
          subst hs
          simp only [Bool.and_eq_true, Nat.ble_eq, Nat.beq_eq] at hq
          obtain ⟨⟨⟨h2, h4⟩, rfl⟩, hlt⟩ := hq
          have hlt : zix j < n := Nat.ble_eq.mp hlt
          have hn := I.2.2.1.2.2.2.2 _ _ _ ho
          have hz := zix_lt hlt (by omega)
          have n5 : ¬ (t = 5) := by omega
          obtain ⟨cA, g1, g2, kA, comp, k1, k2, k3, k4⟩ := zrq_of I.2.2.1 ho h2 h4
          obtain ⟨q', e1, e2⟩ := zcomp_cl h2 h4
          obtain ⟨q, q1, q2, cellV, v1, v2, v3, -⟩ := zob I.2.2.1 hv
          rw [e1] at q1
          cases q1
          have hcls := (hG.1.1 _ _ (zcl_el e1)).2
          rw [e2] at hcls
          have hcomp : comp = D.1 (zcomp t) := Option.some.inj (k3.symm.trans hcls.1)
          subst hcomp
          obtain ⟨kC, hkC, hkk⟩ := hcls.2
          refine W.aast hx hb g1 (fun q h => by cases h) (fun h => by cases h) k1 k2 rfl hkC ⟨hz.1, by show _ < (arrV _ _ _).slots.size; rw [arrV_size, hz.2]; exact hlt⟩ v1 (fun q h => by rw [v3] at h; cases h) (by rw [v2]; exact hkC) (by rw [v2]; exact va_assign hcls) rfl rfl hd fun H1 e1 z1 o1 => ?_
          refine kk _ _ _ _ _ ⟨I.1, I.2.1, zRep_set I.2.2.1 ho n5 z1 o1 rfl (fun _ _ => rfl) (fun _ _ => rfl) (fun z hz => zup_row hz) (zof_rq h2 h4 ⟨cA, ?_, g2, kA, _, k1, k2, k3, k4⟩), I.2.2.2.put z1 o1 (zRep_A I.2.2.1 ho n5)⟩ rfl rfl
          rw [e1, arrV_store, hz.2]
          congr 2
          funext q
          unfold updV
          dsimp only
          by_cases hq : q = zix j
          · subst hq
            rw [if_pos rfl, zsame_up]
            rfl
          · rw [if_neg hq, zne_up (fun w => hq w.2)]
      · cases hs
    · cases hs
  · cases hc
theorem zw_28 (C : zX p s m args meth c M D sa base) (hd : decode M.2.1 pc = .ok (i, len)) (hc : zc28 len i = true) (I : zIn D sa base M.2.2.1 s H locs lo h ls) (hs : zs28 len (pc, lo, st, h) = some (.inl y)) (kk : zK p l e R s m args below meth c cells slots Q D sa base M.2.2.1 h y) : W p l e R s m args below meth c H locs cells slots Q (F0 m pc ls (st.map (zv (zad sa base)))) := by
  obtain ⟨hx, hb, hml, hown, hnm, hts, hG, hbs⟩ := C
  unfold zc28 at hc
  split at hc
  · rw [decide_eq_true_eq] at hc
    subst hc
    simp only [zs28] at hs
    split at hs
    · rename_i o r
      split at hs
      · rename_i t n ho
        cases hq : Nat.ble t 5
        · simp [hq] at hs
        · simp only [hq, cond_true, zgo, Option.some.injEq, Sum.inl.injEq] at hs
          subst hs
          rw [Nat.ble_eq] at hq
          have K := kk _ _ _ _ _ I rfl rfl
          have q := I.2.2.1.2.2.1 _ _ _ ho
          rcases (show t = 0 ∨ t = 1 ∨ (2 ≤ t ∧ t ≤ 4) ∨ t = 5 by omega) with rfl | rfl | ⟨h2, h4⟩ | rfl
          · obtain ⟨cA, g1, g2⟩ := q
            exact W.alen hx hb g1 (g2 n _) (by rw [arrV_size] <;> rfl) rfl rfl hd K
          · obtain ⟨cA, g1, g2⟩ := q
            exact W.alen hx hb g1 (g2 n _) (by rw [arrV_size] <;> rfl) rfl rfl hd K
          · obtain ⟨cA, g1, g2, g3⟩ := zrq_of I.2.2.1 ho h2 h4
            exact W.alen hx hb g1 (g2 n _) (by rw [arrV_size] <;> rfl) rfl rfl hd K
          · obtain ⟨cell, g1, g2, g3, g4, g5, g6, g7⟩ := q
            exact W.alen hx hb g1 g2 g5 rfl rfl hd K
      · cases hs
    · cases hs
  · cases hc
end ZC
end
section
/-! INSTRUCTIONS THAT MAKE CELLS; Math; Object's constructor; arraycopy. -/
theorem zslots_app : ∀ (l : List (Nat × Nat)) (t n : Nat), zslots (l ++ [(t, n)]) = zslots l + n
  | [], t, n => by simp [zslots]
  | q :: l, t, n => by simp [zslots, zslots_app l t n]; omega
theorem zcl_small {c : Nat} {q : vw_C} (h : zget vwCl c = some q) : q.2.2 < 2 ^ 31 :=
  zcl_by (P := fun _ q => q.2.2 < 2 ^ 31) (by decide) (by decide) (by decide) (by decide) (by decide) (by decide) (by decide) (by decide) (by decide) (by decide) (by decide) (by decide) (by decide) h
theorem zob_words : zis 699 (.instanceMethod objectInit) = true ∧ zis 700 (.code objectInit ⟨#[0xb1]⟩ 1 none) = true ∧ zis 701 (.native arraycopyName) = true ∧ zis 702 (.static arraycopyName) = true ∧ zis 703 (.initialized "java/lang/System") = true := by decide +kernel
theorem zcpy_eq {α : Type} (f g : Nat → α) (sp dp n : Nat) : va_cpy f g sp dp n = zcpy f g sp dp n := by
  funext k
  unfold va_cpy zcpy
  by_cases h1 : dp ≤ k
  · by_cases h2 : k < dp + n
    · rw [if_pos ⟨h1, h2⟩, Nat.ble_eq.mpr h1, show Nat.blt k (dp + n) = true from Nat.ble_eq.mpr h2]
      rfl
    · rw [if_neg (fun q => h2 q.2)]
      have e : Nat.blt k (dp + n) = false := by
        cases q : Nat.blt k (dp + n)
        · rfl
        · exact absurd (Nat.ble_eq.mp q) h2
      rw [e, Bool.and_false]
      rfl
  · rw [if_neg (fun q => h1 q.1)]
    have e : Nat.ble dp k = false := by
      cases q : Nat.ble dp k
      · rfl
      · exact absurd (Nat.ble_eq.mp q) h1
    rw [e, Bool.false_and]
    rfl
section ZD
variable {p : Program} {l : Launch} {e : Env} {R : Room} {s : State} {m : MethodId} {args : Array Value} {below : List Frame} {meth : Method} {c : Code} {H : Heap} {locs : List Loc} {cells slots : Nat} {Q : State → Prop}
variable {M : zM} {D : va_G} {sa : Nat → Nat} {base : Nat} {pc len a b k3 : Nat} {v : Value} {sw : List (Int32 × Nat)} {i : Instr} {lo : List (Option Value)} {st : List Value} {h : zH} {ls : Array Slot} {y : zC}
theorem zS_new {H1 : Heap} (hS : va_S (zA base) s.heap H locs) (z1 : H1.size = H.size + 1) (o1 : ∀ q : Nat, q < H.size → H1[q]? = H[q]?) : va_S (zA base) s.heap H1 locs :=
  ⟨Nat.le_trans hS.1 (by omega), fun x h1 h2 => (o1 x (Nat.lt_of_lt_of_le h1 hS.1)).trans (hS.2.1 x h1 h2), hS.2.2⟩
/-- behind a making: the new cell's name on top -/
theorem zmade {t n : Nat} (kk : zK p l e R s m args below meth c cells slots Q D sa base M.2.2.1 h (pc, lo, .ref h.1.length :: st, znew h t n)) (I : zIn D sa base M.2.2.1 s H locs lo h ls) {H1 : Heap} (ht : t ≠ 5) (hn : n < 2 ^ 31) (z1 : H1.size = H.size + 1) (o1 : ∀ q : Nat, q < H.size → H1[q]? = H[q]?) (hc : zcell D (zad sa base) (zA base) s H1 (znew h t n) h.1.length n t) :
    W p l e R s m args below meth c H1 locs (cells + 1) (slots + n) Q (F0 m pc ls (.ref H.size :: st.map (zv (zad sa base)))) := by
  have K := kk ls H1 locs (cells + 1) (slots + n) ⟨I.1, I.2.1, zRep_new I.2.2.1 ht hn z1 o1 hc, zS_new I.2.2.2 z1 o1⟩ (by show _ = cells + (h.1 ++ [(t, n)]).length; simp; omega) (by show _ = slots + zslots (h.1 ++ [(t, n)]); rw [zslots_app]; omega)
  have K : W p l e R s m args below meth c H1 locs (cells + 1) (slots + n) Q (F0 m pc ls (.ref (zad sa base h.1.length) :: st.map (zv (zad sa base)))) := K
  rw [zad_new I.2.2.1] at K
  exact K
theorem zw_29 (C : zX p s m args meth c M D sa base) (hd : decode M.2.1 pc = .ok (i, len)) (hc : zc29 M.1.cls len a b sw i = true) (I : zIn D sa base M.2.2.1 s H locs lo h ls) (hs : zs29 len a b (pc, lo, st, h) = some (.inl y)) (hR : cells + y.2.2.2.1.length ≤ R.cells + h.1.length ∧ slots + zslots y.2.2.2.1 ≤ R.slots + zslots h.1) (kk : zK p l e R s m args below meth c cells slots Q D sa base M.2.2.1 h y) : W p l e R s m args below meth c H locs cells slots Q (F0 m pc ls (st.map (zv (zad sa base)))) := by
  obtain ⟨hx, hb, hml, hown, hnm, hts, hG, hbs⟩ := C
  simp only [zs29, zgo, Option.some.injEq, Sum.inl.injEq] at hs
  subst hs
  have hR1 : cells + (h.1.length + 1) ≤ R.cells + h.1.length := by have := hR.1; simpa [znew] using this
  have hR2 : slots + (zslots h.1 + b) ≤ R.slots + zslots h.1 := by have := hR.2; simpa [znew, zslots_app] using this
  unfold zc29 at hc
  split at hc
  · rw [Bool.and_eq_true, decide_eq_true_eq] at hc
    obtain ⟨h1, h2⟩ := hc
    subst h1
    split at h2
    · rename_i q q1
      simp only [Bool.and_eq_true, decide_eq_true_eq] at h2
      obtain ⟨⟨⟨h2, h3⟩, h4⟩, h5⟩ := h2
      subst h2
      obtain ⟨ty, hty, hdf⟩ := zcl_ty q1
      have hKn := hG.1.1 a q (zcl_el q1)
      refine W.newcK hx hb hown (hts _ (zw_in h3)) (hts _ (zw_in h4)) (hts _ (zw_in h5)) rfl hd (by omega) (by omega) hKn.2.1 rfl fun H1 kC hkC e1 z1 o1 => ?_
      refine zmade kk I (by omega) (zcl_small q1) z1 o1 (zcell_of q1 rfl ?_)
      rw [zad_new I.2.2.1]
      refine (u_born ty hts (zcl_in q1) hKn hkC e1 hty).to fun k hk => ?_
      rw [hdf k hk]
      unfold zfv znew
      dsimp only
      rw [zrow_eq, zrow_eq]
      rfl
    · cases h2
  · cases hc
theorem zw_30 (C : zX p s m args meth c M D sa base) (hd : decode M.2.1 pc = .ok (i, len)) (hc : zc30 M.1.cls len a sw i = true) (I : zIn D sa base M.2.2.1 s H locs lo h ls) (hs : zs30 len a (pc, lo, st, h) = some (.inl y)) (hR : cells + y.2.2.2.1.length ≤ R.cells + h.1.length ∧ slots + zslots y.2.2.2.1 ≤ R.slots + zslots h.1) (kk : zK p l e R s m args below meth c cells slots Q D sa base M.2.2.1 h y) : W p l e R s m args below meth c H locs cells slots Q (F0 m pc ls (st.map (zv (zad sa base)))) := by
  obtain ⟨hx, hb, hml, hown, hnm, hts, hG, hbs⟩ := C
  simp only [zs30] at hs
  split at hs
  · rename_i n r
    cases hq : (Nat.blt (zix n) 100000 && Nat.ble a 4)
    · simp [hq] at hs
    · simp only [hq, cond_true, zgo, Option.some.injEq, Sum.inl.injEq] at hs
      subst hs
      simp only [Bool.and_eq_true, Nat.ble_eq] at hq
      obtain ⟨hlt, ha4⟩ := hq
      have hlt : zix n < 100000 := Nat.ble_eq.mp hlt
      have hz := zix_lt hlt (by omega)
      have hR1 : cells + (h.1.length + 1) ≤ R.cells + h.1.length := by have := hR.1; simpa [znew] using this
      have hR2 : slots + (zslots h.1 + zix n) ≤ R.slots + zslots h.1 := by have := hR.2; simpa [znew, zslots_app] using this
      unfold zc30 at hc
      split at hc
      · rw [Bool.and_eq_true, decide_eq_true_eq] at hc
        obtain ⟨h1, h2⟩ := hc
        subst h1
        split at h2
        · rw [Bool.and_eq_true, decide_eq_true_eq] at h2
          obtain ⟨h2, h3⟩ := h2
          subst h2
          refine va_newaK (atype := .int) hx hb (hts _ (zw_in h3)) rfl hd rfl hz.1 hz.2 (Nat.le_trans (Nat.mul_le_mul_right _ (Nat.le_of_lt hlt)) (by decide)) (by omega) (by omega) rfl fun H1 cA e1 z1 o1 hAr hNm => ?_
          refine zmade kk I (by omega) (by omega) z1 o1 ⟨cA, ?_, hAr⟩
          rw [zad_new I.2.2.1, e1]
          unfold znew
          dsimp only
          rw [zrow_eq]
          rfl
        · rw [Bool.and_eq_true, decide_eq_true_eq] at h2
          obtain ⟨h2, h3⟩ := h2
          subst h2
          refine va_newaK (atype := .long) hx hb (hts _ (zw_in h3)) rfl hd rfl hz.1 hz.2 (Nat.le_trans (Nat.mul_le_mul_right _ (Nat.le_of_lt hlt)) (by decide)) (by omega) (by omega) rfl fun H1 cA e1 z1 o1 hAr hNm => ?_
          refine zmade kk I (by omega) (by omega) z1 o1 ⟨cA, ?_, hAr⟩
          rw [zad_new I.2.2.1, e1]
          unfold znew
          dsimp only
          rw [zrow_eq]
          rfl
        · cases h2
      · rename_i k
        simp only [Bool.and_eq_true, decide_eq_true_eq] at hc
        obtain ⟨⟨⟨h1, h2⟩, h3⟩, h4⟩ := hc
        subst h1
        refine W.anew hx hb hown (hts _ (zw_in h4)) (va_AO.use (hG.2.2.1 a h2 h3)) rfl hd rfl hz.1 (by rw [hz.2]; omega) (by omega) (by rw [hz.2]; omega) fun cA kA comp f1 f2 f3 f4 => ?_
        rw [hz.2]
        refine zmade kk I (by omega) (by omega) (by rw [Array.size_push]) (fun q hq => by rw [Array.getElem?_push, if_neg (Nat.ne_of_lt hq)]) (zof_rq h2 h3 ⟨cA, ?_, fun N z => ⟨(fun k h => by cases h), kA, f2, comp, f3⟩, kA, comp, f2, f3, f4, f1⟩)
        rw [zad_new I.2.2.1, Array.getElem?_push_size]
        unfold znew
        dsimp only
        rw [zrow_eq]
        exact congrArg some (arrV_new cA (zix n) .null)
      · cases hc
  · cases hs
theorem zw_31 (C : zX p s m args meth c M D sa base) (hd : decode M.2.1 pc = .ok (i, len)) (hc : zc31 M.1.cls len b sw i = true) (I : zIn D sa base M.2.2.1 s H locs lo h ls) (hs : zs31 len b (pc, lo, st, h) = some (.inl y)) (hF : 1 ≤ R.frames ∧ 64 ≤ R.locals) (hR : cells ≤ R.cells ∧ slots ≤ R.slots) (kk : zK p l e R s m args below meth c cells slots Q D sa base M.2.2.1 h y) : W p l e R s m args below meth c H locs cells slots Q (F0 m pc ls (st.map (zv (zad sa base)))) := by
  obtain ⟨hx, hb, hml, hown, hnm, hts, hG, hbs⟩ := C
  have hsz : c.maxLocals = ls.size := hml.trans I.1.1.symm
  unfold zc31 at hc
  split at hc
  · simp only [Bool.and_eq_true, decide_eq_true_eq] at hc
    obtain ⟨⟨h1, h2⟩, h3⟩ := hc
    subst h1
    split at h3
    · simp only [Bool.and_eq_true] at h3
      obtain ⟨⟨h3, h4⟩, h5⟩ := h3
      simp only [zs31] at hs
      split at hs
      · rename_i x2 x1 r
        cases hq : Nat.ble (zcat r) 8
        · simp [hq] at hs
        · simp only [hq, cond_true, zgo, Option.some.injEq, Sum.inl.injEq] at hs
          subst hs
          have h8 : zcat r ≤ 8 := Nat.ble_eq.mp hq
          exact va_mmax hx hb hsz hown (hts _ (zw_in h3)) (hts _ (zw_in h5)) (hts _ (zw_in h2)) (hts _ (zw_in h4)) hF.1 (by rw [zcat_sum]; omega) hR.1 hR.2 hd (kk _ _ _ _ _ I rfl rfl)
      · cases hs
    · simp only [Bool.and_eq_true] at h3
      obtain ⟨⟨h3, h4⟩, h5⟩ := h3
      simp only [zs31] at hs
      split at hs
      · rename_i x2 x1 r
        cases hq : Nat.ble (zcat r) 8
        · simp [hq] at hs
        · simp only [hq, cond_true, zgo, Option.some.injEq, Sum.inl.injEq] at hs
          subst hs
          have h8 : zcat r ≤ 8 := Nat.ble_eq.mp hq
          exact va_mmin hx hb hsz hown (hts _ (zw_in h3)) (hts _ (zw_in h5)) (hts _ (zw_in h2)) (hts _ (zw_in h4)) hF.1 (by rw [zcat_sum]; omega) hR.1 hR.2 hd (kk _ _ _ _ _ I rfl rfl)
      · cases hs
    · simp only [Bool.and_eq_true] at h3
      obtain ⟨⟨h3, h4⟩, h5⟩ := h3
      simp only [zs31] at hs
      split at hs
      · rename_i x1 r
        cases hq : Nat.ble (zcat r) 8
        · simp [hq] at hs
        · simp only [hq, cond_true, zgo, Option.some.injEq, Sum.inl.injEq] at hs
          subst hs
          have h8 : zcat r ≤ 8 := Nat.ble_eq.mp hq
          refine va_mabs hx hb hsz hown (hts _ (zw_in h3)) (hts _ (zw_in h5)) (hts _ (zw_in h2)) (hts _ (zw_in h4)) hF.1 (by rw [zcat_sum]; omega) hR.1 hR.2 hd ?_
          have ea : (if 0 ≤ x1 then x1 else 0 - x1) = (if x1 < 0 then -x1 else x1) := by
            by_cases q : x1 < 0
            · rw [if_pos q, if_neg (Int32.not_le.mpr q), Int32.zero_sub]
            · rw [if_neg q, if_pos (Int32.not_lt.mp q)]
          rw [ea]
          exact kk _ _ _ _ _ I rfl rfl
      · cases hs
    · cases h3
  · cases hc
theorem zw_33 (C : zX p s m args meth c M D sa base) (hd : decode M.2.1 pc = .ok (i, len)) (hc : zc33 M.1.cls len sw i = true) (I : zIn D sa base M.2.2.1 s H locs lo h ls) (hs : zs33 len (pc, lo, st, h) = some (.inl y)) (hF : 1 ≤ R.frames ∧ 64 ≤ R.locals) (kk : zK p l e R s m args below meth c cells slots Q D sa base M.2.2.1 h y) : W p l e R s m args below meth c H locs cells slots Q (F0 m pc ls (st.map (zv (zad sa base)))) := by
  obtain ⟨hx, hb, hml, hown, hnm, hts, hG, hbs⟩ := C
  have hsz : ls.size = c.maxLocals := I.1.1.trans hml.symm
  unfold zc33 at hc
  split at hc
  · simp only [Bool.and_eq_true, decide_eq_true_eq] at hc
    obtain ⟨h1, h2⟩ := hc
    subst h1
    simp only [zs33] at hs
    split at hs
    · rename_i o r
      cases hq : Nat.ble (zcat r) 8
      · simp [hq] at hs
      · simp only [hq, cond_true, zgo, Option.some.injEq, Sum.inl.injEq] at hs
        subst hs
        have h8 : ((r.map (zv (zad sa base))).map fun v => v.category).sum ≤ 8 := by rw [zcat_sum]; exact Nat.ble_eq.mp hq
        have h9 := lv_room (m := m) (pc := pc) (ls := ls) (rest := .ref (zad sa base o) :: r.map (zv (zad sa base))) h8
        exact W.objInit hx hb hown (hts _ (zw_in h2)) (hts _ (zw_in zob_words.1)) (hts _ (zw_in zob_words.2.1)) rfl hsz rfl hd hF.1 (by show 2 * 0 + _ + 12 ≤ _; omega) (kk _ _ _ _ _ I rfl rfl)
    · cases hs
  · cases hc
/-- arraycopy between rows of numbers -/
theorem zcopy_W {α : Type} (mk : α → Value) (C : zX p s m args meth c M D sa base) {k : Nat} (hd : decode M.2.1 pc = .ok (.invokestatic k, 3)) (h2 : zis (zp sw 0) (.methodLink M.1.cls k arraycopyName) = true) (hsz : ls.size = c.maxLocals) (hF : 1 ≤ R.frames ∧ 64 ≤ R.locals) {a0 a1 n0 n1 : Nat} {c0 c1 : ClassId} {f g : Nat → α} {ty : FieldType} (hprim : refKind ty = false) (hfit : ∀ z, fits ty (mk z) = true) (hc0 : H[a0]? = some (arrV c0 n0 (fun j => mk (f j)))) (hc1 : H[a1]? = some (arrV c1 n1 (fun j => mk (g j)))) (ht0 : ArrOfT s c0 ty) (ht1 : ArrOfT s c1 ty)
    {sp dp n : Int32} (h1 : ¬ sp < 0) (h3 : ¬ dp < 0) (h4 : ¬ n < 0) (h5 : sp.toNatClampNeg + n.toNatClampNeg ≤ n0) (h6 : dp.toNatClampNeg + n.toNatClampNeg ≤ n1) {rest : List Value} (h8 : (rest.map fun v => v.category).sum ≤ 8)
    (kk : ∀ (H1 : Heap) (L : List Loc), H1[a1]? = some (arrV c1 n1 (fun j => mk (va_cpy f g sp.toNatClampNeg dp.toNatClampNeg n.toNatClampNeg j))) → H1.size = H.size → (∀ q : Nat, q ≠ a1 → H1[q]? = H[q]?) → (∀ q ∈ L, q.base = a1) → W p l e R s m args below meth c H1 (locs ++ L) cells slots Q (F0 m (pc + 3) ls rest)) :
    W p l e R s m args below meth c H locs cells slots Q (F0 m pc ls (.int n :: .int dp :: .ref a1 :: .int sp :: .ref a0 :: rest)) := by
  obtain ⟨hx, hb, hml, hown, hnm, hts, hG, hbs⟩ := C
  have nn : ∀ z : Int32, ¬ z < 0 → z.toInt = (z.toNatClampNeg : Int) := by
    intro z hz
    have hz0 : (0 : Int) ≤ z.toInt := by
      have := Int32.not_lt.mp hz
      simpa using Int32.le_iff_toInt_le.mp this
    show z.toInt = ((z.toInt.toNat : Nat) : Int)
    omega
  intro T hT X
  obtain ⟨-, k0, hk0, cm0, hkk0⟩ := ht0 n0 (fun j => mk (f j))
  obtain ⟨-, k1, hk1, cm1, hkk1⟩ := ht1 n1 (fun j => mk (g j))
  obtain ⟨vm', X', step⟩ := X.arraycopy hx hown (hts _ (zw_in h2)) (hts _ (zw_in zob_words.2.2.1)) (hts _ (zw_in zob_words.2.2.2.1)) (hts _ (zw_in zob_words.2.2.2.2)) (src := a0) (dst := a1) (cs := arrV c0 n0 (fun j => mk (f j))) (cd := arrV c1 n1 (fun j => mk (g j))) (srcPos := sp) (destPos := dp) (n := n) (by rw [hT]; exact hc0) (by rw [hT]; exact hc1)
    (fun _ h => by cases h) (fun _ h => by cases h) (fun h => by cases h) (fun h => by cases h) hk0 hk1 hkk0 hkk1 (by simp [hprim]) h1 h3 h4
    (by rw [nn sp h1, nn n h4, arrV_size]; omega)
    (by rw [nn dp h3, nn n h4, arrV_size]; omega)
    (fun vm₁ _ i hi => by
      have e : (arrV c0 n0 (fun j => mk (f j))).slots.getD (sp.toNatClampNeg + i) .null = mk (f (sp.toNatClampNeg + i)) := by
        rw [Array.getD_eq_getD_getElem?, arrV_read _ _ (by omega)]
        rfl
      refine ⟨?_, ?_⟩
      · rw [e]
        exact hfit _
      · rw [e]
        have q := hfit (f (sp.toNatClampNeg + i))
        revert q
        generalize mk (f (sp.toNatClampNeg + i)) = w
        intro q
        cases w with
        | ref z => cases ty <;> simp [fits, refKind] at q hprim
        | _ => exact trivial)
    (g := F0 m pc ls (.int n :: .int dp :: .ref a1 :: .int sp :: .ref a0 :: rest)) rfl hsz (rest := rest) rfl (by rw [hb]; exact hd) hF.1 (by show 2 * 0 + _ + (5 + 2 + 11) ≤ _; omega)
  have e1 : copied (arrV c0 n0 (fun j => mk (f j))) (arrV c1 n1 (fun j => mk (g j))) sp dp n = arrV c1 n1 (fun j => mk (va_cpy f g sp.toNatClampNeg dp.toNatClampNeg n.toNatClampNeg j)) := va_copied mk c0 c1 f g h5
  rw [e1] at X' step
  have hl : a1 < H.size := (Array.getElem?_eq_some_iff.mp hc1).1
  have hheap : ((T.setVm vm').setCell a1 (arrV c1 n1 (fun j => mk (va_cpy f g sp.toNatClampNeg dp.toNatClampNeg n.toNatClampNeg j)))).heap = H.setIfInBounds a1 (arrV c1 n1 (fun j => mk (va_cpy f g sp.toNatClampNeg dp.toNatClampNeg n.toNatClampNeg j))) := by rw [← hT]; rfl
  obtain ⟨t, q1, q2⟩ := kk _ _ (by simp [Array.getElem?_setIfInBounds, hl]) (by simp) (fun q hq => by simp [Array.getElem?_setIfInBounds, Ne.symm hq]) (fun q hq => by
    obtain ⟨z, -, hz⟩ := List.mem_map.mp hq
    rw [← hz]) _ hheap X'
  exact ⟨t, step t q1, q2⟩
theorem zS_run {H1 : Heap} {L : List Loc} {o' : Nat} (hS : va_S (zA base) s.heap H locs) (z : H1.size = H.size) (oq : ∀ q : Nat, q ≠ o' → H1[q]? = H[q]?) (hL : ∀ q ∈ L, q.base = o') (ho : zA base o') : va_S (zA base) s.heap H1 (locs ++ L) := by
  refine ⟨by rw [z]; exact hS.1, fun q h1 h2 => ?_, fun q hq => ?_⟩
  · rw [oq q (fun e => h2 (by rw [e]; exact ho))]
    exact hS.2.1 q h1 h2
  · rcases List.mem_append.mp hq with h1 | h1
    · exact hS.2.2 q h1
    · rw [hL q h1]
      exact ho
theorem zw_34 (C : zX p s m args meth c M D sa base) (hd : decode M.2.1 pc = .ok (i, len)) (hc : zc34 M.1.cls len sw i = true) (I : zIn D sa base M.2.2.1 s H locs lo h ls) (hs : zs34 len (pc, lo, st, h) = some (.inl y)) (hF : 1 ≤ R.frames ∧ 64 ≤ R.locals) (kk : zK p l e R s m args below meth c cells slots Q D sa base M.2.2.1 h y) : W p l e R s m args below meth c H locs cells slots Q (F0 m pc ls (st.map (zv (zad sa base)))) := by
  have hsz : ls.size = c.maxLocals := I.1.1.trans C.2.2.1.symm
  unfold zc34 at hc
  split at hc
  · simp only [Bool.and_eq_true, decide_eq_true_eq] at hc
    obtain ⟨h1, h2⟩ := hc
    subst h1
    simp only [zs34] at hs
    split at hs
    · rename_i n dp o1 sp o0 r
      split at hs
      · rename_i t0 n0 t1 n1 g0 g1
        cases hq : ((((Nat.beq t0 t1 && Nat.blt (zix n) 100000) && (Nat.blt (zix sp) 100000 && Nat.blt (zix dp) 100000)) && (Nat.ble (zix sp + zix n) n0 && Nat.ble (zix dp + zix n) n1)) && Nat.ble (zcat r) 8)
        · simp [hq] at hs
        · simp only [hq, cond_true] at hs
          simp only [Bool.and_eq_true, Nat.ble_eq, Nat.beq_eq] at hq
          obtain ⟨⟨⟨⟨rfl, b1⟩, ⟨b2, b3⟩⟩, ⟨b4, b5⟩⟩, b6⟩ := hq
          have b1 : zix n < 100000 := Nat.ble_eq.mp b1
          have b2 : zix sp < 100000 := Nat.ble_eq.mp b2
          have b3 : zix dp < 100000 := Nat.ble_eq.mp b3
          have z1 := zix_lt b1 (by omega)
          have z2 := zix_lt b2 (by omega)
          have z3 := zix_lt b3 (by omega)
          have h8 : ((r.map (zv (zad sa base))).map fun v => v.category).sum ≤ 8 := by rw [zcat_sum]; exact b6
          split at hs
          · simp only [zgo, Option.some.injEq, Sum.inl.injEq] at hs
            subst hs
            obtain ⟨cA, f1, f2⟩ := I.2.2.1.2.2.1 _ _ _ g0
            obtain ⟨cB, f3, f4⟩ := I.2.2.1.2.2.1 _ _ _ g1
            refine zcopy_W (fun z => .int z) C hd h2 hsz hF (ty := .int) rfl (fun _ => rfl) f1 f3 f2 f4 z2.1 z3.1 z1.1 (by rw [z1.2, z2.2]; exact b4) (by rw [z1.2, z3.2]; exact b5) h8 (fun H1 L q1 q2 q3 q4 => ?_)
            refine kk _ _ _ _ _ ⟨I.1, I.2.1, zRep_set I.2.2.1 g1 (by decide) q2 q3 rfl (fun z hz => zrow_ne hz) (fun _ _ => rfl) (fun _ _ => rfl) ⟨cB, ?_, f4⟩, zS_run I.2.2.2 q2 q3 q4 (zRep_A I.2.2.1 g1 (by decide))⟩ rfl rfl
            rw [q1, z1.2, z2.2, z3.2, zcpy_eq]
            dsimp only
            rw [zrow_eq]
          · simp only [zgo, Option.some.injEq, Sum.inl.injEq] at hs
            subst hs
            obtain ⟨cA, f1, f2⟩ := I.2.2.1.2.2.1 _ _ _ g0
            obtain ⟨cB, f3, f4⟩ := I.2.2.1.2.2.1 _ _ _ g1
            refine zcopy_W (fun z => .long z) C hd h2 hsz hF (ty := .long) rfl (fun _ => rfl) f1 f3 f2 f4 z2.1 z3.1 z1.1 (by rw [z1.2, z2.2]; exact b4) (by rw [z1.2, z3.2]; exact b5) h8 (fun H1 L q1 q2 q3 q4 => ?_)
            refine kk _ _ _ _ _ ⟨I.1, I.2.1, zRep_set I.2.2.1 g1 (by decide) q2 q3 rfl (fun _ _ => rfl) (fun z hz => zrow_ne hz) (fun _ _ => rfl) ⟨cB, ?_, f4⟩, zS_run I.2.2.2 q2 q3 q4 (zRep_A I.2.2.1 g1 (by decide))⟩ rfl rfl
            rw [q1, z1.2, z2.2, z3.2, zcpy_eq]
            dsimp only
            rw [zrow_eq]
          · cases hs
      · cases hs
    · cases hs
  · cases hc
end ZD
end
section
/-! RUNS: what a step can give, how cells grow. -/
section ZE
variable {len a b k3 ci : Nat} {v : Value} {sw : List (Int32 × Nat)} {x : zC} {o : zO}
theorem zg_0 (h0 : zs0 len v x = some o) : ∃ y q, o = .inl y ∧ y.2.2.2.1 = x.2.2.2.1 ++ q := by
  obtain ⟨pc, lo, st, h⟩ := x
  simp only [zs0, zgo, Bool.cond_eq_ite] at h0
  repeat' split at h0
  all_goals first
    | (cases h0; done)
    | (cases h0; exact ⟨_, [], rfl, (List.append_nil _).symm⟩)
    | (cases h0; exact ⟨_, [_], rfl, rfl⟩)
theorem zg_1 (h0 : zs1 len a x = some o) : ∃ y q, o = .inl y ∧ y.2.2.2.1 = x.2.2.2.1 ++ q := by
  obtain ⟨pc, lo, st, h⟩ := x
  simp only [zs1, zgo, Bool.cond_eq_ite] at h0
  repeat' split at h0
  all_goals first
    | (cases h0; done)
    | (cases h0; exact ⟨_, [], rfl, (List.append_nil _).symm⟩)
    | (cases h0; exact ⟨_, [_], rfl, rfl⟩)
theorem zg_2 (h0 : zs2 len a x = some o) : ∃ y q, o = .inl y ∧ y.2.2.2.1 = x.2.2.2.1 ++ q := by
  obtain ⟨pc, lo, st, h⟩ := x
  simp only [zs2, zgo, Bool.cond_eq_ite] at h0
  repeat' split at h0
  all_goals first
    | (cases h0; done)
    | (cases h0; exact ⟨_, [], rfl, (List.append_nil _).symm⟩)
    | (cases h0; exact ⟨_, [_], rfl, rfl⟩)
theorem zg_3 (h0 : zs3 len a x = some o) : ∃ y q, o = .inl y ∧ y.2.2.2.1 = x.2.2.2.1 ++ q := by
  obtain ⟨pc, lo, st, h⟩ := x
  simp only [zs3, zgo, Bool.cond_eq_ite] at h0
  repeat' split at h0
  all_goals first
    | (cases h0; done)
    | (cases h0; exact ⟨_, [], rfl, (List.append_nil _).symm⟩)
    | (cases h0; exact ⟨_, [_], rfl, rfl⟩)
theorem zg_4 (h0 : zs4 len a x = some o) : ∃ y q, o = .inl y ∧ y.2.2.2.1 = x.2.2.2.1 ++ q := by
  obtain ⟨pc, lo, st, h⟩ := x
  simp only [zs4, zgo, Bool.cond_eq_ite] at h0
  repeat' split at h0
  all_goals first
    | (cases h0; done)
    | (cases h0; exact ⟨_, [], rfl, (List.append_nil _).symm⟩)
    | (cases h0; exact ⟨_, [_], rfl, rfl⟩)
theorem zg_5 (h0 : zs5 len a x = some o) : ∃ y q, o = .inl y ∧ y.2.2.2.1 = x.2.2.2.1 ++ q := by
  obtain ⟨pc, lo, st, h⟩ := x
  simp only [zs5, zgo, Bool.cond_eq_ite] at h0
  repeat' split at h0
  all_goals first
    | (cases h0; done)
    | (cases h0; exact ⟨_, [], rfl, (List.append_nil _).symm⟩)
    | (cases h0; exact ⟨_, [_], rfl, rfl⟩)
theorem zg_6 (h0 : zs6 len a x = some o) : ∃ y q, o = .inl y ∧ y.2.2.2.1 = x.2.2.2.1 ++ q := by
  obtain ⟨pc, lo, st, h⟩ := x
  simp only [zs6, zgo, Bool.cond_eq_ite] at h0
  repeat' split at h0
  all_goals first
    | (cases h0; done)
    | (cases h0; exact ⟨_, [], rfl, (List.append_nil _).symm⟩)
    | (cases h0; exact ⟨_, [_], rfl, rfl⟩)
theorem zg_7 (h0 : zs7 len b x = some o) : ∃ y q, o = .inl y ∧ y.2.2.2.1 = x.2.2.2.1 ++ q := by
  obtain ⟨pc, lo, st, h⟩ := x
  simp only [zs7, zgo, Bool.cond_eq_ite] at h0
  repeat' split at h0
  all_goals first
    | (cases h0; done)
    | (cases h0; exact ⟨_, [], rfl, (List.append_nil _).symm⟩)
    | (cases h0; exact ⟨_, [_], rfl, rfl⟩)
theorem zg_8 (h0 : zs8 len b x = some o) : ∃ y q, o = .inl y ∧ y.2.2.2.1 = x.2.2.2.1 ++ q := by
  obtain ⟨pc, lo, st, h⟩ := x
  simp only [zs8, zgo, Bool.cond_eq_ite] at h0
  repeat' split at h0
  all_goals first
    | (cases h0; done)
    | (cases h0; exact ⟨_, [], rfl, (List.append_nil _).symm⟩)
    | (cases h0; exact ⟨_, [_], rfl, rfl⟩)
theorem zg_9 (h0 : zs9 len b x = some o) : ∃ y q, o = .inl y ∧ y.2.2.2.1 = x.2.2.2.1 ++ q := by
  obtain ⟨pc, lo, st, h⟩ := x
  simp only [zs9, zgo, Bool.cond_eq_ite] at h0
  repeat' split at h0
  all_goals first
    | (cases h0; done)
    | (cases h0; exact ⟨_, [], rfl, (List.append_nil _).symm⟩)
    | (cases h0; exact ⟨_, [_], rfl, rfl⟩)
theorem zg_10 (h0 : zs10 len x = some o) : ∃ y q, o = .inl y ∧ y.2.2.2.1 = x.2.2.2.1 ++ q := by
  obtain ⟨pc, lo, st, h⟩ := x
  simp only [zs10, zgo, Bool.cond_eq_ite] at h0
  repeat' split at h0
  all_goals first
    | (cases h0; done)
    | (cases h0; exact ⟨_, [], rfl, (List.append_nil _).symm⟩)
    | (cases h0; exact ⟨_, [_], rfl, rfl⟩)
theorem zg_11 (h0 : zs11 len x = some o) : ∃ y q, o = .inl y ∧ y.2.2.2.1 = x.2.2.2.1 ++ q := by
  obtain ⟨pc, lo, st, h⟩ := x
  simp only [zs11, zgo, Bool.cond_eq_ite] at h0
  repeat' split at h0
  all_goals first
    | (cases h0; done)
    | (cases h0; exact ⟨_, [], rfl, (List.append_nil _).symm⟩)
    | (cases h0; exact ⟨_, [_], rfl, rfl⟩)
theorem zg_12 (h0 : zs12 len b x = some o) : ∃ y q, o = .inl y ∧ y.2.2.2.1 = x.2.2.2.1 ++ q := by
  obtain ⟨pc, lo, st, h⟩ := x
  simp only [zs12, zgo, Bool.cond_eq_ite] at h0
  repeat' split at h0
  all_goals first
    | (cases h0; done)
    | (cases h0; exact ⟨_, [], rfl, (List.append_nil _).symm⟩)
    | (cases h0; exact ⟨_, [_], rfl, rfl⟩)
theorem zg_13 (h0 : zs13 len x = some o) : ∃ y q, o = .inl y ∧ y.2.2.2.1 = x.2.2.2.1 ++ q := by
  obtain ⟨pc, lo, st, h⟩ := x
  simp only [zs13, zgo, Bool.cond_eq_ite] at h0
  repeat' split at h0
  all_goals first
    | (cases h0; done)
    | (cases h0; exact ⟨_, [], rfl, (List.append_nil _).symm⟩)
    | (cases h0; exact ⟨_, [_], rfl, rfl⟩)
theorem zg_14 (h0 : zs14 len x = some o) : ∃ y q, o = .inl y ∧ y.2.2.2.1 = x.2.2.2.1 ++ q := by
  obtain ⟨pc, lo, st, h⟩ := x
  simp only [zs14, zgo, Bool.cond_eq_ite] at h0
  repeat' split at h0
  all_goals first
    | (cases h0; done)
    | (cases h0; exact ⟨_, [], rfl, (List.append_nil _).symm⟩)
    | (cases h0; exact ⟨_, [_], rfl, rfl⟩)
theorem zg_15 (h0 : zs15 len a b x = some o) : ∃ y q, o = .inl y ∧ y.2.2.2.1 = x.2.2.2.1 ++ q := by
  obtain ⟨pc, lo, st, h⟩ := x
  simp only [zs15, zgo, Bool.cond_eq_ite] at h0
  repeat' split at h0
  all_goals first
    | (cases h0; done)
    | (cases h0; exact ⟨_, [], rfl, (List.append_nil _).symm⟩)
    | (cases h0; exact ⟨_, [_], rfl, rfl⟩)
theorem zg_16 (h0 : zs16 len a b x = some o) : ∃ y q, o = .inl y ∧ y.2.2.2.1 = x.2.2.2.1 ++ q := by
  obtain ⟨pc, lo, st, h⟩ := x
  simp only [zs16, zgo, Bool.cond_eq_ite] at h0
  repeat' split at h0
  all_goals first
    | (cases h0; done)
    | (cases h0; exact ⟨_, [], rfl, (List.append_nil _).symm⟩)
    | (cases h0; exact ⟨_, [_], rfl, rfl⟩)
theorem zg_17 (h0 : zs17 a x = some o) : ∃ y q, o = .inl y ∧ y.2.2.2.1 = x.2.2.2.1 ++ q := by
  obtain ⟨pc, lo, st, h⟩ := x
  simp only [zs17, zgo, Bool.cond_eq_ite] at h0
  repeat' split at h0
  all_goals first
    | (cases h0; done)
    | (cases h0; exact ⟨_, [], rfl, (List.append_nil _).symm⟩)
    | (cases h0; exact ⟨_, [_], rfl, rfl⟩)
theorem zg_18 (h0 : zs18 a sw x = some o) : ∃ y q, o = .inl y ∧ y.2.2.2.1 = x.2.2.2.1 ++ q := by
  obtain ⟨pc, lo, st, h⟩ := x
  simp only [zs18, zgo, Bool.cond_eq_ite] at h0
  repeat' split at h0
  all_goals first
    | (cases h0; done)
    | (cases h0; exact ⟨_, [], rfl, (List.append_nil _).symm⟩)
    | (cases h0; exact ⟨_, [_], rfl, rfl⟩)
theorem zg_19 (h0 : zs19 len a v x = some o) : ∃ y q, o = .inl y ∧ y.2.2.2.1 = x.2.2.2.1 ++ q := by
  obtain ⟨pc, lo, st, h⟩ := x
  simp only [zs19, zgo, Bool.cond_eq_ite] at h0
  repeat' split at h0
  all_goals first
    | (cases h0; done)
    | (cases h0; exact ⟨_, [], rfl, (List.append_nil _).symm⟩)
    | (cases h0; exact ⟨_, [_], rfl, rfl⟩)
theorem zg_20 (h0 : zs20 len a b k3 x = some o) : ∃ y q, o = .inl y ∧ y.2.2.2.1 = x.2.2.2.1 ++ q := by
  obtain ⟨pc, lo, st, h⟩ := x
  simp only [zs20, zgo, Bool.cond_eq_ite] at h0
  repeat' split at h0
  all_goals first
    | (cases h0; done)
    | (cases h0; exact ⟨_, [], rfl, (List.append_nil _).symm⟩)
    | (cases h0; exact ⟨_, [_], rfl, rfl⟩)
theorem zg_21 (h0 : zs21 len a b k3 x = some o) : ∃ y q, o = .inl y ∧ y.2.2.2.1 = x.2.2.2.1 ++ q := by
  obtain ⟨pc, lo, st, h⟩ := x
  simp only [zs21, zgo, Bool.cond_eq_ite] at h0
  repeat' split at h0
  all_goals first
    | (cases h0; done)
    | (cases h0; exact ⟨_, [], rfl, (List.append_nil _).symm⟩)
    | (cases h0; exact ⟨_, [_], rfl, rfl⟩)
theorem zg_22 (h0 : zs22 len x = some o) : ∃ y q, o = .inl y ∧ y.2.2.2.1 = x.2.2.2.1 ++ q := by
  obtain ⟨pc, lo, st, h⟩ := x
  simp only [zs22, zgo, Bool.cond_eq_ite] at h0
  repeat' split at h0
  all_goals first
    | (cases h0; done)
    | (cases h0; exact ⟨_, [], rfl, (List.append_nil _).symm⟩)
    | (cases h0; exact ⟨_, [_], rfl, rfl⟩)
theorem zg_23 (h0 : zs23 len x = some o) : ∃ y q, o = .inl y ∧ y.2.2.2.1 = x.2.2.2.1 ++ q := by
  obtain ⟨pc, lo, st, h⟩ := x
  simp only [zs23, zgo, Bool.cond_eq_ite] at h0
  repeat' split at h0
  all_goals first
    | (cases h0; done)
    | (cases h0; exact ⟨_, [], rfl, (List.append_nil _).symm⟩)
    | (cases h0; exact ⟨_, [_], rfl, rfl⟩)
theorem zg_24 (h0 : zs24 len x = some o) : ∃ y q, o = .inl y ∧ y.2.2.2.1 = x.2.2.2.1 ++ q := by
  obtain ⟨pc, lo, st, h⟩ := x
  simp only [zs24, zgo, Bool.cond_eq_ite] at h0
  repeat' split at h0
  all_goals first
    | (cases h0; done)
    | (cases h0; exact ⟨_, [], rfl, (List.append_nil _).symm⟩)
    | (cases h0; exact ⟨_, [_], rfl, rfl⟩)
theorem zg_25 (h0 : zs25 len x = some o) : ∃ y q, o = .inl y ∧ y.2.2.2.1 = x.2.2.2.1 ++ q := by
  obtain ⟨pc, lo, st, h⟩ := x
  simp only [zs25, zgo, Bool.cond_eq_ite] at h0
  repeat' split at h0
  all_goals first
    | (cases h0; done)
    | (cases h0; exact ⟨_, [], rfl, (List.append_nil _).symm⟩)
    | (cases h0; exact ⟨_, [_], rfl, rfl⟩)
theorem zg_26 (h0 : zs26 len x = some o) : ∃ y q, o = .inl y ∧ y.2.2.2.1 = x.2.2.2.1 ++ q := by
  obtain ⟨pc, lo, st, h⟩ := x
  simp only [zs26, zgo, Bool.cond_eq_ite] at h0
  repeat' split at h0
  all_goals first
    | (cases h0; done)
    | (cases h0; exact ⟨_, [], rfl, (List.append_nil _).symm⟩)
    | (cases h0; exact ⟨_, [_], rfl, rfl⟩)
theorem zg_27 (h0 : zs27 len x = some o) : ∃ y q, o = .inl y ∧ y.2.2.2.1 = x.2.2.2.1 ++ q := by
  obtain ⟨pc, lo, st, h⟩ := x
  simp only [zs27, zgo, Bool.cond_eq_ite] at h0
  repeat' split at h0
  all_goals first
    | (cases h0; done)
    | (cases h0; exact ⟨_, [], rfl, (List.append_nil _).symm⟩)
    | (cases h0; exact ⟨_, [_], rfl, rfl⟩)
theorem zg_28 (h0 : zs28 len x = some o) : ∃ y q, o = .inl y ∧ y.2.2.2.1 = x.2.2.2.1 ++ q := by
  obtain ⟨pc, lo, st, h⟩ := x
  simp only [zs28, zgo, Bool.cond_eq_ite] at h0
  repeat' split at h0
  all_goals first
    | (cases h0; done)
    | (cases h0; exact ⟨_, [], rfl, (List.append_nil _).symm⟩)
    | (cases h0; exact ⟨_, [_], rfl, rfl⟩)
theorem zg_29 (h0 : zs29 len a b x = some o) : ∃ y q, o = .inl y ∧ y.2.2.2.1 = x.2.2.2.1 ++ q := by
  obtain ⟨pc, lo, st, h⟩ := x
  simp only [zs29, zgo, Bool.cond_eq_ite] at h0
  repeat' split at h0
  all_goals first
    | (cases h0; done)
    | (cases h0; exact ⟨_, [], rfl, (List.append_nil _).symm⟩)
    | (cases h0; exact ⟨_, [_], rfl, rfl⟩)
theorem zg_30 (h0 : zs30 len a x = some o) : ∃ y q, o = .inl y ∧ y.2.2.2.1 = x.2.2.2.1 ++ q := by
  obtain ⟨pc, lo, st, h⟩ := x
  simp only [zs30, zgo, Bool.cond_eq_ite] at h0
  repeat' split at h0
  all_goals first
    | (cases h0; done)
    | (cases h0; exact ⟨_, [], rfl, (List.append_nil _).symm⟩)
    | (cases h0; exact ⟨_, [_], rfl, rfl⟩)
theorem zg_31 (h0 : zs31 len b x = some o) : ∃ y q, o = .inl y ∧ y.2.2.2.1 = x.2.2.2.1 ++ q := by
  obtain ⟨pc, lo, st, h⟩ := x
  simp only [zs31, zgo, Bool.cond_eq_ite] at h0
  repeat' split at h0
  all_goals first
    | (cases h0; done)
    | (cases h0; exact ⟨_, [], rfl, (List.append_nil _).symm⟩)
    | (cases h0; exact ⟨_, [_], rfl, rfl⟩)
theorem zg_33 (h0 : zs33 len x = some o) : ∃ y q, o = .inl y ∧ y.2.2.2.1 = x.2.2.2.1 ++ q := by
  obtain ⟨pc, lo, st, h⟩ := x
  simp only [zs33, zgo, Bool.cond_eq_ite] at h0
  repeat' split at h0
  all_goals first
    | (cases h0; done)
    | (cases h0; exact ⟨_, [], rfl, (List.append_nil _).symm⟩)
    | (cases h0; exact ⟨_, [_], rfl, rfl⟩)
theorem zg_34 (h0 : zs34 len x = some o) : ∃ y q, o = .inl y ∧ y.2.2.2.1 = x.2.2.2.1 ++ q := by
  obtain ⟨pc, lo, st, h⟩ := x
  simp only [zs34, zgo, Bool.cond_eq_ite] at h0
  repeat' split at h0
  all_goals first
    | (cases h0; done)
    | (cases h0; exact ⟨_, [], rfl, (List.append_nil _).symm⟩)
    | (cases h0; exact ⟨_, [_], rfl, rfl⟩)
theorem zg_39 (h0 : zs39 len x = some o) : ∃ y q, o = .inl y ∧ y.2.2.2.1 = x.2.2.2.1 ++ q := by
  obtain ⟨pc, lo, st, h⟩ := x
  simp only [zs39, zgo, Bool.cond_eq_ite] at h0
  repeat' split at h0
  all_goals first
    | (cases h0; done)
    | (cases h0; exact ⟨_, [], rfl, (List.append_nil _).symm⟩)
    | (cases h0; exact ⟨_, [_], rfl, rfl⟩)
theorem zg_40 (h0 : zs40 len x = some o) : ∃ y q, o = .inl y ∧ y.2.2.2.1 = x.2.2.2.1 ++ q := by
  obtain ⟨pc, lo, st, h⟩ := x
  simp only [zs40, zgo, Bool.cond_eq_ite] at h0
  repeat' split at h0
  all_goals first
    | (cases h0; done)
    | (cases h0; exact ⟨_, [], rfl, (List.append_nil _).symm⟩)
    | (cases h0; exact ⟨_, [_], rfl, rfl⟩)
theorem zg_41 (h0 : zs41 len x = some o) : ∃ y q, o = .inl y ∧ y.2.2.2.1 = x.2.2.2.1 ++ q := by
  obtain ⟨pc, lo, st, h⟩ := x
  simp only [zs41, zgo, Bool.cond_eq_ite] at h0
  repeat' split at h0
  all_goals first
    | (cases h0; done)
    | (cases h0; exact ⟨_, [], rfl, (List.append_nil _).symm⟩)
    | (cases h0; exact ⟨_, [_], rfl, rfl⟩)
theorem zg_42 (h0 : zs42 len x = some o) : ∃ y q, o = .inl y ∧ y.2.2.2.1 = x.2.2.2.1 ++ q := by
  obtain ⟨pc, lo, st, h⟩ := x
  simp only [zs42, zgo, Bool.cond_eq_ite] at h0
  repeat' split at h0
  all_goals first
    | (cases h0; done)
    | (cases h0; exact ⟨_, [], rfl, (List.append_nil _).symm⟩)
    | (cases h0; exact ⟨_, [_], rfl, rfl⟩)
theorem zg_43 (h0 : zs43 len a x = some o) : ∃ y q, o = .inl y ∧ y.2.2.2.1 = x.2.2.2.1 ++ q := by
  obtain ⟨pc, lo, st, h⟩ := x
  simp only [zs43, zgo, Bool.cond_eq_ite] at h0
  repeat' split at h0
  all_goals first
    | (cases h0; done)
    | (cases h0; exact ⟨_, [], rfl, (List.append_nil _).symm⟩)
    | (cases h0; exact ⟨_, [_], rfl, rfl⟩)
theorem zg_44 (h0 : zs44 len x = some o) : ∃ y q, o = .inl y ∧ y.2.2.2.1 = x.2.2.2.1 ++ q := by
  obtain ⟨pc, lo, st, h⟩ := x
  simp only [zs44, zgo, Bool.cond_eq_ite] at h0
  repeat' split at h0
  all_goals first
    | (cases h0; done)
    | (cases h0; exact ⟨_, [], rfl, (List.append_nil _).symm⟩)
    | (cases h0; exact ⟨_, [_], rfl, rfl⟩)
theorem zg_32 (h0 : zs32 len a b k3 ci x = some o) : ∃ as y, o = .inr (.inl (a, as, y)) := by
  obtain ⟨pc, lo, st, h⟩ := x
  simp only [zs32, zgo, Bool.cond_eq_ite] at h0
  repeat' split at h0
  all_goals first
    | (cases h0; done)
    | (cases h0; exact ⟨_, _, rfl⟩)
theorem zg_35 (h0 : zs35 k3 x = some o) : ∃ r, o = .inr (.inr r) := by
  obtain ⟨pc, lo, st, h⟩ := x
  simp only [zs35, zgo, Bool.cond_eq_ite] at h0
  repeat' split at h0
  all_goals first
    | (cases h0; done)
    | (cases h0; exact ⟨_, rfl⟩)
theorem zg_36 (h0 : zs36  x = some o) : ∃ r, o = .inr (.inr r) := by
  obtain ⟨pc, lo, st, h⟩ := x
  simp only [zs36, zgo, Bool.cond_eq_ite] at h0
  repeat' split at h0
  all_goals first
    | (cases h0; done)
    | (cases h0; exact ⟨_, rfl⟩)
theorem zg_37 (h0 : zs37  x = some o) : ∃ r, o = .inr (.inr r) := by
  obtain ⟨pc, lo, st, h⟩ := x
  simp only [zs37, zgo, Bool.cond_eq_ite] at h0
  repeat' split at h0
  all_goals first
    | (cases h0; done)
    | (cases h0; exact ⟨_, rfl⟩)
theorem zg_38 (h0 : zs38  x = some o) : ∃ r, o = .inr (.inr r) := by
  obtain ⟨pc, lo, st, h⟩ := x
  simp only [zs38, zgo, Bool.cond_eq_ite] at h0
  repeat' split at h0
  all_goals first
    | (cases h0; done)
    | (cases h0; exact ⟨_, rfl⟩)
/-- what a step gives: on; a call, by instruction 32 alone; an end -/
theorem zg_all {op : Nat} (h0 : zstep (op, len, a, b, k3, v, sw) x = some o) : (∃ y q, o = .inl y ∧ y.2.2.2.1 = x.2.2.2.1 ++ q) ∨ (op = 32 ∧ ∃ as y, o = .inr (.inl (a, as, y))) ∨ ∃ r, o = .inr (.inr r) := by
  match op, h0 with
  | 0, h0 => exact Or.inl (zg_0 h0)
  | 1, h0 => exact Or.inl (zg_1 h0)
  | 2, h0 => exact Or.inl (zg_2 h0)
  | 3, h0 => exact Or.inl (zg_3 h0)
  | 4, h0 => exact Or.inl (zg_4 h0)
  | 5, h0 => exact Or.inl (zg_5 h0)
  | 6, h0 => exact Or.inl (zg_6 h0)
  | 7, h0 => exact Or.inl (zg_7 h0)
  | 8, h0 => exact Or.inl (zg_8 h0)
  | 9, h0 => exact Or.inl (zg_9 h0)
  | 10, h0 => exact Or.inl (zg_10 h0)
  | 11, h0 => exact Or.inl (zg_11 h0)
  | 12, h0 => exact Or.inl (zg_12 h0)
  | 13, h0 => exact Or.inl (zg_13 h0)
  | 14, h0 => exact Or.inl (zg_14 h0)
  | 15, h0 => exact Or.inl (zg_15 h0)
  | 16, h0 => exact Or.inl (zg_16 h0)
  | 17, h0 => exact Or.inl (zg_17 h0)
  | 18, h0 => exact Or.inl (zg_18 h0)
  | 19, h0 => exact Or.inl (zg_19 h0)
  | 20, h0 => exact Or.inl (zg_20 h0)
  | 21, h0 => exact Or.inl (zg_21 h0)
  | 22, h0 => exact Or.inl (zg_22 h0)
  | 23, h0 => exact Or.inl (zg_23 h0)
  | 24, h0 => exact Or.inl (zg_24 h0)
  | 25, h0 => exact Or.inl (zg_25 h0)
  | 26, h0 => exact Or.inl (zg_26 h0)
  | 27, h0 => exact Or.inl (zg_27 h0)
  | 28, h0 => exact Or.inl (zg_28 h0)
  | 29, h0 => exact Or.inl (zg_29 h0)
  | 30, h0 => exact Or.inl (zg_30 h0)
  | 31, h0 => exact Or.inl (zg_31 h0)
  | 32, h0 => exact Or.inr (Or.inl ⟨rfl, zg_32 h0⟩)
  | 33, h0 => exact Or.inl (zg_33 h0)
  | 34, h0 => exact Or.inl (zg_34 h0)
  | 35, h0 => exact Or.inr (Or.inr (zg_35 h0))
  | 36, h0 => exact Or.inr (Or.inr (zg_36 h0))
  | 37, h0 => exact Or.inr (Or.inr (zg_37 h0))
  | 38, h0 => exact Or.inr (Or.inr (zg_38 h0))
  | 39, h0 => exact Or.inl (zg_39 h0)
  | 40, h0 => exact Or.inl (zg_40 h0)
  | 41, h0 => exact Or.inl (zg_41 h0)
  | 42, h0 => exact Or.inl (zg_42 h0)
  | 43, h0 => exact Or.inl (zg_43 h0)
  | 44, h0 => exact Or.inl (zg_44 h0)
  | _ + 45, h0 => cases h0
end ZE
def zr : Nat → Nat → Nat → Nat → zC → Option (zC ⊕ (Option Value × zH))
  | 0, _, _, _, _ => none
  | f + 1, d, mi, stop, x => bif Nat.beq x.1 stop then some (.inl x) else match zi mi x.1 with
    | none => none
    | some e => match zstep e x with
      | none => none
      | some (.inl y) => zr f d mi stop y
      | some (.inr (.inr r)) => some (.inr (r, x.2.2.2))
      | some (.inr (.inl (a, as, y))) => match d with
        | 0 => none
        | d1 + 1 => bif Nat.beq (zpad (zL a) (zargs as)).length (zL a) then (match zr f d1 a 100000 (0, zpad (zL a) (zargs as), [], x.2.2.2) with
          | some (.inr (r, h1)) => zr f (d1 + 1) mi stop (y.1, y.2.1, r.toList ++ y.2.2.1, h1)
          | _ => none) else none
def zoh : zC ⊕ (Option Value × zH) → zH
  | .inl y => y.2.2.2
  | .inr q => q.2
theorem zslots_add : ∀ (l q : List (Nat × Nat)), zslots (l ++ q) = zslots l + zslots q
  | [], q => by simp [zslots]
  | x :: l, q => by simp [zslots, zslots_add l q]; omega
/-- one turn of a run -/
theorem zr_step {f d mi stop : Nat} {x : zC} {o : zC ⊕ (Option Value × zH)} (h : zr (f + 1) d mi stop x = some o) : (x.1 = stop ∧ o = .inl x) ∨ ∃ e, zi mi x.1 = some e ∧ ((∃ y, zstep e x = some (.inl y) ∧ zr f d mi stop y = some o) ∨ (∃ r, zstep e x = some (.inr (.inr r)) ∧ o = .inr (r, x.2.2.2)) ∨ ∃ a as y d1 r h1, zstep e x = some (.inr (.inl (a, as, y))) ∧ d = d1 + 1 ∧ (zpad (zL a) (zargs as)).length = zL a ∧ zr f d1 a 100000 (0, zpad (zL a) (zargs as), [], x.2.2.2) = some (.inr (r, h1)) ∧ zr f (d1 + 1) mi stop (y.1, y.2.1, r.toList ++ y.2.2.1, h1) = some o) := by
  simp only [zr] at h
  cases hb : Nat.beq x.1 stop
  · rw [hb] at h
    right
    dsimp only [cond_false] at h
    cases hz : zi mi x.1 with
    | none => rw [hz] at h; cases h
    | some e =>
      rw [hz] at h
      refine ⟨e, rfl, ?_⟩
      dsimp only at h
      cases hs : zstep e x with
      | none => rw [hs] at h; cases h
      | some w =>
        rw [hs] at h
        match w, h with
        | .inl y, h => exact Or.inl ⟨y, rfl, h⟩
        | .inr (.inr r), h =>
          cases h
          exact Or.inr (Or.inl ⟨r, rfl, rfl⟩)
        | .inr (.inl (a, as, y)), h =>
          right; right
          cases d with
          | zero => cases h
          | succ d1 =>
            dsimp only at h
            cases hl : Nat.beq (zpad (zL a) (zargs as)).length (zL a)
            · rw [hl] at h; cases h
            · rw [hl] at h
              dsimp only [cond_true] at h
              cases hq : zr f d1 a 100000 (0, zpad (zL a) (zargs as), [], x.2.2.2) with
              | none => rw [hq] at h; cases h
              | some u =>
                rw [hq] at h
                match u, h, hq with
                | .inl _, h, _ => cases h
                | .inr (r, h1), h, hq => exact ⟨a, as, y, d1, r, h1, rfl, rfl, Nat.eq_of_beq_eq_true hl, hq, h⟩
  · rw [hb] at h
    dsimp only [cond_true] at h
    cases h
    exact Or.inl ⟨Nat.eq_of_beq_eq_true hb, rfl⟩
theorem zr_ext : ∀ (f d mi stop : Nat) (x : zC) (o : zC ⊕ (Option Value × zH)), zr f d mi stop x = some o → ∃ q, (zoh o).1 = x.2.2.2.1 ++ q
  | 0, _, _, _, _, _, h => by cases h
  | f + 1, d, mi, stop, x, o, h => by
    rcases zr_step h with ⟨-, rfl⟩ | ⟨e, he, ⟨y, hy, hr⟩ | ⟨r, -, rfl⟩ | ⟨a, as, y, d1, r, h1, -, -, -, h2, h3⟩⟩
    · exact ⟨[], (List.append_nil _).symm⟩
    · obtain ⟨op, len, a, b, k3, v, sw⟩ := e
      rcases zg_all hy with ⟨y', q, e1, e2⟩ | ⟨-, as, y', e1⟩ | ⟨r, e1⟩
      · cases e1
        obtain ⟨q2, e3⟩ := zr_ext f d mi stop y o hr
        exact ⟨q ++ q2, by rw [e3, e2, List.append_assoc]⟩
      · cases e1
      · cases e1
    · exact ⟨[], (List.append_nil _).symm⟩
    · obtain ⟨q1, e1⟩ := zr_ext f d1 a 100000 _ _ h2
      obtain ⟨q2, e2⟩ := zr_ext f (d1 + 1) mi stop _ _ h3
      refine ⟨q1 ++ q2, ?_⟩
      rw [e2]
      show h1.1 ++ q2 = _
      have e1 : h1.1 = x.2.2.2.1 ++ q1 := e1
      rw [e1, List.append_assoc]
end
section
/-! CALLS: a method of the tables by its run in the small machine. -/
theorem ztake_spec : ∀ (n : Nat) (acc st as r : List Value), ztake n acc st = some (as, r) → ∃ fr, st = fr ++ r ∧ as = fr.reverse ++ acc ∧ fr.length = n
  | 0, acc, st, as, r, h => by
    cases h
    exact ⟨[], rfl, rfl, rfl⟩
  | n + 1, acc, [], as, r, h => by cases h
  | n + 1, acc, v :: st, as, r, h => by
    obtain ⟨fr, h1, h2, h3⟩ := ztake_spec n (v :: acc) st as r h
    exact ⟨v :: fr, by rw [h1]; rfl, by rw [h2]; simp, by simp [h3]⟩
theorem ztake_stack {n : Nat} {st as r : List Value} (h : ztake n [] st = some (as, r)) : st = as.reverse ++ r ∧ as.length = n := by
  obtain ⟨fr, h1, h2, h3⟩ := ztake_spec n [] st as r h
  rw [List.append_nil] at h2
  subst h2
  exact ⟨by rw [List.reverse_reverse]; exact h1, by simp [h3]⟩
theorem zm_facts {mi : Nat} {M : zM} (h : zm mi = some M) (hl : mi ≠ zlaw) : Cond.code M.1 M.2.1 M.2.2.1 M.2.2.2.1 ∈ zWall ∧ Cond.initialized M.1.cls ∈ zWall ∧ (M.2.2.2.2.2.1 = true → Cond.static M.1 ∈ zWall) ∧ (M.2.2.2.2.2.1 = false → Cond.instanceMethod M.1 ∈ zWall ∧ (M.1.name = "<init>" ∨ Cond.selects M.1.cls M.1 M.1 ∈ zWall)) ∧ plainName M.1.cls = true ∧ (M.1.cls ≠ "java/lang/invoke/MethodHandle" ∧ M.1.cls ≠ "java/lang/invoke/VarHandle") ∧ (parseMethodDescriptor M.1.desc).map (fun d => d.parameters.length) = some M.2.2.2.2.1 ∧ M.2.2.1 ≤ 20 ∧ zL mi = M.2.2.1 := by
  have q := zm_ok h hl
  obtain ⟨y, cc, L, r, n, st, p0, p1, p2, p3⟩ := M
  unfold zmchk at q
  dsimp only at q
  rw [Bool.and_eq_true, Bool.and_eq_true, Bool.and_eq_true, Bool.and_eq_true, Bool.and_eq_true, Bool.and_eq_true, Bool.and_eq_true] at q
  obtain ⟨⟨⟨⟨⟨⟨⟨q0, q1⟩, q2⟩, q3⟩, q4⟩, q5⟩, q6⟩, q7⟩ := q
  refine ⟨zw_in q0, zw_in q1, fun hs => ?_, fun hs => ?_, of_decide_eq_true q3, of_decide_eq_true q4, of_decide_eq_true q5, of_decide_eq_true q6, of_decide_eq_true q7⟩
  · have hs : st = true := hs
    subst hs
    exact zw_in q2
  · have hs : st = false := hs
    subst hs
    have q2 : (zis p2 (.instanceMethod y) && (decide (y.name = "<init>") || zis p3 (.selects y.cls y y))) = true := q2
    rw [Bool.and_eq_true, Bool.or_eq_true] at q2
    exact ⟨zw_in q2.1, q2.2.imp of_decide_eq_true (fun z => zw_in z)⟩
def zws (M : zM) : List Cond := .code M.1 M.2.1 M.2.2.1 M.2.2.2.1 :: zWall
theorem zws_good {mi : Nat} {M : zM} (h : zm mi = some M) (hl : mi ≠ zlaw) : GoodIn zWall (zws M) := by
  intro w hw
  have hin : w ∈ zWall := by
    rcases List.mem_cons.mp hw with rfl | hw
    · exact (zm_facts h hl).1
    · exact hw
  exact ⟨hin, good_of_word (List.all_eq_true.mp zWall_good w hin)⟩
def zRoom (d mc ms : Nat) : Room := { frames := d + 1, cells := mc, slots := ms, locals := 64 * (d + 1) }
def zPc (D : va_G) (sa : Nat → Nat) (base : Nat) (as : List Value) (h : zH) : Array Value → State → Prop := fun v U => v = (as.map (zv (zad sa base))).toArray ∧ zRep D sa base U U.heap h ∧ zG D sa base U U.heap
def zQc (D : va_G) (sa : Nat → Nat) (base : Nat) (r : Option Value) (h1 : zH) : Array Value → State → Outcome → State → Prop := fun _ st o t => o = .returned (r.map (zv (zad sa base))) ∧ zRep D sa base t t.heap h1 ∧ st.heap.size ≤ t.heap.size ∧ ∀ q : Nat, q < st.heap.size → ¬ base ≤ q → t.heap[q]? = st.heap[q]?
theorem zblind {D : va_G} {sa : Nat → Nat} {base : Nat} {as : List Value} {h : zH} : FrameBlind (zPc D sa base as h) := fun a U g mk q => ⟨q.1, zRep_moved (U := U) (U1 := U.calling g mk a) (Vm.Alike.refl U.vm) q.2.1, zG_same (s := U) (U := U.calling g mk a) rfl q.2.2⟩
/-- what instruction 32 hands over -/
theorem zs32_st {len a b ci pc : Nat} {lo : List (Option Value)} {st : List Value} {h : zH} {a' : Nat} {as : List Value} {y : zC} (hs : zs32 len a b 1 ci (pc, lo, st, h) = some (.inr (.inl (a', as, y)))) : ∃ r', ztake b [] st = some (as, r') ∧ zcat r' ≤ 8 ∧ y = (pc + len, lo, r', h) ∧ a' = a := by
  simp only [zs32] at hs
  cases ht : ztake b [] st with
  | none => rw [ht] at hs; cases hs
  | some q =>
    obtain ⟨as', r'⟩ := q
    rw [ht] at hs
    cases hz : Nat.ble (zcat r') 8
    · simp only [hz, cond_false] at hs
      cases hs
    · simp only [hz, cond_true] at hs
      cases hs
      exact ⟨r', rfl, Nat.ble_eq.mp hz, rfl, rfl⟩
theorem zs32_rf {len a b k3 ci pc : Nat} {lo : List (Option Value)} {st : List Value} {h : zH} {a' : Nat} {as : List Value} {y : zC} (hk : k3 ≠ 1) (hs : zs32 len a b k3 ci (pc, lo, st, h) = some (.inr (.inl (a', as, y)))) : ∃ o as1 n r', as = .ref o :: as1 ∧ zget h.1 o = some (10 + ci, n) ∧ ztake b [] st = some (as, r') ∧ zcat r' ≤ 8 ∧ y = (pc + len, lo, r', h) ∧ a' = a := by
  simp only [zs32] at hs
  cases ht : ztake b [] st with
  | none => rw [ht] at hs; cases hs
  | some q =>
    obtain ⟨as', r'⟩ := q
    rw [ht] at hs
    cases hz : Nat.ble (zcat r') 8
    · simp only [hz, cond_false] at hs
      cases hs
    · simp only [hz, cond_true] at hs
      split at hs
      · rename_i o as1
        cases ho : zget h.1 o with
        | none => rw [ho] at hs; cases hs
        | some tn =>
          obtain ⟨t, n⟩ := tn
          rw [ho] at hs
          dsimp only at hs
          cases hb : Nat.beq t (10 + ci)
          · rw [hb] at hs; cases hs
          · rw [hb] at hs
            have et := Nat.eq_of_beq_eq_true hb
            subst et
            cases hs
            exact ⟨o, as1, n, r', rfl, ho, rfl, Nat.ble_eq.mp hz, rfl, rfl⟩
      · cases hs
section ZF
variable {p : Program} {l : Launch} {e : Env} {R : Room} {s : State} {m : MethodId} {args : Array Value} {below : List Frame} {meth : Method} {c : Code} {H : Heap} {locs : List Loc} {cells slots : Nat} {Q : State → Prop}
variable {M M2 : zM} {D : va_G} {sa : Nat → Nat} {base : Nat} {pc len a b k3 ci : Nat} {v : Value} {sw : List (Int32 × Nat)} {i : Instr} {lo : List (Option Value)} {st : List Value} {h h1 : zH} {ls : Array Slot} {y : zC}
theorem zcallB {index : Nat} {own : String} (hts : ∀ w ∈ zWall, w.before args s = true) (h : zm a = some M2) (hl : a ≠ zlaw) (d mc ms : Nat) (hl2 : (Cond.methodLink own index M2.1).before args s = true) (hF : d + 2 ≤ R.frames ∧ 64 * (d + 2) ≤ R.locals) : CallB R s args own index M2.1 M2.2.1 M2.2.2.1 M2.2.2.2.1 (zws M2) (zRoom d mc ms) mc ms M2.2.2.2.2.1 := by
  obtain ⟨f1, f2, f3, f4, f5, f6, f7, f8, f9⟩ := zm_facts h hl
  exact callB_of _ hts (zws_good h hl) rfl rfl rfl (hts _ f2) hl2 ⟨f6.1, f6.2, f7⟩ ⟨by show d + 1 + 1 ≤ _; omega, by show 8 + (_ + 11) + 64 * (d + 1) ≤ _; omega⟩
theorem zcallN {index : Nat} {own host : String} (hts : ∀ w ∈ zWall, w.before args s = true) (h : zm a = some M2) (hl : a ≠ zlaw) (d mc ms : Nat) (hl2 : va_Nw (.methodLinkNest own index M2.1 host) s) (hF : d + 2 ≤ R.frames ∧ 64 * (d + 2) ≤ R.locals) : va_CN R s args own index M2.1 host M2.2.1 M2.2.2.1 M2.2.2.2.1 (zws M2) (zRoom d mc ms) mc ms M2.2.2.2.2.1 := by
  obtain ⟨f1, f2, f3, f4, f5, f6, f7, f8, f9⟩ := zm_facts h hl
  exact va_cnB _ hts (zws_good h hl) rfl rfl rfl hl2 (hts _ f2) ⟨f6.1, f6.2, f7⟩ ⟨by show d + 1 + 1 ≤ _; omega, by show 8 + (_ + 11) + 64 * (d + 1) ≤ _; omega⟩
theorem zback {mc ms : Nat} {st0 rest : List Value} {r : Option Value} {a' : Array Value} (hr : va_Run p l e R s m args below meth c H locs cells slots mc ms (F0 m pc ls st0) rest (zQc D sa base r h1 a') (zA base)) (hS : va_S (zA base) s.heap H locs) (kk : ∀ (H1 : Heap) (locs1 : List Loc), zRep D sa base s H1 h1 → va_S (zA base) s.heap H1 locs1 → W p l e R s m args below meth c H1 locs1 (cells + mc) (slots + ms) Q (F0 m (pc + 3) ls ((r.map (zv (zad sa base))).toList ++ rest))) : W p l e R s m args below meth c H locs cells slots Q (F0 m pc ls st0) := by
  intro T hT X
  obtain ⟨v, st₀, t, T', L, h0, X', hL, e1, e2, ⟨hv, hrep, hz, hk⟩, stp⟩ := hr T hT X
  cases hv
  rw [h0] at hz hk
  have ha : s.vm.Alike t.vm := by rw [← e2]; exact X'.warmed.alike
  obtain ⟨t2, a1, b1⟩ := kk T'.heap (locs ++ L) (by rw [e1]; exact zRep_moved ha.symm hrep) ⟨Nat.le_trans hS.1 (by rw [e1]; exact hz), fun q h1 h2 => by rw [e1, hk q (Nat.lt_of_lt_of_le h1 hS.1) h2]; exact hS.2.1 q h1 h2, fun q hq => by
    rcases List.mem_append.mp hq with h | h
    · exact hS.2.2 q h
    · exact hL q h⟩ T' rfl X'
  exact ⟨t2, stp t2 a1, b1⟩
theorem zpre_at (C : zX p s m args meth c M D sa base) (I : zIn D sa base M.2.2.1 s H locs lo h ls) (as : List Value) : ∀ U : State, U.heap = H → s.WarmedH U.vm → zPc D sa base as h (as.map (zv (zad sa base))).toArray U := by
  intro U hU hW
  subst hU
  exact ⟨rfl, zRep_moved hW.alike I.2.2.1, zG_warm hW (fun q h1 h2 => I.2.2.2.2.1 q h1 h2) C.2.2.2.2.2.2.1⟩
theorem zw_32 (C : zX p s m args meth c M D sa base) (hd : decode M.2.1 pc = .ok (i, len)) (hM2 : zm a = some M2) (hc : zc32 M.1.cls len a b k3 ci sw M2 i = true) (I : zIn D sa base M.2.2.1 s H locs lo h ls) {a' : Nat} {as : List Value} (hs : zs32 len a b k3 ci (pc, lo, st, h) = some (.inr (.inl (a', as, y)))) {d mc ms : Nat} {r : Option Value}
    (hMet : Met l M2.1 (zws M2) (zRoom d mc ms) (zPc D sa base as h) (zQc D sa base r h1) mc ms (zA base)) (hF : d + 2 ≤ R.frames ∧ 64 * (d + 2) ≤ R.locals) (hR : cells + mc ≤ R.cells ∧ slots + ms ≤ R.slots) (hmc : mc + h.1.length = h1.1.length) (hms : ms + zslots h.1 = zslots h1.1)
    (kk : zK p l e R s m args below meth c cells slots Q D sa base M.2.2.1 h (y.1, y.2.1, r.toList ++ y.2.2.1, h1)) : W p l e R s m args below meth c H locs cells slots Q (F0 m pc ls (st.map (zv (zad sa base)))) := by
  have hpre := zpre_at C I as
  obtain ⟨hx, hb, hml, hown, hnm, hts, hG, hbs⟩ := C
  have K : ∀ r' : List Value, y = (pc + 3, lo, r', h) → ∀ (H1 : Heap) (locs1 : List Loc), zRep D sa base s H1 h1 → va_S (zA base) s.heap H1 locs1 → W p l e R s m args below meth c H1 locs1 (cells + mc) (slots + ms) Q (F0 m (pc + 3) ls ((r.map (zv (zad sa base))).toList ++ r'.map (zv (zad sa base)))) := by
    intro r' ey H1 locs1 g1 g2
    subst ey
    have K0 := kk ls H1 locs1 (cells + mc) (slots + ms) ⟨I.1, I.2.1, g1, g2⟩ (by dsimp only; omega) (by dsimp only; omega)
    have es : List.map (zv (zad sa base)) (r.toList ++ r') = (r.map (zv (zad sa base))).toList ++ r'.map (zv (zad sa base)) := by cases r <;> simp
    rw [← es]
    exact K0
  have hfx : CallFix p m c M.2.1 M.2.2.1 s args zWall M.1.cls := ⟨hx, hb, hml, hown, hts⟩
  unfold zc32 at hc
  split at hc
  · rename_i k
    rw [Bool.and_eq_true, Bool.and_eq_true, Bool.and_eq_true, Bool.and_eq_true, Bool.and_eq_true, Bool.and_eq_true, Bool.and_eq_true, decide_eq_true_eq, decide_eq_true_eq, decide_eq_true_eq, decide_eq_true_eq, decide_eq_true_eq, decide_eq_true_eq, decide_eq_true_eq] at hc
    obtain ⟨⟨⟨⟨⟨⟨⟨c1, c2⟩, c3⟩, c4⟩, c5⟩, c6⟩, c7⟩, c8⟩ := hc
    subst c1; subst c2
    obtain ⟨o, as1, n, r', rfl, ho, ht, h8, ey, -⟩ := zs32_rf (by decide) hs
    obtain ⟨est, el⟩ := ztake_stack ht
    obtain ⟨q, q1, q2, cellB, g1, g2, g3, g4⟩ := zob I.2.2.1 ho
    have hq1 : q.1 = M2.1.cls := by
      unfold zkn at c6
      rw [q1] at c6
      exact Option.some.inj c6
    obtain ⟨f1, f2, f3, f4, f5, f6, f7, f8, f9⟩ := zm_facts hM2 c3
    have hcl := (hG.1.1 ci q (zcl_el q1)).2.1
    rw [hq1] at hcl
    have hsel := (f4 c4).2.resolve_left c7
    refine zback (va_runV (As := as1.map (zv (zad sa base))) (rest := r'.map (zv (zad sa base))) hfx hMet ⟨zcallB hts hM2 c3 d mc ms (hts _ (zw_in c8)) hF, hts _ (f4 c4).1, hts _ hsel⟩ ⟨zblind, ⟨cellB, g1, by rw [g3]; rfl, by rw [g2]; exact hcl⟩, hpre⟩ rfl (by rw [List.length_map]; have e1 : as1.length + 1 = b := el; omega) I.1.1 ?_ (lv_room (by rw [zcat_sum]; exact h8)) hd hR) I.2.2.2 (K r' ey)
    show st.map (zv (zad sa base)) = _
    rw [est]
    simp [zv]
  · rename_i k
    rw [Bool.and_eq_true, Bool.and_eq_true, Bool.and_eq_true, Bool.and_eq_true, Bool.and_eq_true, decide_eq_true_eq, decide_eq_true_eq, decide_eq_true_eq, decide_eq_true_eq, decide_eq_true_eq] at hc
    obtain ⟨⟨⟨⟨⟨c1, c2⟩, c3⟩, c4⟩, c5⟩, c8⟩ := hc
    subst c1; subst c2
    obtain ⟨r', ht, h8, ey, -⟩ := zs32_st hs
    obtain ⟨est, el⟩ := ztake_stack ht
    obtain ⟨f1, f2, f3, f4, f5, f6, f7, f8, f9⟩ := zm_facts hM2 c3
    refine zback (va_runS (As := as.map (zv (zad sa base))) (rest := r'.map (zv (zad sa base))) hfx hMet ⟨zcallB hts hM2 c3 d mc ms (hts _ (zw_in c8)) hF, hts _ (f3 c4)⟩ ⟨zblind, hpre⟩ rfl (by rw [List.length_map, el, c5]) I.1.1 ?_ (lv_room (by rw [zcat_sum]; exact h8)) hd hR) I.2.2.2 (K r' ey)
    show st.map (zv (zad sa base)) = _
    rw [est]
    simp
  · rename_i k
    rw [Bool.and_eq_true, Bool.and_eq_true, Bool.and_eq_true, Bool.and_eq_true, Bool.and_eq_true, Bool.and_eq_true, Bool.and_eq_true, decide_eq_true_eq, decide_eq_true_eq, decide_eq_true_eq, decide_eq_true_eq, decide_eq_true_eq, decide_eq_true_eq, decide_eq_true_eq] at hc
    obtain ⟨⟨⟨⟨⟨⟨⟨c1, c3⟩, c4⟩, c7⟩, cv⟩, c5⟩, c6⟩, c8⟩ := hc
    subst c1
    obtain ⟨f1, f2, f3, f4, f5, f6, f7, f8, f9⟩ := zm_facts hM2 c3
    have hk : k3 ≠ 1 := by
      intro q
      subst q
      cases c8
    obtain ⟨o, as1, n, r', rfl, ho, ht, h8, ey, -⟩ := zs32_rf hk hs
    obtain ⟨est, el⟩ := ztake_stack ht
    have hst : st.map (zv (zad sa base)) = (as1.map (zv (zad sa base))).reverse ++ .ref (zad sa base o) :: r'.map (zv (zad sa base)) := by
      rw [est]
      simp [zv]
    have hal : (as1.map (zv (zad sa base))).length = M2.2.2.2.2.1 := by rw [List.length_map]; have e1 : as1.length + 1 = b := el; omega
    split at c8
    · have cb := zcallB hts hM2 c3 d mc ms (hts _ (zw_in c8)) hF
      rw [cv] at cb
      exact zback (va_runI (As := as1.map (zv (zad sa base))) (rest := r'.map (zv (zad sa base))) hfx hMet ⟨cb, c7, hts _ (f4 c4).1⟩ ⟨zblind, hpre⟩ rfl hal I.1.1 hst (lv_room (by rw [zcat_sum]; exact h8)) hd hR) I.2.2.2 (K r' ey)
    · rw [decide_eq_true_eq] at c8
      have cb := zcallN hts hM2 c3 d mc ms (hG.2.1 _ (zget_mem c8)) hF
      rw [cv] at cb
      exact zback (va_runIN (As := as1.map (zv (zad sa base))) (rest := r'.map (zv (zad sa base))) hfx hMet ⟨cb, c7, hts _ (f4 c4).1⟩ ⟨zblind, hpre⟩ rfl hal I.1.1 hst (lv_room (by rw [zcat_sum]; exact h8)) hd hR) I.2.2.2 (K r' ey)
    · cases c8
  · cases hc
end ZF
end
section
/-! THE WHOLE RUN: what the small machine runs to, the real one runs to. -/
theorem zs35_sp {k3 pc : Nat} {lo : List (Option Value)} {st : List Value} {h : zH} {r : Option Value} (hs : zs35 k3 (pc, lo, st, h) = some (.inr (.inr r))) : ∃ x, st = [.int x] ∧ r = some (.int x) ∧ (k3 = 1 → x = 0 ∨ x = 1) := by
  simp only [zs35] at hs
  split at hs
  · rename_i x
    split at hs
    · split at hs
      · rename_i hv
        cases hs
        exact ⟨x, rfl, rfl, fun _ => hv⟩
      · cases hs
    · rename_i hk
      cases hs
      exact ⟨x, rfl, rfl, fun q => absurd q hk⟩
  · cases hs
theorem zs36_sp {pc : Nat} {lo : List (Option Value)} {st : List Value} {h : zH} {r : Option Value} (hs : zs36 (pc, lo, st, h) = some (.inr (.inr r))) : ∃ x, st = [.long x] ∧ r = some (.long x) := by
  simp only [zs36] at hs
  split at hs
  · cases hs
    exact ⟨_, rfl, rfl⟩
  · cases hs
theorem zs37_sp {pc : Nat} {lo : List (Option Value)} {st : List Value} {h : zH} {r : Option Value} (hs : zs37 (pc, lo, st, h) = some (.inr (.inr r))) : ∃ x, st = [.ref x] ∧ r = some (.ref x) := by
  simp only [zs37] at hs
  split at hs
  · cases hs
    exact ⟨_, rfl, rfl⟩
  · cases hs
theorem zs38_sp {pc : Nat} {lo : List (Option Value)} {st : List Value} {h : zH} {r : Option Value} (hs : zs38 (pc, lo, st, h) = some (.inr (.inr r))) : st = [] ∧ r = none := by
  simp only [zs38] at hs
  split at hs
  · cases hs
    exact ⟨rfl, rfl⟩
  · cases hs
section ZH
variable {p : Program} {l : Launch} {e : Env} {R : Room} {s : State} {m : MethodId} {args : Array Value} {below : List Frame} {meth : Method} {c : Code} {H : Heap} {locs : List Loc} {cells slots : Nat} {Q : State → Prop}
variable {M M2 : zM} {D : va_G} {sa : Nat → Nat} {base : Nat} {pc len a b k3 ci : Nat} {v : Value} {sw : List (Int32 × Nat)} {i : Instr} {lo : List (Option Value)} {st : List Value} {h h1 : zH} {ls : Array Slot} {y : zC}
theorem zw_all (C : zX p s m args meth c M D sa base) (hd : decode M.2.1 pc = .ok (i, len)) {op : Nat} (hc : zcI M pc (op, len, a, b, k3, v, sw) i = true) (I : zIn D sa base M.2.2.1 s H locs lo h ls) (hs : zstep (op, len, a, b, k3, v, sw) (pc, lo, st, h) = some (.inl y)) (hF : 1 ≤ R.frames ∧ 64 ≤ R.locals) (hR : cells + y.2.2.2.1.length ≤ R.cells + h.1.length ∧ slots + zslots y.2.2.2.1 ≤ R.slots + zslots h.1) (kk : zK p l e R s m args below meth c cells slots Q D sa base M.2.2.1 h y) : W p l e R s m args below meth c H locs cells slots Q (F0 m pc ls (st.map (zv (zad sa base)))) := by
  match op, hc, hs with
  | 0, hc, hs => exact zw_0 C hd hc I hs kk
  | 1, hc, hs => exact zw_1 C hd hc I hs kk
  | 2, hc, hs => exact zw_2 C hd hc I hs kk
  | 3, hc, hs => exact zw_3 C hd hc I hs kk
  | 4, hc, hs => exact zw_4 C hd hc I hs kk
  | 5, hc, hs => exact zw_5 C hd hc I hs kk
  | 6, hc, hs => exact zw_6 C hd hc I hs kk
  | 7, hc, hs => exact zw_7 C hd hc I hs kk
  | 8, hc, hs => exact zw_8 C hd hc I hs kk
  | 9, hc, hs => exact zw_9 C hd hc I hs kk
  | 10, hc, hs => exact zw_10 C hd hc I hs kk
  | 11, hc, hs => exact zw_11 C hd hc I hs kk
  | 12, hc, hs => exact zw_12 C hd hc I hs kk
  | 13, hc, hs => exact zw_13 C hd hc I hs kk
  | 14, hc, hs => exact zw_14 C hd hc I hs kk
  | 15, hc, hs => exact zw_15 C hd hc I hs kk
  | 16, hc, hs => exact zw_16 C hd hc I hs kk
  | 17, hc, hs => exact zw_17 C hd hc I hs kk
  | 18, hc, hs => exact zw_18 C hd hc I hs kk
  | 19, hc, hs => exact zw_19 C hd hc I hs kk
  | 20, hc, hs => exact zw_20 C hd hc I hs kk
  | 21, hc, hs => exact zw_21 C hd hc I hs kk
  | 22, hc, hs => exact zw_22 C hd hc I hs kk
  | 23, hc, hs => exact zw_23 C hd hc I hs kk
  | 24, hc, hs => exact zw_24 C hd hc I hs kk
  | 25, hc, hs => exact zw_25 C hd hc I hs kk
  | 26, hc, hs => exact zw_26 C hd hc I hs kk
  | 27, hc, hs => exact zw_27 C hd hc I hs kk
  | 28, hc, hs => exact zw_28 C hd hc I hs kk
  | 29, hc, hs => exact zw_29 C hd hc I hs hR kk
  | 30, hc, hs => exact zw_30 C hd hc I hs hR kk
  | 31, hc, hs => 
    have hs' : zs31 len b (pc, lo, st, h) = some (.inl y) := hs
    obtain ⟨y', q, e1, e2⟩ := zg_31 hs'
    cases e1
    have e3 : y.2.2.2.1 = h.1 ++ q := e2
    rw [e3, List.length_append, zslots_add] at hR
    exact zw_31 C hd hc I hs hF ⟨by omega, by omega⟩ kk
  | 32, hc, hs => 
    have hs' : zs32 len a b (k3 % 4) (k3 / 4) (pc, lo, st, h) = some (.inl y) := hs
    obtain ⟨as, y', e1⟩ := zg_32 hs'
    cases e1
  | 33, hc, hs => exact zw_33 C hd hc I hs hF kk
  | 34, hc, hs => exact zw_34 C hd hc I hs hF kk
  | 35, hc, hs => 
    have hs' : zs35 k3 (pc, lo, st, h) = some (.inl y) := hs
    obtain ⟨r, e1⟩ := zg_35 hs'
    cases e1
  | 36, hc, hs => 
    have hs' : zs36  (pc, lo, st, h) = some (.inl y) := hs
    obtain ⟨r, e1⟩ := zg_36 hs'
    cases e1
  | 37, hc, hs => 
    have hs' : zs37  (pc, lo, st, h) = some (.inl y) := hs
    obtain ⟨r, e1⟩ := zg_37 hs'
    cases e1
  | 38, hc, hs => 
    have hs' : zs38  (pc, lo, st, h) = some (.inl y) := hs
    obtain ⟨r, e1⟩ := zg_38 hs'
    cases e1
  | 39, hc, hs => exact zw_39 C hd hc I hs kk
  | 40, hc, hs => exact zw_40 C hd hc I hs kk
  | 41, hc, hs => exact zw_41 C hd hc I hs kk
  | 42, hc, hs => exact zw_42 C hd hc I hs kk
  | 43, hc, hs => exact zw_43 C hd hc I hs kk
  | 44, hc, hs => exact zw_44 C hd hc I hs kk
  | _ + 45, hc, hs => cases hs
theorem zg_ret {x : zC} {r : Option Value} {op : Nat} (h0 : zstep (op, len, a, b, k3, v, sw) x = some (.inr (.inr r))) : op = 35 ∨ op = 36 ∨ op = 37 ∨ op = 38 := by
  match op, h0 with
  | 0, h0 => 
    obtain ⟨y, q, e1, -⟩ := zg_0 h0
    cases e1
  | 1, h0 => 
    obtain ⟨y, q, e1, -⟩ := zg_1 h0
    cases e1
  | 2, h0 => 
    obtain ⟨y, q, e1, -⟩ := zg_2 h0
    cases e1
  | 3, h0 => 
    obtain ⟨y, q, e1, -⟩ := zg_3 h0
    cases e1
  | 4, h0 => 
    obtain ⟨y, q, e1, -⟩ := zg_4 h0
    cases e1
  | 5, h0 => 
    obtain ⟨y, q, e1, -⟩ := zg_5 h0
    cases e1
  | 6, h0 => 
    obtain ⟨y, q, e1, -⟩ := zg_6 h0
    cases e1
  | 7, h0 => 
    obtain ⟨y, q, e1, -⟩ := zg_7 h0
    cases e1
  | 8, h0 => 
    obtain ⟨y, q, e1, -⟩ := zg_8 h0
    cases e1
  | 9, h0 => 
    obtain ⟨y, q, e1, -⟩ := zg_9 h0
    cases e1
  | 10, h0 => 
    obtain ⟨y, q, e1, -⟩ := zg_10 h0
    cases e1
  | 11, h0 => 
    obtain ⟨y, q, e1, -⟩ := zg_11 h0
    cases e1
  | 12, h0 => 
    obtain ⟨y, q, e1, -⟩ := zg_12 h0
    cases e1
  | 13, h0 => 
    obtain ⟨y, q, e1, -⟩ := zg_13 h0
    cases e1
  | 14, h0 => 
    obtain ⟨y, q, e1, -⟩ := zg_14 h0
    cases e1
  | 15, h0 => 
    obtain ⟨y, q, e1, -⟩ := zg_15 h0
    cases e1
  | 16, h0 => 
    obtain ⟨y, q, e1, -⟩ := zg_16 h0
    cases e1
  | 17, h0 => 
    obtain ⟨y, q, e1, -⟩ := zg_17 h0
    cases e1
  | 18, h0 => 
    obtain ⟨y, q, e1, -⟩ := zg_18 h0
    cases e1
  | 19, h0 => 
    obtain ⟨y, q, e1, -⟩ := zg_19 h0
    cases e1
  | 20, h0 => 
    obtain ⟨y, q, e1, -⟩ := zg_20 h0
    cases e1
  | 21, h0 => 
    obtain ⟨y, q, e1, -⟩ := zg_21 h0
    cases e1
  | 22, h0 => 
    obtain ⟨y, q, e1, -⟩ := zg_22 h0
    cases e1
  | 23, h0 => 
    obtain ⟨y, q, e1, -⟩ := zg_23 h0
    cases e1
  | 24, h0 => 
    obtain ⟨y, q, e1, -⟩ := zg_24 h0
    cases e1
  | 25, h0 => 
    obtain ⟨y, q, e1, -⟩ := zg_25 h0
    cases e1
  | 26, h0 => 
    obtain ⟨y, q, e1, -⟩ := zg_26 h0
    cases e1
  | 27, h0 => 
    obtain ⟨y, q, e1, -⟩ := zg_27 h0
    cases e1
  | 28, h0 => 
    obtain ⟨y, q, e1, -⟩ := zg_28 h0
    cases e1
  | 29, h0 => 
    obtain ⟨y, q, e1, -⟩ := zg_29 h0
    cases e1
  | 30, h0 => 
    obtain ⟨y, q, e1, -⟩ := zg_30 h0
    cases e1
  | 31, h0 => 
    obtain ⟨y, q, e1, -⟩ := zg_31 h0
    cases e1
  | 32, h0 => 
    obtain ⟨as, y, e1⟩ := zg_32 h0
    cases e1
  | 33, h0 => 
    obtain ⟨y, q, e1, -⟩ := zg_33 h0
    cases e1
  | 34, h0 => 
    obtain ⟨y, q, e1, -⟩ := zg_34 h0
    cases e1
  | 35, h0 => decide
  | 36, h0 => decide
  | 37, h0 => decide
  | 38, h0 => decide
  | 39, h0 => 
    obtain ⟨y, q, e1, -⟩ := zg_39 h0
    cases e1
  | 40, h0 => 
    obtain ⟨y, q, e1, -⟩ := zg_40 h0
    cases e1
  | 41, h0 => 
    obtain ⟨y, q, e1, -⟩ := zg_41 h0
    cases e1
  | 42, h0 => 
    obtain ⟨y, q, e1, -⟩ := zg_42 h0
    cases e1
  | 43, h0 => 
    obtain ⟨y, q, e1, -⟩ := zg_43 h0
    cases e1
  | 44, h0 => 
    obtain ⟨y, q, e1, -⟩ := zg_44 h0
    cases e1
  | _ + 45, h0 => cases h0
theorem zchk_at {mi : Nat} {x : zI} (hM : zm mi = some M) (h : zi mi pc = some x) : ∃ i, decode M.2.1 pc = .ok (i, x.2.1) ∧ zcI M pc x i = true := by
  obtain ⟨M', h1, h2⟩ := zi_ok h
  rw [hM] at h1
  cases h1
  unfold zchk at h2
  split at h2
  · rename_i i n hd
    rw [Bool.and_eq_true, decide_eq_true_eq] at h2
    obtain ⟨e1, e2⟩ := h2
    subst e1
    exact ⟨i, hd, e2⟩
  · cases h2
end ZH
theorem zlvl_pad (ad : Nat → Nat) : ∀ (n i : Nat) (l : List (Option Value)), zlvl ad i (zpad n l) = zlvl ad i l
  | 0, i, l => rfl
  | n + 1, i, [] => by
    have q := zlvl_pad ad n (i + 1) []
    simp only [zpad, zlvl] at q ⊢
    exact q
  | n + 1, i, none :: l => by
    simp only [zpad, zlvl]
    exact zlvl_pad ad n (i + 1) l
  | n + 1, i, some v :: l => by
    simp only [zpad, zlvl]
    rw [zlvl_pad ad n (i + 1) l]
theorem zlvl_args (ad : Nat → Nat) : ∀ (i : Nat) (as : List Value), zlvl ad i (zargs as) = lv_args i (as.map (zv ad))
  | i, [] => rfl
  | i, v :: r => by
    cases hl : zlong v
    · have hc : ¬ (zv ad v).category = 2 := by rw [zcat1 hl]; decide
      simp only [zargs, hl, cond_false, zlvl, List.map_cons, lv_args, if_neg hc]
      rw [zlvl_args ad (i + 1) r]
    · have hc : (zv ad v).category = 2 := by rw [zv_cat]; exact (zlong_cat v).mp hl
      simp only [zargs, hl, cond_true, zlvl, List.map_cons, lv_args, if_pos hc]
      rw [zlvl_args ad (i + 1 + 1) r]
theorem zpad_len : ∀ (n : Nat) (l : List (Option Value)), l.length ≤ (zpad n l).length
  | 0, l => Nat.le_refl _
  | n + 1, [] => Nat.zero_le _
  | n + 1, x :: l => by
    simp only [zpad, List.length_cons]
    exact Nat.succ_le_succ (zpad_len n l)
theorem zargs_len (ad : Nat → Nat) : ∀ as : List Value, (lg_sl (as.map (zv ad))).length = (zargs as).length
  | [] => rfl
  | v :: r => by
    have ih := zargs_len ad r
    unfold lg_sl at ih ⊢
    simp only [List.map_cons, List.flatMap_cons, List.length_append, ih]
    cases hl : zlong v
    · have hc : ¬ (zv ad v).category = 2 := by rw [zcat1 hl]; decide
      simp only [zargs, hl, cond_false, if_neg hc, List.length_cons, List.length_nil]
      omega
    · have hc : (zv ad v).category = 2 := by rw [zv_cat]; exact (zlong_cat v).mp hl
      simp only [zargs, hl, cond_true, if_pos hc, List.length_cons, List.length_nil]
      omega
section ZI
variable {p : Program} {l : Launch} {e : Env} {R : Room} {s : State} {m : MethodId} {args : Array Value} {below : List Frame} {meth : Method} {c : Code} {H : Heap} {locs : List Loc} {cells slots : Nat} {Q : State → Prop}
variable {M M2 : zM} {D : va_G} {sa : Nat → Nat} {base : Nat} {pc len a b k3 ci : Nat} {v : Value} {sw : List (Int32 × Nat)} {i : Instr} {lo : List (Option Value)} {st : List Value} {h h1 : zH} {ls : Array Slot} {y : zC}

def zEnd (p : Program) (l : Launch) (e : Env) (R : Room) (s : State) (m : MethodId) (args : Array Value) (below : List Frame) (meth : Method) (c : Code) (cells slots : Nat) (Q : State → Prop) (D : va_G) (sa : Nat → Nat) (base L mi : Nat) (h : zH) : zC ⊕ (Option Value × zH) → Prop
  | .inl y => zK p l e R s m args below meth c cells slots Q D sa base L h y
  | .inr (r, h1) => ∀ (pc' : Nat) (e' : zI) (lo' : List (Option Value)) (st' : List Value) (ls' : Array Slot) (H' : Heap) (locs' : List Loc) (cells' slots' : Nat), zi mi pc' = some e' → zstep e' (pc', lo', st', h1) = some (.inr (.inr r)) → zIn D sa base L s H' locs' lo' h1 ls' → cells' + h.1.length = cells + h1.1.length → slots' + zslots h.1 = slots + zslots h1.1 → W p l e R s m args below meth c H' locs' cells' slots' Q (F0 m pc' ls' (st'.map (zv (zad sa base))))
theorem zEnd_shift {mi L : Nat} {o : zC ⊕ (Option Value × zH)} {cells2 slots2 : Nat} (k : zEnd p l e R s m args below meth c cells slots Q D sa base L mi h o) (e1 : cells2 + h.1.length = cells + h1.1.length) (e2 : slots2 + zslots h.1 = slots + zslots h1.1) : zEnd p l e R s m args below meth c cells2 slots2 Q D sa base L mi h1 o := by
  match o, k with
  | .inl y, k => exact fun ls' H' locs' cells' slots' I q1 q2 => k ls' H' locs' cells' slots' I (by omega) (by omega)
  | .inr (r, h2), k => exact fun pc' e' lo' st' ls' H' locs' cells' slots' z1 z2 I q1 q2 => k pc' e' lo' st' ls' H' locs' cells' slots' z1 z2 I (by omega) (by omega)
/-- a method's end -/
theorem zret_W (C : zX p s m args meth c M D sa base) (hr : meth.sig.returnType = M.2.2.2.1) (hlocks : meth.locks = false) {mi : Nat} (hM : zm mi = some M) {x : zI} (hi : zi mi pc = some x) {r : Option Value} (hs : zstep x (pc, lo, st, h) = some (.inr (.inr r))) (I : zIn D sa base M.2.2.1 s H locs lo h ls) : W p l e R s m args below meth c H locs cells slots (MQ below (zQc D sa base r h) args s cells slots (zA base)) (F0 m pc ls (st.map (zv (zad sa base)))) := by
  obtain ⟨i, hd, hc⟩ := zchk_at hM hi
  obtain ⟨hx, hb, hml, hown, hnm, hts, hG, hbs⟩ := C
  have hq : ∀ t : State, t.heap = H → s.WarmedH t.vm → zQc D sa base r h args s (.returned (r.map (zv (zad sa base)))) t := by
    intro t ht hW
    subst ht
    exact ⟨rfl, zRep_moved hW.alike I.2.2.1, I.2.2.2.1, I.2.2.2.2.1⟩
  have hf : ∀ q ∈ locs, zA base q.base := I.2.2.2.2.2
  obtain ⟨op, len, a, b, k3, v, sw⟩ := x
  rcases zg_ret hs with rfl | rfl | rfl | rfl
  · have hc : zc35 len k3 M.2.2.2.1 i = true := hc
    obtain ⟨x, rfl, rfl, hv⟩ := zs35_sp (k3 := k3) (pc := pc) (lo := lo) (st := st) (h := h) hs
    unfold zc35 at hc
    split at hc
    · rw [Bool.and_eq_true, decide_eq_true_eq] at hc
      obtain ⟨h1, h2⟩ := hc
      have hd : decode M.2.1 pc = .ok (.ireturn, len) := hd
      subst h1
      split at h2
      · rename_i hr2
        exact W.iret hx hb (hr.trans hr2) hq hf hd hlocks
      · rename_i hr2
        exact W.zret hx hb (hr.trans hr2) (by rcases hv rfl with rfl | rfl <;> rfl) hq hf hd hlocks
      · cases h2
    · cases hc
  · have hc : zc36 len M.2.2.2.1 i = true := hc
    obtain ⟨x, rfl, rfl⟩ := zs36_sp (pc := pc) (lo := lo) (st := st) (h := h) hs
    unfold zc36 at hc
    split at hc
    · rw [Bool.and_eq_true, decide_eq_true_eq] at hc
      obtain ⟨h1, h2⟩ := hc
      have hd : decode M.2.1 pc = .ok (.lreturn, len) := hd
      subst h1
      split at h2
      · rename_i hr2
        exact W.lret hx hb (hr.trans hr2) hq hf hd hlocks
      · cases h2
    · cases hc
  · have hc : zc37 len M.2.2.2.1 i = true := hc
    obtain ⟨x, rfl, rfl⟩ := zs37_sp (pc := pc) (lo := lo) (st := st) (h := h) hs
    unfold zc37 at hc
    split at hc
    · rw [Bool.and_eq_true, decide_eq_true_eq] at hc
      obtain ⟨h1, h2⟩ := hc
      have hd : decode M.2.1 pc = .ok (.areturn, len) := hd
      subst h1
      split at h2
      · rename_i hr2
        exact W.aret hx hb (hr.trans hr2) (Or.inl ⟨_, rfl⟩) (Or.inr ⟨_, rfl⟩) hq hf hd hlocks
      · cases h2
    · cases hc
  · have hc : zc38 len M.2.2.2.1 i = true := hc
    obtain ⟨rfl, rfl⟩ := zs38_sp (pc := pc) (lo := lo) (st := st) (h := h) hs
    unfold zc38 at hc
    split at hc
    · rw [Bool.and_eq_true, decide_eq_true_eq] at hc
      obtain ⟨h1, h2⟩ := hc
      have hd : decode M.2.1 pc = .ok (.return_, len) := hd
      subst h1
      split at h2
      · rename_i hr2
        exact W.vret hx hb (hr.trans hr2) hq hf hd hlocks
      · cases h2
    · cases hc
end ZI
set_option maxRecDepth 20000 in
/-- THE SIMULATION: a run of the small machine is one of the real one -/
theorem zsim {l : Launch} {D : va_G} {sa : Nat → Nat} {base : Nat} : ∀ (f d mi stop : Nat) (x : zC) (o : zC ⊕ (Option Value × zH)), zr f d mi stop x = some o → ∀ (M : zM) (p : Program) (e : Env) (R : Room) (s : State) (m : MethodId) (args : Array Value) (below : List Frame) (meth : Method) (c : Code) (H : Heap) (locs : List Loc) (cells slots : Nat) (Q : State → Prop) (ls : Array Slot), zm mi = some M → zX p s m args meth c M D sa base → zIn D sa base M.2.2.1 s H locs x.2.1 x.2.2.2 ls → d + 1 ≤ R.frames ∧ 64 * (d + 1) ≤ R.locals → cells + (zoh o).1.length ≤ R.cells + x.2.2.2.1.length ∧ slots + zslots (zoh o).1 ≤ R.slots + zslots x.2.2.2.1 → zEnd p l e R s m args below meth c cells slots Q D sa base M.2.2.1 mi x.2.2.2 o → W p l e R s m args below meth c H locs cells slots Q (F0 m x.1 ls (x.2.2.1.map (zv (zad sa base))))
  | 0, _, _, _, _, _, h0 => by cases h0
  | f + 1, d, mi, stop, x, o, h0 => by
    intro M p e R s m args below meth c H locs cells slots Q ls hM C I hF hR hE
    rcases zr_step h0 with ⟨-, rfl⟩ | ⟨x0, he, ⟨y, hy, hr⟩ | ⟨r, hy, rfl⟩ | ⟨a', as, y, d1, r, h1, hy, rfl, hlen, h2, h3⟩⟩
    · exact hE ls H locs cells slots I rfl rfl
    · obtain ⟨i, hd, hc⟩ := zchk_at hM he
      obtain ⟨q1, g1⟩ := zr_ext _ _ _ _ _ _ hr
      obtain ⟨op, len, a, b, k3, v, sw⟩ := x0
      obtain ⟨pc, lo, st, h⟩ := x
      have hR2 := hR
      rw [g1, List.length_append, zslots_add] at hR2
      obtain ⟨y', q2, e1, g2⟩ : ∃ y' q, (Sum.inl y : zO) = .inl y' ∧ y'.2.2.2.1 = h.1 ++ q := by
        rcases zg_all hy with g | ⟨-, as, y', e1⟩ | ⟨r, e1⟩
        · exact g
        · cases e1
        · cases e1
      cases e1
      refine zw_all C hd hc I hy ⟨by omega, by omega⟩ ⟨by dsimp only at hR2 ⊢; omega, by dsimp only at hR2 ⊢; omega⟩ ?_
      intro ls' H' locs' cells' slots' I' n1 n2
      dsimp only at n1 n2 hR
      exact zsim f d mi stop y o hr M p e R s m args below meth c H' locs' cells' slots' Q ls' hM C I' hF ⟨by omega, by omega⟩ (zEnd_shift hE n1 n2)
    · exact hE x.1 x0 x.2.1 x.2.2.1 ls H locs cells slots he hy I rfl rfl
    · obtain ⟨i, hd, hc⟩ := zchk_at hM he
      obtain ⟨op, len, a, b, k3, v, sw⟩ := x0
      obtain ⟨pc, lo, st, h⟩ := x
      obtain ⟨rfl, e2⟩ : op = 32 ∧ a' = a := by
        rcases zg_all hy with ⟨y', q, e1, -⟩ | ⟨e0, as', y', e1⟩ | ⟨r, e1⟩
        · cases e1
        · cases e1
          exact ⟨e0, rfl⟩
        · cases e1
      subst e2
      have hs : zs32 len a' b (k3 % 4) (k3 / 4) (pc, lo, st, h) = some (.inr (.inl (a', as, y))) := hy
      have hc : (match zm a' with
        | some M2 => zc32 M.1.cls len a' b (k3 % 4) (k3 / 4) sw M2 i
        | _ => false) = true := hc
      cases hM2 : zm a' with
      | none => rw [hM2] at hc; cases hc
      | some M2 =>
        rw [hM2] at hc
        have hc : zc32 M.1.cls len a' b (k3 % 4) (k3 / 4) sw M2 i = true := hc
        have hlaw : a' ≠ zlaw := by
          unfold zc32 at hc
          split at hc
          · simp only [Bool.and_eq_true, decide_eq_true_eq] at hc
            exact hc.1.1.1.1.1.2
          · simp only [Bool.and_eq_true, decide_eq_true_eq] at hc
            exact hc.1.1.1.2
          · rw [Bool.and_eq_true, Bool.and_eq_true, Bool.and_eq_true, Bool.and_eq_true, Bool.and_eq_true, Bool.and_eq_true, Bool.and_eq_true, decide_eq_true_eq, decide_eq_true_eq] at hc
            exact hc.1.1.1.1.1.1.2
          · cases hc
        obtain ⟨f1, f2, f3, f4, f5, f6, f7, f8, f9⟩ := zm_facts hM2 hlaw
        obtain ⟨q1, g1⟩ := zr_ext _ _ _ _ _ _ h2
        obtain ⟨q2, g2⟩ := zr_ext _ _ _ _ _ _ h3
        have g1 : h1.1 = h.1 ++ q1 := g1
        have g2 : (zoh o).1 = h1.1 ++ q2 := g2
        have n1 : h1.1.length = h.1.length + q1.length := by rw [g1, List.length_append]
        have n2 : zslots h1.1 = zslots h.1 + zslots q1 := by rw [g1, zslots_add]
        have n3 : (zoh o).1.length = h1.1.length + q2.length := by rw [g2, List.length_append]
        have n4 : zslots (zoh o).1 = zslots h1.1 + zslots q2 := by rw [g2, zslots_add]
        dsimp only at hR
        have hMet : Met l M2.1 (zws M2) (zRoom d1 q1.length (zslots q1)) (zPc D sa base as h) (zQc D sa base r h1) q1.length (zslots q1) (zA base) := by
          refine Met.ofW (cc := M2.2.1) (maxL := M2.2.2.1) (ret := M2.2.2.2.1) f5 rfl ?_
          intro p' e' s' m' args' below' meth' c' s₁ B hml hP
          obtain ⟨hargs, hrep, hg⟩ := hP
          subst hargs
          have hts := atoms_spec (ws := zws M2) B.pre
          have hb6 : base ≤ s'.heap.size := by
            have q1 := hrep.1
            have q2 := hrep.2.1
            omega
          have hle : (lg_sl (as.map (zv (zad sa base)))).length ≤ M2.2.2.1 := by
            rw [zargs_len, ← f9, ← hlen]
            exact zpad_len _ _
          have hl := lv_entry (as.map (zv (zad sa base))) hle
          rw [lg_entry_eq]
          generalize (lg_sl (as.map (zv (zad sa base))) ++ List.replicate (M2.2.2.1 - (lg_sl (as.map (zv (zad sa base)))).length) Slot.unset).toArray = ls' at hl ⊢
          rw [← zlvl_args, ← zlvl_pad _ (zL a')] at hl
          have C' : zX p' s' m' (as.map (zv (zad sa base))).toArray meth' c' M2 D sa base := ⟨B.exec, B.bytes, hml, findClass_of_methodNamed B.named, fun q => (name_of_methodNamed B.named B.method).1.trans q, fun w hw => hts w (List.mem_cons_of_mem _ hw), hg, hb6⟩
          refine zsim f d1 a' 100000 (0, zpad (zL a') (zargs as), [], h) (.inr (r, h1)) h2 M2 p' e' _ s' m' _ below' meth' c' s'.heap [] 0 0 _ ls' hM2 C' ⟨hl, hlen.trans f9, hrep, va_S.rf⟩ ⟨Nat.le_refl _, Nat.le_refl _⟩ ⟨by show 0 + h1.1.length ≤ q1.length + h.1.length; omega, by show 0 + zslots h1.1 ≤ zslots q1 + zslots h.1; omega⟩ ?_
          intro pc' e'' lo' st' ls'' H' locs' cells' slots' z1 z2 I' w1 w2
          dsimp only at w1 w2
          have w3 : cells' = q1.length := by omega
          have w4 : slots' = zslots q1 := by omega
          subst w3
          subst w4
          exact zret_W C' B.returns B.notSynchronized hM2 z1 z2 I'
        refine zw_32 C hd hM2 hc I hs hMet ⟨by omega, by omega⟩ ⟨by omega, by omega⟩ (by dsimp only; omega) (by dsimp only; omega) ?_
        intro ls' H' locs' cells' slots' I' w1 w2
        dsimp only at w1 w2
        exact zsim f (d1 + 1) mi stop _ o h3 M p e R s m args below meth c H' locs' cells' slots' Q ls' hM C I' hF ⟨by dsimp only; omega, by dsimp only; omega⟩ (zEnd_shift hE w1 w2)
end
section
/-! A RUN WITH ITS FRAMES IN A LIST: it ends with 1, in its bounds. -/
abbrev zFr : Type := Nat × Nat × List (Option Value) × List Value
def zfin (r : Option Value) (h : zH) : Bool := decide (r = some (.int 1)) && (Nat.ble h.1.length 500000 && Nat.ble (zslots h.1) 7000000)
def zxr : Nat → List zFr → zH → Bool
  | 0, _, _ => false
  | _ + 1, [], _ => false
  | n + 1, (mi, pc, lo, st) :: fs, h => match zi mi pc with
    | none => false
    | some e => match zstep e (pc, lo, st, h) with
      | none => false
      | some (.inl y) => zxr n ((mi, y.1, y.2.1, y.2.2.1) :: fs) y.2.2.2
      | some (.inr (.inr r)) => (match fs with
        | [] => zfin r h
        | (mi2, pc2, lo2, st2) :: fs2 => zxr n ((mi2, pc2, lo2, r.toList ++ st2) :: fs2) h)
      | some (.inr (.inl (a, as, y))) => (Nat.blt fs.length 60 && Nat.beq (zpad (zL a) (zargs as)).length (zL a)) && zxr n ((a, 0, zpad (zL a) (zargs as), []) :: (mi, y.1, y.2.1, y.2.2.1) :: fs) h
theorem zi_none : zia.all (fun g => g.all fun t => (zget t 6250).isNone) = true := by decide +kernel
theorem zi_stop {mi : Nat} {e : zI} (h : zi mi 100000 = some e) : False := by
  unfold zi at h
  cases h1 : zget zia (mi / 16) with
  | none => rw [h1] at h; cases h
  | some g =>
    rw [h1] at h
    dsimp only at h
    cases h2 : zget g (mi % 16) with
    | none => rw [h2] at h; cases h
    | some t =>
      rw [h2] at h
      have q := List.all_eq_true.mp (List.all_eq_true.mp zi_none g (zget_mem h1)) t (zget_mem h2)
      have e1 : 100000 / 16 = 6250 := rfl
      rw [e1] at h
      dsimp only at h
      cases h3 : zget t 6250 with
      | none => rw [h3] at h; cases h
      | some r =>
        rw [h3] at q
        cases q
theorem zr_more : ∀ (f d mi stop : Nat) (x : zC) (o : zC ⊕ (Option Value × zH)), zr f d mi stop x = some o → zr (f + 1) d mi stop x = some o
  | 0, _, _, _, _, _, h => by cases h
  | f + 1, d, mi, stop, x, o, h => by
    rw [zr]
    rcases zr_step h with ⟨e1, rfl⟩ | ⟨e, he, hq⟩
    · rw [e1, Nat.beq_refl]
      rfl
    · cases hb : Nat.beq x.1 stop
      · rw [he]
        dsimp only [cond_false]
        rcases hq with ⟨y, hy, hr⟩ | ⟨r, hy, rfl⟩ | ⟨a, as, y, d1, r, h1, hy, rfl, hl, h2, h3⟩
        · rw [hy]
          exact zr_more f d mi stop y o hr
        · rw [hy]
        · rw [hy]
          dsimp only
          rw [hl, Nat.beq_refl]
          dsimp only [cond_true]
          rw [zr_more f d1 a 100000 _ _ h2]
          exact zr_more f (d1 + 1) mi stop _ o h3
      · have h0 := h
        rw [zr, hb] at h0
        exact h0
theorem zr_le {f f' d mi stop : Nat} {x : zC} {o : zC ⊕ (Option Value × zH)} (hl : f ≤ f') (h : zr f d mi stop x = some o) : zr f' d mi stop x = some o := by
  obtain ⟨k, rfl⟩ := Nat.exists_eq_add_of_le hl
  induction k with
  | zero => exact h
  | succ k ih => exact zr_more _ _ _ _ _ _ (ih (by omega))
theorem zxr_more : ∀ (n : Nat) (fs : List zFr) (h : zH), zxr n fs h = true → zxr (n + 1) fs h = true
  | 0, _, _, h => by cases h
  | n + 1, [], _, h => by cases h
  | n + 1, (mi, pc, lo, st) :: fs, h, q => by
    rw [zxr] at q ⊢
    cases hz : zi mi pc with
    | none => rw [hz] at q; cases q
    | some e =>
      rw [hz] at q
      dsimp only at q ⊢
      cases hs : zstep e (pc, lo, st, h) with
      | none => rw [hs] at q; cases q
      | some w =>
        rw [hs] at q
        match w, q with
        | .inl y, q => exact zxr_more n _ _ q
        | .inr (.inr r), q =>
          cases fs with
          | nil => exact q
          | cons g fs2 => exact zxr_more n _ _ q
        | .inr (.inl (a, as, y)), q =>
          dsimp only at q ⊢
          rw [Bool.and_eq_true] at q ⊢
          exact ⟨q.1, zxr_more n _ _ q.2⟩
theorem zxr_le {n n' : Nat} {fs : List zFr} {h : zH} (hl : n ≤ n') (q : zxr n fs h = true) : zxr n' fs h = true := by
  obtain ⟨k, rfl⟩ := Nat.exists_eq_add_of_le hl
  induction k with
  | zero => exact q
  | succ k ih => exact zxr_more _ _ _ (ih (by omega))
/-- the frames' run is a run, and what is left of it -/
theorem zxr_zr : ∀ (n mi pc : Nat) (lo : List (Option Value)) (st : List Value) (fs : List zFr) (h : zH), zxr n ((mi, pc, lo, st) :: fs) h = true → fs.length ≤ 60 → ∃ r h1, zr n (60 - fs.length) mi 100000 (pc, lo, st, h) = some (.inr (r, h1)) ∧ (fs = [] → zfin r h1 = true) ∧ ∀ mi2 pc2 lo2 st2 fs2, fs = (mi2, pc2, lo2, st2) :: fs2 → ∃ n', n' < n ∧ zxr n' ((mi2, pc2, lo2, r.toList ++ st2) :: fs2) h1 = true := by
  intro n
  induction n using Nat.strongRecOn with
  | ind n ih =>
    intro mi pc lo st fs h q hl
    cases n with
    | zero => cases q
    | succ n =>
      rw [zxr] at q
      cases hz : zi mi pc with
      | none => rw [hz] at q; cases q
      | some e =>
        rw [hz] at q
        dsimp only at q
        have hne : Nat.beq pc 100000 = false := by
          cases hb : Nat.beq pc 100000
          · rfl
          · have e1 := Nat.eq_of_beq_eq_true hb
            subst e1
            exact (zi_stop hz).elim
        cases hs : zstep e (pc, lo, st, h) with
        | none => rw [hs] at q; cases q
        | some w =>
          rw [hs] at q
          match w, q, hs with
          | .inl y, q, hs =>
            obtain ⟨r, h1, g1, g2, g3⟩ := ih n (Nat.lt_succ_self n) mi y.1 y.2.1 y.2.2.1 fs y.2.2.2 q hl
            refine ⟨r, h1, ?_, g2, fun a b c d e f => ?_⟩
            · rw [zr, hne, hz]
              dsimp only [cond_false]
              rw [hs]
              exact g1
            · obtain ⟨n', n1, n2⟩ := g3 a b c d e f
              exact ⟨n', by omega, n2⟩
          | .inr (.inr r), q, hs =>
            refine ⟨r, h, ?_, ?_, ?_⟩
            · rw [zr, hne, hz]
              dsimp only [cond_false]
              rw [hs]
            · intro ef
              subst ef
              exact q
            · intro a b c d e ef
              subst ef
              exact ⟨n, Nat.lt_succ_self n, q⟩
          | .inr (.inl (a, as, y)), q, hs =>
            dsimp only at q
            rw [Bool.and_eq_true, Bool.and_eq_true] at q
            obtain ⟨⟨q1, q2⟩, q3⟩ := q
            have q1 : fs.length < 60 := Nat.ble_eq.mp q1
            obtain ⟨r1, h1, g1, -, g3⟩ := ih n (Nat.lt_succ_self n) a 0 _ [] _ h q3 (by simp only [List.length_cons]; omega)
            obtain ⟨n', n1, n2⟩ := g3 _ _ _ _ _ rfl
            obtain ⟨r, h2, k1, k2, k3⟩ := ih n' (by omega) mi y.1 y.2.1 (r1.toList ++ y.2.2.1) fs h1 n2 hl
            refine ⟨r, h2, ?_, k2, fun a b c d e f => ?_⟩
            · rw [zr, hne, hz]
              dsimp only [cond_false]
              rw [hs]
              dsimp only
              obtain ⟨d1, hd1⟩ : ∃ d1, 60 - fs.length = d1 + 1 := ⟨60 - fs.length - 1, by omega⟩
              rw [hd1]
              dsimp only
              rw [q2]
              dsimp only [cond_true]
              have hd2 : 60 - ((mi, y.1, y.2.1, y.2.2.1) :: fs : List zFr).length = d1 := by simp only [List.length_cons]; omega
              rw [hd2] at g1
              rw [g1]
              dsimp only
              rw [← hd1]
              exact zr_le (by omega) k1
            · obtain ⟨n'', m1, m2⟩ := k3 a b c d e f
              exact ⟨n'', by omega, m2⟩
end
section
/-! NUMBERS THAT ARE NOT KNOWN: '.retAddr k' stands for the k-th int of an environment, '.double w' for a long out of it; cells of ints that hold such numbers are listed. What the small machine does without looking at them, it does for all of them. -/
abbrev sT : Type := List (Nat × Nat × Nat)
def sfind : sT → Nat → Nat → Option Nat
  | [], _, _ => none
  | (o', k', v) :: r, o, k => bif Nat.beq o' o && Nat.beq k' k then some v else sfind r o k
def sL (E : Nat → Int32) (n : Nat) : Int64 :=
  bif Nat.beq n 64 then (E 3).toInt64 <<< ((32 : Int32).toInt64 &&& 63) else
  bif Nat.beq n 65 then (E 4).toInt64 &&& 4294967295 else
  bif Nat.beq n 66 then ((E 3).toInt64 <<< ((32 : Int32).toInt64 &&& 63)) ||| ((E 4).toInt64 &&& 4294967295) else (E n).toInt64
def sval (E : Nat → Int32) : Value → Value
  | .retAddr k => .int (E k)
  | .double w => .long (sL E w.toNat)
  | v => v
def sov (E : Nat → Int32) (T : sT) (f : Nat → Nat → Int32) : Nat → Nat → Int32 := fun o k => match sfind T o k with
  | some v => E v
  | none => bif Nat.beq o 0 then E k else f o k
def ssh (L : Nat) (l : List (Nat × Nat)) : List (Nat × Nat) := (5, L) :: l.drop 1
def sH (E : Nat → Int32) (L : Nat) (T : sT) (h : zH) : zH := (ssh L h.1, sov E T h.2.1, h.2.2.1, h.2.2.2)
def slo (E : Nat → Int32) (lo : List (Option Value)) : List (Option Value) := lo.map (Option.map (sval E))
def sC (E : Nat → Int32) (L : Nat) (T : sT) (x : zC) : zC := (x.1, slo E x.2.1, x.2.2.1.map (sval E), sH E L T x.2.2.2)
def sO (E : Nat → Int32) (L : Nat) (T : sT) : zO → zO
  | .inl y => .inl (sC E L T y)
  | .inr (.inl (a, as, y)) => .inr (.inl (a, as.map (sval E), sC E L T y))
  | .inr (.inr r) => .inr (.inr (r.map (sval E)))
def sHd (h : zH) : Prop := ∃ tl, h.1 = (9, 0) :: tl
theorem sval_long (E : Nat → Int32) (v : Value) : zlong (sval E v) = zlong v := by cases v <;> rfl
theorem sval_rf (E : Nat → Int32) (r : Option Nat) : sval E (va_rf r) = va_rf r := by cases r <;> rfl
theorem zget_map {α β : Type} (f : α → β) : ∀ (l : List α) (i : Nat), zget (l.map f) i = (zget l i).map f
  | [], _ => rfl
  | _ :: _, 0 => rfl
  | _ :: l, i + 1 => zget_map f l i
theorem zput_map {α β : Type} (f : α → β) : ∀ (l : List α) (i : Nat) (x : α), zput (l.map f) i (f x) = (zput l i x).map f
  | [], _, _ => rfl
  | _ :: _, 0, _ => rfl
  | a :: l, i + 1, x => by
    show f a :: zput (l.map f) i (f x) = _
    rw [zput_map f l i x]
    rfl
theorem slo_get {E : Nat → Int32} {lo : List (Option Value)} {i : Nat} {v : Value} (h : zget lo i = some (some v)) : zget (slo E lo) i = some (some (sval E v)) := by
  unfold slo
  rw [zget_map, h]
  rfl
theorem zclr_s (E : Nat → Int32) (lo : List (Option Value)) (i : Nat) : zclr (slo E lo) i = slo E (zclr lo i) := by
  cases i with
  | zero => rfl
  | succ j =>
    unfold zclr
    dsimp only
    have e : zget (slo E lo) j = (zget lo j).map (Option.map (sval E)) := zget_map _ _ _
    rw [e]
    cases hg : zget lo j with
    | none => rfl
    | some w =>
      cases w with
      | none => rfl
      | some w =>
        simp only [Option.map_some, sval_long]
        cases zlong w
        · rfl
        · exact zput_map (Option.map (sval E)) lo j none
theorem zst1_s (E : Nat → Int32) (lo : List (Option Value)) (i : Nat) (v : Value) : zst1 (slo E lo) i (sval E v) = slo E (zst1 lo i v) := by
  unfold zst1
  rw [zclr_s]
  exact zput_map (Option.map (sval E)) _ i (some v)
theorem zst2_s (E : Nat → Int32) (lo : List (Option Value)) (i : Nat) (v : Value) : zst2 (slo E lo) i (sval E v) = slo E (zst2 lo i v) := by
  unfold zst2
  rw [zclr_s]
  have e := zput_map (Option.map (sval E)) (zclr lo i) i (some v)
  have e : zput (slo E (zclr lo i)) i (some (sval E v)) = slo E (zput (zclr lo i) i (some v)) := e
  rw [e]
  exact zput_map (Option.map (sval E)) _ (i + 1) none
theorem zcat_s (E : Nat → Int32) : ∀ st : List Value, zcat (st.map (sval E)) = zcat st
  | [] => rfl
  | v :: r => by
    simp only [List.map_cons, zcat, sval_long, zcat_s E r]
theorem ztake_s (E : Nat → Int32) : ∀ (n : Nat) (acc st : List Value), ztake n (acc.map (sval E)) (st.map (sval E)) = (ztake n acc st).map (fun q => (q.1.map (sval E), q.2.map (sval E)))
  | 0, _, _ => rfl
  | _ + 1, _, [] => rfl
  | n + 1, acc, v :: st => ztake_s E n (v :: acc) st
theorem zargs_s (E : Nat → Int32) : ∀ as : List Value, zargs (as.map (sval E)) = slo E (zargs as)
  | [] => rfl
  | v :: r => by
    simp only [List.map_cons, zargs, sval_long, zargs_s E r]
    cases zlong v <;> rfl
theorem zpad_s (E : Nat → Int32) : ∀ (n : Nat) (l : List (Option Value)), zpad n (slo E l) = slo E (zpad n l)
  | 0, _ => rfl
  | n + 1, [] => by
    show none :: zpad n (slo E []) = _
    rw [zpad_s E n []]
    rfl
  | n + 1, a :: l => by
    show _ :: zpad n (slo E l) = _
    rw [zpad_s E n l]
    rfl
theorem slo_len (E : Nat → Int32) (l : List (Option Value)) : (slo E l).length = l.length := List.length_map _
section SH
variable {E : Nat → Int32} {L : Nat} {T : sT} {h : zH} {o k t n : Nat}
theorem ssh_get (hh : sHd h) (hg : zget h.1 o = some (t, n)) (ht : t ≠ 9) : zget (ssh L h.1) o = some (t, n) ∧ o ≠ 0 := by
  obtain ⟨tl, e⟩ := hh
  rw [e] at hg
  unfold ssh
  rw [e]
  cases o with
  | zero =>
    cases hg
    exact absurd rfl ht
  | succ o => exact ⟨hg, by omega⟩
theorem ssh_len (hh : sHd h) : (ssh L h.1).length = h.1.length := by
  obtain ⟨tl, e⟩ := hh
  rw [e]
  rfl
theorem ssh_app (hh : sHd h) (q : List (Nat × Nat)) : ssh L (h.1 ++ q) = ssh L h.1 ++ q := by
  obtain ⟨tl, e⟩ := hh
  rw [e]
  rfl
theorem sov_get {f : Nat → Nat → Int32} (hf : sfind T o k = none) (ho : o ≠ 0) : sov E T f o k = f o k := by
  unfold sov
  rw [hf]
  cases hb : Nat.beq o 0
  · rfl
  · exact absurd (Nat.eq_of_beq_eq_true hb) ho
theorem sov_up {f : Nat → Nat → Int32} {x : Int32} (hf : sfind T o k = none) (ho : o ≠ 0) : sov E T (zup f o k x) = zup (sov E T f) o k x := by
  funext o' k'
  by_cases hq : o' = o ∧ k' = k
  · obtain ⟨rfl, rfl⟩ := hq
    rw [sov_get hf ho, zsame_up, zsame_up]
  · rw [zne_up hq]
    unfold sov
    cases sfind T o' k' with
    | some v => rfl
    | none =>
      dsimp only
      rw [zne_up hq]
theorem sov_row {f : Nat → Nat → Int32} {r : Nat → Int32} (ho : o ≠ 0) : sov E [] (zrow f o r) = zrow (sov E [] f) o r := by
  funext o' k'
  by_cases hq : o' = o
  · subst hq
    rw [sov_get rfl ho, zrow_eq, zrow_eq]
  · rw [zrow_ne hq]
    unfold sov
    dsimp only [sfind]
    rw [zrow_ne hq]
theorem sov_nil {f : Nat → Nat → Int32} (ho : o ≠ 0) : sov E [] f o = f o := by
  funext k'
  exact sov_get rfl ho
theorem sov_add {f : Nat → Nat → Int32} {v : Nat} : sov E ((o, k, v) :: T) f = zup (sov E T f) o k (E v) := by
  funext o' k'
  by_cases hq : o' = o ∧ k' = k
  · obtain ⟨rfl, rfl⟩ := hq
    rw [zsame_up]
    unfold sov sfind
    rw [Nat.beq_refl, Nat.beq_refl]
    rfl
  · rw [zne_up hq]
    unfold sov
    have e : sfind ((o, k, v) :: T) o' k' = sfind T o' k' := by
      rw [sfind]
      cases hb : (Nat.beq o o' && Nat.beq k k')
      · rfl
      · rw [Bool.and_eq_true] at hb
        exact absurd ⟨(Nat.eq_of_beq_eq_true hb.1).symm, (Nat.eq_of_beq_eq_true hb.2).symm⟩ hq
    rw [e]
theorem znew_s (hh : sHd h) : znew (sH E L [] h) t n = sH E L [] (znew h t n) := by
  have hl : h.1.length ≠ 0 := by
    obtain ⟨tl, e⟩ := hh
    rw [e]
    simp
  unfold znew sH
  dsimp only
  rw [ssh_len hh, ssh_app hh, sov_row hl]
end SH
/-- what the cells of unknown numbers ask of an instruction -/
def okT (T : sT) (e : zI) (st : List Value) : Bool := match e.1 with
  | 20 => (match st with
    | .ref o :: _ => (sfind T o e.2.2.2.1).isNone
    | _ => true)
  | 21 => (match st with
    | _ :: .ref o :: _ => (sfind T o e.2.2.2.1).isNone
    | _ => true)
  | 22 => (match st with
    | .int i :: .ref o :: _ => (sfind T o (zix i)).isNone
    | _ => true)
  | 25 => (match st with
    | _ :: .int i :: .ref o :: _ => (sfind T o (zix i)).isNone
    | _ => true)
  | 29 => T.isEmpty
  | 30 => T.isEmpty
  | 34 => T.isEmpty
  | _ => true
end
section
section SB
variable {E : Nat → Int32} {L : Nat} {T : sT} {pc len a b k3 ci : Nat} {v : Value} {sw : List (Int32 × Nat)} {lo : List (Option Value)} {st : List Value} {h : zH} {o : zO}
theorem zb_7 (h0 : zs7 len b (pc, lo, st, h) = some o) : zs7 len b (sC E L T (pc, lo, st, h)) = some (sO E L T o) := by
  simp only [zs7, zgo, Bool.cond_eq_ite] at h0
  repeat' split at h0
  all_goals first
    | (cases h0; done)
    | (cases h0; rfl)
theorem zb_8 (h0 : zs8 len b (pc, lo, st, h) = some o) : zs8 len b (sC E L T (pc, lo, st, h)) = some (sO E L T o) := by
  simp only [zs8, zgo] at h0
  split at h0
  · split at h0
    · cases h0
    · rename_i x y r hy
      cases h0
      show (if _ = 0 then none else _) = _
      rw [if_neg hy]
      rfl
  · cases h0
theorem zb_9 (h0 : zs9 len b (pc, lo, st, h) = some o) : zs9 len b (sC E L T (pc, lo, st, h)) = some (sO E L T o) := by
  simp only [zs9, zgo, Bool.cond_eq_ite] at h0
  repeat' split at h0
  all_goals first
    | (cases h0; done)
    | (cases h0; rfl)
theorem zb_10 (h0 : zs10 len (pc, lo, st, h) = some o) : zs10 len (sC E L T (pc, lo, st, h)) = some (sO E L T o) := by
  simp only [zs10, zgo, Bool.cond_eq_ite] at h0
  repeat' split at h0
  all_goals first
    | (cases h0; done)
    | (cases h0; rfl)
theorem zb_11 (h0 : zs11 len (pc, lo, st, h) = some o) : zs11 len (sC E L T (pc, lo, st, h)) = some (sO E L T o) := by
  simp only [zs11, zgo, Bool.cond_eq_ite] at h0
  repeat' split at h0
  all_goals first
    | (cases h0; done)
    | (cases h0; rfl)
theorem zb_13 (h0 : zs13 len (pc, lo, st, h) = some o) : zs13 len (sC E L T (pc, lo, st, h)) = some (sO E L T o) := by
  simp only [zs13, zgo, Bool.cond_eq_ite] at h0
  repeat' split at h0
  all_goals first
    | (cases h0; done)
    | (cases h0; rfl)
theorem zb_14 (h0 : zs14 len (pc, lo, st, h) = some o) : zs14 len (sC E L T (pc, lo, st, h)) = some (sO E L T o) := by
  simp only [zs14, zgo, Bool.cond_eq_ite] at h0
  repeat' split at h0
  all_goals first
    | (cases h0; done)
    | (cases h0; rfl)
theorem zb_15 (h0 : zs15 len a b (pc, lo, st, h) = some o) : zs15 len a b (sC E L T (pc, lo, st, h)) = some (sO E L T o) := by
  simp only [zs15, zgo, Bool.cond_eq_ite] at h0
  repeat' split at h0
  all_goals first
    | (cases h0; done)
    | (cases h0; rfl)
theorem zb_16 (h0 : zs16 len a b (pc, lo, st, h) = some o) : zs16 len a b (sC E L T (pc, lo, st, h)) = some (sO E L T o) := by
  simp only [zs16, zgo, Bool.cond_eq_ite] at h0
  repeat' split at h0
  all_goals first
    | (cases h0; done)
    | (cases h0; rfl)
theorem zb_18 (h0 : zs18 a sw (pc, lo, st, h) = some o) : zs18 a sw (sC E L T (pc, lo, st, h)) = some (sO E L T o) := by
  simp only [zs18, zgo, Bool.cond_eq_ite] at h0
  repeat' split at h0
  all_goals first
    | (cases h0; done)
    | (cases h0; rfl)
theorem zb_12 (h0 : zs12 len b (pc, lo, st, h) = some o) : zs12 len b (sC E L T (pc, lo, st, h)) = some (sO E L T o) := by
  match b, h0 with
  | 0, h0 =>
    simp only [zs12, zgo] at h0
    split at h0
    · cases h0
      rfl
    · cases h0
  | _ + 1, h0 =>
    simp only [zs12, zgo] at h0
    split at h0
    · cases h0
      rfl
    · cases h0
theorem zb_35 (h0 : zs35 k3 (pc, lo, st, h) = some o) : zs35 k3 (sC E L T (pc, lo, st, h)) = some (sO E L T o) := by
  match k3, h0 with
  | 0, h0 =>
    simp only [zs35, zgo] at h0
    split at h0
    · cases h0
      rfl
    · cases h0
  | 1, h0 =>
    simp only [zs35, zgo] at h0
    split at h0
    · split at h0
      · rename_i hx
        cases h0
        show (if _ = _ ∨ _ = _ then _ else none) = _
        rw [if_pos hx]
        rfl
      · cases h0
    · cases h0
  | _ + 2, h0 =>
    simp only [zs35, zgo] at h0
    split at h0
    · cases h0
      rfl
    · cases h0
theorem zb_17 (h0 : zs17 a (pc, lo, st, h) = some o) : zs17 a (sC E L T (pc, lo, st, h)) = some (sO E L T o) := by
  cases h0
  rfl
theorem zb_43 (h0 : zs43 len a (pc, lo, st, h) = some o) : zs43 len a (sC E L T (pc, lo, st, h)) = some (sO E L T o) := by
  cases h0
  rfl
theorem zb_0 (hv : sval E v = v) (h0 : zs0 len v (pc, lo, st, h) = some o) : zs0 len v (sC E L T (pc, lo, st, h)) = some (sO E L T o) := by
  cases h0
  show some (Sum.inl (pc + len, slo E lo, v :: st.map (sval E), sH E L T h)) = some (Sum.inl (pc + len, slo E lo, sval E v :: st.map (sval E), sH E L T h))
  rw [hv]
theorem zb_1 (h0 : zs1 len a (pc, lo, st, h) = some o) : zs1 len a (sC E L T (pc, lo, st, h)) = some (sO E L T o) := by
  simp only [zs1] at h0
  split at h0
  · rename_i x hg
    cases h0
    simp only [zs1, sC]
    rw [slo_get hg]
    rfl
  · cases h0
theorem zb_2 (h0 : zs2 len a (pc, lo, st, h) = some o) : zs2 len a (sC E L T (pc, lo, st, h)) = some (sO E L T o) := by
  simp only [zs2] at h0
  split at h0
  · rename_i x hg
    cases h0
    simp only [zs2, sC]
    rw [slo_get hg]
    rfl
  · cases h0
theorem zb_3 (h0 : zs3 len a (pc, lo, st, h) = some o) : zs3 len a (sC E L T (pc, lo, st, h)) = some (sO E L T o) := by
  simp only [zs3] at h0
  split at h0
  · rename_i x hg
    cases h0
    simp only [zs3, sC]
    rw [slo_get hg]
    rfl
  · cases h0
theorem zb_4 (h0 : zs4 len a (pc, lo, st, h) = some o) : zs4 len a (sC E L T (pc, lo, st, h)) = some (sO E L T o) := by
  simp only [zs4] at h0
  split at h0
  · rename_i x r
    cases h0
    show some (Sum.inl (pc + len, zst1 (slo E lo) a (sval E (.int x)), r.map (sval E), sH E L T h)) = _
    rw [zst1_s]
    rfl
  · cases h0
theorem zb_5 (h0 : zs5 len a (pc, lo, st, h) = some o) : zs5 len a (sC E L T (pc, lo, st, h)) = some (sO E L T o) := by
  simp only [zs5] at h0
  split at h0
  · rename_i x r
    cases h0
    show some (Sum.inl (pc + len, zst2 (slo E lo) a (sval E (.long x)), r.map (sval E), sH E L T h)) = _
    rw [zst2_s]
    rfl
  · cases h0
theorem zb_6 (h0 : zs6 len a (pc, lo, st, h) = some o) : zs6 len a (sC E L T (pc, lo, st, h)) = some (sO E L T o) := by
  simp only [zs6] at h0
  split at h0
  · rename_i x r
    cases h0
    show some (Sum.inl (pc + len, zst1 (slo E lo) a (sval E (.ref x)), r.map (sval E), sH E L T h)) = _
    rw [zst1_s]
    rfl
  · cases h0
theorem zb_19 (h0 : zs19 len a v (pc, lo, st, h) = some o) : zs19 len a v (sC E L T (pc, lo, st, h)) = some (sO E L T o) := by
  simp only [zs19] at h0
  split at h0
  · rename_i x k hg
    cases h0
    simp only [zs19, sC]
    rw [slo_get hg]
    show some (Sum.inl (pc + len, zst1 (slo E lo) a (sval E (.int (x + k))), st.map (sval E), sH E L T h)) = _
    rw [zst1_s]
    rfl
  · cases h0
theorem zb_39 (h0 : zs39 len (pc, lo, st, h) = some o) : zs39 len (sC E L T (pc, lo, st, h)) = some (sO E L T o) := by
  simp only [zs39] at h0
  split at h0
  · rename_i v r
    cases hz : zlong v
    · simp only [hz, cond_false] at h0
      cases h0
      simp only [zs39, sC, List.map_cons, sval_long, hz, cond_false]
      rfl
    · simp [hz] at h0
  · cases h0
theorem zb_42 (h0 : zs42 len (pc, lo, st, h) = some o) : zs42 len (sC E L T (pc, lo, st, h)) = some (sO E L T o) := by
  simp only [zs42] at h0
  split at h0
  · rename_i v r
    cases hz : zlong v
    · simp only [hz, cond_false] at h0
      cases h0
      simp only [zs42, sC, List.map_cons, sval_long, hz, cond_false]
      rfl
    · simp [hz] at h0
  · cases h0
theorem zb_40 (h0 : zs40 len (pc, lo, st, h) = some o) : zs40 len (sC E L T (pc, lo, st, h)) = some (sO E L T o) := by
  simp only [zs40] at h0
  split at h0
  · rename_i v w r
    cases hz : zlong v
    · cases hz2 : zlong w
      · simp only [hz, hz2, Bool.or_self, cond_false] at h0
        cases h0
        simp only [zs40, sC, List.map_cons, sval_long, hz, hz2, Bool.or_self, cond_false]
        rfl
      · simp [hz, hz2] at h0
    · simp [hz] at h0
  · cases h0
theorem zb_41 (h0 : zs41 len (pc, lo, st, h) = some o) : zs41 len (sC E L T (pc, lo, st, h)) = some (sO E L T o) := by
  simp only [zs41] at h0
  split at h0
  · rename_i v w r
    cases hz : zlong v
    · cases hz2 : zlong w
      · simp only [hz, hz2, Bool.or_self, cond_false] at h0
        cases h0
        simp only [zs41, sC, List.map_cons, sval_long, hz, hz2, Bool.or_self, cond_false]
        rfl
      · simp [hz, hz2] at h0
    · simp [hz] at h0
  · cases h0
theorem zb_20 (hh : sHd h) (hT : ∀ o r, st = .ref o :: r → (sfind T o b).isNone = true) (h0 : zs20 len a b k3 (pc, lo, st, h) = some o) : zs20 len a b k3 (sC E L T (pc, lo, st, h)) = some (sO E L T o) := by
  simp only [zs20] at h0
  split at h0
  · rename_i o r
    split at h0
    · rename_i t n hg
      cases hq : (Nat.beq t (10 + a) && Nat.blt b n)
      · simp [hq] at h0
      · simp only [hq, cond_true] at h0
        cases h0
        have ht : t ≠ 9 := by
          rw [Bool.and_eq_true] at hq
          have := Nat.eq_of_beq_eq_true hq.1
          omega
        obtain ⟨g1, g2⟩ := ssh_get (L := L) hh hg ht
        have hf : sfind T o b = none := Option.isNone_iff_eq_none.mp (hT o r rfl)
        show (match zget (ssh L h.1) o with
          | some (t, n) => bif Nat.beq t (10 + a) && Nat.blt b n then zgo (pc + len, slo E lo, (match k3 with
            | 1 => va_rf (h.2.2.2 o b)
            | _ => .int (sov E T h.2.1 o b)) :: r.map (sval E), sH E L T h) else none
          | _ => none) = _
        rw [g1]
        dsimp only
        rw [hq, sov_get hf g2]
        dsimp only [cond_true]
        show some (Sum.inl _) = some (Sum.inl (pc + len, slo E lo, sval E (match k3 with
            | 1 => va_rf (h.2.2.2 o b)
            | _ => .int (h.2.1 o b)) :: r.map (sval E), sH E L T h))
        congr 5
        split
        · rw [sval_rf]
        · rfl
    · cases h0
  · cases h0
theorem zb_21 (hh : sHd h) (hT : ∀ v o r, st = v :: .ref o :: r → (sfind T o b).isNone = true) (h0 : zs21 len a b k3 (pc, lo, st, h) = some o) : zs21 len a b k3 (sC E L T (pc, lo, st, h)) = some (sO E L T o) := by
  simp only [zs21] at h0
  split at h0
  · rename_i x o r
    split at h0
    · rename_i t n hg
      cases hq : (Nat.beq t (10 + a) && Nat.blt b n)
      · simp [hq] at h0
      · simp only [hq, cond_true] at h0
        have ht : t ≠ 9 := by
          rw [Bool.and_eq_true] at hq
          have := Nat.eq_of_beq_eq_true hq.1
          omega
        obtain ⟨g1, g2⟩ := ssh_get (L := L) hh hg ht
        have hf : sfind T o b = none := Option.isNone_iff_eq_none.mp (hT _ o r rfl)
        simp only [zs21, sC, List.map_cons, sval]
        have g1 : zget (sH E L T h).1 o = some (t, n) := g1
        rw [g1]
        dsimp only
        rw [hq]
        dsimp only [cond_true]
        have e : (sH E L T h).2.1 = sov E T h.2.1 := rfl
        split at h0
        · cases h0
          show some (Sum.inl (pc + len, slo E lo, r.map (sval E), ((sH E L T h).1, zup (sov E T h.2.1) o b x, h.2.2.1, h.2.2.2))) = _
          rw [← sov_up hf g2]
          rfl
        · split at h0
          · rename_i hx
            cases h0
            rw [if_pos hx]
            show some (Sum.inl (pc + len, slo E lo, r.map (sval E), ((sH E L T h).1, zup (sov E T h.2.1) o b x, h.2.2.1, h.2.2.2))) = _
            rw [← sov_up hf g2]
            rfl
          · cases h0
        · cases h0
    · cases h0
  · rename_i w o r
    split at h0
    · rename_i t n hg
      cases hq : (Nat.beq t (10 + a) && Nat.blt b n)
      · simp [hq] at h0
      · simp only [hq, cond_true] at h0
        have ht : t ≠ 9 := by
          rw [Bool.and_eq_true] at hq
          have := Nat.eq_of_beq_eq_true hq.1
          omega
        obtain ⟨g1, g2⟩ := ssh_get (L := L) hh hg ht
        simp only [zs21, sC, List.map_cons, sval]
        have g1 : zget (sH E L T h).1 o = some (t, n) := g1
        rw [g1]
        dsimp only
        rw [hq]
        dsimp only [cond_true]
        split at h0
        · cases h0
          rfl
        · cases h0
    · cases h0
  · cases h0
theorem zb_22 (hh : sHd h) (hT : ∀ i o r, st = .int i :: .ref o :: r → (sfind T o (zix i)).isNone = true) (h0 : zs22 len (pc, lo, st, h) = some o) : zs22 len (sC E L T (pc, lo, st, h)) = some (sO E L T o) := by
  simp only [zs22] at h0
  split at h0
  · rename_i j o r
    split at h0
    · rename_i t n hg
      cases hq : ((Nat.beq t 0 || Nat.beq t 5) && Nat.blt (zix j) n)
      · simp [hq] at h0
      · simp only [hq, cond_true] at h0
        cases h0
        have ht : t ≠ 9 := by
          intro q
          subst q
          cases hq
        obtain ⟨g1, g2⟩ := ssh_get (L := L) hh hg ht
        have hf : sfind T o (zix j) = none := Option.isNone_iff_eq_none.mp (hT j o r rfl)
        simp only [zs22, sC, List.map_cons, sval]
        have g1 : zget (sH E L T h).1 o = some (t, n) := g1
        rw [g1]
        dsimp only
        rw [hq]
        dsimp only [cond_true]
        have e : (sH E L T h).2.1 o (zix j) = h.2.1 o (zix j) := sov_get hf g2
        rw [e]
        rfl
    · cases h0
  · cases h0
theorem zb_23 (hh : sHd h) (h0 : zs23 len (pc, lo, st, h) = some o) : zs23 len (sC E L T (pc, lo, st, h)) = some (sO E L T o) := by
  simp only [zs23] at h0
  split at h0
  · rename_i j o r
    split at h0
    · rename_i t n hg
      cases hq : (Nat.beq t 1 && Nat.blt (zix j) n)
      · simp [hq] at h0
      · simp only [hq, cond_true] at h0
        cases h0
        have ht : t ≠ 9 := by
          intro q
          subst q
          cases hq
        obtain ⟨g1, g2⟩ := ssh_get (L := L) hh hg ht
        simp only [zs23, sC, List.map_cons, sval]
        have g1 : zget (sH E L T h).1 o = some (t, n) := g1
        rw [g1]
        dsimp only
        rw [hq]
        dsimp only [cond_true]
        rfl
    · cases h0
  · cases h0
theorem zb_24 (hh : sHd h) (h0 : zs24 len (pc, lo, st, h) = some o) : zs24 len (sC E L T (pc, lo, st, h)) = some (sO E L T o) := by
  simp only [zs24] at h0
  split at h0
  · rename_i j o r
    split at h0
    · rename_i t n hg
      cases hq : ((Nat.ble 2 t && Nat.ble t 4) && Nat.blt (zix j) n)
      · simp [hq] at h0
      · simp only [hq, cond_true] at h0
        cases h0
        have ht : t ≠ 9 := by
          intro q
          subst q
          cases hq
        obtain ⟨g1, g2⟩ := ssh_get (L := L) hh hg ht
        simp only [zs24, sC, List.map_cons, sval]
        have g1 : zget (sH E L T h).1 o = some (t, n) := g1
        rw [g1]
        dsimp only
        rw [hq]
        dsimp only [cond_true]
        show some (Sum.inl (pc + len, slo E lo, va_rf (h.2.2.2 o (zix j)) :: r.map (sval E), sH E L T h)) = some (Sum.inl (pc + len, slo E lo, sval E (va_rf (h.2.2.2 o (zix j))) :: r.map (sval E), sH E L T h))
        rw [sval_rf]
    · cases h0
  · cases h0
theorem zb_25 (hh : sHd h) (hT : ∀ v i o r, st = v :: .int i :: .ref o :: r → (sfind T o (zix i)).isNone = true) (h0 : zs25 len (pc, lo, st, h) = some o) : zs25 len (sC E L T (pc, lo, st, h)) = some (sO E L T o) := by
  simp only [zs25] at h0
  split at h0
  · rename_i x j o r
    split at h0
    · rename_i t n hg
      cases hq : (Nat.beq t 0 && Nat.blt (zix j) n)
      · simp [hq] at h0
      · simp only [hq, cond_true] at h0
        cases h0
        have ht : t ≠ 9 := by
          intro q
          subst q
          cases hq
        obtain ⟨g1, g2⟩ := ssh_get (L := L) hh hg ht
        have hf : sfind T o (zix j) = none := Option.isNone_iff_eq_none.mp (hT _ j o r rfl)
        simp only [zs25, sC, List.map_cons, sval]
        have g1 : zget (sH E L T h).1 o = some (t, n) := g1
        rw [g1]
        dsimp only
        rw [hq]
        dsimp only [cond_true]
        show some (Sum.inl (pc + len, slo E lo, r.map (sval E), ((sH E L T h).1, zup (sov E T h.2.1) o (zix j) x, h.2.2.1, h.2.2.2))) = _
        rw [← sov_up hf g2]
        rfl
    · cases h0
  · cases h0
theorem zb_26 (hh : sHd h) (h0 : zs26 len (pc, lo, st, h) = some o) : zs26 len (sC E L T (pc, lo, st, h)) = some (sO E L T o) := by
  simp only [zs26] at h0
  split at h0
  · rename_i x j o r
    split at h0
    · rename_i t n hg
      cases hq : (Nat.beq t 1 && Nat.blt (zix j) n)
      · simp [hq] at h0
      · simp only [hq, cond_true] at h0
        cases h0
        have ht : t ≠ 9 := by
          intro q
          subst q
          cases hq
        obtain ⟨g1, g2⟩ := ssh_get (L := L) hh hg ht
        simp only [zs26, sC, List.map_cons, sval]
        have g1 : zget (sH E L T h).1 o = some (t, n) := g1
        rw [g1]
        dsimp only
        rw [hq]
        rfl
    · cases h0
  · cases h0
theorem zb_27 (hh : sHd h) (h0 : zs27 len (pc, lo, st, h) = some o) : zs27 len (sC E L T (pc, lo, st, h)) = some (sO E L T o) := by
  simp only [zs27] at h0
  split at h0
  · rename_i v j o r
    split at h0
    · rename_i t n t2 n2 hg hv
      cases hq : (((Nat.ble 2 t && Nat.ble t 4) && Nat.beq t2 (10 + zcomp t)) && Nat.blt (zix j) n)
      · simp [hq] at h0
      · simp only [hq, cond_true] at h0
        cases h0
        have ht : t ≠ 9 := by
          intro q
          subst q
          cases hq
        have ht2 : t2 ≠ 9 := by
          rw [Bool.and_eq_true, Bool.and_eq_true] at hq
          have := Nat.eq_of_beq_eq_true hq.1.2
          omega
        obtain ⟨g1, g2⟩ := ssh_get (L := L) hh hg ht
        obtain ⟨g3, g4⟩ := ssh_get (L := L) hh hv ht2
        simp only [zs27, sC, List.map_cons, sval]
        have g1 : zget (sH E L T h).1 o = some (t, n) := g1
        have g3 : zget (sH E L T h).1 v = some (t2, n2) := g3
        rw [g1, g3]
        dsimp only
        rw [hq]
        rfl
    · cases h0
  · cases h0
theorem zb_28 (hh : sHd h) (h0 : zs28 len (pc, lo, st, h) = some o) : zs28 len (sC E L T (pc, lo, st, h)) = some (sO E L T o) := by
  simp only [zs28] at h0
  split at h0
  · rename_i o r
    split at h0
    · rename_i t n hg
      cases hq : Nat.ble t 5
      · simp [hq] at h0
      · simp only [hq, cond_true] at h0
        cases h0
        have ht : t ≠ 9 := by
          intro q
          subst q
          cases hq
        obtain ⟨g1, g2⟩ := ssh_get (L := L) hh hg ht
        simp only [zs28, sC, List.map_cons, sval]
        have g1 : zget (sH E L T h).1 o = some (t, n) := g1
        rw [g1]
        dsimp only
        rw [hq]
        rfl
    · cases h0
  · cases h0
theorem zb_29 (hh : sHd h) (hT : T = []) (h0 : zs29 len a b (pc, lo, st, h) = some o) : zs29 len a b (sC E L T (pc, lo, st, h)) = some (sO E L T o) := by
  cases h0
  subst hT
  show some (Sum.inl (pc + len, slo E lo, .ref (ssh L h.1).length :: st.map (sval E), znew (sH E L [] h) (10 + a) b)) = _
  rw [ssh_len hh, znew_s hh]
  rfl
theorem zb_30 (hh : sHd h) (hT : T = []) (h0 : zs30 len a (pc, lo, st, h) = some o) : zs30 len a (sC E L T (pc, lo, st, h)) = some (sO E L T o) := by
  subst hT
  simp only [zs30] at h0
  split at h0
  · rename_i n r
    cases hq : (Nat.blt (zix n) 100000 && Nat.ble a 4)
    · simp [hq] at h0
    · simp only [hq, cond_true] at h0
      cases h0
      simp only [zs30, sC, List.map_cons, sval]
      rw [hq]
      show some (Sum.inl (pc + len, slo E lo, .ref (ssh L h.1).length :: r.map (sval E), znew (sH E L [] h) a (zix n))) = _
      rw [ssh_len hh, znew_s hh]
      rfl
  · cases h0
theorem zb_31 (h0 : zs31 len b (pc, lo, st, h) = some o) : zs31 len b (sC E L T (pc, lo, st, h)) = some (sO E L T o) := by
  match b, h0 with
  | 0, h0 =>
    simp only [zs31] at h0
    split at h0
    · rename_i y x r _
      cases hq : Nat.ble (zcat r) 8
      · simp [hq] at h0
      · simp only [hq, cond_true] at h0
        cases h0
        show (bif Nat.ble (zcat (r.map (sval E))) 8 then _ else none) = _
        rw [zcat_s, hq]
        rfl
    · cases h0
  | 1, h0 =>
    simp only [zs31] at h0
    split at h0
    · rename_i y x r _
      cases hq : Nat.ble (zcat r) 8
      · simp [hq] at h0
      · simp only [hq, cond_true] at h0
        cases h0
        show (bif Nat.ble (zcat (r.map (sval E))) 8 then _ else none) = _
        rw [zcat_s, hq]
        rfl
    · cases h0
  | _ + 2, h0 =>
    simp only [zs31] at h0
    split at h0
    · rename_i x r _
      cases hq : Nat.ble (zcat r) 8
      · simp [hq] at h0
      · simp only [hq, cond_true] at h0
        cases h0
        show (bif Nat.ble (zcat (r.map (sval E))) 8 then _ else none) = _
        rw [zcat_s, hq]
        rfl
    · cases h0
theorem zb_32 (hh : sHd h) (h0 : zs32 len a b k3 ci (pc, lo, st, h) = some o) : zs32 len a b k3 ci (sC E L T (pc, lo, st, h)) = some (sO E L T o) := by
  obtain ⟨as, y, e⟩ := zg_32 h0
  subst e
  by_cases hk : k3 = 1
  · subst hk
    obtain ⟨r', ht, h8, rfl, -⟩ := zs32_st h0
    have ht2 := ztake_s E b [] st
    rw [ht] at ht2
    have ht2 : ztake b [] (st.map (sval E)) = some (as.map (sval E), r'.map (sval E)) := ht2
    simp only [zs32, sC]
    rw [ht2]
    dsimp only
    rw [zcat_s, show Nat.ble (zcat r') 8 = true from Nat.ble_eq.mpr h8]
    rfl
  · obtain ⟨o, as1, n, r', rfl, hg, ht, h8, rfl, -⟩ := zs32_rf hk h0
    have ht2 := ztake_s E b [] st
    rw [ht] at ht2
    have ht2 : ztake b [] (st.map (sval E)) = some (.ref o :: as1.map (sval E), r'.map (sval E)) := ht2
    obtain ⟨g1, g2⟩ := ssh_get (L := L) hh hg (by omega)
    have g1 : zget (sH E L T h).1 o = some (10 + ci, n) := g1
    simp only [zs32, sC]
    rw [ht2]
    dsimp only
    rw [zcat_s, show Nat.ble (zcat r') 8 = true from Nat.ble_eq.mpr h8]
    dsimp only [cond_true]
    rw [g1]
    dsimp only
    rw [Nat.beq_refl]
    rfl
theorem zb_33 (h0 : zs33 len (pc, lo, st, h) = some o) : zs33 len (sC E L T (pc, lo, st, h)) = some (sO E L T o) := by
  simp only [zs33] at h0
  split at h0
  · rename_i o r
    cases hq : Nat.ble (zcat r) 8
    · simp [hq] at h0
    · simp only [hq, cond_true] at h0
      cases h0
      show (bif Nat.ble (zcat (r.map (sval E))) 8 then _ else none) = _
      rw [zcat_s, hq]
      rfl
  · cases h0
theorem zb_34 (hh : sHd h) (hT : T = []) (h0 : zs34 len (pc, lo, st, h) = some o) : zs34 len (sC E L T (pc, lo, st, h)) = some (sO E L T o) := by
  subst hT
  simp only [zs34] at h0
  split at h0
  · rename_i n dp o1 sp o0 r
    split at h0
    · rename_i t0 n0 t1 n1 g0 g1
      cases hq : ((((Nat.beq t0 t1 && Nat.blt (zix n) 100000) && (Nat.blt (zix sp) 100000 && Nat.blt (zix dp) 100000)) && (Nat.ble (zix sp + zix n) n0 && Nat.ble (zix dp + zix n) n1)) && Nat.ble (zcat r) 8)
      · simp [hq] at h0
      · simp only [hq, cond_true] at h0
        have et : t0 = t1 := by
          rw [Bool.and_eq_true, Bool.and_eq_true, Bool.and_eq_true, Bool.and_eq_true] at hq
          exact Nat.eq_of_beq_eq_true hq.1.1.1.1
        split at h0
        · cases h0
          subst et
          obtain ⟨f1, f2⟩ := ssh_get (L := L) hh g0 (by decide)
          obtain ⟨f3, f4⟩ := ssh_get (L := L) hh g1 (by decide)
          have f1 : zget (sH E L [] h).1 o0 = some (0, n0) := f1
          have f3 : zget (sH E L [] h).1 o1 = some (0, n1) := f3
          simp only [zs34, sC, List.map_cons, sval]
          rw [f1, f3]
          dsimp only
          rw [zcat_s, hq]
          dsimp only [cond_true]
          show some (Sum.inl (pc + len, slo E lo, r.map (sval E), ((sH E L [] h).1, zrow (sov E [] h.2.1) o1 (zcpy (sov E [] h.2.1 o0) (sov E [] h.2.1 o1) (zix sp) (zix dp) (zix n)), h.2.2.1, h.2.2.2))) = _
          rw [sov_nil f2, sov_nil f4, ← sov_row f4]
          rfl
        · cases h0
          subst et
          obtain ⟨f1, f2⟩ := ssh_get (L := L) hh g0 (by decide)
          obtain ⟨f3, f4⟩ := ssh_get (L := L) hh g1 (by decide)
          have f1 : zget (sH E L [] h).1 o0 = some (1, n0) := f1
          have f3 : zget (sH E L [] h).1 o1 = some (1, n1) := f3
          simp only [zs34, sC, List.map_cons, sval]
          rw [f1, f3]
          dsimp only
          rw [zcat_s, hq]
          rfl
        · cases h0
    · cases h0
  · cases h0
theorem zb_36 (h0 : zs36  (pc, lo, st, h) = some o) : zs36  (sC E L T (pc, lo, st, h)) = some (sO E L T o) := by
  simp only [zs36, zgo, Bool.cond_eq_ite] at h0
  repeat' split at h0
  all_goals first
    | (cases h0; done)
    | (cases h0; rfl)
theorem zb_37 (h0 : zs37  (pc, lo, st, h) = some o) : zs37  (sC E L T (pc, lo, st, h)) = some (sO E L T o) := by
  simp only [zs37, zgo, Bool.cond_eq_ite] at h0
  repeat' split at h0
  all_goals first
    | (cases h0; done)
    | (cases h0; rfl)
theorem zb_38 (h0 : zs38  (pc, lo, st, h) = some o) : zs38  (sC E L T (pc, lo, st, h)) = some (sO E L T o) := by
  simp only [zs38, zgo, Bool.cond_eq_ite] at h0
  repeat' split at h0
  all_goals first
    | (cases h0; done)
    | (cases h0; rfl)
theorem zb_44 (h0 : zs44 len (pc, lo, st, h) = some o) : zs44 len (sC E L T (pc, lo, st, h)) = some (sO E L T o) := by
  simp only [zs44] at h0
  split at h0
  · rename_i v r
    cases hz : zlong v
    · simp [hz] at h0
    · simp only [hz, cond_true] at h0
      cases h0
      simp only [zs44, sC, List.map_cons, sval_long, hz, cond_true]
      rfl
  · cases h0
/-- an instruction's own value is known -/
def okV (E : Nat → Int32) (e : zI) : Prop := sval E e.2.2.2.2.2.1 = e.2.2.2.2.2.1
theorem zsub {op : Nat} (hh : sHd h) (hV : sval E v = v) (hT : okT T (op, len, a, b, k3, v, sw) st = true) (h0 : zstep (op, len, a, b, k3, v, sw) (pc, lo, st, h) = some o) : zstep (op, len, a, b, k3, v, sw) (sC E L T (pc, lo, st, h)) = some (sO E L T o) := by
  match op, hT, h0 with
  | 0, hT, h0 => exact zb_0 hV h0
  | 1, hT, h0 => exact zb_1 h0
  | 2, hT, h0 => exact zb_2 h0
  | 3, hT, h0 => exact zb_3 h0
  | 4, hT, h0 => exact zb_4 h0
  | 5, hT, h0 => exact zb_5 h0
  | 6, hT, h0 => exact zb_6 h0
  | 7, hT, h0 => exact zb_7 h0
  | 8, hT, h0 => exact zb_8 h0
  | 9, hT, h0 => exact zb_9 h0
  | 10, hT, h0 => exact zb_10 h0
  | 11, hT, h0 => exact zb_11 h0
  | 12, hT, h0 => exact zb_12 h0
  | 13, hT, h0 => exact zb_13 h0
  | 14, hT, h0 => exact zb_14 h0
  | 15, hT, h0 => exact zb_15 h0
  | 16, hT, h0 => exact zb_16 h0
  | 17, hT, h0 => exact zb_17 h0
  | 18, hT, h0 => exact zb_18 h0
  | 19, hT, h0 => exact zb_19 h0
  | 20, hT, h0 => exact zb_20 hh (fun o r e => by subst e; exact hT) h0
  | 21, hT, h0 => exact zb_21 hh (fun v o r e => by subst e; exact hT) h0
  | 22, hT, h0 => exact zb_22 hh (fun i o r e => by subst e; exact hT) h0
  | 23, hT, h0 => exact zb_23 hh h0
  | 24, hT, h0 => exact zb_24 hh h0
  | 25, hT, h0 => exact zb_25 hh (fun v i o r e => by subst e; exact hT) h0
  | 26, hT, h0 => exact zb_26 hh h0
  | 27, hT, h0 => exact zb_27 hh h0
  | 28, hT, h0 => exact zb_28 hh h0
  | 29, hT, h0 => exact zb_29 hh (List.isEmpty_iff.mp hT) h0
  | 30, hT, h0 => exact zb_30 hh (List.isEmpty_iff.mp hT) h0
  | 31, hT, h0 => exact zb_31 h0
  | 32, hT, h0 => exact zb_32 hh h0
  | 33, hT, h0 => exact zb_33 h0
  | 34, hT, h0 => exact zb_34 hh (List.isEmpty_iff.mp hT) h0
  | 35, hT, h0 => exact zb_35 h0
  | 36, hT, h0 => exact zb_36 h0
  | 37, hT, h0 => exact zb_37 h0
  | 38, hT, h0 => exact zb_38 h0
  | 39, hT, h0 => exact zb_39 h0
  | 40, hT, h0 => exact zb_40 h0
  | 41, hT, h0 => exact zb_41 h0
  | 42, hT, h0 => exact zb_42 h0
  | 43, hT, h0 => exact zb_43 h0
  | 44, hT, h0 => exact zb_44 h0
  | _ + 45, hT, h0 => cases h0
end SB
end
section
/-! STEPS THAT LOOK AT UNKNOWN NUMBERS: by bounds; where the bounds don't tell, they are cut. -/
def zo (x : Int32) : Nat := (x.toInt + 2147483648).toNat
def zof (n : Nat) : Int32 := Int32.ofInt ((n : Int) - 2147483648)
theorem zo_int (x : Int32) : (zo x : Int) = x.toInt + 2147483648 := by
  have h1 := Int32.le_toInt x
  unfold zo
  omega
theorem zo_max (x : Int32) : zo x ≤ 4294967295 := by
  have h1 := Int32.toInt_lt x
  have h2 := zo_int x
  omega
theorem zof_zo (x : Int32) : zof (zo x) = x := by
  unfold zof
  rw [zo_int, Int.add_sub_cancel, Int32.ofInt_toInt]
theorem zo_lt {x y : Int32} : zo x < zo y ↔ x < y := by
  rw [Int32.lt_iff_toInt_lt]
  have h1 := zo_int x
  have h2 := zo_int y
  omega
theorem zo_eq {x y : Int32} (h : zo x = zo y) : x = y := by rw [← zof_zo x, h, zof_zo]
abbrev sI : Type := List (Nat × Nat)
def siv (cs : sI) (k : Nat) : Nat × Nat := match zget cs k with
  | some q => q
  | none => (0, 4294967295)
def sSat (E : Nat → Int32) (cs : sI) : Prop := ∀ k, (siv cs k).1 ≤ zo (E k) ∧ zo (E k) ≤ (siv cs k).2
def sEnv (E : Nat → Int32) : Prop := E 6 = E 0 &&& 63 ∧ ∀ k, k < 6 → E (8 + k) = E k / 10 ∧ E (16 + k) = E k - E k / 10 * 10 ∧ E (24 + k) = E k / 100 ∧ E (32 + k) = E k - E k / 100 * 100
def snv (cs : sI) : Value → Value
  | .retAddr k => bif Nat.beq (siv cs k).1 (siv cs k).2 then .int (zof (siv cs k).1) else .retAddr k
  | .double w => bif Nat.blt w.toNat 64 && Nat.beq (siv cs w.toNat).1 (siv cs w.toNat).2 then .long (zof (siv cs w.toNat).1).toInt64 else .double w
  | v => v
theorem sone {E : Nat → Int32} {cs : sI} (hs : sSat E cs) {k : Nat} (h : Nat.beq (siv cs k).1 (siv cs k).2 = true) : zof (siv cs k).1 = E k := by
  have e := Nat.eq_of_beq_eq_true h
  have q := hs k
  rw [← zof_zo (E k)]
  congr 1
  omega
theorem sL_lo {E : Nat → Int32} {n : Nat} (h : n < 64) : sL E n = (E n).toInt64 := by
  unfold sL
  have e1 : Nat.beq n 64 = false := by
    cases q : Nat.beq n 64
    · rfl
    · have := Nat.eq_of_beq_eq_true q
      omega
  have e2 : Nat.beq n 65 = false := by
    cases q : Nat.beq n 65
    · rfl
    · have := Nat.eq_of_beq_eq_true q
      omega
  have e3 : Nat.beq n 66 = false := by
    cases q : Nat.beq n 66
    · rfl
    · have := Nat.eq_of_beq_eq_true q
      omega
  rw [e1, e2, e3]
  rfl
theorem snv_ok {E : Nat → Int32} {cs : sI} (hs : sSat E cs) (v : Value) : sval E (snv cs v) = sval E v := by
  cases v with
  | retAddr k =>
    simp only [snv]
    cases hb : Nat.beq (siv cs k).1 (siv cs k).2
    · rfl
    · show Value.int _ = .int _
      rw [sone hs hb]
  | double w =>
    simp only [snv]
    cases hb : (Nat.blt w.toNat 64 && Nat.beq (siv cs w.toNat).1 (siv cs w.toNat).2)
    · rfl
    · rw [Bool.and_eq_true] at hb
      show Value.long _ = .long _
      rw [sone hs hb.2, sL_lo (Nat.ble_eq.mp hb.1)]
  | _ => rfl
def snst (cs : sI) : List Value → List Value
  | [] => []
  | [a] => [snv cs a]
  | [a, b] => [snv cs a, snv cs b]
  | a :: b :: c :: r => snv cs a :: snv cs b :: snv cs c :: r
theorem snst_ok {E : Nat → Int32} {cs : sI} (hs : sSat E cs) (st : List Value) : (snst cs st).map (sval E) = st.map (sval E) := by
  match st with
  | [] => rfl
  | [a] => simp only [snst, List.map_cons, List.map_nil, snv_ok hs]
  | [a, b] => simp only [snst, List.map_cons, List.map_nil, snv_ok hs]
  | a :: b :: c :: r => simp only [snst, List.map_cons, snv_ok hs]
/-- how an unknown number stands to a known one: 0 below, 1 like, 2 above; or where to cut -/
def sc1 (iv : Nat × Nat) (k c : Nat) : Nat ⊕ (Nat × Nat) :=
  bif Nat.blt iv.2 c then .inl 0 else bif Nat.blt c iv.1 then .inl 2 else bif Nat.beq iv.1 iv.2 then .inl 1 else bif Nat.blt iv.1 c then .inr (k, c) else .inr (k, c + 1)
def ssw : Nat ⊕ (Nat × Nat) → Nat ⊕ (Nat × Nat)
  | .inl n => .inl (2 - n)
  | q => q
def smk (cs : sI) : Value → Option (Nat × Nat)
  | .retAddr k => bif Nat.blt (siv cs k).1 (siv cs k).2 && Nat.ble ((siv cs k).2 - (siv cs k).1) 300 then some (k, ((siv cs k).1 + (siv cs k).2) / 2 + 1) else none
  | _ => none
def scmp (cs : sI) : Value → Value → Option (Nat ⊕ (Nat × Nat))
  | .retAddr k, .int c => some (sc1 (siv cs k) k (zo c))
  | .int c, .retAddr k => some (ssw (sc1 (siv cs k) k (zo c)))
  | .retAddr k, .retAddr j => bif Nat.blt (siv cs k).2 (siv cs j).1 then some (.inl 0) else bif Nat.blt (siv cs j).2 (siv cs k).1 then some (.inl 2) else (match smk cs (.retAddr k) with
    | some q => some (.inr q)
    | none => (match smk cs (.retAddr j) with
      | some q => some (.inr q)
      | none => none))
  | _, _ => none
def sgn (x y : Int32) (n : Nat) : Prop := (n = 0 ∧ x < y) ∨ (n = 1 ∧ x = y) ∨ (n = 2 ∧ y < x)
theorem sc1_ok {iv : Nat × Nat} {k n : Nat} {x y : Int32} (h1 : iv.1 ≤ zo x ∧ zo x ≤ iv.2) (h : sc1 iv k (zo y) = .inl n) : sgn x y n := by
  unfold sc1 at h
  cases b1 : Nat.blt iv.2 (zo y)
  · rw [b1] at h
    dsimp only [cond_false] at h
    have b1' : ¬ iv.2 < zo y := fun q => by rw [show Nat.blt iv.2 (zo y) = true from Nat.ble_eq.mpr q] at b1; cases b1
    cases b2 : Nat.blt (zo y) iv.1
    · rw [b2] at h
      dsimp only [cond_false] at h
      have b2' : ¬ zo y < iv.1 := fun q => by rw [show Nat.blt (zo y) iv.1 = true from Nat.ble_eq.mpr q] at b2; cases b2
      cases b3 : Nat.beq iv.1 iv.2
      · rw [b3] at h
        dsimp only [cond_false] at h
        cases b4 : Nat.blt iv.1 (zo y)
        · rw [b4] at h; cases h
        · rw [b4] at h; cases h
      · rw [b3] at h
        cases h
        have e := Nat.eq_of_beq_eq_true b3
        exact Or.inr (Or.inl ⟨rfl, zo_eq (by omega)⟩)
    · rw [b2] at h
      cases h
      have b2' : zo y < iv.1 := Nat.ble_eq.mp b2
      exact Or.inr (Or.inr ⟨rfl, zo_lt.mp (by omega)⟩)
  · rw [b1] at h
    cases h
    have b1' : iv.2 < zo y := Nat.ble_eq.mp b1
    exact Or.inl ⟨rfl, zo_lt.mp (by omega)⟩
theorem scmp_ok {E : Nat → Int32} {cs : sI} (hs : sSat E cs) {v w : Value} {n : Nat} (h : scmp cs v w = some (.inl n)) : ∃ x y, sval E v = .int x ∧ sval E w = .int y ∧ sgn x y n := by
  unfold scmp at h
  split at h
  · rename_i k c
    exact ⟨E k, c, rfl, rfl, sc1_ok (hs k) (Option.some.inj h)⟩
  · rename_i c k
    refine ⟨c, E k, rfl, rfl, ?_⟩
    have h := Option.some.inj h
    cases hq : sc1 (siv cs k) k (zo c) with
    | inr q => rw [hq] at h; cases h
    | inl z =>
      rw [hq] at h
      cases h
      rcases sc1_ok (hs k) hq with ⟨rfl, g⟩ | ⟨rfl, g⟩ | ⟨rfl, g⟩
      · exact Or.inr (Or.inr ⟨rfl, g⟩)
      · exact Or.inr (Or.inl ⟨rfl, g.symm⟩)
      · exact Or.inl ⟨rfl, g⟩
  · rename_i k j
    refine ⟨E k, E j, rfl, rfl, ?_⟩
    have q1 := hs k
    have q2 := hs j
    cases b1 : Nat.blt (siv cs k).2 (siv cs j).1
    · rw [b1] at h
      dsimp only [cond_false] at h
      cases b2 : Nat.blt (siv cs j).2 (siv cs k).1
      · rw [b2] at h
        dsimp only [cond_false] at h
        split at h
        · cases h
        · split at h
          · cases h
          · cases h
      · rw [b2] at h
        cases h
        have b2' : (siv cs j).2 < (siv cs k).1 := Nat.ble_eq.mp b2
        exact Or.inr (Or.inr ⟨rfl, zo_lt.mp (by omega)⟩)
    · rw [b1] at h
      cases h
      have b1' : (siv cs k).2 < (siv cs j).1 := Nat.ble_eq.mp b1
      exact Or.inl ⟨rfl, zo_lt.mp (by omega)⟩
  · cases h
def szif : Nat → Nat → Nat → Nat → Nat
  | 0, s, t, n => bif Nat.beq s 1 then t else n
  | 1, s, t, n => bif Nat.beq s 1 then n else t
  | 2, s, t, n => bif Nat.beq s 0 then t else n
  | 3, s, t, n => bif Nat.beq s 0 then n else t
  | 4, s, t, n => bif Nat.beq s 2 then t else n
  | _, s, t, n => bif Nat.beq s 2 then n else t
theorem sgn_facts {x y : Int32} {s : Nat} (h : sgn x y s) : (x = y ↔ s = 1) ∧ (x < y ↔ s = 0) ∧ (y < x ↔ s = 2) := by
  rw [← zo_lt, ← zo_lt]
  have e : x = y ↔ zo x = zo y := ⟨fun q => by rw [q], zo_eq⟩
  rw [e]
  rcases h with ⟨rfl, g⟩ | ⟨rfl, g⟩ | ⟨rfl, g⟩
  · have := zo_lt.mpr g
    omega
  · subst g
    omega
  · have := zo_lt.mpr g
    omega
theorem sbif {c : Prop} {inst : Decidable c} {s k t n : Nat} (h : c ↔ s = k) : (if c then t else n) = bif Nat.beq s k then t else n := by
  by_cases q : c
  · rw [if_pos q, h.mp q, Nat.beq_refl]
    rfl
  · rw [if_neg q]
    cases hb : Nat.beq s k
    · rfl
    · exact absurd (h.mpr (Nat.eq_of_beq_eq_true hb)) q
theorem szif_ok {x y : Int32} {s b t n : Nat} (h : sgn x y s) : zicmp b x y t n = szif b s t n := by
  obtain ⟨g1, g2, g3⟩ := sgn_facts h
  match b with
  | 0 => exact sbif g1
  | 1 => exact sbif g1
  | 2 => exact sbif g2
  | 3 => exact sbif g2
  | 4 => exact sbif g3
  | _ + 5 => exact sbif g3
theorem zif_icmp (b : Nat) (x : Int32) (t n : Nat) : zif b x t n = zicmp b x 0 t n := by
  match b with
  | 0 => rfl
  | 1 => rfl
  | 2 => rfl
  | 3 => rfl
  | 4 => rfl
  | _ + 5 => rfl
def slgc (s : Nat) : Int32 := bif Nat.beq s 0 then -1 else bif Nat.beq s 1 then 0 else 1
theorem slgc_ok {x y : Int32} {s : Nat} (h : sgn x y s) : lg_cmp x.toInt64 y.toInt64 = slgc s := by
  have l1 : ∀ a b : Int32, a.toInt64 < b.toInt64 ↔ a < b := fun a b => by
    rw [Int64.lt_iff_toInt_lt, Int32.lt_iff_toInt_lt, Int32.toInt_toInt64, Int32.toInt_toInt64]
  unfold lg_cmp slgc
  rcases h with ⟨rfl, g⟩ | ⟨rfl, rfl⟩ | ⟨rfl, g⟩
  · have n1 : ¬ x.toInt64 > y.toInt64 := fun q => by
      have q1 := zo_lt.mpr ((l1 _ _).mp q)
      have q2 := zo_lt.mpr g
      omega
    have n2 : ¬ x.toInt64 = y.toInt64 := fun q => by
      have q1 := (l1 x y).mpr g
      rw [q] at q1
      exact Int64.lt_irrefl q1
    rw [if_neg n1, if_neg n2]
    rfl
  · have n1 : ¬ x.toInt64 > x.toInt64 := fun q => Int64.lt_irrefl q
    rw [if_neg n1, if_pos rfl]
    rfl
  · rw [if_pos ((l1 y x).mpr g)]
    rfl
def slv : Value → Option Value
  | .double w => bif Nat.blt w.toNat 64 then some (.retAddr w.toNat) else none
  | .long c => if c.toInt32.toInt64 = c then some (.int c.toInt32) else none
  | _ => none
theorem slv_ok {E : Nat → Int32} {v u : Value} {x : Int32} (h : slv v = some u) (hx : sval E u = .int x) : sval E v = .long x.toInt64 := by
  unfold slv at h
  split at h
  · rename_i w
    cases hb : Nat.blt w.toNat 64
    · rw [hb] at h; cases h
    · rw [hb] at h
      cases h
      show Value.long (sL E w.toNat) = _
      rw [sL_lo (Nat.ble_eq.mp hb)]
      cases hx
      rfl
  · split at h
    · rename_i c hc
      cases h
      cases hx
      rw [hc]
      rfl
    · cases h
  · cases h
/-- the first key of a switch within bounds -/
def sswk (iv : Nat × Nat) : List (Int32 × Nat) → Option Nat
  | [] => none
  | (k, _) :: r => bif Nat.ble iv.1 (zo k) && Nat.ble (zo k) iv.2 then some (zo k) else sswk iv r
theorem sswk_ok {iv : Nat × Nat} {x : Int32} (hx : iv.1 ≤ zo x ∧ zo x ≤ iv.2) {d : Nat} : ∀ {sw : List (Int32 × Nat)}, sswk iv sw = none → zsw x sw d = d
  | [], _ => rfl
  | (k, t) :: r, h => by
    unfold sswk at h
    cases hb : (Nat.ble iv.1 (zo k) && Nat.ble (zo k) iv.2)
    · rw [hb] at h
      have ne : ¬ x = k := fun q => by
        subst q
        rw [Nat.ble_eq.mpr hx.1, Nat.ble_eq.mpr hx.2] at hb
        cases hb
      unfold zsw
      rw [if_neg ne]
      exact sswk_ok hx h
    · rw [hb] at h; cases h
end
section
/-! THE EXECUTOR OVER UNKNOWN NUMBERS, and that it speaks the truth. -/
abbrev sR : Type := (Nat × Nat) ⊕ (sT × zO)
def sgo (T : sT) (y : zC) : Option sR := some (.inr (T, .inl y))
def sq1 (len a : Nat) (T : sT) : zC → Option sR := fun (pc, lo, st, h) => match zget lo a with
  | some (some (.retAddr k)) => sgo T (pc + len, lo, .retAddr k :: st, h)
  | _ => none
def sq2 (len a : Nat) (T : sT) : zC → Option sR := fun (pc, lo, st, h) => match zget lo a with
  | some (some (.double w)) => sgo T (pc + len, lo, .double w :: st, h)
  | _ => none
def sq4 (len a : Nat) (T : sT) : zC → Option sR := fun (pc, lo, st, h) => match st with
  | .retAddr k :: r => sgo T (pc + len, zst1 lo a (.retAddr k), r, h)
  | _ => none
def sq5 (len a : Nat) (T : sT) : zC → Option sR := fun (pc, lo, st, h) => match st with
  | .double w :: r => sgo T (pc + len, zst2 lo a (.double w), r, h)
  | _ => none
def sq7 (len b : Nat) (T : sT) : zC → Option sR := fun (pc, lo, st, h) => match st with
  | .int y :: .retAddr k :: r => if y = 63 ∧ k = 0 ∧ b = 3 then sgo T (pc + len, lo, .retAddr 6 :: r, h) else none
  | _ => none
def sq8 (len b : Nat) (T : sT) : zC → Option sR := fun (pc, lo, st, h) => match st with
  | .int y :: .retAddr k :: r => if k < 6 ∧ y = 10 ∧ b = 0 then sgo T (pc + len, lo, .retAddr (8 + k) :: r, h) else
    if k < 6 ∧ y = 10 ∧ b = 1 then sgo T (pc + len, lo, .retAddr (16 + k) :: r, h) else
    if k < 6 ∧ y = 100 ∧ b = 0 then sgo T (pc + len, lo, .retAddr (24 + k) :: r, h) else
    if k < 6 ∧ y = 100 ∧ b = 1 then sgo T (pc + len, lo, .retAddr (32 + k) :: r, h) else none
  | _ => none
def sq10 (len : Nat) (T : sT) : zC → Option sR := fun (pc, lo, st, h) => match st with
  | .retAddr k :: r => if k < 64 then sgo T (pc + len, lo, .double (UInt64.ofNat k) :: r, h) else none
  | _ => none
def sq11 (len : Nat) (T : sT) : zC → Option sR := fun (pc, lo, st, h) => match st with
  | .double w :: r => if w.toNat < 64 then sgo T (pc + len, lo, .retAddr w.toNat :: r, h) else none
  | _ => none
def sq12 (len b : Nat) (T : sT) : zC → Option sR := fun (pc, lo, st, h) => match st with
  | .long y :: .double w :: r => if y = 4294967295 ∧ w = 4 ∧ b = 0 then sgo T (pc + len, lo, .double 65 :: r, h) else none
  | .double y :: .double x :: r => if x = 64 ∧ y = 65 ∧ b = 1 then sgo T (pc + len, lo, .double 66 :: r, h) else none
  | _ => none
def sq13 (len : Nat) (T : sT) : zC → Option sR := fun (pc, lo, st, h) => match st with
  | .int y :: .double w :: r => if y = 32 ∧ w = 3 then sgo T (pc + len, lo, .double 64 :: r, h) else none
  | _ => none
def sq14 (len : Nat) (cs : sI) (T : sT) : zC → Option sR := fun (pc, lo, st, h) => match st with
  | vy :: vx :: r => (match slv vx, slv vy with
    | some x, some y => (match scmp cs x y with
      | some (.inl s) => sgo T (pc + len, lo, .int (slgc s) :: r, h)
      | some (.inr q) => some (.inl q)
      | none => none)
    | _, _ => none)
  | _ => none
def sq15 (len a b : Nat) (cs : sI) (T : sT) : zC → Option sR := fun (pc, lo, st, h) => match st with
  | vx :: r => (match scmp cs vx (.int 0) with
    | some (.inl s) => sgo T (szif b s a (pc + len), lo, r, h)
    | some (.inr q) => some (.inl q)
    | none => none)
  | _ => none
def sq16 (len a b : Nat) (cs : sI) (T : sT) : zC → Option sR := fun (pc, lo, st, h) => match st with
  | vy :: vx :: r => (match scmp cs vx vy with
    | some (.inl s) => sgo T (szif b s a (pc + len), lo, r, h)
    | some (.inr q) => some (.inl q)
    | none => none)
  | _ => none
def sq18 (a : Nat) (sw : List (Int32 × Nat)) (cs : sI) (T : sT) : zC → Option sR := fun (_, lo, st, h) => match st with
  | .retAddr k :: r => (match sswk (siv cs k) sw with
    | none => sgo T (a, lo, r, h)
    | some z => some (.inl (k, bif Nat.blt (siv cs k).1 z then z else z + 1)))
  | _ => none
def sq21 (len a b c : Nat) (T : sT) : zC → Option sR := fun (pc, lo, st, h) => match st with
  | .retAddr k :: .ref o :: r => (match zget h.1 o with
    | some (t, n) => bif (Nat.beq t (10 + a) && Nat.blt b n) && Nat.beq c 0 then sgo ((o, b, k) :: T) (pc + len, lo, r, h) else none
    | _ => none)
  | _ => none
def sq22 (L len : Nat) (T : sT) : zC → Option sR := fun (pc, lo, st, h) => match st with
  | .int i :: .ref o :: r => bif Nat.beq o 0 && (Nat.blt (zix i) L && (sfind T 0 (zix i)).isNone) then sgo T (pc + len, lo, .retAddr (zix i) :: r, h) else none
  | _ => none
def sq25 (len : Nat) (T : sT) : zC → Option sR := fun (pc, lo, st, h) => match st with
  | .retAddr k :: .int i :: .ref o :: r => (match zget h.1 o with
    | some (t, n) => bif Nat.beq t 0 && Nat.blt (zix i) n then sgo ((o, zix i, k) :: T) (pc + len, lo, r, h) else none
    | _ => none)
  | _ => none
def sq28 (L len : Nat) (T : sT) : zC → Option sR := fun (pc, lo, st, h) => match st with
  | .ref o :: r => bif Nat.beq o 0 then sgo T (pc + len, lo, .int (Int32.ofNat L) :: r, h) else none
  | _ => none
def sq35 (c : Nat) (T : sT) : zC → Option sR := fun (_, _, st, _) => match st with
  | [.retAddr k] => bif Nat.beq c 0 then some (.inr (T, .inr (.inr (some (.retAddr k))))) else none
  | _ => none
def sq36 (T : sT) : zC → Option sR := fun (_, _, st, _) => match st with
  | [.double w] => some (.inr (T, .inr (.inr (some (.double w)))))
  | _ => none
def spec (L : Nat) (cs : sI) (T : sT) : zI → zC → Option sR := fun (op, len, a, b, c, _, sw) x => match op with
  | 1 => sq1 len a T x
  | 2 => sq2 len a T x
  | 4 => sq4 len a T x
  | 5 => sq5 len a T x
  | 7 => sq7 len b T x
  | 8 => sq8 len b T x
  | 10 => sq10 len T x
  | 11 => sq11 len T x
  | 12 => sq12 len b T x
  | 13 => sq13 len T x
  | 14 => sq14 len cs T x
  | 15 => sq15 len a b cs T x
  | 16 => sq16 len a b cs T x
  | 18 => sq18 a sw cs T x
  | 21 => sq21 len a b c T x
  | 22 => sq22 L len T x
  | 25 => sq25 len T x
  | 28 => sq28 L len T x
  | 35 => sq35 c T x
  | 36 => sq36 T x
  | _ => none
def ssp (cs : sI) : List Value → Option (Nat × Nat)
  | [] => none
  | [a] => smk cs a
  | [a, b] => (match smk cs a with
    | some q => some q
    | none => smk cs b)
  | a :: b :: c :: _ => (match smk cs a with
    | some q => some q
    | none => (match smk cs b with
      | some q => some q
      | none => smk cs c))
def sokv : Value → Bool
  | .retAddr _ => false
  | .double _ => false
  | _ => true
def sstep (L : Nat) (cs : sI) (T : sT) (e : zI) (x : zC) : Option sR := match spec L cs T e x with
  | some r => some r
  | none => bif okT T e x.2.2.1 && sokv e.2.2.2.2.2.1 then (match zstep e x with
    | some o => some (.inr (T, o))
    | none => (match ssp cs x.2.2.1 with
      | some q => some (.inl q)
      | none => none)) else none
def sfin (r : Option Value) (h : zH) : Bool := decide (r = some (.int 1)) && (Nat.ble h.1.length 500000 && Nat.ble (zslots h.1) 6000000)
def scut1 (cs : sI) (k c : Nat) : sI := zput cs k ((siv cs k).1, bif Nat.ble c (siv cs k).2 then c - 1 else (siv cs k).2)
def scut2 (cs : sI) (k c : Nat) : sI := zput cs k (bif Nat.ble (siv cs k).1 c then c else (siv cs k).1, (siv cs k).2)
def sx (L : Nat) : Nat → sI → sT → List zFr → zH → Bool
  | 0, _, _, _, _ => false
  | _ + 1, _, _, [], _ => false
  | n + 1, cs, T, (mi, pc, lo, st) :: fs, h => match zi mi pc with
    | none => false
    | some e => match sstep L cs T e (pc, lo, snst cs st, h) with
      | none => false
      | some (.inl (k, c)) => sx L n (scut1 cs k c) T ((mi, pc, lo, st) :: fs) h && sx L n (scut2 cs k c) T ((mi, pc, lo, st) :: fs) h
      | some (.inr (T', .inl y)) => sx L n cs T' ((mi, y.1, y.2.1, y.2.2.1) :: fs) y.2.2.2
      | some (.inr (T', .inr (.inr r))) => (match fs with
        | [] => sfin r h
        | (mi2, pc2, lo2, st2) :: fs2 => sx L n cs T' ((mi2, pc2, lo2, r.toList ++ st2) :: fs2) h)
      | some (.inr (T', .inr (.inl (a, as, y)))) => (Nat.blt fs.length 60 && Nat.beq (zpad (zL a) (zargs as)).length (zL a)) && sx L n cs T' ((a, 0, zpad (zL a) (zargs as), []) :: (mi, y.1, y.2.1, y.2.2.1) :: fs) h
section SX
variable {E : Nat → Int32} {L : Nat} {cs : sI} {T T' : sT} {pc len a b k3 : Nat} {v : Value} {sw : List (Int32 × Nat)} {lo : List (Option Value)} {st : List Value} {h : zH} {o : zO}
theorem sr_1 (h0 : sq1 len a T (pc, lo, st, h) = some (.inr (T', o))) : zs1 len a (sC E L T (pc, lo, st, h)) = some (sO E L T' o) := by
  simp only [sq1] at h0
  split at h0
  · rename_i k hg
    cases h0
    simp only [zs1, sC]
    rw [slo_get hg]
    rfl
  · cases h0
theorem sr_2 (h0 : sq2 len a T (pc, lo, st, h) = some (.inr (T', o))) : zs2 len a (sC E L T (pc, lo, st, h)) = some (sO E L T' o) := by
  simp only [sq2] at h0
  split at h0
  · rename_i k hg
    cases h0
    simp only [zs2, sC]
    rw [slo_get hg]
    rfl
  · cases h0
theorem sr_4 (h0 : sq4 len a T (pc, lo, st, h) = some (.inr (T', o))) : zs4 len a (sC E L T (pc, lo, st, h)) = some (sO E L T' o) := by
  simp only [sq4] at h0
  split at h0
  · rename_i k r
    cases h0
    show some (Sum.inl (pc + len, zst1 (slo E lo) a (sval E (.retAddr k)), r.map (sval E), sH E L T h)) = _
    rw [zst1_s]
    rfl
  · cases h0
theorem sr_5 (h0 : sq5 len a T (pc, lo, st, h) = some (.inr (T', o))) : zs5 len a (sC E L T (pc, lo, st, h)) = some (sO E L T' o) := by
  simp only [sq5] at h0
  split at h0
  · rename_i w r
    cases h0
    show some (Sum.inl (pc + len, zst2 (slo E lo) a (sval E (.double w)), r.map (sval E), sH E L T h)) = _
    rw [zst2_s]
    rfl
  · cases h0
theorem sr_7 (hE : sEnv E) (h0 : sq7 len b T (pc, lo, st, h) = some (.inr (T', o))) : zs7 len b (sC E L T (pc, lo, st, h)) = some (sO E L T' o) := by
  simp only [sq7] at h0
  split at h0
  · rename_i y k r
    split at h0
    · rename_i hq
      obtain ⟨rfl, rfl, rfl⟩ := hq
      cases h0
      show some (Sum.inl (pc + len, slo E lo, Value.int (E 0 &&& 63) :: r.map (sval E), sH E L T h)) = some (Sum.inl (pc + len, slo E lo, Value.int (E 6) :: r.map (sval E), sH E L T h))
      rw [hE.1]
    · cases h0
  · cases h0
theorem sr_8 (hE : sEnv E) (h0 : sq8 len b T (pc, lo, st, h) = some (.inr (T', o))) : zs8 len b (sC E L T (pc, lo, st, h)) = some (sO E L T' o) := by
  simp only [sq8] at h0
  split at h0
  · rename_i y k r
    have key0 : ∀ (z : Int32) (k' : Nat), ¬ z = 0 → E k' = E k / z → zs8 len 0 (sC E L T (pc, lo, .int z :: .retAddr k :: r, h)) = some (sO E L T (.inl (pc + len, lo, .retAddr k' :: r, h))) := by
      intro z k' hz he
      show (if z = 0 then none else some (Sum.inl (pc + len, slo E lo, Value.int (E k / z) :: r.map (sval E), sH E L T h))) = some (Sum.inl (pc + len, slo E lo, Value.int (E k') :: r.map (sval E), sH E L T h))
      rw [if_neg hz, he]
    have key1 : ∀ (z : Int32) (k' : Nat), ¬ z = 0 → E k' = E k - E k / z * z → zs8 len 1 (sC E L T (pc, lo, .int z :: .retAddr k :: r, h)) = some (sO E L T (.inl (pc + len, lo, .retAddr k' :: r, h))) := by
      intro z k' hz he
      show (if z = 0 then none else some (Sum.inl (pc + len, slo E lo, Value.int (E k - E k / z * z) :: r.map (sval E), sH E L T h))) = some (Sum.inl (pc + len, slo E lo, Value.int (E k') :: r.map (sval E), sH E L T h))
      rw [if_neg hz, he]
    split at h0
    · rename_i hq
      obtain ⟨hk, rfl, rfl⟩ := hq
      cases h0
      exact key0 10 _ (by decide) (hE.2 k hk).1
    · split at h0
      · rename_i hq
        obtain ⟨hk, rfl, rfl⟩ := hq
        cases h0
        exact key1 10 _ (by decide) (hE.2 k hk).2.1
      · split at h0
        · rename_i hq
          obtain ⟨hk, rfl, rfl⟩ := hq
          cases h0
          exact key0 100 _ (by decide) (hE.2 k hk).2.2.1
        · split at h0
          · rename_i hq
            obtain ⟨hk, rfl, rfl⟩ := hq
            cases h0
            exact key1 100 _ (by decide) (hE.2 k hk).2.2.2
          · cases h0
  · cases h0
theorem sr_10 (h0 : sq10 len T (pc, lo, st, h) = some (.inr (T', o))) : zs10 len (sC E L T (pc, lo, st, h)) = some (sO E L T' o) := by
  simp only [sq10] at h0
  split at h0
  · rename_i k r
    split at h0
    · rename_i hk
      cases h0
      have e : (UInt64.ofNat k).toNat = k := by
        rw [UInt64.toNat_ofNat']
        exact Nat.mod_eq_of_lt (by omega)
      show some (Sum.inl (pc + len, slo E lo, Value.long (E k).toInt64 :: r.map (sval E), sH E L T h)) = some (Sum.inl (pc + len, slo E lo, Value.long (sL E (UInt64.ofNat k).toNat) :: r.map (sval E), sH E L T h))
      rw [e, sL_lo hk]
    · cases h0
  · cases h0
theorem sr_11 (h0 : sq11 len T (pc, lo, st, h) = some (.inr (T', o))) : zs11 len (sC E L T (pc, lo, st, h)) = some (sO E L T' o) := by
  simp only [sq11] at h0
  split at h0
  · rename_i w r
    split at h0
    · rename_i hk
      cases h0
      show some (Sum.inl (pc + len, slo E lo, Value.int (sL E w.toNat).toInt32 :: r.map (sval E), sH E L T h)) = some (Sum.inl (pc + len, slo E lo, Value.int (E w.toNat) :: r.map (sval E), sH E L T h))
      rw [sL_lo hk, Int32.toInt32_toInt64]
    · cases h0
  · cases h0
theorem sr_12 (h0 : sq12 len b T (pc, lo, st, h) = some (.inr (T', o))) : zs12 len b (sC E L T (pc, lo, st, h)) = some (sO E L T' o) := by
  simp only [sq12] at h0
  split at h0
  · split at h0
    · rename_i hq
      obtain ⟨rfl, rfl, rfl⟩ := hq
      cases h0
      rfl
    · cases h0
  · split at h0
    · rename_i hq
      obtain ⟨rfl, rfl, rfl⟩ := hq
      cases h0
      rfl
    · cases h0
  · cases h0
theorem sr_13 (h0 : sq13 len T (pc, lo, st, h) = some (.inr (T', o))) : zs13 len (sC E L T (pc, lo, st, h)) = some (sO E L T' o) := by
  simp only [sq13] at h0
  split at h0
  · split at h0
    · rename_i hq
      obtain ⟨rfl, rfl⟩ := hq
      cases h0
      rfl
    · cases h0
  · cases h0
theorem sr_14 (hs : sSat E cs) (h0 : sq14 len cs T (pc, lo, st, h) = some (.inr (T', o))) : zs14 len (sC E L T (pc, lo, st, h)) = some (sO E L T' o) := by
  simp only [sq14] at h0
  split at h0
  · rename_i vy vx r
    split at h0
    · rename_i x y hx hy
      split at h0
      · rename_i s hc
        cases h0
        obtain ⟨x', y', g1, g2, g3⟩ := scmp_ok hs hc
        simp only [zs14, sC, List.map_cons]
        rw [slv_ok hx g1, slv_ok hy g2]
        show some (Sum.inl (pc + len, slo E lo, Value.int (lg_cmp x'.toInt64 y'.toInt64) :: r.map (sval E), sH E L T h)) = _
        rw [slgc_ok g3]
        rfl
      · cases h0
      · cases h0
    · cases h0
  · cases h0
theorem sr_15 (hs : sSat E cs) (h0 : sq15 len a b cs T (pc, lo, st, h) = some (.inr (T', o))) : zs15 len a b (sC E L T (pc, lo, st, h)) = some (sO E L T' o) := by
  simp only [sq15] at h0
  split at h0
  · rename_i vx r
    split at h0
    · rename_i s hc
      cases h0
      obtain ⟨x', y', g1, g2, g3⟩ := scmp_ok hs hc
      cases g2
      simp only [zs15, sC, List.map_cons]
      rw [g1]
      show some (Sum.inl (zif b x' a (pc + len), slo E lo, r.map (sval E), sH E L T h)) = _
      rw [zif_icmp, szif_ok g3]
      rfl
    · cases h0
    · cases h0
  · cases h0
theorem sr_16 (hs : sSat E cs) (h0 : sq16 len a b cs T (pc, lo, st, h) = some (.inr (T', o))) : zs16 len a b (sC E L T (pc, lo, st, h)) = some (sO E L T' o) := by
  simp only [sq16] at h0
  split at h0
  · rename_i vy vx r
    split at h0
    · rename_i s hc
      cases h0
      obtain ⟨x', y', g1, g2, g3⟩ := scmp_ok hs hc
      simp only [zs16, sC, List.map_cons]
      rw [g1, g2]
      show some (Sum.inl (zicmp b x' y' a (pc + len), slo E lo, r.map (sval E), sH E L T h)) = _
      rw [szif_ok g3]
      rfl
    · cases h0
    · cases h0
  · cases h0
theorem sr_18 (hs : sSat E cs) (h0 : sq18 a sw cs T (pc, lo, st, h) = some (.inr (T', o))) : zs18 a sw (sC E L T (pc, lo, st, h)) = some (sO E L T' o) := by
  simp only [sq18] at h0
  split at h0
  · rename_i k r
    split at h0
    · rename_i hc
      cases h0
      show some (Sum.inl (zsw (E k) sw a, slo E lo, r.map (sval E), sH E L T h)) = _
      rw [sswk_ok (hs k) hc]
      rfl
    · cases h0
  · cases h0
theorem sr_21 (hh : sHd h) (h0 : sq21 len a b k3 T (pc, lo, st, h) = some (.inr (T', o))) : zs21 len a b k3 (sC E L T (pc, lo, st, h)) = some (sO E L T' o) := by
  simp only [sq21] at h0
  split at h0
  · rename_i k o r
    split at h0
    · rename_i t n hg
      cases hq : ((Nat.beq t (10 + a) && Nat.blt b n) && Nat.beq k3 0)
      · simp [hq] at h0
      · simp only [hq, cond_true] at h0
        cases h0
        rw [Bool.and_eq_true] at hq
        obtain ⟨hq, hk⟩ := hq
        have ek := Nat.eq_of_beq_eq_true hk
        subst ek
        have ht : t ≠ 9 := by
          rw [Bool.and_eq_true] at hq
          have := Nat.eq_of_beq_eq_true hq.1
          omega
        obtain ⟨g1, g2⟩ := ssh_get (L := L) hh hg ht
        simp only [zs21, sC, List.map_cons, sval]
        have g1 : zget (sH E L T h).1 o = some (t, n) := g1
        rw [g1]
        dsimp only
        rw [hq]
        dsimp only [cond_true]
        show some (Sum.inl (pc + len, slo E lo, r.map (sval E), ((sH E L T h).1, zup (sov E T h.2.1) o b (E k), h.2.2.1, h.2.2.2))) = _
        rw [← sov_add]
        rfl
    · cases h0
  · cases h0
theorem sr_22 (hL : L < 2 ^ 31) (h0 : sq22 L len T (pc, lo, st, h) = some (.inr (T', o))) : zs22 len (sC E L T (pc, lo, st, h)) = some (sO E L T' o) := by
  simp only [sq22] at h0
  split at h0
  · rename_i i o r
    cases hq : (Nat.beq o 0 && (Nat.blt (zix i) L && (sfind T 0 (zix i)).isNone))
    · simp [hq] at h0
    · simp only [hq, cond_true] at h0
      cases h0
      rw [Bool.and_eq_true, Bool.and_eq_true] at hq
      obtain ⟨q1, q2, q3⟩ := hq
      have e1 := Nat.eq_of_beq_eq_true q1
      subst e1
      simp only [zs22, sC, List.map_cons, sval]
      have g1 : zget (sH E L T h).1 0 = some (5, L) := rfl
      rw [g1]
      dsimp only
      rw [show ((Nat.beq 5 0 || Nat.beq 5 5) && Nat.blt (zix i) L) = true by rw [q2]; rfl]
      dsimp only [cond_true]
      have e2 : (sH E L T h).2.1 0 (zix i) = E (zix i) := by
        show sov E T h.2.1 0 (zix i) = _
        unfold sov
        rw [Option.isNone_iff_eq_none.mp q3]
        rfl
      rw [e2]
      rfl
  · cases h0
theorem sr_25 (hh : sHd h) (h0 : sq25 len T (pc, lo, st, h) = some (.inr (T', o))) : zs25 len (sC E L T (pc, lo, st, h)) = some (sO E L T' o) := by
  simp only [sq25] at h0
  split at h0
  · rename_i k i o r
    split at h0
    · rename_i t n hg
      cases hq : (Nat.beq t 0 && Nat.blt (zix i) n)
      · simp [hq] at h0
      · simp only [hq, cond_true] at h0
        cases h0
        have ht : t ≠ 9 := by
          intro q
          subst q
          cases hq
        obtain ⟨g1, g2⟩ := ssh_get (L := L) hh hg ht
        simp only [zs25, sC, List.map_cons, sval]
        have g1 : zget (sH E L T h).1 o = some (t, n) := g1
        rw [g1]
        dsimp only
        rw [hq]
        dsimp only [cond_true]
        show some (Sum.inl (pc + len, slo E lo, r.map (sval E), ((sH E L T h).1, zup (sov E T h.2.1) o (zix i) (E k), h.2.2.1, h.2.2.2))) = _
        rw [← sov_add]
        rfl
    · cases h0
  · cases h0
theorem sr_28 (h0 : sq28 L len T (pc, lo, st, h) = some (.inr (T', o))) : zs28 len (sC E L T (pc, lo, st, h)) = some (sO E L T' o) := by
  simp only [sq28] at h0
  split at h0
  · rename_i o r
    cases hq : Nat.beq o 0
    · simp [hq] at h0
    · simp only [hq, cond_true] at h0
      cases h0
      have e1 := Nat.eq_of_beq_eq_true hq
      subst e1
      rfl
  · cases h0
theorem sr_35 (h0 : sq35 k3 T (pc, lo, st, h) = some (.inr (T', o))) : zs35 k3 (sC E L T (pc, lo, st, h)) = some (sO E L T' o) := by
  simp only [sq35] at h0
  split at h0
  · cases hq : Nat.beq k3 0
    · simp [hq] at h0
    · simp only [hq, cond_true] at h0
      cases h0
      have e1 := Nat.eq_of_beq_eq_true hq
      subst e1
      rfl
  · cases h0
theorem sr_36 (h0 : sq36 T (pc, lo, st, h) = some (.inr (T', o))) : zs36 (sC E L T (pc, lo, st, h)) = some (sO E L T' o) := by
  simp only [sq36] at h0
  split at h0
  · cases h0
    rfl
  · cases h0
end SX
end
section
theorem sspec_ok {E : Nat → Int32} {L : Nat} {cs : sI} {T T' : sT} {pc len a b k3 op : Nat} {v : Value} {sw : List (Int32 × Nat)} {lo : List (Option Value)} {st : List Value} {h : zH} {o : zO} (hL : L < 2 ^ 31) (hh : sHd h) (hE : sEnv E) (hs : sSat E cs) (h0 : spec L cs T (op, len, a, b, k3, v, sw) (pc, lo, st, h) = some (.inr (T', o))) : zstep (op, len, a, b, k3, v, sw) (sC E L T (pc, lo, st, h)) = some (sO E L T' o) := by
  match op, h0 with
  | 0, h0 => cases h0
  | 1, h0 => exact sr_1 h0
  | 2, h0 => exact sr_2 h0
  | 3, h0 => cases h0
  | 4, h0 => exact sr_4 h0
  | 5, h0 => exact sr_5 h0
  | 6, h0 => cases h0
  | 7, h0 => exact sr_7 hE h0
  | 8, h0 => exact sr_8 hE h0
  | 9, h0 => cases h0
  | 10, h0 => exact sr_10 h0
  | 11, h0 => exact sr_11 h0
  | 12, h0 => exact sr_12 h0
  | 13, h0 => exact sr_13 h0
  | 14, h0 => exact sr_14 hs h0
  | 15, h0 => exact sr_15 hs h0
  | 16, h0 => exact sr_16 hs h0
  | 17, h0 => cases h0
  | 18, h0 => exact sr_18 hs h0
  | 19, h0 => cases h0
  | 20, h0 => cases h0
  | 21, h0 => exact sr_21 hh h0
  | 22, h0 => exact sr_22 hL h0
  | 23, h0 => cases h0
  | 24, h0 => cases h0
  | 25, h0 => exact sr_25 hh h0
  | 26, h0 => cases h0
  | 27, h0 => cases h0
  | 28, h0 => exact sr_28 h0
  | 29, h0 => cases h0
  | 30, h0 => cases h0
  | 31, h0 => cases h0
  | 32, h0 => cases h0
  | 33, h0 => cases h0
  | 34, h0 => cases h0
  | 35, h0 => exact sr_35 h0
  | 36, h0 => exact sr_36 h0
  | _ + 37, h0 => cases h0
theorem sstep_ok {E : Nat → Int32} {L : Nat} {cs : sI} {T T' : sT} {e : zI} {x : zC} {o : zO} (hL : L < 2 ^ 31) (hh : sHd x.2.2.2) (hE : sEnv E) (hs : sSat E cs) (h0 : sstep L cs T e x = some (.inr (T', o))) : zstep e (sC E L T x) = some (sO E L T' o) := by
  obtain ⟨op, len, a, b, k3, v, sw⟩ := e
  obtain ⟨pc, lo, st, h⟩ := x
  unfold sstep at h0
  cases hq : spec L cs T (op, len, a, b, k3, v, sw) (pc, lo, st, h) with
  | some r =>
    rw [hq] at h0
    cases h0
    exact sspec_ok hL hh hE hs hq
  | none =>
    rw [hq] at h0
    dsimp only at h0
    cases hb : (okT T (op, len, a, b, k3, v, sw) st && sokv v)
    · rw [hb] at h0; cases h0
    · rw [hb] at h0
      dsimp only [cond_true] at h0
      rw [Bool.and_eq_true] at hb
      cases hz : zstep (op, len, a, b, k3, v, sw) (pc, lo, st, h) with
      | some o' =>
        rw [hz] at h0
        cases h0
        exact zsub hh (by cases v <;> first | rfl | cases hb.2) hb.1 hz
      | none =>
        rw [hz] at h0
        dsimp only at h0
        split at h0
        · cases h0
        · cases h0
section SY
variable {L : Nat} {cs : sI} {T T' : sT} {pc len a b k3 : Nat} {v : Value} {sw : List (Int32 × Nat)} {lo : List (Option Value)} {st : List Value} {h : zH} {o : zO}
theorem sh_1 (h0 : sq1 len a T (pc, lo, st, h) = some (.inr (T', o))) : (∃ y, o = .inl y ∧ y.2.2.2 = h) ∨ ((∃ r, o = .inr (.inr r)) ∧ T' = T) := by
  simp only [sq1, sgo, Bool.cond_eq_ite] at h0
  repeat' split at h0
  all_goals first
    | (cases h0; done)
    | (cases h0; exact Or.inl ⟨_, rfl, rfl⟩)
    | (cases h0; exact Or.inr ⟨⟨_, rfl⟩, rfl⟩)
theorem sh_2 (h0 : sq2 len a T (pc, lo, st, h) = some (.inr (T', o))) : (∃ y, o = .inl y ∧ y.2.2.2 = h) ∨ ((∃ r, o = .inr (.inr r)) ∧ T' = T) := by
  simp only [sq2, sgo, Bool.cond_eq_ite] at h0
  repeat' split at h0
  all_goals first
    | (cases h0; done)
    | (cases h0; exact Or.inl ⟨_, rfl, rfl⟩)
    | (cases h0; exact Or.inr ⟨⟨_, rfl⟩, rfl⟩)
theorem sh_4 (h0 : sq4 len a T (pc, lo, st, h) = some (.inr (T', o))) : (∃ y, o = .inl y ∧ y.2.2.2 = h) ∨ ((∃ r, o = .inr (.inr r)) ∧ T' = T) := by
  simp only [sq4, sgo, Bool.cond_eq_ite] at h0
  repeat' split at h0
  all_goals first
    | (cases h0; done)
    | (cases h0; exact Or.inl ⟨_, rfl, rfl⟩)
    | (cases h0; exact Or.inr ⟨⟨_, rfl⟩, rfl⟩)
theorem sh_5 (h0 : sq5 len a T (pc, lo, st, h) = some (.inr (T', o))) : (∃ y, o = .inl y ∧ y.2.2.2 = h) ∨ ((∃ r, o = .inr (.inr r)) ∧ T' = T) := by
  simp only [sq5, sgo, Bool.cond_eq_ite] at h0
  repeat' split at h0
  all_goals first
    | (cases h0; done)
    | (cases h0; exact Or.inl ⟨_, rfl, rfl⟩)
    | (cases h0; exact Or.inr ⟨⟨_, rfl⟩, rfl⟩)
theorem sh_7 (h0 : sq7 len b T (pc, lo, st, h) = some (.inr (T', o))) : (∃ y, o = .inl y ∧ y.2.2.2 = h) ∨ ((∃ r, o = .inr (.inr r)) ∧ T' = T) := by
  simp only [sq7, sgo, Bool.cond_eq_ite] at h0
  repeat' split at h0
  all_goals first
    | (cases h0; done)
    | (cases h0; exact Or.inl ⟨_, rfl, rfl⟩)
    | (cases h0; exact Or.inr ⟨⟨_, rfl⟩, rfl⟩)
theorem sh_8 (h0 : sq8 len b T (pc, lo, st, h) = some (.inr (T', o))) : (∃ y, o = .inl y ∧ y.2.2.2 = h) ∨ ((∃ r, o = .inr (.inr r)) ∧ T' = T) := by
  simp only [sq8, sgo, Bool.cond_eq_ite] at h0
  repeat' split at h0
  all_goals first
    | (cases h0; done)
    | (cases h0; exact Or.inl ⟨_, rfl, rfl⟩)
    | (cases h0; exact Or.inr ⟨⟨_, rfl⟩, rfl⟩)
theorem sh_10 (h0 : sq10 len T (pc, lo, st, h) = some (.inr (T', o))) : (∃ y, o = .inl y ∧ y.2.2.2 = h) ∨ ((∃ r, o = .inr (.inr r)) ∧ T' = T) := by
  simp only [sq10, sgo, Bool.cond_eq_ite] at h0
  repeat' split at h0
  all_goals first
    | (cases h0; done)
    | (cases h0; exact Or.inl ⟨_, rfl, rfl⟩)
    | (cases h0; exact Or.inr ⟨⟨_, rfl⟩, rfl⟩)
theorem sh_11 (h0 : sq11 len T (pc, lo, st, h) = some (.inr (T', o))) : (∃ y, o = .inl y ∧ y.2.2.2 = h) ∨ ((∃ r, o = .inr (.inr r)) ∧ T' = T) := by
  simp only [sq11, sgo, Bool.cond_eq_ite] at h0
  repeat' split at h0
  all_goals first
    | (cases h0; done)
    | (cases h0; exact Or.inl ⟨_, rfl, rfl⟩)
    | (cases h0; exact Or.inr ⟨⟨_, rfl⟩, rfl⟩)
theorem sh_12 (h0 : sq12 len b T (pc, lo, st, h) = some (.inr (T', o))) : (∃ y, o = .inl y ∧ y.2.2.2 = h) ∨ ((∃ r, o = .inr (.inr r)) ∧ T' = T) := by
  simp only [sq12, sgo, Bool.cond_eq_ite] at h0
  repeat' split at h0
  all_goals first
    | (cases h0; done)
    | (cases h0; exact Or.inl ⟨_, rfl, rfl⟩)
    | (cases h0; exact Or.inr ⟨⟨_, rfl⟩, rfl⟩)
theorem sh_13 (h0 : sq13 len T (pc, lo, st, h) = some (.inr (T', o))) : (∃ y, o = .inl y ∧ y.2.2.2 = h) ∨ ((∃ r, o = .inr (.inr r)) ∧ T' = T) := by
  simp only [sq13, sgo, Bool.cond_eq_ite] at h0
  repeat' split at h0
  all_goals first
    | (cases h0; done)
    | (cases h0; exact Or.inl ⟨_, rfl, rfl⟩)
    | (cases h0; exact Or.inr ⟨⟨_, rfl⟩, rfl⟩)
theorem sh_14 (h0 : sq14 len cs T (pc, lo, st, h) = some (.inr (T', o))) : (∃ y, o = .inl y ∧ y.2.2.2 = h) ∨ ((∃ r, o = .inr (.inr r)) ∧ T' = T) := by
  simp only [sq14, sgo, Bool.cond_eq_ite] at h0
  repeat' split at h0
  all_goals first
    | (cases h0; done)
    | (cases h0; exact Or.inl ⟨_, rfl, rfl⟩)
    | (cases h0; exact Or.inr ⟨⟨_, rfl⟩, rfl⟩)
theorem sh_15 (h0 : sq15 len a b cs T (pc, lo, st, h) = some (.inr (T', o))) : (∃ y, o = .inl y ∧ y.2.2.2 = h) ∨ ((∃ r, o = .inr (.inr r)) ∧ T' = T) := by
  simp only [sq15, sgo, Bool.cond_eq_ite] at h0
  repeat' split at h0
  all_goals first
    | (cases h0; done)
    | (cases h0; exact Or.inl ⟨_, rfl, rfl⟩)
    | (cases h0; exact Or.inr ⟨⟨_, rfl⟩, rfl⟩)
theorem sh_16 (h0 : sq16 len a b cs T (pc, lo, st, h) = some (.inr (T', o))) : (∃ y, o = .inl y ∧ y.2.2.2 = h) ∨ ((∃ r, o = .inr (.inr r)) ∧ T' = T) := by
  simp only [sq16, sgo, Bool.cond_eq_ite] at h0
  repeat' split at h0
  all_goals first
    | (cases h0; done)
    | (cases h0; exact Or.inl ⟨_, rfl, rfl⟩)
    | (cases h0; exact Or.inr ⟨⟨_, rfl⟩, rfl⟩)
theorem sh_18 (h0 : sq18 a sw cs T (pc, lo, st, h) = some (.inr (T', o))) : (∃ y, o = .inl y ∧ y.2.2.2 = h) ∨ ((∃ r, o = .inr (.inr r)) ∧ T' = T) := by
  simp only [sq18, sgo, Bool.cond_eq_ite] at h0
  repeat' split at h0
  all_goals first
    | (cases h0; done)
    | (cases h0; exact Or.inl ⟨_, rfl, rfl⟩)
    | (cases h0; exact Or.inr ⟨⟨_, rfl⟩, rfl⟩)
theorem sh_21 (h0 : sq21 len a b k3 T (pc, lo, st, h) = some (.inr (T', o))) : (∃ y, o = .inl y ∧ y.2.2.2 = h) ∨ ((∃ r, o = .inr (.inr r)) ∧ T' = T) := by
  simp only [sq21, sgo, Bool.cond_eq_ite] at h0
  repeat' split at h0
  all_goals first
    | (cases h0; done)
    | (cases h0; exact Or.inl ⟨_, rfl, rfl⟩)
    | (cases h0; exact Or.inr ⟨⟨_, rfl⟩, rfl⟩)
theorem sh_22 (h0 : sq22 L len T (pc, lo, st, h) = some (.inr (T', o))) : (∃ y, o = .inl y ∧ y.2.2.2 = h) ∨ ((∃ r, o = .inr (.inr r)) ∧ T' = T) := by
  simp only [sq22, sgo, Bool.cond_eq_ite] at h0
  repeat' split at h0
  all_goals first
    | (cases h0; done)
    | (cases h0; exact Or.inl ⟨_, rfl, rfl⟩)
    | (cases h0; exact Or.inr ⟨⟨_, rfl⟩, rfl⟩)
theorem sh_25 (h0 : sq25 len T (pc, lo, st, h) = some (.inr (T', o))) : (∃ y, o = .inl y ∧ y.2.2.2 = h) ∨ ((∃ r, o = .inr (.inr r)) ∧ T' = T) := by
  simp only [sq25, sgo, Bool.cond_eq_ite] at h0
  repeat' split at h0
  all_goals first
    | (cases h0; done)
    | (cases h0; exact Or.inl ⟨_, rfl, rfl⟩)
    | (cases h0; exact Or.inr ⟨⟨_, rfl⟩, rfl⟩)
theorem sh_28 (h0 : sq28 L len T (pc, lo, st, h) = some (.inr (T', o))) : (∃ y, o = .inl y ∧ y.2.2.2 = h) ∨ ((∃ r, o = .inr (.inr r)) ∧ T' = T) := by
  simp only [sq28, sgo, Bool.cond_eq_ite] at h0
  repeat' split at h0
  all_goals first
    | (cases h0; done)
    | (cases h0; exact Or.inl ⟨_, rfl, rfl⟩)
    | (cases h0; exact Or.inr ⟨⟨_, rfl⟩, rfl⟩)
theorem sh_35 (h0 : sq35 k3 T (pc, lo, st, h) = some (.inr (T', o))) : (∃ y, o = .inl y ∧ y.2.2.2 = h) ∨ ((∃ r, o = .inr (.inr r)) ∧ T' = T) := by
  simp only [sq35, sgo, Bool.cond_eq_ite] at h0
  repeat' split at h0
  all_goals first
    | (cases h0; done)
    | (cases h0; exact Or.inl ⟨_, rfl, rfl⟩)
    | (cases h0; exact Or.inr ⟨⟨_, rfl⟩, rfl⟩)
theorem sh_36 (h0 : sq36 T (pc, lo, st, h) = some (.inr (T', o))) : (∃ y, o = .inl y ∧ y.2.2.2 = h) ∨ ((∃ r, o = .inr (.inr r)) ∧ T' = T) := by
  simp only [sq36, sgo, Bool.cond_eq_ite] at h0
  repeat' split at h0
  all_goals first
    | (cases h0; done)
    | (cases h0; exact Or.inl ⟨_, rfl, rfl⟩)
    | (cases h0; exact Or.inr ⟨⟨_, rfl⟩, rfl⟩)
theorem sh_all {op : Nat} (h0 : spec L cs T (op, len, a, b, k3, v, sw) (pc, lo, st, h) = some (.inr (T', o))) : (∃ y, o = .inl y ∧ y.2.2.2 = h) ∨ ((∃ r, o = .inr (.inr r)) ∧ T' = T) := by
  match op, h0 with
  | 0, h0 => cases h0
  | 1, h0 => exact sh_1 h0
  | 2, h0 => exact sh_2 h0
  | 3, h0 => cases h0
  | 4, h0 => exact sh_4 h0
  | 5, h0 => exact sh_5 h0
  | 6, h0 => cases h0
  | 7, h0 => exact sh_7 h0
  | 8, h0 => exact sh_8 h0
  | 9, h0 => cases h0
  | 10, h0 => exact sh_10 h0
  | 11, h0 => exact sh_11 h0
  | 12, h0 => exact sh_12 h0
  | 13, h0 => exact sh_13 h0
  | 14, h0 => exact sh_14 h0
  | 15, h0 => exact sh_15 h0
  | 16, h0 => exact sh_16 h0
  | 17, h0 => cases h0
  | 18, h0 => exact sh_18 (pc := pc) h0
  | 19, h0 => cases h0
  | 20, h0 => cases h0
  | 21, h0 => exact sh_21 h0
  | 22, h0 => exact sh_22 h0
  | 23, h0 => cases h0
  | 24, h0 => cases h0
  | 25, h0 => exact sh_25 h0
  | 26, h0 => cases h0
  | 27, h0 => cases h0
  | 28, h0 => exact sh_28 h0
  | 29, h0 => cases h0
  | 30, h0 => cases h0
  | 31, h0 => cases h0
  | 32, h0 => cases h0
  | 33, h0 => cases h0
  | 34, h0 => cases h0
  | 35, h0 => exact sh_35 (pc := pc) (lo := lo) h0
  | 36, h0 => exact sh_36 (pc := pc) (lo := lo) h0
  | _ + 37, h0 => cases h0
end SY
theorem sstep_sh {L : Nat} {cs : sI} {T T' : sT} {e : zI} {x : zC} {o : zO} (hh : sHd x.2.2.2) (h0 : sstep L cs T e x = some (.inr (T', o))) : (∀ y, o = .inl y → sHd y.2.2.2) ∧ ((∀ y, o ≠ .inl y) → T' = T) := by
  obtain ⟨op, len, a, b, k3, v, sw⟩ := e
  obtain ⟨pc, lo, st, h⟩ := x
  unfold sstep at h0
  cases hq : spec L cs T (op, len, a, b, k3, v, sw) (pc, lo, st, h) with
  | some r =>
    rw [hq] at h0
    cases h0
    rcases sh_all hq with ⟨y, rfl, e⟩ | ⟨⟨r, rfl⟩, e⟩
    · refine ⟨fun y' e' => ?_, fun q => absurd rfl (q y)⟩
      cases e'
      rw [e]
      exact hh
    · exact ⟨fun y e' => (by cases e'), fun _ => e⟩
  | none =>
    rw [hq] at h0
    dsimp only at h0
    cases hb : (okT T (op, len, a, b, k3, v, sw) st && sokv v)
    · rw [hb] at h0; cases h0
    · rw [hb] at h0
      dsimp only [cond_true] at h0
      cases hz : zstep (op, len, a, b, k3, v, sw) (pc, lo, st, h) with
      | some o' =>
        rw [hz] at h0
        cases h0
        refine ⟨fun y ey => ?_, fun _ => rfl⟩
        subst ey
        rcases zg_all hz with ⟨y', q, e1, e2⟩ | ⟨-, as, y', e1⟩ | ⟨r, e1⟩
        · cases e1
          obtain ⟨tl, e3⟩ := hh
          have e2 : y.2.2.2.1 = h.1 ++ q := e2
          have e3 : h.1 = (9, 0) :: tl := e3
          exact ⟨tl ++ q, by rw [e2, e3]; rfl⟩
        · cases e1
        · cases e1
      | none =>
        rw [hz] at h0
        dsimp only at h0
        split at h0
        · cases h0
        · cases h0
theorem siv_put {cs : sI} {k j : Nat} {q : Nat × Nat} : siv (zput cs k q) j = siv cs j ∨ (j = k ∧ siv (zput cs k q) j = q) := by
  by_cases hj : j = k
  · subst hj
    rcases Nat.lt_or_ge j cs.length with hl | hl
    · right
      refine ⟨rfl, ?_⟩
      unfold siv
      rw [zget_put_eq _ _ _ hl]
    · left
      unfold siv
      have n1 : zget (zput cs j q) j = none := by
        cases hz : zget (zput cs j q) j with
        | none => rfl
        | some w =>
          have := zget_lt hz
          rw [zput_length] at this
          omega
      have n2 : zget cs j = none := by
        cases hz : zget cs j with
        | none => rfl
        | some w =>
          have := zget_lt hz
          omega
      rw [n1, n2]
  · left
    unfold siv
    rw [zget_put_ne _ _ _ _ hj]
theorem scut1_ok {E : Nat → Int32} {cs : sI} {k c : Nat} (hs : sSat E cs) (h : zo (E k) < c) : sSat E (scut1 cs k c) := by
  intro j
  unfold scut1
  rcases siv_put (cs := cs) (k := k) (j := j) (q := ((siv cs k).1, bif Nat.ble c (siv cs k).2 then c - 1 else (siv cs k).2)) with e | ⟨rfl, e⟩
  · rw [e]
    exact hs j
  · rw [e]
    have q := hs j
    cases Nat.ble c (siv cs j).2
    · exact q
    · exact ⟨q.1, by dsimp only [cond_true]; omega⟩
theorem scut2_ok {E : Nat → Int32} {cs : sI} {k c : Nat} (hs : sSat E cs) (h : c ≤ zo (E k)) : sSat E (scut2 cs k c) := by
  intro j
  unfold scut2
  rcases siv_put (cs := cs) (k := k) (j := j) (q := (bif Nat.ble (siv cs k).1 c then c else (siv cs k).1, (siv cs k).2)) with e | ⟨rfl, e⟩
  · rw [e]
    exact hs j
  · rw [e]
    have q := hs j
    cases Nat.ble (siv cs j).1 c
    · exact q
    · exact ⟨h, q.2⟩
def sFr (E : Nat → Int32) : zFr → zFr := fun (mi, pc, lo, st) => (mi, pc, slo E lo, st.map (sval E))
theorem sfin_ok {E : Nat → Int32} {L : Nat} {T : sT} {r : Option Value} {h : zH} (hL : L ≤ 1000) (hh : sHd h) (q : sfin r h = true) : zfin (r.map (sval E)) (sH E L T h) = true := by
  unfold sfin at q
  rw [Bool.and_eq_true, Bool.and_eq_true, decide_eq_true_eq, Nat.ble_eq, Nat.ble_eq] at q
  obtain ⟨rfl, q2, q3⟩ := q
  unfold zfin
  rw [Bool.and_eq_true, Bool.and_eq_true, decide_eq_true_eq, Nat.ble_eq, Nat.ble_eq]
  refine ⟨rfl, ?_, ?_⟩
  · show (ssh L h.1).length ≤ _
    rw [ssh_len hh]
    exact q2
  · show zslots (ssh L h.1) ≤ _
    obtain ⟨tl, e⟩ := hh
    rw [e] at q3 ⊢
    show L + zslots tl ≤ _
    have q3 : 0 + zslots tl ≤ 6000000 := q3
    omega
/-- THE EXECUTOR'S WORD -/
theorem sx_ok {E : Nat → Int32} {L : Nat} (hL : L ≤ 1000) (hE : sEnv E) : ∀ (n : Nat) (cs : sI) (T : sT) (fs : List zFr) (h : zH), sx L n cs T fs h = true → sHd h → sSat E cs → zxr n (fs.map (sFr E)) (sH E L T h) = true
  | 0, _, _, _, _, q, _, _ => by cases q
  | n + 1, _, _, [], _, q, _, _ => by cases q
  | n + 1, cs, T, (mi, pc, lo, st) :: fs, h, q, hh, hs => by
    have hL2 : L < 2 ^ 31 := by omega
    have whole := q
    rw [sx] at q
    cases hz : zi mi pc with
    | none => rw [hz] at q; cases q
    | some e =>
      rw [hz] at q
      dsimp only at q
      cases hq : sstep L cs T e (pc, lo, snst cs st, h) with
      | none => rw [hq] at q; cases q
      | some w =>
        rw [hq] at q
        have est : sC E L T (pc, lo, snst cs st, h) = (pc, slo E lo, st.map (sval E), sH E L T h) := by
          unfold sC
          dsimp only
          rw [snst_ok hs]
        match w, q, hq with
        | .inl (k, c), q, hq =>
          dsimp only at q
          rw [Bool.and_eq_true] at q
          rcases Nat.lt_or_ge (zo (E k)) c with hc | hc
          · exact zxr_more _ _ _ (sx_ok hL hE n _ T _ h q.1 hh (scut1_ok hs hc))
          · exact zxr_more _ _ _ (sx_ok hL hE n _ T _ h q.2 hh (scut2_ok hs hc))
        | .inr (T', .inl y), q, hq =>
          have hok := sstep_ok (x := (pc, lo, snst cs st, h)) hL2 hh hE hs hq
          rw [est] at hok
          have hn := sx_ok hL hE n cs T' _ y.2.2.2 q ((sstep_sh (x := (pc, lo, snst cs st, h)) hh hq).1 y rfl) hs
          show zxr (n + 1) ((mi, pc, slo E lo, st.map (sval E)) :: fs.map (sFr E)) (sH E L T h) = true
          rw [zxr, hz]
          dsimp only
          rw [hok]
          exact hn
        | .inr (T', .inr (.inr r)), q, hq =>
          have hok := sstep_ok (x := (pc, lo, snst cs st, h)) hL2 hh hE hs hq
          rw [est] at hok
          have eT0 : T' = T := (sstep_sh (x := (pc, lo, snst cs st, h)) hh hq).2 (fun y e' => by cases e')
          subst eT0
          show zxr (n + 1) ((mi, pc, slo E lo, st.map (sval E)) :: fs.map (sFr E)) (sH E L T' h) = true
          rw [zxr, hz]
          dsimp only
          rw [hok]
          cases fs with
          | nil => exact sfin_ok hL hh q
          | cons g fs2 =>
            obtain ⟨mi2, pc2, lo2, st2⟩ := g
            have hn := sx_ok hL hE n cs T' _ h q hh hs
            have es : (r.map (sval E)).toList ++ st2.map (sval E) = (r.toList ++ st2).map (sval E) := by cases r <;> simp
            show zxr n ((mi2, pc2, slo E lo2, (r.map (sval E)).toList ++ st2.map (sval E)) :: fs2.map (sFr E)) (sH E L T' h) = true
            rw [es]
            exact hn
        | .inr (T', .inr (.inl (a, as, y))), q, hq =>
          have hok := sstep_ok (x := (pc, lo, snst cs st, h)) hL2 hh hE hs hq
          rw [est] at hok
          dsimp only at q
          rw [Bool.and_eq_true] at q
          obtain ⟨qa, qb⟩ := q
          have eT0 : T' = T := (sstep_sh (x := (pc, lo, snst cs st, h)) hh hq).2 (fun y e' => by cases e')
          subst eT0
          have hn := sx_ok hL hE n cs T' _ h qb hh hs
          show zxr (n + 1) ((mi, pc, slo E lo, st.map (sval E)) :: fs.map (sFr E)) (sH E L T' h) = true
          rw [zxr, hz]
          dsimp only
          rw [hok]
          dsimp only [sO]
          rw [Bool.and_eq_true]
          refine ⟨?_, ?_⟩
          · rw [List.length_map, zargs_s, zpad_s, slo_len]
            exact qa
          · rw [zargs_s, zpad_s]
            exact hn
end
section
/-! WHAT A METHOD COMES TO: rules over runs of the small machine. -/
def zT (d mi : Nat) (x : zC) (P : Option Value → zH → Prop) : Prop := ∃ f r h1, zr f d mi 100000 x = some (.inr (r, h1)) ∧ P r h1
theorem zne_stop {mi pc : Nat} {e : zI} (h : zi mi pc = some e) : Nat.beq pc 100000 = false := by
  cases hb : Nat.beq pc 100000
  · rfl
  · have e1 := Nat.eq_of_beq_eq_true hb
    subst e1
    exact (zi_stop h).elim
theorem zr_deep : ∀ (f d mi stop : Nat) (x : zC) (o : zC ⊕ (Option Value × zH)), zr f d mi stop x = some o → zr f (d + 1) mi stop x = some o
  | 0, _, _, _, _, _, h => by cases h
  | f + 1, d, mi, stop, x, o, h => by
    rw [zr]
    rcases zr_step h with ⟨e1, rfl⟩ | ⟨e, he, hq⟩
    · rw [e1, Nat.beq_refl]
      rfl
    · cases hb : Nat.beq x.1 stop
      · rw [he]
        dsimp only [cond_false]
        rcases hq with ⟨y, hy, hr⟩ | ⟨r, hy, rfl⟩ | ⟨a, as, y, d1, r, h1, hy, rfl, hl, h2, h3⟩
        · rw [hy]
          exact zr_deep f d mi stop y o hr
        · rw [hy]
        · rw [hy]
          dsimp only
          rw [hl, Nat.beq_refl]
          dsimp only [cond_true]
          rw [zr_deep f d1 a 100000 _ _ h2]
          exact zr_deep f (d1 + 1) mi stop _ o h3
      · have h0 := h
        rw [zr, hb] at h0
        exact h0
theorem zr_deeper {f d d' mi stop : Nat} {x : zC} {o : zC ⊕ (Option Value × zH)} (hl : d ≤ d') (h : zr f d mi stop x = some o) : zr f d' mi stop x = some o := by
  obtain ⟨k, rfl⟩ := Nat.exists_eq_add_of_le hl
  induction k with
  | zero => exact h
  | succ k ih => exact zr_deep _ _ _ _ _ _ (ih (by omega))
section ZT
variable {d d' mi a : Nat} {x y : zC} {e : zI} {P Q : Option Value → zH → Prop}
theorem zT_deep (h : zT d mi x P) (hl : d ≤ d') : zT d' mi x P := by
  obtain ⟨f, r, h1, hr, hp⟩ := h
  exact ⟨f, r, h1, zr_deeper hl hr, hp⟩
theorem zT_mono (h : zT d mi x P) (hq : ∀ r h1, P r h1 → Q r h1) : zT d mi x Q := by
  obtain ⟨f, r, h1, hr, hp⟩ := h
  exact ⟨f, r, h1, hr, hq r h1 hp⟩
theorem zT_step (hi : zi mi x.1 = some e) (hs : zstep e x = some (.inl y)) (h : zT d mi y P) : zT d mi x P := by
  obtain ⟨f, r, h1, hr, hp⟩ := h
  refine ⟨f + 1, r, h1, ?_, hp⟩
  rw [zr, zne_stop hi, hi]
  dsimp only [cond_false]
  rw [hs]
  exact hr
theorem zT_ret {r : Option Value} (hi : zi mi x.1 = some e) (hs : zstep e x = some (.inr (.inr r))) (hp : P r x.2.2.2) : zT d mi x P := by
  refine ⟨1, r, x.2.2.2, ?_, hp⟩
  rw [zr, zne_stop hi, hi]
  dsimp only [cond_false]
  rw [hs]
theorem zT_call {as : List Value} (hi : zi mi x.1 = some e) (hs : zstep e x = some (.inr (.inl (a, as, y)))) (hl : (zpad (zL a) (zargs as)).length = zL a) (hc : zT d a (0, zpad (zL a) (zargs as), [], x.2.2.2) Q) (hk : ∀ r h1, Q r h1 → zT (d + 1) mi (y.1, y.2.1, r.toList ++ y.2.2.1, h1) P) : zT (d + 1) mi x P := by
  obtain ⟨f, r, h1, hr, hq⟩ := hc
  obtain ⟨f2, r2, h2, hr2, hp⟩ := hk r h1 hq
  refine ⟨max f f2 + 1, r2, h2, ?_, hp⟩
  rw [zr, zne_stop hi, hi]
  dsimp only [cond_false]
  rw [hs]
  dsimp only
  rw [hl, Nat.beq_refl]
  dsimp only [cond_true]
  rw [zr_le (Nat.le_max_left f f2) hr]
  exact zr_le (Nat.le_max_right f f2) hr2
end ZT
end
section
/-! VALUES BY BOUNDS: an int or a long is a number, or an entry of an environment and an offset; a reference is one of some cells. -/
abbrev aI : Type := (Nat × Int) ⊕ Int
abbrev aV : Type := (aI ⊕ aI) ⊕ List Nat
abbrev aCs : Type := List (Int × Int)
abbrev aT : Type := List (Nat × Nat × aI)
def aIs (E : List Int) (z : Int) : aI → Prop
  | .inl (k, off) => ∃ w, zget E k = some w ∧ z = w + off
  | .inr n => z = n
def aVs (E : List Int) (v : Value) : aV → Prop
  | .inl (.inl a) => ∃ x, v = .int x ∧ aIs E x.toInt a
  | .inl (.inr a) => ∃ x, v = .long x ∧ aIs E x.toInt a
  | .inr l => ∃ o, v = .ref o ∧ o ∈ l
def aSat (E : List Int) (cs : aCs) : Prop := E.length = cs.length ∧ ∀ k w q, zget E k = some w → zget cs k = some q → q.1 ≤ w ∧ w ≤ q.2
def abd (cs : aCs) : aI → Int × Int
  | .inl (k, off) => (match zget cs k with
    | some q => (q.1 + off, q.2 + off)
    | none => (1, 0))
  | .inr n => (n, n)
theorem abd_ok {E : List Int} {cs : aCs} {z : Int} {a : aI} (hs : aSat E cs) (h : aIs E z a) : (abd cs a).1 ≤ z ∧ z ≤ (abd cs a).2 := by
  match a, h with
  | .inl (k, off), h =>
    obtain ⟨w, h1, h2⟩ := h
    have hl := zget_lt h1
    rw [hs.1] at hl
    obtain ⟨q, hq⟩ := zget_of_lt hl
    have hb := hs.2 k w q h1 hq
    unfold abd
    dsimp only
    rw [hq]
    dsimp only
    omega
  | .inr n, h =>
    have h : z = n := h
    subst h
    exact ⟨Int.le_refl _, Int.le_refl _⟩
theorem aIs_ext {E q : List Int} {z : Int} {a : aI} (h : aIs E z a) : aIs (E ++ q) z a := by
  match a, h with
  | .inl (k, off), h =>
    obtain ⟨w, h1, h2⟩ := h
    exact ⟨w, zget_app h1, h2⟩
  | .inr n, h => exact h
theorem aVs_ext {E q : List Int} {v : Value} {a : aV} (h : aVs E v a) : aVs (E ++ q) v a := by
  match a, h with
  | .inl (.inl a), h =>
    obtain ⟨x, h1, h2⟩ := h
    exact ⟨x, h1, aIs_ext h2⟩
  | .inl (.inr a), h =>
    obtain ⟨x, h1, h2⟩ := h
    exact ⟨x, h1, aIs_ext h2⟩
  | .inr l, h => exact h
theorem zget_end {α : Type} : ∀ (l : List α) (x : α), zget (l ++ [x]) l.length = some x
  | [], _ => rfl
  | _ :: l, x => zget_end l x
theorem aSat_ext {E : List Int} {cs : aCs} {w lo hi : Int} (hs : aSat E cs) (h1 : lo ≤ w) (h2 : w ≤ hi) : aSat (E ++ [w]) (cs ++ [(lo, hi)]) := by
  refine ⟨by simp [hs.1], fun k u q h3 h4 => ?_⟩
  rcases zget_new _ _ _ _ h3 with g | ⟨g, rfl⟩
  · rcases zget_new _ _ _ _ h4 with g2 | ⟨g2, rfl⟩
    · exact hs.2 k u q g g2
    · have := zget_lt g
      rw [hs.1] at this
      omega
  · rcases zget_new _ _ _ _ h4 with g2 | ⟨g2, rfl⟩
    · have := zget_lt g2
      rw [← hs.1] at this
      omega
    · exact ⟨h1, h2⟩
/-- a fresh entry -/
theorem aIs_new {E : List Int} {w : Int} : aIs (E ++ [w]) w (.inl (E.length, 0)) := ⟨w, zget_end E w, by omega⟩
def aSt (E : List Int) : List Value → List aV → Prop
  | [], [] => True
  | v :: r, a :: s => aVs E v a ∧ aSt E r s
  | _, _ => False
def aLo (E : List Int) (lo : List (Option Value)) (al : List (Option aV)) : Prop := lo.length = al.length ∧ ∀ i a, zget al i = some (some a) → ∃ v, zget lo i = some (some v) ∧ aVs E v a
theorem aSt_ext {E q : List Int} : ∀ {st : List Value} {as : List aV}, aSt E st as → aSt (E ++ q) st as
  | [], [], h => h
  | [], _ :: _, h => h.elim
  | _ :: _, [], h => h.elim
  | _ :: _, _ :: _, h => ⟨aVs_ext h.1, aSt_ext h.2⟩
theorem aLo_ext {E q : List Int} {lo : List (Option Value)} {al : List (Option aV)} (h : aLo E lo al) : aLo (E ++ q) lo al :=
  ⟨h.1, fun i a ha => by
    obtain ⟨v, h1, h2⟩ := h.2 i a ha
    exact ⟨v, h1, aVs_ext h2⟩⟩
def afind : aT → Nat → Nat → Option aI
  | [], _, _ => none
  | (o', k', v) :: r, o, k => bif Nat.beq o' o && Nat.beq k' k then some v else afind r o k
/-- the cells: their shapes, their references, bounds of every int -/
def aInv (S : List (Nat × Nat)) (rf : Nat → Nat → Option Nat) (iv : Nat → Nat → Int × Int) (h : zH) : Prop := h.1 = S ∧ h.2.2.2 = rf ∧ ∀ o k, (iv o k).1 ≤ (h.2.1 o k).toInt ∧ (h.2.1 o k).toInt ≤ (iv o k).2
def aHp (S : List (Nat × Nat)) (rf : Nat → Nat → Option Nat) (iv : Nat → Nat → Int × Int) (E : List Int) (T : aT) (h : zH) : Prop := aInv S rf iv h ∧ ∀ o k a, afind T o k = some a → aIs E (h.2.1 o k).toInt a
theorem aHp_ext {S : List (Nat × Nat)} {rf : Nat → Nat → Option Nat} {iv : Nat → Nat → Int × Int} {E q : List Int} {T : aT} {h : zH} (hh : aHp S rf iv E T h) : aHp S rf iv (E ++ q) T h := ⟨hh.1, fun o k a ha => aIs_ext (hh.2 o k a ha)⟩
/-- a known content is listed -/
theorem aHp_note {S : List (Nat × Nat)} {rf : Nat → Nat → Option Nat} {iv : Nat → Nat → Int × Int} {E : List Int} {T : aT} {h : zH} {o k : Nat} {a : aI} (hh : aHp S rf iv E T h) (ha : aIs E (h.2.1 o k).toInt a) : aHp S rf iv E ((o, k, a) :: T) h := by
  refine ⟨hh.1, fun o' k' a' h' => ?_⟩
  unfold afind at h'
  cases hb : (Nat.beq o o' && Nat.beq k k')
  · rw [hb] at h'
    exact hh.2 o' k' a' h'
  · rw [hb] at h'
    rw [Bool.and_eq_true] at hb
    have e1 := Nat.eq_of_beq_eq_true hb.1
    have e2 := Nat.eq_of_beq_eq_true hb.2
    subst e1
    subst e2
    cases h'
    exact ha
/-- a cell is written: what is listed of it is the new value -/
theorem aHp_put {S : List (Nat × Nat)} {rf : Nat → Nat → Option Nat} {iv : Nat → Nat → Int × Int} {E : List Int} {T : aT} {h : zH} {o k : Nat} {a : aI} {x : Int32} (hh : aHp S rf iv E T h) (ha : aIs E x.toInt a) (h1 : (iv o k).1 ≤ x.toInt) (h2 : x.toInt ≤ (iv o k).2) : aHp S rf iv E ((o, k, a) :: T) (h.1, zup h.2.1 o k x, h.2.2.1, h.2.2.2) := by
  refine ⟨⟨hh.1.1, hh.1.2.1, fun o' k' => ?_⟩, fun o' k' a' h' => ?_⟩
  · by_cases hq : o' = o ∧ k' = k
    · obtain ⟨rfl, rfl⟩ := hq
      dsimp only
      rw [zsame_up]
      exact ⟨h1, h2⟩
    · dsimp only
      rw [zne_up hq]
      exact hh.1.2.2 o' k'
  · unfold afind at h'
    by_cases hq : o' = o ∧ k' = k
    · obtain ⟨rfl, rfl⟩ := hq
      rw [Nat.beq_refl, Nat.beq_refl] at h'
      cases h'
      dsimp only
      rw [zsame_up]
      exact ha
    · have hb : (Nat.beq o o' && Nat.beq k k') = false := by
        cases hb : (Nat.beq o o' && Nat.beq k k')
        · rfl
        · rw [Bool.and_eq_true] at hb
          exact absurd ⟨(Nat.eq_of_beq_eq_true hb.1).symm, (Nat.eq_of_beq_eq_true hb.2).symm⟩ hq
      rw [hb] at h'
      dsimp only
      rw [zne_up hq]
      exact hh.2 o' k' a' h'
end
section
/-! NUMBERS: what the machine's arithmetic is within bounds. -/
theorem na_rng (x : Int32) : -2147483648 ≤ x.toInt ∧ x.toInt ≤ 2147483647 := by
  have h1 := Int32.le_toInt x
  have h2 := Int32.toInt_lt x
  omega
theorem na_rngL (x : Int64) : -9223372036854775808 ≤ x.toInt ∧ x.toInt ≤ 9223372036854775807 := by
  have h1 := Int64.le_toInt x
  have h2 := Int64.toInt_lt x
  omega
theorem na_bmod {n : Int} (h1 : -2147483648 ≤ n) (h2 : n ≤ 2147483647) : n.bmod (2 ^ 32) = n := by
  simp only [Int.bmod]
  split <;> omega
theorem na_add {x y : Int32} (h1 : -2147483648 ≤ x.toInt + y.toInt) (h2 : x.toInt + y.toInt ≤ 2147483647) : (x + y).toInt = x.toInt + y.toInt := by
  rw [Int32.toInt_add, na_bmod h1 h2]
theorem na_sub {x y : Int32} (h1 : -2147483648 ≤ x.toInt - y.toInt) (h2 : x.toInt - y.toInt ≤ 2147483647) : (x - y).toInt = x.toInt - y.toInt := by
  rw [Int32.toInt_sub, na_bmod h1 h2]
theorem na_mul {x y : Int32} (h1 : -2147483648 ≤ x.toInt * y.toInt) (h2 : x.toInt * y.toInt ≤ 2147483647) : (x * y).toInt = x.toInt * y.toInt := by
  rw [Int32.toInt_mul, na_bmod h1 h2]
theorem na_neg {x : Int32} (h : -2147483647 ≤ x.toInt) : (-x).toInt = -x.toInt := by
  have h2 := na_rng x
  rw [Int32.toInt_neg, na_bmod (by omega) (by omega)]
theorem na_rem (x y : Int32) : (x - x / y * y).toInt = x.toInt.tmod y.toInt := rem_toInt x y
/-- the rest of a division by what is above 0 -/
theorem na_remb {z c : Int} (hc : 0 < c) : -c < z.tmod c ∧ z.tmod c < c := tmod_bounds hc
theorem na_rem0 {z c : Int} (hz : 0 ≤ z) (hc : 0 < c) : 0 ≤ z.tmod c ∧ z.tmod c ≤ z := by
  rw [Int.tmod_eq_emod_of_nonneg hz]
  exact ⟨Int.emod_nonneg z (by omega), by
    have h1 := Int.emod_add_mul_ediv z c
    have h2 := Int.ediv_nonneg hz (Int.le_of_lt hc)
    have h3 := Int.mul_nonneg (Int.le_of_lt hc) h2
    omega⟩
theorem na_nn {x : Int32} : 0 ≤ x.toInt ↔ x.toBitVec.toNat < 2147483648 := by
  show 0 ≤ x.toBitVec.toInt ↔ _
  rw [BitVec.toInt_eq_toNat_cond]
  have := x.toBitVec.isLt
  split <;> omega
theorem na_tn {x : Int32} (h : x.toBitVec.toNat < 2147483648) : x.toInt = (x.toBitVec.toNat : Int) := by
  show x.toBitVec.toInt = _
  rw [BitVec.toInt_eq_toNat_cond]
  split <;> omega
theorem na_and {x y : Int32} (h : 0 ≤ y.toInt) : 0 ≤ (x &&& y).toInt ∧ (x &&& y).toInt ≤ y.toInt := by
  have hy := na_nn.mp h
  have e : (x &&& y).toBitVec.toNat = x.toBitVec.toNat &&& y.toBitVec.toNat := by rw [Int32.toBitVec_and, BitVec.toNat_and]
  have hl : x.toBitVec.toNat &&& y.toBitVec.toNat ≤ y.toBitVec.toNat := Nat.and_le_right
  have h2 : (x &&& y).toBitVec.toNat < 2147483648 := by omega
  rw [na_tn h2, na_tn hy]
  omega
theorem na_and' {x y : Int32} (h : 0 ≤ x.toInt) : 0 ≤ (x &&& y).toInt ∧ (x &&& y).toInt ≤ x.toInt := by
  rw [Int32.and_comm]
  exact na_and h
theorem na_i8 (x : Int32) : -128 ≤ x.toInt8.toInt32.toInt ∧ x.toInt8.toInt32.toInt ≤ 127 := by
  rw [Int8.toInt_toInt32]
  have h1 := Int8.le_toInt x.toInt8
  have h2 := Int8.toInt_lt x.toInt8
  omega
theorem na_i16 (x : Int32) : -32768 ≤ x.toInt16.toInt32.toInt ∧ x.toInt16.toInt32.toInt ≤ 32767 := by
  rw [Int16.toInt_toInt32]
  have h1 := Int16.le_toInt x.toInt16
  have h2 := Int16.toInt_lt x.toInt16
  omega
theorem na_ushr8 (x : Int32) : 0 ≤ (x.toUInt32 >>> ((8 : Int32).toUInt32 &&& Int32.toUInt32 31)).toInt32.toInt ∧ (x.toUInt32 >>> ((8 : Int32).toUInt32 &&& Int32.toUInt32 31)).toInt32.toInt ≤ 16777215 := by
  have e : (x.toUInt32 >>> ((8 : Int32).toUInt32 &&& Int32.toUInt32 31)).toInt32.toBitVec.toNat = x.toUInt32.toNat >>> 8 := by
    show (x.toUInt32 >>> (8 : UInt32)).toNat = _
    rw [UInt32.toNat_shiftRight]
    rfl
  have hl : x.toUInt32.toNat >>> 8 ≤ 16777215 := by
    rw [Nat.shiftRight_eq_div_pow]
    have := x.toUInt32.toNat_lt
    omega
  rw [na_tn (by omega), e]
  omega
theorem na_ushr16 (x : Int32) : 0 ≤ (x.toUInt32 >>> ((16 : Int32).toUInt32 &&& Int32.toUInt32 31)).toInt32.toInt ∧ (x.toUInt32 >>> ((16 : Int32).toUInt32 &&& Int32.toUInt32 31)).toInt32.toInt ≤ 65535 := by
  have e : (x.toUInt32 >>> ((16 : Int32).toUInt32 &&& Int32.toUInt32 31)).toInt32.toBitVec.toNat = x.toUInt32.toNat >>> 16 := by
    show (x.toUInt32 >>> (16 : UInt32)).toNat = _
    rw [UInt32.toNat_shiftRight]
    rfl
  have hl : x.toUInt32.toNat >>> 16 ≤ 65535 := by
    rw [Nat.shiftRight_eq_div_pow]
    have := x.toUInt32.toNat_lt
    omega
  rw [na_tn (by omega), e]
  omega
/-- a division by a number above 0 keeps the order -/
theorem na_tdiv {a b c : Int} (hc : 0 < c) (h : a ≤ b) : a.tdiv c ≤ b.tdiv c := Int.tdiv_le_tdiv hc h
theorem na_div {x y : Int32} (hy : 0 < y.toInt) : (x / y).toInt = x.toInt.tdiv y.toInt := by
  have h1 := na_rng x
  have h3 : -2147483648 ≤ x.toInt.tdiv y.toInt := by
    rcases Int.le_total 0 x.toInt with q | q
    · have := Int.tdiv_nonneg q (Int.le_of_lt hy)
      omega
    · have e : x.toInt.tdiv y.toInt = -((-x.toInt).tdiv y.toInt) := by rw [Int.neg_tdiv, Int.neg_neg]
      have := Int.tdiv_le_self (a := -x.toInt) y.toInt (by omega)
      omega
  have h4 : x.toInt.tdiv y.toInt ≤ 2147483647 := by
    rcases Int.le_total 0 x.toInt with q | q
    · have := Int.tdiv_le_self (a := x.toInt) y.toInt q
      omega
    · have e : x.toInt.tdiv y.toInt = -((-x.toInt).tdiv y.toInt) := by rw [Int.neg_tdiv, Int.neg_neg]
      have := Int.tdiv_nonneg (a := -x.toInt) (b := y.toInt) (by omega) (Int.le_of_lt hy)
      omega
  rw [Int32.toInt_div, na_bmod h3 h4]
end
section
/-! ARITHMETIC BY BOUNDS. -/
def aok32 (q : Int × Int) : Bool := decide (-2147483648 ≤ q.1) && decide (q.2 ≤ 2147483647)
def afull : Int × Int := (-2147483648, 2147483647)
def aclip (q : Int × Int) : Int × Int := bif aok32 q then q else afull
def anew (cs : aCs) (q : Int × Int) : aCs × aI := (cs ++ [q], .inl (cs.length, 0))
/-- what a computed number is told to be -/
def aGot (E : List Int) (cs : aCs) (z : Int) (r : aCs × aI) : Prop := ∃ q, aSat (E ++ q) r.1 ∧ aIs (E ++ q) z r.2
theorem aGot_new {E : List Int} {cs : aCs} {z : Int} {q : Int × Int} (hs : aSat E cs) (h1 : q.1 ≤ z) (h2 : z ≤ q.2) : aGot E cs z (anew cs q) := by
  refine ⟨[z], aSat_ext hs h1 h2, ?_⟩
  unfold anew
  dsimp only
  rw [← hs.1]
  exact aIs_new
theorem aGot_full {E : List Int} {cs : aCs} {x : Int32} (hs : aSat E cs) : aGot E cs x.toInt (anew cs afull) := aGot_new hs (na_rng x).1 (na_rng x).2
theorem aGot_old {E : List Int} {cs : aCs} {z : Int} {a : aI} (hs : aSat E cs) (h : aIs E z a) : aGot E cs z (cs, a) := ⟨[], by rw [List.append_nil]; exact hs, by rw [List.append_nil]; exact h⟩
theorem aok32_ok {q : Int × Int} (h : aok32 q = true) : -2147483648 ≤ q.1 ∧ q.2 ≤ 2147483647 := by
  unfold aok32 at h
  rw [Bool.and_eq_true, decide_eq_true_eq, decide_eq_true_eq] at h
  exact h
/-- a number that is what it is without wrapping, where its bounds say so -/
theorem aGot_clip {E : List Int} {cs : aCs} {x : Int32} {w : Int} {q : Int × Int} (hs : aSat E cs) (h1 : q.1 ≤ w) (h2 : w ≤ q.2) (h3 : -2147483648 ≤ w → w ≤ 2147483647 → x.toInt = w) : aGot E cs x.toInt (anew cs (aclip q)) := by
  unfold aclip
  cases hb : aok32 q
  · exact aGot_full hs
  · have := aok32_ok hb
    have e := h3 (by omega) (by omega)
    rw [e]
    exact aGot_new hs h1 h2
theorem aof {x : Int32} {c : Int} (h : x.toInt = c) : Int32.ofInt c = x := by rw [← h, Int32.ofInt_toInt]
def ashift (cs : aCs) (k : Nat) (o d : Int) : aCs × aI := bif aok32 ((abd cs (.inl (k, o))).1 + d, (abd cs (.inl (k, o))).2 + d) then (cs, .inl (k, o + d)) else anew cs afull
theorem ashift_ok {E : List Int} {cs : aCs} {k : Nat} {o d : Int} {x r : Int32} (hs : aSat E cs) (hx : aIs E x.toInt (.inl (k, o))) (hr : -2147483648 ≤ x.toInt + d → x.toInt + d ≤ 2147483647 → r.toInt = x.toInt + d) : aGot E cs r.toInt (ashift cs k o d) := by
  unfold ashift
  have hb := abd_ok hs hx
  cases hc : aok32 ((abd cs (.inl (k, o))).1 + d, (abd cs (.inl (k, o))).2 + d)
  · exact aGot_full hs
  · have hq := aok32_ok hc
    dsimp only at hq
    have e := hr (by omega) (by omega)
    rw [e]
    obtain ⟨w, h1, h2⟩ := hx
    exact aGot_old hs ⟨w, h1, by omega⟩
def abin (cs : aCs) (b : Nat) (x y : aI) : aCs × aI := match x, y with
  | .inr c, .inr d => (cs, .inr (zbin b (Int32.ofInt c) (Int32.ofInt d)).toInt)
  | x, y => (match b with
    | 0 => (match x, y with
      | .inl (k, o), .inr d => ashift cs k o d
      | .inr c, .inl (k, o) => ashift cs k o c
      | x, y => anew cs (aclip ((abd cs x).1 + (abd cs y).1, (abd cs x).2 + (abd cs y).2)))
    | 1 => (match x, y with
      | .inl (k, o), .inr d => ashift cs k o (-d)
      | x, y => anew cs (aclip ((abd cs x).1 - (abd cs y).2, (abd cs x).2 - (abd cs y).1)))
    | 2 => bif decide (0 ≤ (abd cs x).1) && decide (0 ≤ (abd cs y).1) then anew cs (aclip ((abd cs x).1 * (abd cs y).1, (abd cs x).2 * (abd cs y).2)) else anew cs afull
    | 3 => bif decide (0 ≤ (abd cs y).1) then anew cs (0, (abd cs y).2) else bif decide (0 ≤ (abd cs x).1) then anew cs (0, (abd cs x).2) else anew cs afull
    | 8 => (match y with
      | .inr d => bif decide (d = 8) then anew cs (0, 16777215) else bif decide (d = 16) then anew cs (0, 65535) else anew cs afull
      | _ => anew cs afull)
    | _ => anew cs afull)
theorem abin_ok {E : List Int} {cs : aCs} {b : Nat} {ax ay : aI} {x y : Int32} (hs : aSat E cs) (hx : aIs E x.toInt ax) (hy : aIs E y.toInt ay) : aGot E cs (zbin b x y).toInt (abin cs b ax ay) := by
  have bx := abd_ok hs hx
  have by' := abd_ok hs hy
  have gen : ∀ (ax ay : aI), aIs E x.toInt ax → aIs E y.toInt ay → (abd cs ax).1 ≤ x.toInt ∧ x.toInt ≤ (abd cs ax).2 := fun ax ay h1 _ => abd_ok hs h1
  match b with
  | 0 =>
    match ax, ay, hx, hy, bx, by' with
    | .inr c, .inr d, hx, hy, _, _ =>
      unfold abin
      dsimp only
      rw [aof hx, aof hy]
      exact aGot_old hs rfl
    | .inl (k, o), .inr d, hx, hy, _, _ =>
      have hy : y.toInt = d := hy
      exact ashift_ok hs hx (fun h1 h2 => by rw [← hy] at h1 h2 ⊢; exact na_add h1 h2)
    | .inr c, .inl (k, o), hx, hy, _, _ =>
      have hx : x.toInt = c := hx
      exact ashift_ok hs hy (fun h1 h2 => by
        rw [← hx] at h1 h2 ⊢
        rw [Int.add_comm]
        exact na_add (by omega) (by omega))
    | .inl (k, o), .inl (k2, o2), hx, hy, bx, by' => exact aGot_clip hs (by omega) (by omega) (fun h1 h2 => na_add h1 h2)
  | 1 =>
    match ax, ay, hx, hy, bx, by' with
    | .inr c, .inr d, hx, hy, _, _ =>
      unfold abin
      dsimp only
      rw [aof hx, aof hy]
      exact aGot_old hs rfl
    | .inl (k, o), .inr d, hx, hy, _, _ =>
      have hy : y.toInt = d := hy
      exact ashift_ok hs hx (fun h1 h2 => by
        rw [← hy] at h1 h2 ⊢
        exact na_sub (by omega) (by omega))
    | .inr c, .inl (k, o), hx, hy, bx, by' => exact aGot_clip hs (by omega) (by omega) (fun h1 h2 => na_sub h1 h2)
    | .inl (k, o), .inl (k2, o2), hx, hy, bx, by' => exact aGot_clip hs (by omega) (by omega) (fun h1 h2 => na_sub h1 h2)
  | 2 =>
    have key : ∀ (u v : aI), (abd cs u).1 ≤ x.toInt ∧ x.toInt ≤ (abd cs u).2 → (abd cs v).1 ≤ y.toInt ∧ y.toInt ≤ (abd cs v).2 → aGot E cs (zbin 2 x y).toInt (bif decide (0 ≤ (abd cs u).1) && decide (0 ≤ (abd cs v).1) then anew cs (aclip ((abd cs u).1 * (abd cs v).1, (abd cs u).2 * (abd cs v).2)) else anew cs afull) := by
      intro u v h1 h2
      cases hc : (decide (0 ≤ (abd cs u).1) && decide (0 ≤ (abd cs v).1))
      · exact aGot_full hs
      · rw [Bool.and_eq_true, decide_eq_true_eq, decide_eq_true_eq] at hc
        exact aGot_clip hs (Int.mul_le_mul h1.1 h2.1 hc.2 (by omega)) (Int.mul_le_mul h1.2 h2.2 (by omega) (by omega)) (fun q1 q2 => na_mul q1 q2)
    match ax, ay, hx, hy, bx, by' with
    | .inr c, .inr d, hx, hy, _, _ =>
      unfold abin
      dsimp only
      rw [aof hx, aof hy]
      exact aGot_old hs rfl
    | .inl (k, o), .inr d, hx, hy, bx, by' => exact key _ _ bx by'
    | .inr c, .inl (k, o), hx, hy, bx, by' => exact key _ _ bx by'
    | .inl (k, o), .inl (k2, o2), hx, hy, bx, by' => exact key _ _ bx by'
  | 3 =>
    have key : ∀ (u v : aI), (abd cs u).1 ≤ x.toInt ∧ x.toInt ≤ (abd cs u).2 → (abd cs v).1 ≤ y.toInt ∧ y.toInt ≤ (abd cs v).2 → aGot E cs (zbin 3 x y).toInt (bif decide (0 ≤ (abd cs v).1) then anew cs (0, (abd cs v).2) else bif decide (0 ≤ (abd cs u).1) then anew cs (0, (abd cs u).2) else anew cs afull) := by
      intro u v h1 h2
      cases hc : decide (0 ≤ (abd cs v).1)
      · cases hc2 : decide (0 ≤ (abd cs u).1)
        · exact aGot_full hs
        · rw [decide_eq_true_eq] at hc2
          have q := na_and' (x := x) (y := y) (by omega)
          exact aGot_new hs q.1 (Int.le_trans q.2 h1.2)
      · rw [decide_eq_true_eq] at hc
        have q := na_and (x := x) (y := y) (by omega)
        exact aGot_new hs q.1 (Int.le_trans q.2 h2.2)
    match ax, ay, hx, hy, bx, by' with
    | .inr c, .inr d, hx, hy, _, _ =>
      unfold abin
      dsimp only
      rw [aof hx, aof hy]
      exact aGot_old hs rfl
    | .inl (k, o), .inr d, hx, hy, bx, by' => exact key _ _ bx by'
    | .inr c, .inl (k, o), hx, hy, bx, by' => exact key _ _ bx by'
    | .inl (k, o), .inl (k2, o2), hx, hy, bx, by' => exact key _ _ bx by'
  | 8 =>
    match ax, ay, hx, hy, bx, by' with
    | .inr c, .inr d, hx, hy, _, _ =>
      unfold abin
      dsimp only
      rw [aof hx, aof hy]
      exact aGot_old hs rfl
    | .inl (k, o), .inr d, hx, hy, bx, by' =>
      have hy : y.toInt = d := hy
      show aGot E cs (zbin 8 x y).toInt (bif decide (d = 8) then anew cs (0, 16777215) else bif decide (d = 16) then anew cs (0, 65535) else anew cs afull)
      cases hc : decide (d = 8)
      · cases hc2 : decide (d = 16)
        · exact aGot_full hs
        · rw [decide_eq_true_eq] at hc2
          have ey : y = 16 := by
            rw [← Int32.toInt_inj, hy, hc2]
            rfl
          subst ey
          exact aGot_new hs (na_ushr16 x).1 (na_ushr16 x).2
      · rw [decide_eq_true_eq] at hc
        have ey : y = 8 := by
          rw [← Int32.toInt_inj, hy, hc]
          rfl
        subst ey
        exact aGot_new hs (na_ushr8 x).1 (na_ushr8 x).2
    | .inr c, .inl (k, o), hx, hy, bx, by' => exact aGot_full hs
    | .inl (k, o), .inl (k2, o2), hx, hy, bx, by' => exact aGot_full hs
  | 4 =>
    match ax, ay, hx, hy with
    | .inr c, .inr d, hx, hy =>
      unfold abin
      dsimp only
      rw [aof hx, aof hy]
      exact aGot_old hs rfl
    | .inl (k, o), .inr d, hx, hy => exact aGot_full hs
    | .inr c, .inl (k, o), hx, hy => exact aGot_full hs
    | .inl (k, o), .inl (k2, o2), hx, hy => exact aGot_full hs
  | 5 =>
    match ax, ay, hx, hy with
    | .inr c, .inr d, hx, hy =>
      unfold abin
      dsimp only
      rw [aof hx, aof hy]
      exact aGot_old hs rfl
    | .inl (k, o), .inr d, hx, hy => exact aGot_full hs
    | .inr c, .inl (k, o), hx, hy => exact aGot_full hs
    | .inl (k, o), .inl (k2, o2), hx, hy => exact aGot_full hs
  | 6 =>
    match ax, ay, hx, hy with
    | .inr c, .inr d, hx, hy =>
      unfold abin
      dsimp only
      rw [aof hx, aof hy]
      exact aGot_old hs rfl
    | .inl (k, o), .inr d, hx, hy => exact aGot_full hs
    | .inr c, .inl (k, o), hx, hy => exact aGot_full hs
    | .inl (k, o), .inl (k2, o2), hx, hy => exact aGot_full hs
  | 7 =>
    match ax, ay, hx, hy with
    | .inr c, .inr d, hx, hy =>
      unfold abin
      dsimp only
      rw [aof hx, aof hy]
      exact aGot_old hs rfl
    | .inl (k, o), .inr d, hx, hy => exact aGot_full hs
    | .inr c, .inl (k, o), hx, hy => exact aGot_full hs
    | .inl (k, o), .inl (k2, o2), hx, hy => exact aGot_full hs
  | b + 9 =>
    match ax, ay, hx, hy with
    | .inr c, .inr d, hx, hy =>
      unfold abin
      dsimp only
      rw [aof hx, aof hy]
      exact aGot_old hs rfl
    | .inl (k, o), .inr d, hx, hy => exact aGot_full hs
    | .inr c, .inl (k, o), hx, hy => exact aGot_full hs
    | .inl (k, o), .inl (k2, o2), hx, hy => exact aGot_full hs
end
section
/-! DIVISION, SIGNS, BOUNDS THAT A COMPARISON CUTS. -/
def adiv (cs : aCs) (b : Nat) (x y : aI) : Option (aCs × aI) :=
  bif decide (0 < (abd cs y).1) then some (match b with
    | 0 => (match y with
      | .inr d => anew cs ((abd cs x).1.tdiv d, (abd cs x).2.tdiv d)
      | _ => anew cs afull)
    | _ => bif decide (0 ≤ (abd cs x).1) then anew cs (0, (abd cs y).2 - 1) else anew cs (1 - (abd cs y).2, (abd cs y).2 - 1))
  else bif decide ((abd cs y).2 < 0) then some (anew cs afull) else none
def zdv (b : Nat) (x y : Int32) : Int32 := match b with
  | 0 => x / y
  | _ => x - x / y * y
theorem adiv_ok {E : List Int} {cs : aCs} {b : Nat} {ax ay : aI} {x y : Int32} {r : aCs × aI} (hs : aSat E cs) (hx : aIs E x.toInt ax) (hy : aIs E y.toInt ay) (h : adiv cs b ax ay = some r) : ¬ y = 0 ∧ aGot E cs (zdv b x y).toInt r := by
  have bx := abd_ok hs hx
  have by' := abd_ok hs hy
  have z0 : (0 : Int32).toInt = 0 := rfl
  unfold adiv at h
  cases hc : decide (0 < (abd cs ay).1)
  · rw [hc] at h
    dsimp only [cond_false] at h
    cases hc2 : decide ((abd cs ay).2 < 0)
    · rw [hc2] at h; cases h
    · rw [hc2] at h
      rw [decide_eq_true_eq] at hc2
      cases h
      exact ⟨fun q => by rw [q, z0] at by'; omega, aGot_full hs⟩
  · rw [hc] at h
    rw [decide_eq_true_eq] at hc
    dsimp only [cond_true] at h
    refine ⟨fun q => by rw [q, z0] at by'; omega, ?_⟩
    cases b with
    | zero =>
      try dsimp only at h
      match ay, hy, by', hc, h with
      | .inr d, hy, by', hc, h =>
        cases h
        have hy : y.toInt = d := hy
        show aGot E cs (x / y).toInt _
        rw [na_div (by omega), hy]
        exact aGot_new hs (na_tdiv hc bx.1) (na_tdiv hc bx.2)
      | .inl (k, o), hy, by', hc, h =>
        cases h
        exact aGot_full hs
    | succ b =>
      try dsimp only at h
      have hb := na_remb (z := x.toInt) (c := y.toInt) (by omega)
      show aGot E cs (x - x / y * y).toInt _
      rw [na_rem]
      cases hc2 : decide (0 ≤ (abd cs ax).1)
      · rw [hc2] at h
        cases h
        exact aGot_new hs (by dsimp only; omega) (by dsimp only; omega)
      · rw [hc2] at h
        rw [decide_eq_true_eq] at hc2
        cases h
        have hr := na_rem0 (z := x.toInt) (c := y.toInt) (by omega) (by omega)
        exact aGot_new hs (by dsimp only; omega) (by dsimp only; omega)
def aun (cs : aCs) (b : Nat) (x : aI) : aCs × aI := match b with
  | 0 => bif decide (-2147483647 ≤ (abd cs x).1) then anew cs (-(abd cs x).2, -(abd cs x).1) else anew cs afull
  | 1 => anew cs (-128, 127)
  | _ => anew cs (-32768, 32767)
theorem aun_ok {E : List Int} {cs : aCs} {b : Nat} {ax : aI} {x : Int32} (hs : aSat E cs) (hx : aIs E x.toInt ax) : aGot E cs (zun b x).toInt (aun cs b ax) := by
  have bx := abd_ok hs hx
  match b with
  | 0 =>
    show aGot E cs (-x).toInt (bif decide (-2147483647 ≤ (abd cs ax).1) then anew cs (-(abd cs ax).2, -(abd cs ax).1) else anew cs afull)
    cases hc : decide (-2147483647 ≤ (abd cs ax).1)
    · exact aGot_full hs
    · rw [decide_eq_true_eq] at hc
      rw [na_neg (by omega)]
      exact aGot_new hs (by dsimp only; omega) (by dsimp only; omega)
  | 1 => exact aGot_new hs (na_i8 x).1 (na_i8 x).2
  | _ + 2 => exact aGot_new hs (na_i16 x).1 (na_i16 x).2
/-- bounds cut; none where nothing is left -/
def arf (cs : aCs) (a : aI) (q : Int × Int) : Option aCs := match a with
  | .inl (k, o) => (match zget cs k with
    | some p => bif decide (max p.1 (q.1 - o) ≤ min p.2 (q.2 - o)) then some (zput cs k (max p.1 (q.1 - o), min p.2 (q.2 - o))) else none
    | none => none)
  | .inr c => bif decide (q.1 ≤ c) && decide (c ≤ q.2) then some cs else none
theorem arf_ok {E : List Int} {cs : aCs} {a : aI} {z : Int} {q : Int × Int} (hs : aSat E cs) (h : aIs E z a) (h1 : q.1 ≤ z) (h2 : z ≤ q.2) : ∃ cs', arf cs a q = some cs' ∧ aSat E cs' := by
  match a, h with
  | .inr c, h =>
    have h : z = c := h
    subst h
    refine ⟨cs, ?_, hs⟩
    unfold arf
    dsimp only
    rw [show (decide (q.1 ≤ z) && decide (z ≤ q.2)) = true by simp [h1, h2]]
    rfl
  | .inl (k, o), h =>
    obtain ⟨w, g1, g2⟩ := h
    have hl := zget_lt g1
    rw [hs.1] at hl
    obtain ⟨p, hp⟩ := zget_of_lt hl
    have hb := hs.2 k w p g1 hp
    have c1 : max p.1 (q.1 - o) ≤ w := Int.max_le.mpr ⟨hb.1, by omega⟩
    have c2 : w ≤ min p.2 (q.2 - o) := Int.le_min.mpr ⟨hb.2, by omega⟩
    refine ⟨zput cs k (max p.1 (q.1 - o), min p.2 (q.2 - o)), ?_, ?_, ?_⟩
    · unfold arf
      dsimp only
      rw [hp]
      dsimp only
      rw [show decide (max p.1 (q.1 - o) ≤ min p.2 (q.2 - o)) = true from decide_eq_true (Int.le_trans c1 c2)]
      rfl
    · rw [zput_length]
      exact hs.1
    · intro j u r e1 e2
      by_cases hj : j = k
      · subst hj
        rw [zget_put_eq _ _ _ hl] at e2
        cases e2
        rw [g1] at e1
        cases e1
        exact ⟨c1, c2⟩
      · rw [zget_put_ne _ _ _ _ hj] at e2
        exact hs.2 j u r e1 e2
def abig : Int := 36893488147419103232
/-- x < y -/
def alt (cs : aCs) (x y : aI) : Option aCs := match arf cs x (-abig, (abd cs y).2 - 1) with
  | some c1 => arf c1 y ((abd cs x).1 + 1, abig)
  | none => none
/-- x ≤ y -/
def ale (cs : aCs) (x y : aI) : Option aCs := match arf cs x (-abig, (abd cs y).2) with
  | some c1 => arf c1 y ((abd cs x).1, abig)
  | none => none
def aeq (cs : aCs) (x y : aI) : Option aCs := match arf cs x (abd cs y) with
  | some c1 => arf c1 y (abd cs x)
  | none => none
/-- x ≠ y: an end of x's bounds falls away, where y is a number at that end -/
def ane (cs : aCs) (x y : aI) : Option aCs := bif decide ((abd cs y).1 = (abd cs y).2) then (bif decide ((abd cs x).1 = (abd cs y).1) then arf cs x ((abd cs y).1 + 1, abig) else bif decide ((abd cs x).2 = (abd cs y).1) then arf cs x (-abig, (abd cs y).1 - 1) else some cs) else some cs
section AC
variable {E : List Int} {cs : aCs} {ax ay : aI} {x y : Int}
theorem alt_ok (hs : aSat E cs) (hx : aIs E x ax) (hy : aIs E y ay) (hb : -abig ≤ x ∧ y ≤ abig) (h : x < y) : ∃ cs', alt cs ax ay = some cs' ∧ aSat E cs' := by
  have b1 := abd_ok hs hx
  have b2 := abd_ok hs hy
  obtain ⟨c1, e1, s1⟩ := arf_ok (q := (-abig, (abd cs ay).2 - 1)) hs hx hb.1 (by dsimp only; omega)
  obtain ⟨c2, e2, s2⟩ := arf_ok (q := ((abd cs ax).1 + 1, abig)) s1 hy (by dsimp only; omega) hb.2
  refine ⟨c2, ?_, s2⟩
  unfold alt
  rw [e1]
  exact e2
theorem ale_ok (hs : aSat E cs) (hx : aIs E x ax) (hy : aIs E y ay) (hb : -abig ≤ x ∧ y ≤ abig) (h : x ≤ y) : ∃ cs', ale cs ax ay = some cs' ∧ aSat E cs' := by
  have b1 := abd_ok hs hx
  have b2 := abd_ok hs hy
  obtain ⟨c1, e1, s1⟩ := arf_ok (q := (-abig, (abd cs ay).2)) hs hx hb.1 (by dsimp only; omega)
  obtain ⟨c2, e2, s2⟩ := arf_ok (q := ((abd cs ax).1, abig)) s1 hy (by dsimp only; omega) hb.2
  refine ⟨c2, ?_, s2⟩
  unfold ale
  rw [e1]
  exact e2
theorem aeq_ok (hs : aSat E cs) (hx : aIs E x ax) (hy : aIs E y ay) (h : x = y) : ∃ cs', aeq cs ax ay = some cs' ∧ aSat E cs' := by
  have b1 := abd_ok hs hx
  have b2 := abd_ok hs hy
  obtain ⟨c1, e1, s1⟩ := arf_ok (q := abd cs ay) hs hx (by omega) (by omega)
  obtain ⟨c2, e2, s2⟩ := arf_ok (q := abd cs ax) s1 hy (by omega) (by omega)
  refine ⟨c2, ?_, s2⟩
  unfold aeq
  rw [e1]
  exact e2
theorem ane_ok (hs : aSat E cs) (hx : aIs E x ax) (hy : aIs E y ay) (hb : -abig ≤ x ∧ x ≤ abig) (h : ¬ x = y) : ∃ cs', ane cs ax ay = some cs' ∧ aSat E cs' := by
  have b1 := abd_ok hs hx
  have b2 := abd_ok hs hy
  unfold ane
  cases d1 : decide ((abd cs ay).1 = (abd cs ay).2)
  · exact ⟨cs, rfl, hs⟩
  · rw [decide_eq_true_eq] at d1
    dsimp only [cond_true]
    cases d2 : decide ((abd cs ax).1 = (abd cs ay).1)
    · dsimp only [cond_false]
      cases d3 : decide ((abd cs ax).2 = (abd cs ay).1)
      · exact ⟨cs, rfl, hs⟩
      · rw [decide_eq_true_eq] at d3
        exact arf_ok hs hx hb.1 (by dsimp only; omega)
    · rw [decide_eq_true_eq] at d2
      exact arf_ok hs hx (by dsimp only; omega) hb.2
end AC
end
section
/-! STEPS BY BOUNDS: instructions that leave the cells alone. -/
abbrev aX : Type := aCs × aT × Nat × List (Option aV) × List aV
abbrev aR : Type := List aX ⊕ ((Nat × List aV × aX) ⊕ Option aV)
def aclr (al : List (Option aV)) (i : Nat) : List (Option aV) := match i with
  | 0 => al
  | j + 1 => (match zget al j with
    | some (some (.inl (.inr _))) => zput al j none
    | _ => al)
def ast1 (al : List (Option aV)) (i : Nat) (a : aV) : List (Option aV) := zput (aclr al i) i (some a)
def ast2 (al : List (Option aV)) (i : Nat) (a : aV) : List (Option aV) := zput (zput (aclr al i) i (some a)) (i + 1) none
section AL
variable {E : List Int} {lo : List (Option Value)} {al : List (Option aV)} {i : Nat} {v : Value} {a : aV}
theorem aLo_put (h : aLo E lo al) (hv : aVs E v a) : aLo E (zput lo i (some v)) (zput al i (some a)) := by
  refine ⟨by rw [zput_length, zput_length]; exact h.1, fun j b hb => ?_⟩
  by_cases hj : j = i
  · subst hj
    have hl := zget_lt hb
    rw [zput_length] at hl
    rw [zget_put_eq _ _ _ hl] at hb
    cases hb
    exact ⟨v, zget_put_eq _ _ _ (by rw [h.1]; exact hl), hv⟩
  · rw [zget_put_ne _ _ _ _ hj] at hb
    obtain ⟨w, h1, h2⟩ := h.2 j b hb
    exact ⟨w, by rw [zget_put_ne _ _ _ _ hj]; exact h1, h2⟩
theorem aLo_none (h : aLo E lo al) : aLo E (zput lo i none) (zput al i none) := by
  refine ⟨by rw [zput_length, zput_length]; exact h.1, fun j b hb => ?_⟩
  by_cases hj : j = i
  · subst hj
    have hl := zget_lt hb
    rw [zput_length] at hl
    rw [zget_put_eq _ _ _ hl] at hb
    cases hb
  · rw [zget_put_ne _ _ _ _ hj] at hb
    obtain ⟨w, h1, h2⟩ := h.2 j b hb
    exact ⟨w, by rw [zget_put_ne _ _ _ _ hj]; exact h1, h2⟩
theorem aVs_long (h : aVs E v a) : zlong v = true ↔ ∃ l, a = .inl (.inr l) := by
  match a, h with
  | .inl (.inl a), h =>
    obtain ⟨x, rfl, -⟩ := h
    exact ⟨fun q => (by cases q), fun ⟨l, q⟩ => (by cases q)⟩
  | .inl (.inr a), h =>
    obtain ⟨x, rfl, -⟩ := h
    exact ⟨fun _ => ⟨a, rfl⟩, fun _ => rfl⟩
  | .inr l, h =>
    obtain ⟨x, rfl, -⟩ := h
    exact ⟨fun q => (by cases q), fun ⟨l, q⟩ => (by cases q)⟩
theorem aLo_clr (h : aLo E lo al) : aLo E (zclr lo i) (aclr al i) := by
  cases i with
  | zero => exact h
  | succ j =>
    unfold zclr aclr
    dsimp only
    cases ha : zget al j with
    | none =>
      dsimp only
      have hn : zget lo j = none := by
        cases hz : zget lo j with
        | none => rfl
        | some w =>
          have := zget_lt hz
          rw [h.1] at this
          obtain ⟨u, hu⟩ := zget_of_lt this
          rw [hu] at ha
          cases ha
      rw [hn]
      exact h
    | some w =>
      match w, ha with
      | none, ha =>
        dsimp only
        split
        · rename_i w' hw
          cases zlong w'
          · exact h
          · refine ⟨by dsimp only [cond_true]; rw [zput_length]; exact h.1, fun k b hb => ?_⟩
            have hk : k ≠ j := fun q => by subst q; rw [ha] at hb; cases hb
            obtain ⟨u, h1, h2⟩ := h.2 k b hb
            exact ⟨u, by dsimp only [cond_true]; rw [zget_put_ne _ _ _ _ hk]; exact h1, h2⟩
        · exact h
      | some b, ha =>
        obtain ⟨u, h1, h2⟩ := h.2 j b ha
        rw [h1]
        dsimp only
        match b, ha, h2 with
        | .inl (.inr l), ha, h2 =>
          rw [(aVs_long h2).mpr ⟨l, rfl⟩]
          exact aLo_none h
        | .inl (.inl l), ha, h2 =>
          have e : zlong u = false := by
            cases hz : zlong u
            · rfl
            · obtain ⟨l', q⟩ := (aVs_long h2).mp hz
              cases q
          rw [e]
          exact h
        | .inr l, ha, h2 =>
          have e : zlong u = false := by
            cases hz : zlong u
            · rfl
            · obtain ⟨l', q⟩ := (aVs_long h2).mp hz
              cases q
          rw [e]
          exact h
theorem aLo_st1 (h : aLo E lo al) (hv : aVs E v a) : aLo E (zst1 lo i v) (ast1 al i a) := aLo_put (aLo_clr h) hv
theorem aLo_st2 (h : aLo E lo al) (hv : aVs E v a) : aLo E (zst2 lo i v) (ast2 al i a) := aLo_none (aLo_put (aLo_clr h) hv)
end AL
def aRel (S : List (Nat × Nat)) (rf : Nat → Nat → Option Nat) (iv : Nat → Nat → Int × Int) (E : List Int) (X : aX) (x : zC) : Prop := aSat E X.1 ∧ X.2.2.1 = x.1 ∧ aLo E x.2.1 X.2.2.2.1 ∧ aSt E x.2.2.1 X.2.2.2.2 ∧ aHp S rf iv E X.2.1 x.2.2.2
/-- on to one of some states; nothing but what W names is written -/
def aGo (S : List (Nat × Nat)) (rf : Nat → Nat → Option Nat) (iv : Nat → Nat → Int × Int) (W : Nat → Nat → Bool) (E : List Int) (Ys : List aX) (x y : zC) : Prop := (∃ q, ∃ Y ∈ Ys, aRel S rf iv (E ++ q) Y y) ∧ ∀ o k, W o k = false → y.2.2.2.2.1 o k = x.2.2.2.2.1 o k
def ago (X : aX) : Option aR := some (.inl [X])
def aq0 (len : Nat) (v : Value) : aX → Option aR := fun (cs, T, pc, al, st) => match v with
  | .int c => ago (cs, T, pc + len, al, .inl (.inl (.inr c.toInt)) :: st)
  | .long c => ago (cs, T, pc + len, al, .inl (.inr (.inr c.toInt)) :: st)
  | _ => none
def aq1 (len a : Nat) : aX → Option aR := fun (cs, T, pc, al, st) => match zget al a with
  | some (some (.inl (.inl i))) => ago (cs, T, pc + len, al, .inl (.inl i) :: st)
  | _ => none
def aq2 (len a : Nat) : aX → Option aR := fun (cs, T, pc, al, st) => match zget al a with
  | some (some (.inl (.inr i))) => ago (cs, T, pc + len, al, .inl (.inr i) :: st)
  | _ => none
def aq3 (len a : Nat) : aX → Option aR := fun (cs, T, pc, al, st) => match zget al a with
  | some (some (.inr l)) => ago (cs, T, pc + len, al, .inr l :: st)
  | _ => none
def aq4 (len a : Nat) : aX → Option aR := fun (cs, T, pc, al, st) => match st with
  | .inl (.inl i) :: r => ago (cs, T, pc + len, ast1 al a (.inl (.inl i)), r)
  | _ => none
def aq5 (len a : Nat) : aX → Option aR := fun (cs, T, pc, al, st) => match st with
  | .inl (.inr i) :: r => ago (cs, T, pc + len, ast2 al a (.inl (.inr i)), r)
  | _ => none
def aq6 (len a : Nat) : aX → Option aR := fun (cs, T, pc, al, st) => match st with
  | .inr l :: r => ago (cs, T, pc + len, ast1 al a (.inr l), r)
  | _ => none
def aq7 (len b : Nat) : aX → Option aR := fun (cs, T, pc, al, st) => match st with
  | .inl (.inl y) :: .inl (.inl x) :: r => ago ((abin cs b x y).1, T, pc + len, al, .inl (.inl (abin cs b x y).2) :: r)
  | _ => none
def aq8 (len b : Nat) : aX → Option aR := fun (cs, T, pc, al, st) => match st with
  | .inl (.inl y) :: .inl (.inl x) :: r => (match adiv cs b x y with
    | some q => ago (q.1, T, pc + len, al, .inl (.inl q.2) :: r)
    | none => none)
  | _ => none
def aq9 (len b : Nat) : aX → Option aR := fun (cs, T, pc, al, st) => match st with
  | .inl (.inl x) :: r => ago ((aun cs b x).1, T, pc + len, al, .inl (.inl (aun cs b x).2) :: r)
  | _ => none
def aq10 (len : Nat) : aX → Option aR := fun (cs, T, pc, al, st) => match st with
  | .inl (.inl x) :: r => ago (cs, T, pc + len, al, .inl (.inr x) :: r)
  | _ => none
section AQ
variable {S : List (Nat × Nat)} {rf : Nat → Nat → Option Nat} {iv : Nat → Nat → Int × Int} {W : Nat → Nat → Bool} {E : List Int} {cs : aCs} {T : aT} {al : List (Option aV)} {as : List aV} {pc len a b : Nat} {v : Value} {lo : List (Option Value)} {st : List Value} {h : zH} {Ys : List aX}
/-- one state, nothing written, no new entry -/
theorem aGo_one {Y : aX} {lo' : List (Option Value)} {st' : List Value} {pc' : Nat} (R : aRel S rf iv E Y (pc', lo', st', h)) : aGo S rf iv W E [Y] (pc, lo, st, h) (pc', lo', st', h) := ⟨⟨[], Y, List.mem_singleton.mpr rfl, by rw [List.append_nil]; exact R⟩, fun _ _ _ => rfl⟩
/-- an int comes onto the stack, its bounds perhaps a new entry -/
theorem aGo_int {r : aCs × aI} {z : Int32} {ar : List aV} {sr : List Value} {pc' : Nat} (hg : aGot E cs z.toInt r) (hl : aLo E lo al) (hst : aSt E sr ar) (hh : aHp S rf iv E T h) : aGo S rf iv W E [(r.1, T, pc', al, .inl (.inl r.2) :: ar)] (pc, lo, st, h) (pc', lo, .int z :: sr, h) := by
  obtain ⟨q, g1, g2⟩ := hg
  exact ⟨⟨q, _, List.mem_singleton.mpr rfl, g1, rfl, aLo_ext hl, ⟨⟨z, rfl, g2⟩, aSt_ext hst⟩, aHp_ext hh⟩, fun _ _ _ => rfl⟩
theorem at_0 (R : aRel S rf iv E (cs, T, pc, al, as) (pc, lo, st, h)) (h0 : aq0 len v (cs, T, pc, al, as) = some (.inl Ys)) : ∃ y, zs0 len v (pc, lo, st, h) = some (.inl y) ∧ aGo S rf iv W E Ys (pc, lo, st, h) y := by
  obtain ⟨hs, -, hl, hst, hh⟩ := R
  simp only [aq0, ago] at h0
  split at h0
  · cases h0
    exact ⟨_, rfl, aGo_one ⟨hs, rfl, hl, ⟨⟨_, rfl, rfl⟩, hst⟩, hh⟩⟩
  · cases h0
    exact ⟨_, rfl, aGo_one ⟨hs, rfl, hl, ⟨⟨_, rfl, rfl⟩, hst⟩, hh⟩⟩
  · cases h0
theorem at_1 (R : aRel S rf iv E (cs, T, pc, al, as) (pc, lo, st, h)) (h0 : aq1 len a (cs, T, pc, al, as) = some (.inl Ys)) : ∃ y, zs1 len a (pc, lo, st, h) = some (.inl y) ∧ aGo S rf iv W E Ys (pc, lo, st, h) y := by
  obtain ⟨hs, -, hl, hst, hh⟩ := R
  simp only [aq1, ago] at h0
  split at h0
  · rename_i i hg
    cases h0
    obtain ⟨u, h1, x, rfl, h2⟩ := hl.2 a _ hg
    refine ⟨(pc + len, lo, .int x :: st, h), ?_, aGo_one ⟨hs, rfl, hl, ⟨⟨x, rfl, h2⟩, hst⟩, hh⟩⟩
    simp only [zs1]
    rw [h1]
    rfl
  · cases h0
theorem at_2 (R : aRel S rf iv E (cs, T, pc, al, as) (pc, lo, st, h)) (h0 : aq2 len a (cs, T, pc, al, as) = some (.inl Ys)) : ∃ y, zs2 len a (pc, lo, st, h) = some (.inl y) ∧ aGo S rf iv W E Ys (pc, lo, st, h) y := by
  obtain ⟨hs, -, hl, hst, hh⟩ := R
  simp only [aq2, ago] at h0
  split at h0
  · rename_i i hg
    cases h0
    obtain ⟨u, h1, x, rfl, h2⟩ := hl.2 a _ hg
    refine ⟨(pc + len, lo, .long x :: st, h), ?_, aGo_one ⟨hs, rfl, hl, ⟨⟨x, rfl, h2⟩, hst⟩, hh⟩⟩
    simp only [zs2]
    rw [h1]
    rfl
  · cases h0
theorem at_3 (R : aRel S rf iv E (cs, T, pc, al, as) (pc, lo, st, h)) (h0 : aq3 len a (cs, T, pc, al, as) = some (.inl Ys)) : ∃ y, zs3 len a (pc, lo, st, h) = some (.inl y) ∧ aGo S rf iv W E Ys (pc, lo, st, h) y := by
  obtain ⟨hs, -, hl, hst, hh⟩ := R
  simp only [aq3, ago] at h0
  split at h0
  · rename_i i hg
    cases h0
    obtain ⟨u, h1, x, rfl, h2⟩ := hl.2 a _ hg
    refine ⟨(pc + len, lo, .ref x :: st, h), ?_, aGo_one ⟨hs, rfl, hl, ⟨⟨x, rfl, h2⟩, hst⟩, hh⟩⟩
    simp only [zs3]
    rw [h1]
    rfl
  · cases h0
theorem aSt_cons {a : aV} {ar : List aV} (hst : aSt E st (a :: ar)) : ∃ v sr, st = v :: sr ∧ aVs E v a ∧ aSt E sr ar := by
  match st, hst with
  | [], hst => exact hst.elim
  | v :: sr, hst => exact ⟨v, sr, rfl, hst.1, hst.2⟩
theorem at_4 (R : aRel S rf iv E (cs, T, pc, al, as) (pc, lo, st, h)) (h0 : aq4 len a (cs, T, pc, al, as) = some (.inl Ys)) : ∃ y, zs4 len a (pc, lo, st, h) = some (.inl y) ∧ aGo S rf iv W E Ys (pc, lo, st, h) y := by
  obtain ⟨hs, -, hl, hst, hh⟩ := R
  simp only [aq4, ago] at h0
  split at h0
  · cases h0
    obtain ⟨u, sr, rfl, ⟨x, rfl, h2⟩, h3⟩ := aSt_cons hst
    exact ⟨_, rfl, aGo_one ⟨hs, rfl, aLo_st1 hl ⟨x, rfl, h2⟩, h3, hh⟩⟩
  · cases h0
theorem at_5 (R : aRel S rf iv E (cs, T, pc, al, as) (pc, lo, st, h)) (h0 : aq5 len a (cs, T, pc, al, as) = some (.inl Ys)) : ∃ y, zs5 len a (pc, lo, st, h) = some (.inl y) ∧ aGo S rf iv W E Ys (pc, lo, st, h) y := by
  obtain ⟨hs, -, hl, hst, hh⟩ := R
  simp only [aq5, ago] at h0
  split at h0
  · cases h0
    obtain ⟨u, sr, rfl, ⟨x, rfl, h2⟩, h3⟩ := aSt_cons hst
    exact ⟨_, rfl, aGo_one ⟨hs, rfl, aLo_st2 hl ⟨x, rfl, h2⟩, h3, hh⟩⟩
  · cases h0
theorem at_6 (R : aRel S rf iv E (cs, T, pc, al, as) (pc, lo, st, h)) (h0 : aq6 len a (cs, T, pc, al, as) = some (.inl Ys)) : ∃ y, zs6 len a (pc, lo, st, h) = some (.inl y) ∧ aGo S rf iv W E Ys (pc, lo, st, h) y := by
  obtain ⟨hs, -, hl, hst, hh⟩ := R
  simp only [aq6, ago] at h0
  split at h0
  · cases h0
    obtain ⟨u, sr, rfl, ⟨x, rfl, h2⟩, h3⟩ := aSt_cons hst
    exact ⟨_, rfl, aGo_one ⟨hs, rfl, aLo_st1 hl ⟨x, rfl, h2⟩, h3, hh⟩⟩
  · cases h0
theorem at_7 (R : aRel S rf iv E (cs, T, pc, al, as) (pc, lo, st, h)) (h0 : aq7 len b (cs, T, pc, al, as) = some (.inl Ys)) : ∃ y, zs7 len b (pc, lo, st, h) = some (.inl y) ∧ aGo S rf iv W E Ys (pc, lo, st, h) y := by
  obtain ⟨hs, -, hl, hst, hh⟩ := R
  simp only [aq7, ago] at h0
  split at h0
  · cases h0
    obtain ⟨u, sr, rfl, ⟨y, rfl, h2⟩, h3⟩ := aSt_cons hst
    obtain ⟨u, sr, rfl, ⟨x, rfl, h4⟩, h5⟩ := aSt_cons h3
    exact ⟨_, rfl, aGo_int (abin_ok hs h4 h2) hl h5 hh⟩
  · cases h0
theorem at_8 (R : aRel S rf iv E (cs, T, pc, al, as) (pc, lo, st, h)) (h0 : aq8 len b (cs, T, pc, al, as) = some (.inl Ys)) : ∃ y, zs8 len b (pc, lo, st, h) = some (.inl y) ∧ aGo S rf iv W E Ys (pc, lo, st, h) y := by
  obtain ⟨hs, -, hl, hst, hh⟩ := R
  simp only [aq8, ago] at h0
  split at h0
  · split at h0
    · rename_i q hq
      cases h0
      obtain ⟨u, sr, rfl, ⟨y, rfl, h2⟩, h3⟩ := aSt_cons hst
      obtain ⟨u, sr, rfl, ⟨x, rfl, h4⟩, h5⟩ := aSt_cons h3
      obtain ⟨hy, hg⟩ := adiv_ok hs h4 h2 hq
      refine ⟨(pc + len, lo, .int (zdv b x y) :: sr, h), ?_, aGo_int hg hl h5 hh⟩
      show (if y = 0 then none else _) = _
      rw [if_neg hy]
      cases b <;> rfl
    · cases h0
  · cases h0
theorem at_9 (R : aRel S rf iv E (cs, T, pc, al, as) (pc, lo, st, h)) (h0 : aq9 len b (cs, T, pc, al, as) = some (.inl Ys)) : ∃ y, zs9 len b (pc, lo, st, h) = some (.inl y) ∧ aGo S rf iv W E Ys (pc, lo, st, h) y := by
  obtain ⟨hs, -, hl, hst, hh⟩ := R
  simp only [aq9, ago] at h0
  split at h0
  · cases h0
    obtain ⟨u, sr, rfl, ⟨x, rfl, h2⟩, h3⟩ := aSt_cons hst
    exact ⟨_, rfl, aGo_int (aun_ok hs h2) hl h3 hh⟩
  · cases h0
theorem at_10 (R : aRel S rf iv E (cs, T, pc, al, as) (pc, lo, st, h)) (h0 : aq10 len (cs, T, pc, al, as) = some (.inl Ys)) : ∃ y, zs10 len (pc, lo, st, h) = some (.inl y) ∧ aGo S rf iv W E Ys (pc, lo, st, h) y := by
  obtain ⟨hs, -, hl, hst, hh⟩ := R
  simp only [aq10, ago] at h0
  split at h0
  · cases h0
    obtain ⟨u, sr, rfl, ⟨x, rfl, h2⟩, h3⟩ := aSt_cons hst
    exact ⟨_, rfl, aGo_one ⟨hs, rfl, hl, ⟨⟨x.toInt64, rfl, by rw [Int32.toInt_toInt64]; exact h2⟩, h3⟩, hh⟩⟩
  · cases h0
end AQ
end
