-- began as the skeleton's PART A and rows of the printed names (given for pasting)
-- ===== PART A: goes FIRST, ahead of the names: the tables' words, and 'selects' of the private methods out of them =====
/-- a private method of a class that the tables say can be made, by its rows of tables_1 -/
def lw_okq (q : MethodName × Nat) : Prop := (q.1.cls ≠ "java/lang/invoke/MethodHandle" ∧ q.1.cls ≠ "java/lang/invoke/VarHandle") ∧ Cond.instantiable q.1.cls q.2 ∈ tables_1 ∧ Cond.privateMethod q.1 ∈ tables_1 ∧ Cond.instanceMethod q.1 ∈ tables_1
theorem lw_p0 : lw_okq (⟨"OneForDog", "isMan", "(I)Z"⟩, 13) := ⟨⟨by decide +kernel, by decide +kernel⟩, List.mem_of_getElem? (i := 20) (by decide +kernel), List.mem_of_getElem? (i := 364) (by decide +kernel), List.mem_of_getElem? (i := 365) (by decide +kernel)⟩
theorem lw_p1 : lw_okq (⟨"OneForDog", "readyWaking", "(I)LOneForDog$Wakings;"⟩, 13) := ⟨⟨by decide +kernel, by decide +kernel⟩, List.mem_of_getElem? (i := 20) (by decide +kernel), List.mem_of_getElem? (i := 368) (by decide +kernel), List.mem_of_getElem? (i := 369) (by decide +kernel)⟩
theorem lw_p2 : lw_okq (⟨"OneForDog", "heldVillage", "()LOneForDog$Village;"⟩, 13) := ⟨⟨by decide +kernel, by decide +kernel⟩, List.mem_of_getElem? (i := 20) (by decide +kernel), List.mem_of_getElem? (i := 372) (by decide +kernel), List.mem_of_getElem? (i := 373) (by decide +kernel)⟩
theorem lw_p3 : lw_okq (⟨"OneForDog$Village", "sum", "(Z[I)I"⟩, 9) := ⟨⟨by decide +kernel, by decide +kernel⟩, List.mem_of_getElem? (i := 110) (by decide +kernel), List.mem_of_getElem? (i := 394) (by decide +kernel), List.mem_of_getElem? (i := 395) (by decide +kernel)⟩
theorem lw_p4 : lw_okq (⟨"OneForDog$Village", "holds", "(II[I)Z"⟩, 9) := ⟨⟨by decide +kernel, by decide +kernel⟩, List.mem_of_getElem? (i := 110) (by decide +kernel), List.mem_of_getElem? (i := 398) (by decide +kernel), List.mem_of_getElem? (i := 399) (by decide +kernel)⟩
theorem lw_p5 : lw_okq (⟨"OneForDog$Wakings", "shareOnce", "(II)Z"⟩, 10) := ⟨⟨by decide +kernel, by decide +kernel⟩, List.mem_of_getElem? (i := 152) (by decide +kernel), List.mem_of_getElem? (i := 429) (by decide +kernel), List.mem_of_getElem? (i := 430) (by decide +kernel)⟩
theorem lw_p6 : lw_okq (⟨"OneForDog$VillageText", "goTo", "(I)V"⟩, 4) := ⟨⟨by decide +kernel, by decide +kernel⟩, List.mem_of_getElem? (i := 90) (by decide +kernel), List.mem_of_getElem? (i := 472) (by decide +kernel), List.mem_of_getElem? (i := 473) (by decide +kernel)⟩
theorem lw_p7 : lw_okq (⟨"OneForDog$VillageText", "clause", "(LOneForDog$Village;)Z"⟩, 4) := ⟨⟨by decide +kernel, by decide +kernel⟩, List.mem_of_getElem? (i := 90) (by decide +kernel), List.mem_of_getElem? (i := 476) (by decide +kernel), List.mem_of_getElem? (i := 477) (by decide +kernel)⟩
theorem lw_p8 : lw_okq (⟨"OneForDog$VillageText", "word", "()I"⟩, 4) := ⟨⟨by decide +kernel, by decide +kernel⟩, List.mem_of_getElem? (i := 90) (by decide +kernel), List.mem_of_getElem? (i := 480) (by decide +kernel), List.mem_of_getElem? (i := 481) (by decide +kernel)⟩
theorem lw_p9 : lw_okq (⟨"OneForDog$VillageText", "spells", "(Ljava/lang/String;)Z"⟩, 4) := ⟨⟨by decide +kernel, by decide +kernel⟩, List.mem_of_getElem? (i := 90) (by decide +kernel), List.mem_of_getElem? (i := 485) (by decide +kernel), List.mem_of_getElem? (i := 486) (by decide +kernel)⟩
theorem lw_p10 : lw_okq (⟨"OneForDog$VillageText", "number", "()I"⟩, 4) := ⟨⟨by decide +kernel, by decide +kernel⟩, List.mem_of_getElem? (i := 90) (by decide +kernel), List.mem_of_getElem? (i := 540) (by decide +kernel), List.mem_of_getElem? (i := 541) (by decide +kernel)⟩
theorem lw_p11 : lw_okq (⟨"OneForDog$VillageText", "either", "(LOneForDog$Village;I)Z"⟩, 4) := ⟨⟨by decide +kernel, by decide +kernel⟩, List.mem_of_getElem? (i := 90) (by decide +kernel), List.mem_of_getElem? (i := 549) (by decide +kernel), List.mem_of_getElem? (i := 550) (by decide +kernel)⟩
theorem lw_p12 : lw_okq (⟨"OneForDog$VillageText", "both", "(LOneForDog$Village;I)Z"⟩, 4) := ⟨⟨by decide +kernel, by decide +kernel⟩, List.mem_of_getElem? (i := 90) (by decide +kernel), List.mem_of_getElem? (i := 553) (by decide +kernel), List.mem_of_getElem? (i := 554) (by decide +kernel)⟩
theorem lw_p13 : lw_okq (⟨"OneForDog$VillageText", "factor", "(LOneForDog$Village;I)Z"⟩, 4) := ⟨⟨by decide +kernel, by decide +kernel⟩, List.mem_of_getElem? (i := 90) (by decide +kernel), List.mem_of_getElem? (i := 557) (by decide +kernel), List.mem_of_getElem? (i := 558) (by decide +kernel)⟩
theorem lw_p14 : lw_okq (⟨"OneForDog$VillageText", "nested", "(LOneForDog$Village;I)Z"⟩, 4) := ⟨⟨by decide +kernel, by decide +kernel⟩, List.mem_of_getElem? (i := 90) (by decide +kernel), List.mem_of_getElem? (i := 561) (by decide +kernel), List.mem_of_getElem? (i := 562) (by decide +kernel)⟩
theorem lw_p15 : lw_okq (⟨"OneForDog", "readyNight", "()LOneForDog$Night;"⟩, 13) := ⟨⟨by decide +kernel, by decide +kernel⟩, List.mem_of_getElem? (i := 20) (by decide +kernel), List.mem_of_getElem? (i := 598) (by decide +kernel), List.mem_of_getElem? (i := 599) (by decide +kernel)⟩
def lw_privs_1 : List (MethodName × Nat) := [(⟨"OneForDog", "isMan", "(I)Z"⟩, 13), (⟨"OneForDog", "readyWaking", "(I)LOneForDog$Wakings;"⟩, 13), (⟨"OneForDog", "heldVillage", "()LOneForDog$Village;"⟩, 13), (⟨"OneForDog$Village", "sum", "(Z[I)I"⟩, 9), (⟨"OneForDog$Village", "holds", "(II[I)Z"⟩, 9), (⟨"OneForDog$Wakings", "shareOnce", "(II)Z"⟩, 10), (⟨"OneForDog$VillageText", "goTo", "(I)V"⟩, 4), (⟨"OneForDog$VillageText", "clause", "(LOneForDog$Village;)Z"⟩, 4), (⟨"OneForDog$VillageText", "word", "()I"⟩, 4), (⟨"OneForDog$VillageText", "spells", "(Ljava/lang/String;)Z"⟩, 4), (⟨"OneForDog$VillageText", "number", "()I"⟩, 4), (⟨"OneForDog$VillageText", "either", "(LOneForDog$Village;I)Z"⟩, 4), (⟨"OneForDog$VillageText", "both", "(LOneForDog$Village;I)Z"⟩, 4), (⟨"OneForDog$VillageText", "factor", "(LOneForDog$Village;I)Z"⟩, 4), (⟨"OneForDog$VillageText", "nested", "(LOneForDog$Village;I)Z"⟩, 4), (⟨"OneForDog", "readyNight", "()LOneForDog$Night;"⟩, 13)]
theorem lw_r1 : ∀ q ∈ lw_privs_1, lw_okq q := List.forall_mem_cons.mpr ⟨lw_p0, List.forall_mem_cons.mpr ⟨lw_p1, List.forall_mem_cons.mpr ⟨lw_p2, List.forall_mem_cons.mpr ⟨lw_p3, List.forall_mem_cons.mpr ⟨lw_p4, List.forall_mem_cons.mpr ⟨lw_p5, List.forall_mem_cons.mpr ⟨lw_p6, List.forall_mem_cons.mpr ⟨lw_p7, List.forall_mem_cons.mpr ⟨lw_p8, List.forall_mem_cons.mpr ⟨lw_p9, List.forall_mem_cons.mpr ⟨lw_p10, List.forall_mem_cons.mpr ⟨lw_p11, List.forall_mem_cons.mpr ⟨lw_p12, List.forall_mem_cons.mpr ⟨lw_p13, List.forall_mem_cons.mpr ⟨lw_p14, List.forall_mem_cons.mpr ⟨lw_p15, fun _ h => absurd h List.not_mem_nil⟩⟩⟩⟩⟩⟩⟩⟩⟩⟩⟩⟩⟩⟩⟩⟩
theorem lw_p16 : lw_okq (⟨"OneForDog$Roster", "follow", "(III)V"⟩, 7) := ⟨⟨by decide +kernel, by decide +kernel⟩, List.mem_of_getElem? (i := 232) (by decide +kernel), List.mem_of_getElem? (i := 670) (by decide +kernel), List.mem_of_getElem? (i := 671) (by decide +kernel)⟩
theorem lw_p17 : lw_okq (⟨"OneForDog$Roster", "keep", "(I)V"⟩, 7) := ⟨⟨by decide +kernel, by decide +kernel⟩, List.mem_of_getElem? (i := 232) (by decide +kernel), List.mem_of_getElem? (i := 674) (by decide +kernel), List.mem_of_getElem? (i := 675) (by decide +kernel)⟩
theorem lw_p18 : lw_okq (⟨"OneForDog$Roster", "wakeNext", "(IIII)V"⟩, 7) := ⟨⟨by decide +kernel, by decide +kernel⟩, List.mem_of_getElem? (i := 232) (by decide +kernel), List.mem_of_getElem? (i := 681) (by decide +kernel), List.mem_of_getElem? (i := 682) (by decide +kernel)⟩
theorem lw_p19 : lw_okq (⟨"OneForDog$LongNumber", "multiply", "(I)V"⟩, 1) := ⟨⟨by decide +kernel, by decide +kernel⟩, List.mem_of_getElem? (i := 263) (by decide +kernel), List.mem_of_getElem? (i := 719) (by decide +kernel), List.mem_of_getElem? (i := 720) (by decide +kernel)⟩
theorem lw_p20 : lw_okq (⟨"OneForDog$LongNumber", "subtract", "(I)V"⟩, 1) := ⟨⟨by decide +kernel, by decide +kernel⟩, List.mem_of_getElem? (i := 263) (by decide +kernel), List.mem_of_getElem? (i := 723) (by decide +kernel), List.mem_of_getElem? (i := 724) (by decide +kernel)⟩
theorem lw_p21 : lw_okq (⟨"OneForDog", "tapeAt", "(I)LOneForDog$Tape;"⟩, 13) := ⟨⟨by decide +kernel, by decide +kernel⟩, List.mem_of_getElem? (i := 20) (by decide +kernel), List.mem_of_getElem? (i := 761) (by decide +kernel), List.mem_of_getElem? (i := 762) (by decide +kernel)⟩
theorem lw_p22 : lw_okq (⟨"OneForDog$Bodies", "does", "(IIII)I"⟩, 5) := ⟨⟨by decide +kernel, by decide +kernel⟩, List.mem_of_getElem? (i := 273) (by decide +kernel), List.mem_of_getElem? (i := 804) (by decide +kernel), List.mem_of_getElem? (i := 805) (by decide +kernel)⟩
theorem lw_p23 : lw_okq (⟨"OneForDog$Bodies", "begins", "(I)V"⟩, 5) := ⟨⟨by decide +kernel, by decide +kernel⟩, List.mem_of_getElem? (i := 273) (by decide +kernel), List.mem_of_getElem? (i := 818) (by decide +kernel), List.mem_of_getElem? (i := 819) (by decide +kernel)⟩
theorem lw_p24 : lw_okq (⟨"OneForDog$Bodies", "runs", "(IIII)I"⟩, 5) := ⟨⟨by decide +kernel, by decide +kernel⟩, List.mem_of_getElem? (i := 273) (by decide +kernel), List.mem_of_getElem? (i := 822) (by decide +kernel), List.mem_of_getElem? (i := 823) (by decide +kernel)⟩
theorem lw_p25 : lw_okq (⟨"OneForDog$Tape", "cut", "(J)J"⟩, 3) := ⟨⟨by decide +kernel, by decide +kernel⟩, List.mem_of_getElem? (i := 297) (by decide +kernel), List.mem_of_getElem? (i := 870) (by decide +kernel), List.mem_of_getElem? (i := 871) (by decide +kernel)⟩
theorem lw_p26 : lw_okq (⟨"OneForDogModel", "in", "(III)Z"⟩, 55) := ⟨⟨by decide +kernel, by decide +kernel⟩, List.mem_of_getElem? (i := 887) (by decide +kernel), List.mem_of_getElem? (i := 1063) (by decide +kernel), List.mem_of_getElem? (i := 1064) (by decide +kernel)⟩
theorem lw_p27 : lw_okq (⟨"OneForDogModel", "isHeap", "(I)Z"⟩, 55) := ⟨⟨by decide +kernel, by decide +kernel⟩, List.mem_of_getElem? (i := 887) (by decide +kernel), List.mem_of_getElem? (i := 1071) (by decide +kernel), List.mem_of_getElem? (i := 1072) (by decide +kernel)⟩
theorem lw_p28 : lw_okq (⟨"OneForDogModel", "goesText", "(I)Z"⟩, 55) := ⟨⟨by decide +kernel, by decide +kernel⟩, List.mem_of_getElem? (i := 887) (by decide +kernel), List.mem_of_getElem? (i := 1084) (by decide +kernel), List.mem_of_getElem? (i := 1085) (by decide +kernel)⟩
theorem lw_p29 : lw_okq (⟨"OneForDogModel", "takesClause", "(I)Z"⟩, 55) := ⟨⟨by decide +kernel, by decide +kernel⟩, List.mem_of_getElem? (i := 887) (by decide +kernel), List.mem_of_getElem? (i := 1088) (by decide +kernel), List.mem_of_getElem? (i := 1089) (by decide +kernel)⟩
theorem lw_p30 : lw_okq (⟨"OneForDogModel", "takesHead", "(I)Z"⟩, 55) := ⟨⟨by decide +kernel, by decide +kernel⟩, List.mem_of_getElem? (i := 887) (by decide +kernel), List.mem_of_getElem? (i := 1092) (by decide +kernel), List.mem_of_getElem? (i := 1093) (by decide +kernel)⟩
theorem lw_p31 : lw_okq (⟨"OneForDogModel", "second", "()I"⟩, 55) := ⟨⟨by decide +kernel, by decide +kernel⟩, List.mem_of_getElem? (i := 887) (by decide +kernel), List.mem_of_getElem? (i := 1096) (by decide +kernel), List.mem_of_getElem? (i := 1097) (by decide +kernel)⟩
def lw_privs_2 : List (MethodName × Nat) := [(⟨"OneForDog$Roster", "follow", "(III)V"⟩, 7), (⟨"OneForDog$Roster", "keep", "(I)V"⟩, 7), (⟨"OneForDog$Roster", "wakeNext", "(IIII)V"⟩, 7), (⟨"OneForDog$LongNumber", "multiply", "(I)V"⟩, 1), (⟨"OneForDog$LongNumber", "subtract", "(I)V"⟩, 1), (⟨"OneForDog", "tapeAt", "(I)LOneForDog$Tape;"⟩, 13), (⟨"OneForDog$Bodies", "does", "(IIII)I"⟩, 5), (⟨"OneForDog$Bodies", "begins", "(I)V"⟩, 5), (⟨"OneForDog$Bodies", "runs", "(IIII)I"⟩, 5), (⟨"OneForDog$Tape", "cut", "(J)J"⟩, 3), (⟨"OneForDogModel", "in", "(III)Z"⟩, 55), (⟨"OneForDogModel", "isHeap", "(I)Z"⟩, 55), (⟨"OneForDogModel", "goesText", "(I)Z"⟩, 55), (⟨"OneForDogModel", "takesClause", "(I)Z"⟩, 55), (⟨"OneForDogModel", "takesHead", "(I)Z"⟩, 55), (⟨"OneForDogModel", "second", "()I"⟩, 55)]
theorem lw_r2 : ∀ q ∈ lw_privs_2, lw_okq q := List.forall_mem_cons.mpr ⟨lw_p16, List.forall_mem_cons.mpr ⟨lw_p17, List.forall_mem_cons.mpr ⟨lw_p18, List.forall_mem_cons.mpr ⟨lw_p19, List.forall_mem_cons.mpr ⟨lw_p20, List.forall_mem_cons.mpr ⟨lw_p21, List.forall_mem_cons.mpr ⟨lw_p22, List.forall_mem_cons.mpr ⟨lw_p23, List.forall_mem_cons.mpr ⟨lw_p24, List.forall_mem_cons.mpr ⟨lw_p25, List.forall_mem_cons.mpr ⟨lw_p26, List.forall_mem_cons.mpr ⟨lw_p27, List.forall_mem_cons.mpr ⟨lw_p28, List.forall_mem_cons.mpr ⟨lw_p29, List.forall_mem_cons.mpr ⟨lw_p30, List.forall_mem_cons.mpr ⟨lw_p31, fun _ h => absurd h List.not_mem_nil⟩⟩⟩⟩⟩⟩⟩⟩⟩⟩⟩⟩⟩⟩⟩⟩
theorem lw_p32 : lw_okq (⟨"OneForDogModel", "next", "()I"⟩, 55) := ⟨⟨by decide +kernel, by decide +kernel⟩, List.mem_of_getElem? (i := 887) (by decide +kernel), List.mem_of_getElem? (i := 1100) (by decide +kernel), List.mem_of_getElem? (i := 1101) (by decide +kernel)⟩
theorem lw_p33 : lw_okq (⟨"OneForDogModel", "takesWord", "(II)Z"⟩, 55) := ⟨⟨by decide +kernel, by decide +kernel⟩, List.mem_of_getElem? (i := 887) (by decide +kernel), List.mem_of_getElem? (i := 1104) (by decide +kernel), List.mem_of_getElem? (i := 1105) (by decide +kernel)⟩
theorem lw_p34 : lw_okq (⟨"OneForDogModel", "takes", "(I)Z"⟩, 55) := ⟨⟨by decide +kernel, by decide +kernel⟩, List.mem_of_getElem? (i := 887) (by decide +kernel), List.mem_of_getElem? (i := 1108) (by decide +kernel), List.mem_of_getElem? (i := 1109) (by decide +kernel)⟩
theorem lw_p35 : lw_okq (⟨"OneForDogModel", "takesNumber", "()Z"⟩, 55) := ⟨⟨by decide +kernel, by decide +kernel⟩, List.mem_of_getElem? (i := 887) (by decide +kernel), List.mem_of_getElem? (i := 1112) (by decide +kernel), List.mem_of_getElem? (i := 1113) (by decide +kernel)⟩
theorem lw_p36 : lw_okq (⟨"OneForDogModel", "isDigit", "()Z"⟩, 55) := ⟨⟨by decide +kernel, by decide +kernel⟩, List.mem_of_getElem? (i := 887) (by decide +kernel), List.mem_of_getElem? (i := 1116) (by decide +kernel), List.mem_of_getElem? (i := 1117) (by decide +kernel)⟩
theorem lw_p37 : lw_okq (⟨"OneForDogModel", "takesE", "(I)Z"⟩, 55) := ⟨⟨by decide +kernel, by decide +kernel⟩, List.mem_of_getElem? (i := 887) (by decide +kernel), List.mem_of_getElem? (i := 1120) (by decide +kernel), List.mem_of_getElem? (i := 1121) (by decide +kernel)⟩
theorem lw_p38 : lw_okq (⟨"OneForDogModel", "takesTest", "()Z"⟩, 55) := ⟨⟨by decide +kernel, by decide +kernel⟩, List.mem_of_getElem? (i := 887) (by decide +kernel), List.mem_of_getElem? (i := 1124) (by decide +kernel), List.mem_of_getElem? (i := 1125) (by decide +kernel)⟩
theorem lw_p39 : lw_okq (⟨"OneForDogModel", "place", "(I)I"⟩, 55) := ⟨⟨by decide +kernel, by decide +kernel⟩, List.mem_of_getElem? (i := 887) (by decide +kernel), List.mem_of_getElem? (i := 1128) (by decide +kernel), List.mem_of_getElem? (i := 1129) (by decide +kernel)⟩
theorem lw_p40 : lw_okq (⟨"OneForDogModel", "put", "(I)V"⟩, 55) := ⟨⟨by decide +kernel, by decide +kernel⟩, List.mem_of_getElem? (i := 887) (by decide +kernel), List.mem_of_getElem? (i := 1132) (by decide +kernel), List.mem_of_getElem? (i := 1133) (by decide +kernel)⟩
theorem lw_p41 : lw_okq (⟨"OneForDogModel", "whole", "()V"⟩, 55) := ⟨⟨by decide +kernel, by decide +kernel⟩, List.mem_of_getElem? (i := 887) (by decide +kernel), List.mem_of_getElem? (i := 1136) (by decide +kernel), List.mem_of_getElem? (i := 1137) (by decide +kernel)⟩
theorem lw_p42 : lw_okq (⟨"OneForDogModel", "settle", "(I)V"⟩, 55) := ⟨⟨by decide +kernel, by decide +kernel⟩, List.mem_of_getElem? (i := 887) (by decide +kernel), List.mem_of_getElem? (i := 1140) (by decide +kernel), List.mem_of_getElem? (i := 1141) (by decide +kernel)⟩
theorem lw_p43 : lw_okq (⟨"OneForDogModel", "isMan", "(I)Z"⟩, 55) := ⟨⟨by decide +kernel, by decide +kernel⟩, List.mem_of_getElem? (i := 887) (by decide +kernel), List.mem_of_getElem? (i := 1148) (by decide +kernel), List.mem_of_getElem? (i := 1149) (by decide +kernel)⟩
theorem lw_p44 : lw_okq (⟨"OneForDogModel", "partsOf", "(I)I"⟩, 55) := ⟨⟨by decide +kernel, by decide +kernel⟩, List.mem_of_getElem? (i := 887) (by decide +kernel), List.mem_of_getElem? (i := 1152) (by decide +kernel), List.mem_of_getElem? (i := 1153) (by decide +kernel)⟩
theorem lw_p45 : lw_okq (⟨"OneForDogModel", "shares", "()I"⟩, 55) := ⟨⟨by decide +kernel, by decide +kernel⟩, List.mem_of_getElem? (i := 887) (by decide +kernel), List.mem_of_getElem? (i := 1156) (by decide +kernel), List.mem_of_getElem? (i := 1157) (by decide +kernel)⟩
theorem lw_p46 : lw_okq (⟨"OneForDogModel", "lastOf", "(II)I"⟩, 55) := ⟨⟨by decide +kernel, by decide +kernel⟩, List.mem_of_getElem? (i := 887) (by decide +kernel), List.mem_of_getElem? (i := 1160) (by decide +kernel), List.mem_of_getElem? (i := 1161) (by decide +kernel)⟩
theorem lw_p47 : lw_okq (⟨"OneForDogModel", "begin", "()I"⟩, 55) := ⟨⟨by decide +kernel, by decide +kernel⟩, List.mem_of_getElem? (i := 887) (by decide +kernel), List.mem_of_getElem? (i := 1164) (by decide +kernel), List.mem_of_getElem? (i := 1165) (by decide +kernel)⟩
def lw_privs_3 : List (MethodName × Nat) := [(⟨"OneForDogModel", "next", "()I"⟩, 55), (⟨"OneForDogModel", "takesWord", "(II)Z"⟩, 55), (⟨"OneForDogModel", "takes", "(I)Z"⟩, 55), (⟨"OneForDogModel", "takesNumber", "()Z"⟩, 55), (⟨"OneForDogModel", "isDigit", "()Z"⟩, 55), (⟨"OneForDogModel", "takesE", "(I)Z"⟩, 55), (⟨"OneForDogModel", "takesTest", "()Z"⟩, 55), (⟨"OneForDogModel", "place", "(I)I"⟩, 55), (⟨"OneForDogModel", "put", "(I)V"⟩, 55), (⟨"OneForDogModel", "whole", "()V"⟩, 55), (⟨"OneForDogModel", "settle", "(I)V"⟩, 55), (⟨"OneForDogModel", "isMan", "(I)Z"⟩, 55), (⟨"OneForDogModel", "partsOf", "(I)I"⟩, 55), (⟨"OneForDogModel", "shares", "()I"⟩, 55), (⟨"OneForDogModel", "lastOf", "(II)I"⟩, 55), (⟨"OneForDogModel", "begin", "()I"⟩, 55)]
theorem lw_r3 : ∀ q ∈ lw_privs_3, lw_okq q := List.forall_mem_cons.mpr ⟨lw_p32, List.forall_mem_cons.mpr ⟨lw_p33, List.forall_mem_cons.mpr ⟨lw_p34, List.forall_mem_cons.mpr ⟨lw_p35, List.forall_mem_cons.mpr ⟨lw_p36, List.forall_mem_cons.mpr ⟨lw_p37, List.forall_mem_cons.mpr ⟨lw_p38, List.forall_mem_cons.mpr ⟨lw_p39, List.forall_mem_cons.mpr ⟨lw_p40, List.forall_mem_cons.mpr ⟨lw_p41, List.forall_mem_cons.mpr ⟨lw_p42, List.forall_mem_cons.mpr ⟨lw_p43, List.forall_mem_cons.mpr ⟨lw_p44, List.forall_mem_cons.mpr ⟨lw_p45, List.forall_mem_cons.mpr ⟨lw_p46, List.forall_mem_cons.mpr ⟨lw_p47, fun _ h => absurd h List.not_mem_nil⟩⟩⟩⟩⟩⟩⟩⟩⟩⟩⟩⟩⟩⟩⟩⟩
theorem lw_p48 : lw_okq (⟨"OneForDogModel", "behind", "()I"⟩, 55) := ⟨⟨by decide +kernel, by decide +kernel⟩, List.mem_of_getElem? (i := 887) (by decide +kernel), List.mem_of_getElem? (i := 1168) (by decide +kernel), List.mem_of_getElem? (i := 1169) (by decide +kernel)⟩
theorem lw_p49 : lw_okq (⟨"OneForDogModel", "overOf", "(III)I"⟩, 55) := ⟨⟨by decide +kernel, by decide +kernel⟩, List.mem_of_getElem? (i := 887) (by decide +kernel), List.mem_of_getElem? (i := 1172) (by decide +kernel), List.mem_of_getElem? (i := 1173) (by decide +kernel)⟩
theorem lw_p50 : lw_okq (⟨"OneForDogModel", "hasOver", "()Z"⟩, 55) := ⟨⟨by decide +kernel, by decide +kernel⟩, List.mem_of_getElem? (i := 887) (by decide +kernel), List.mem_of_getElem? (i := 1176) (by decide +kernel), List.mem_of_getElem? (i := 1177) (by decide +kernel)⟩
theorem lw_p51 : lw_okq (⟨"OneForDogModel", "sumOf", "(IIII)I"⟩, 55) := ⟨⟨by decide +kernel, by decide +kernel⟩, List.mem_of_getElem? (i := 887) (by decide +kernel), List.mem_of_getElem? (i := 1180) (by decide +kernel), List.mem_of_getElem? (i := 1181) (by decide +kernel)⟩
theorem lw_p52 : lw_okq (⟨"OneForDogModel", "holds", "(IIII)Z"⟩, 55) := ⟨⟨by decide +kernel, by decide +kernel⟩, List.mem_of_getElem? (i := 887) (by decide +kernel), List.mem_of_getElem? (i := 1184) (by decide +kernel), List.mem_of_getElem? (i := 1185) (by decide +kernel)⟩
theorem lw_p53 : lw_okq (⟨"OneForDogModel", "factOf", "(IIII)I"⟩, 55) := ⟨⟨by decide +kernel, by decide +kernel⟩, List.mem_of_getElem? (i := 887) (by decide +kernel), List.mem_of_getElem? (i := 1188) (by decide +kernel), List.mem_of_getElem? (i := 1189) (by decide +kernel)⟩
theorem lw_p54 : lw_okq (⟨"OneForDogModel", "comesOut", "(III)Z"⟩, 55) := ⟨⟨by decide +kernel, by decide +kernel⟩, List.mem_of_getElem? (i := 887) (by decide +kernel), List.mem_of_getElem? (i := 1192) (by decide +kernel), List.mem_of_getElem? (i := 1193) (by decide +kernel)⟩
theorem lw_p55 : lw_okq (⟨"OneForDogModel", "wakes", "(II)Z"⟩, 55) := ⟨⟨by decide +kernel, by decide +kernel⟩, List.mem_of_getElem? (i := 887) (by decide +kernel), List.mem_of_getElem? (i := 1204) (by decide +kernel), List.mem_of_getElem? (i := 1205) (by decide +kernel)⟩
theorem lw_p56 : lw_okq (⟨"OneForDogModel", "shared", "(II)Z"⟩, 55) := ⟨⟨by decide +kernel, by decide +kernel⟩, List.mem_of_getElem? (i := 887) (by decide +kernel), List.mem_of_getElem? (i := 1208) (by decide +kernel), List.mem_of_getElem? (i := 1209) (by decide +kernel)⟩
theorem lw_p57 : lw_okq (⟨"OneForDogModel", "hidesOf", "(III)I"⟩, 55) := ⟨⟨by decide +kernel, by decide +kernel⟩, List.mem_of_getElem? (i := 887) (by decide +kernel), List.mem_of_getElem? (i := 1212) (by decide +kernel), List.mem_of_getElem? (i := 1213) (by decide +kernel)⟩
theorem lw_p58 : lw_okq (⟨"OneForDogModel", "isNight", "(I)Z"⟩, 55) := ⟨⟨by decide +kernel, by decide +kernel⟩, List.mem_of_getElem? (i := 887) (by decide +kernel), List.mem_of_getElem? (i := 1224) (by decide +kernel), List.mem_of_getElem? (i := 1225) (by decide +kernel)⟩
theorem lw_p59 : lw_okq (⟨"OneForDogModel", "goesRow", "(I)Z"⟩, 55) := ⟨⟨by decide +kernel, by decide +kernel⟩, List.mem_of_getElem? (i := 887) (by decide +kernel), List.mem_of_getElem? (i := 1228) (by decide +kernel), List.mem_of_getElem? (i := 1229) (by decide +kernel)⟩
theorem lw_p60 : lw_okq (⟨"OneForDogModel", "layUp", "(II)Z"⟩, 55) := ⟨⟨by decide +kernel, by decide +kernel⟩, List.mem_of_getElem? (i := 887) (by decide +kernel), List.mem_of_getElem? (i := 1256) (by decide +kernel), List.mem_of_getElem? (i := 1257) (by decide +kernel)⟩
theorem lw_p61 : lw_okq (⟨"OneForDogModel", "leadsTo", "(III)Z"⟩, 55) := ⟨⟨by decide +kernel, by decide +kernel⟩, List.mem_of_getElem? (i := 887) (by decide +kernel), List.mem_of_getElem? (i := 1260) (by decide +kernel), List.mem_of_getElem? (i := 1261) (by decide +kernel)⟩
theorem lw_p62 : lw_okq (⟨"OneForDogModel", "divisor", "(JJ)J"⟩, 55) := ⟨⟨by decide +kernel, by decide +kernel⟩, List.mem_of_getElem? (i := 887) (by decide +kernel), List.mem_of_getElem? (i := 1269) (by decide +kernel), List.mem_of_getElem? (i := 1270) (by decide +kernel)⟩
theorem lw_p63 : lw_okq (⟨"OneForDogModel", "layBig", "(III)V"⟩, 55) := ⟨⟨by decide +kernel, by decide +kernel⟩, List.mem_of_getElem? (i := 887) (by decide +kernel), List.mem_of_getElem? (i := 1281) (by decide +kernel), List.mem_of_getElem? (i := 1282) (by decide +kernel)⟩
def lw_privs_4 : List (MethodName × Nat) := [(⟨"OneForDogModel", "behind", "()I"⟩, 55), (⟨"OneForDogModel", "overOf", "(III)I"⟩, 55), (⟨"OneForDogModel", "hasOver", "()Z"⟩, 55), (⟨"OneForDogModel", "sumOf", "(IIII)I"⟩, 55), (⟨"OneForDogModel", "holds", "(IIII)Z"⟩, 55), (⟨"OneForDogModel", "factOf", "(IIII)I"⟩, 55), (⟨"OneForDogModel", "comesOut", "(III)Z"⟩, 55), (⟨"OneForDogModel", "wakes", "(II)Z"⟩, 55), (⟨"OneForDogModel", "shared", "(II)Z"⟩, 55), (⟨"OneForDogModel", "hidesOf", "(III)I"⟩, 55), (⟨"OneForDogModel", "isNight", "(I)Z"⟩, 55), (⟨"OneForDogModel", "goesRow", "(I)Z"⟩, 55), (⟨"OneForDogModel", "layUp", "(II)Z"⟩, 55), (⟨"OneForDogModel", "leadsTo", "(III)Z"⟩, 55), (⟨"OneForDogModel", "divisor", "(JJ)J"⟩, 55), (⟨"OneForDogModel", "layBig", "(III)V"⟩, 55)]
theorem lw_r4 : ∀ q ∈ lw_privs_4, lw_okq q := List.forall_mem_cons.mpr ⟨lw_p48, List.forall_mem_cons.mpr ⟨lw_p49, List.forall_mem_cons.mpr ⟨lw_p50, List.forall_mem_cons.mpr ⟨lw_p51, List.forall_mem_cons.mpr ⟨lw_p52, List.forall_mem_cons.mpr ⟨lw_p53, List.forall_mem_cons.mpr ⟨lw_p54, List.forall_mem_cons.mpr ⟨lw_p55, List.forall_mem_cons.mpr ⟨lw_p56, List.forall_mem_cons.mpr ⟨lw_p57, List.forall_mem_cons.mpr ⟨lw_p58, List.forall_mem_cons.mpr ⟨lw_p59, List.forall_mem_cons.mpr ⟨lw_p60, List.forall_mem_cons.mpr ⟨lw_p61, List.forall_mem_cons.mpr ⟨lw_p62, List.forall_mem_cons.mpr ⟨lw_p63, fun _ h => absurd h List.not_mem_nil⟩⟩⟩⟩⟩⟩⟩⟩⟩⟩⟩⟩⟩⟩⟩⟩
theorem lw_p64 : lw_okq (⟨"OneForDogModel", "times", "(I)V"⟩, 55) := ⟨⟨by decide +kernel, by decide +kernel⟩, List.mem_of_getElem? (i := 887) (by decide +kernel), List.mem_of_getElem? (i := 1285) (by decide +kernel), List.mem_of_getElem? (i := 1286) (by decide +kernel)⟩
theorem lw_p65 : lw_okq (⟨"OneForDogModel", "less", "(I)Z"⟩, 55) := ⟨⟨by decide +kernel, by decide +kernel⟩, List.mem_of_getElem? (i := 887) (by decide +kernel), List.mem_of_getElem? (i := 1289) (by decide +kernel), List.mem_of_getElem? (i := 1290) (by decide +kernel)⟩
theorem lw_p66 : lw_okq (⟨"OneForDogModel", "isTape", "(I)Z"⟩, 55) := ⟨⟨by decide +kernel, by decide +kernel⟩, List.mem_of_getElem? (i := 887) (by decide +kernel), List.mem_of_getElem? (i := 1305) (by decide +kernel), List.mem_of_getElem? (i := 1306) (by decide +kernel)⟩
theorem lw_p67 : lw_okq (⟨"OneForDogModel", "wakesAct", "(II)I"⟩, 55) := ⟨⟨by decide +kernel, by decide +kernel⟩, List.mem_of_getElem? (i := 887) (by decide +kernel), List.mem_of_getElem? (i := 1321) (by decide +kernel), List.mem_of_getElem? (i := 1322) (by decide +kernel)⟩
theorem lw_p68 : lw_okq (⟨"OneForDogModel", "body", "(I)V"⟩, 55) := ⟨⟨by decide +kernel, by decide +kernel⟩, List.mem_of_getElem? (i := 887) (by decide +kernel), List.mem_of_getElem? (i := 1325) (by decide +kernel), List.mem_of_getElem? (i := 1326) (by decide +kernel)⟩
theorem lw_p69 : lw_okq (⟨"OneForDogModel", "manWakes", "(II)I"⟩, 55) := ⟨⟨by decide +kernel, by decide +kernel⟩, List.mem_of_getElem? (i := 887) (by decide +kernel), List.mem_of_getElem? (i := 1329) (by decide +kernel), List.mem_of_getElem? (i := 1330) (by decide +kernel)⟩
theorem lw_p70 : lw_okq (⟨"OneForDogModel", "hidesAct", "(II)I"⟩, 55) := ⟨⟨by decide +kernel, by decide +kernel⟩, List.mem_of_getElem? (i := 887) (by decide +kernel), List.mem_of_getElem? (i := 1333) (by decide +kernel), List.mem_of_getElem? (i := 1334) (by decide +kernel)⟩
theorem lw_p71 : lw_okq (⟨"OneForDogModel", "sharingHides", "(II)I"⟩, 55) := ⟨⟨by decide +kernel, by decide +kernel⟩, List.mem_of_getElem? (i := 887) (by decide +kernel), List.mem_of_getElem? (i := 1337) (by decide +kernel), List.mem_of_getElem? (i := 1338) (by decide +kernel)⟩
theorem lw_p72 : lw_okq (⟨"OneForDogModel", "manHides", "(II)I"⟩, 55) := ⟨⟨by decide +kernel, by decide +kernel⟩, List.mem_of_getElem? (i := 887) (by decide +kernel), List.mem_of_getElem? (i := 1341) (by decide +kernel), List.mem_of_getElem? (i := 1342) (by decide +kernel)⟩
theorem lw_p73 : lw_okq (⟨"OneForDogModel", "tellsAct", "(II)I"⟩, 55) := ⟨⟨by decide +kernel, by decide +kernel⟩, List.mem_of_getElem? (i := 887) (by decide +kernel), List.mem_of_getElem? (i := 1345) (by decide +kernel), List.mem_of_getElem? (i := 1346) (by decide +kernel)⟩
theorem lw_p74 : lw_okq (⟨"OneForDogModel", "manTells", "(II)I"⟩, 55) := ⟨⟨by decide +kernel, by decide +kernel⟩, List.mem_of_getElem? (i := 887) (by decide +kernel), List.mem_of_getElem? (i := 1349) (by decide +kernel), List.mem_of_getElem? (i := 1350) (by decide +kernel)⟩
theorem lw_p75 : lw_okq (⟨"OneForDogModel", "narrow", "(IJ)J"⟩, 55) := ⟨⟨by decide +kernel, by decide +kernel⟩, List.mem_of_getElem? (i := 887) (by decide +kernel), List.mem_of_getElem? (i := 1373) (by decide +kernel), List.mem_of_getElem? (i := 1374) (by decide +kernel)⟩
def lw_privs_5 : List (MethodName × Nat) := [(⟨"OneForDogModel", "times", "(I)V"⟩, 55), (⟨"OneForDogModel", "less", "(I)Z"⟩, 55), (⟨"OneForDogModel", "isTape", "(I)Z"⟩, 55), (⟨"OneForDogModel", "wakesAct", "(II)I"⟩, 55), (⟨"OneForDogModel", "body", "(I)V"⟩, 55), (⟨"OneForDogModel", "manWakes", "(II)I"⟩, 55), (⟨"OneForDogModel", "hidesAct", "(II)I"⟩, 55), (⟨"OneForDogModel", "sharingHides", "(II)I"⟩, 55), (⟨"OneForDogModel", "manHides", "(II)I"⟩, 55), (⟨"OneForDogModel", "tellsAct", "(II)I"⟩, 55), (⟨"OneForDogModel", "manTells", "(II)I"⟩, 55), (⟨"OneForDogModel", "narrow", "(IJ)J"⟩, 55)]
theorem lw_r5 : ∀ q ∈ lw_privs_5, lw_okq q := List.forall_mem_cons.mpr ⟨lw_p64, List.forall_mem_cons.mpr ⟨lw_p65, List.forall_mem_cons.mpr ⟨lw_p66, List.forall_mem_cons.mpr ⟨lw_p67, List.forall_mem_cons.mpr ⟨lw_p68, List.forall_mem_cons.mpr ⟨lw_p69, List.forall_mem_cons.mpr ⟨lw_p70, List.forall_mem_cons.mpr ⟨lw_p71, List.forall_mem_cons.mpr ⟨lw_p72, List.forall_mem_cons.mpr ⟨lw_p73, List.forall_mem_cons.mpr ⟨lw_p74, List.forall_mem_cons.mpr ⟨lw_p75, fun _ h => absurd h List.not_mem_nil⟩⟩⟩⟩⟩⟩⟩⟩⟩⟩⟩⟩
def lw_privs : List (MethodName × Nat) := lw_privs_1 ++ (lw_privs_2 ++ (lw_privs_3 ++ (lw_privs_4 ++ (lw_privs_5))))
def lw_tbl : List Cond := k2_sels lw_privs ++ tables_1
theorem lw_privs_ok : ∀ q ∈ lw_privs, lw_okq q := by
  show ∀ q ∈ lw_privs_1 ++ (lw_privs_2 ++ (lw_privs_3 ++ (lw_privs_4 ++ (lw_privs_5)))), lw_okq q
  exact List.forall_mem_append.mpr ⟨lw_r1, List.forall_mem_append.mpr ⟨lw_r2, List.forall_mem_append.mpr ⟨lw_r3, List.forall_mem_append.mpr ⟨lw_r4, lw_r5⟩⟩⟩⟩

def RX0 : String := "OneForDog$Bodies"
def TX0 : u_T := fun k => match k with
  | 0 => ("OneForDog$Bodies", "trace", "[I", true)
  | 1 => ("OneForDog$Bodies", "ran", "I", false)
  | 2 => ("OneForDog$Bodies", "i", "I", false)
  | 3 => ("OneForDog$Bodies", "kind", "I", false)
  | _ => ("OneForDog$Bodies", "v", "I", false)
def tyX0 : Nat → FieldType := fun k => match k with
  | 0 => .array .int
  | 1 => .int
  | 2 => .int
  | 3 => .int
  | _ => .int
abbrev wsX00 : List Cond := u_ws RX0 TX0 5
theorem nmX0 : ∀ a, a < 5 → ∀ b, b < 5 → a ≠ b → (TX0 a).2.1 ≠ (TX0 b).2.1 := by decide +kernel
theorem tyX0_ok : ∀ k, k < 5 → parseFieldDescriptor (TX0 k).2.2.1 = some (tyX0 k) := by decide +kernel
abbrev cX0_init : ByteArray := prog_2_method_1_code
def yX0_init : MethodName := ⟨RX0, "<init>", "()V"⟩
abbrev cX0_forget : ByteArray := prog_2_method_2_code
def yX0_forget : MethodName := ⟨RX0, "forget", "()V"⟩
abbrev cX0_actsFor : ByteArray := prog_2_method_3_code
def yX0_actsFor : MethodName := ⟨RX0, "actsFor", "(IIIII)I"⟩
abbrev cX0_hasKept : ByteArray := prog_2_method_4_code
def yX0_hasKept : MethodName := ⟨RX0, "hasKept", "(I)Z"⟩
abbrev cX0_kept : ByteArray := prog_2_method_5_code
def yX0_kept : MethodName := ⟨RX0, "kept", "(I)I"⟩
abbrev cX0_does : ByteArray := prog_2_method_6_code
def yX0_does : MethodName := ⟨RX0, "does", "(IIII)I"⟩
abbrev cX0_runs : ByteArray := prog_2_method_7_code
def yX0_runs : MethodName := ⟨RX0, "runs", "(IIII)I"⟩
abbrev cX0_number : ByteArray := prog_2_method_8_code
def yX0_number : MethodName := ⟨RX0, "number", "(II)I"⟩
abbrev cX0_begins : ByteArray := prog_2_method_9_code
def yX0_begins : MethodName := ⟨RX0, "begins", "(I)V"⟩
def RX1 : String := "OneForDog$Camp"
def TX1 : u_T := fun k => match k with
  | 0 => ("OneForDog$Camp", "men", "I", false)
  | 1 => ("OneForDog$Camp", "kinds", "[I", true)
  | 2 => ("OneForDog$Camp", "values", "[I", true)
  | 3 => ("OneForDog$Camp", "hidden", "[I", true)
  | 4 => ("OneForDog$Camp", "heap", "I", false)
  | 5 => ("OneForDog$Camp", "dogs", "I", false)
  | 6 => ("OneForDog$Camp", "wakings", "I", false)
  | 7 => ("OneForDog$Camp", "rowLength", "I", false)
  | 8 => ("OneForDog$Camp", "row", "[I", true)
  | 9 => ("OneForDog$Camp", "pages", "I", false)
  | 10 => ("OneForDog$Camp", "book", "[I", true)
  | _ => ("OneForDog$Camp", "held", "I", false)
def tyX1 : Nat → FieldType := fun k => match k with
  | 0 => .int
  | 1 => .array .int
  | 2 => .array .int
  | 3 => .array .int
  | 4 => .int
  | 5 => .int
  | 6 => .int
  | 7 => .int
  | 8 => .array .int
  | 9 => .int
  | 10 => .array .int
  | _ => .int
abbrev wsX10 : List Cond := u_ws RX1 TX1 12
theorem nmX1 : ∀ a, a < 12 → ∀ b, b < 12 → a ≠ b → (TX1 a).2.1 ≠ (TX1 b).2.1 := by decide +kernel
theorem tyX1_ok : ∀ k, k < 12 → parseFieldDescriptor (TX1 k).2.2.1 = some (tyX1 k) := by decide +kernel
abbrev cX1_init : ByteArray := prog_3_method_1_code
def yX1_init : MethodName := ⟨RX1, "<init>", "()V"⟩
abbrev cX1_becomes : ByteArray := prog_3_method_2_code
def yX1_becomes : MethodName := ⟨RX1, "becomes", "(LOneForDog$Camp;)V"⟩
def RX2 : String := "OneForDog$LongNumber"
def TX2 : u_T := fun k => match k with
  | _ => ("OneForDog$LongNumber", "digits", "[I", true)
def tyX2 : Nat → FieldType := fun k => match k with
  | _ => .array .int
abbrev wsX20 : List Cond := u_ws RX2 TX2 1
theorem nmX2 : ∀ a, a < 1 → ∀ b, b < 1 → a ≠ b → (TX2 a).2.1 ≠ (TX2 b).2.1 := by decide +kernel
theorem tyX2_ok : ∀ k, k < 1 → parseFieldDescriptor (TX2 k).2.2.1 = some (tyX2 k) := by decide +kernel
abbrev cX2_init : ByteArray := prog_4_method_1_code
def yX2_init : MethodName := ⟨RX2, "<init>", "()V"⟩
abbrev cX2_becomes : ByteArray := prog_4_method_2_code
def yX2_becomes : MethodName := ⟨RX2, "becomes", "(III)V"⟩
abbrev cX2_multiply : ByteArray := prog_4_method_3_code
def yX2_multiply : MethodName := ⟨RX2, "multiply", "(I)V"⟩
abbrev cX2_subtract : ByteArray := prog_4_method_4_code
def yX2_subtract : MethodName := ⟨RX2, "subtract", "(I)V"⟩
abbrev cX2_size : ByteArray := prog_4_method_5_code
def yX2_size : MethodName := ⟨RX2, "size", "()I"⟩
abbrev cX2_digit : ByteArray := prog_4_method_6_code
def yX2_digit : MethodName := ⟨RX2, "digit", "(I)I"⟩
abbrev cX2_restBy : ByteArray := prog_4_method_7_code
def yX2_restBy : MethodName := ⟨RX2, "restBy", "(I)I"⟩
def RX3 : String := "OneForDog$Night"
def TX3 : u_T := fun k => match k with
  | 0 => ("OneForDog$Night", "wakings", "LOneForDog$Wakings;", true)
  | 1 => ("OneForDog$Night", "row", "[I", true)
  | 2 => ("OneForDog$Night", "length", "I", false)
  | 3 => ("OneForDog$Night", "shares", "I", false)
  | 4 => ("OneForDog$Night", "morning", "I", false)
  | 5 => ("OneForDog$Night", "left", "I", false)
  | 6 => ("OneForDog$Night", "dogs", "I", false)
  | _ => ("OneForDog$Night", "hides", "I", false)
def tyX3 : Nat → FieldType := fun k => match k with
  | 0 => .object "OneForDog$Wakings"
  | 1 => .array .int
  | 2 => .int
  | 3 => .int
  | 4 => .int
  | 5 => .int
  | 6 => .int
  | _ => .int
abbrev wsX30 : List Cond := u_ws RX3 TX3 8
theorem nmX3 : ∀ a, a < 8 → ∀ b, b < 8 → a ≠ b → (TX3 a).2.1 ≠ (TX3 b).2.1 := by decide +kernel
theorem tyX3_ok : ∀ k, k < 8 → parseFieldDescriptor (TX3 k).2.2.1 = some (tyX3 k) := by decide +kernel
abbrev cX3_init : ByteArray := prog_5_method_1_code
def yX3_init : MethodName := ⟨RX3, "<init>", "()V"⟩
abbrev cX3_begin : ByteArray := prog_5_method_2_code
def yX3_begin : MethodName := ⟨RX3, "begin", "(LOneForDog$Camp;LOneForDog$Village;)V"⟩
abbrev cX3_walks : ByteArray := prog_5_method_3_code
def yX3_walks : MethodName := ⟨RX3, "walks", "(II)Z"⟩
abbrev cX3_comesOut : ByteArray := prog_5_method_4_code
def yX3_comesOut : MethodName := ⟨RX3, "comesOut", "(I)Z"⟩
abbrev cX3_first : ByteArray := prog_5_method_5_code
def yX3_first : MethodName := ⟨RX3, "first", "(II)I"⟩
abbrev cX3_last : ByteArray := prog_5_method_6_code
def yX3_last : MethodName := ⟨RX3, "last", "(I)I"⟩
abbrev cX3_howMany : ByteArray := prog_5_method_7_code
def yX3_howMany : MethodName := ⟨RX3, "howMany", "(II)I"⟩
abbrev cX3_firstThatLeaves : ByteArray := prog_5_method_8_code
def yX3_firstThatLeaves : MethodName := ⟨RX3, "firstThatLeaves", "(II)I"⟩
abbrev cX3_firstOtherThan : ByteArray := prog_5_method_9_code
def yX3_firstOtherThan : MethodName := ⟨RX3, "firstOtherThan", "([II)I"⟩
def RX4 : String := "OneForDog$Roster"
def TX4 : u_T := fun k => match k with
  | 0 => ("OneForDog$Roster", "wakings", "LOneForDog$Wakings;", true)
  | 1 => ("OneForDog$Roster", "up", "[I", true)
  | 2 => ("OneForDog$Roster", "best", "[I", true)
  | 3 => ("OneForDog$Roster", "bestLength", "I", false)
  | 4 => ("OneForDog$Roster", "men", "I", false)
  | 5 => ("OneForDog$Roster", "dawn", "I", false)
  | _ => ("OneForDog$Roster", "rows", "I", false)
def tyX4 : Nat → FieldType := fun k => match k with
  | 0 => .object "OneForDog$Wakings"
  | 1 => .array .int
  | 2 => .array .int
  | 3 => .int
  | 4 => .int
  | 5 => .int
  | _ => .int
abbrev wsX40 : List Cond := u_ws RX4 TX4 7
theorem nmX4 : ∀ a, a < 7 → ∀ b, b < 7 → a ≠ b → (TX4 a).2.1 ≠ (TX4 b).2.1 := by decide +kernel
theorem tyX4_ok : ∀ k, k < 7 → parseFieldDescriptor (TX4 k).2.2.1 = some (tyX4 k) := by decide +kernel
abbrev cX4_init : ByteArray := prog_6_method_1_code
def yX4_init : MethodName := ⟨RX4, "<init>", "()V"⟩
abbrev cX4_seek : ByteArray := prog_6_method_2_code
def yX4_seek : MethodName := ⟨RX4, "seek", "(LOneForDog$Camp;LOneForDog$Village;II)V"⟩
abbrev cX4_follow : ByteArray := prog_6_method_3_code
def yX4_follow : MethodName := ⟨RX4, "follow", "(III)V"⟩
abbrev cX4_wakeNext : ByteArray := prog_6_method_4_code
def yX4_wakeNext : MethodName := ⟨RX4, "wakeNext", "(IIII)V"⟩
abbrev cX4_keep : ByteArray := prog_6_method_5_code
def yX4_keep : MethodName := ⟨RX4, "keep", "(I)V"⟩
abbrev cX4_manAt : ByteArray := prog_6_method_6_code
def yX4_manAt : MethodName := ⟨RX4, "manAt", "(I)I"⟩
def RX5 : String := "OneForDog$Tape"
def TX5 : u_T := fun k => match k with
  | 0 => ("OneForDog$Tape", "sort", "I", false)
  | 1 => ("OneForDog$Tape", "length", "I", false)
  | _ => ("OneForDog$Tape", "items", "[J", true)
def tyX5 : Nat → FieldType := fun k => match k with
  | 0 => .int
  | 1 => .int
  | _ => .array .long
abbrev wsX50 : List Cond := u_ws RX5 TX5 3
theorem nmX5 : ∀ a, a < 3 → ∀ b, b < 3 → a ≠ b → (TX5 a).2.1 ≠ (TX5 b).2.1 := by decide +kernel
theorem tyX5_ok : ∀ k, k < 3 → parseFieldDescriptor (TX5 k).2.2.1 = some (tyX5 k) := by decide +kernel
abbrev cX5_init : ByteArray := prog_7_method_1_code
def yX5_init : MethodName := ⟨RX5, "<init>", "()V"⟩
abbrev cX5_becomes : ByteArray := prog_7_method_2_code
def yX5_becomes : MethodName := ⟨RX5, "becomes", "(II)V"⟩
abbrev cX5_holdsSomething : ByteArray := prog_7_method_3_code
def yX5_holdsSomething : MethodName := ⟨RX5, "holdsSomething", "()Z"⟩
abbrev cX5_has : ByteArray := prog_7_method_4_code
def yX5_has : MethodName := ⟨RX5, "has", "(J)Z"⟩
abbrev cX5_hasStretch : ByteArray := prog_7_method_5_code
def yX5_hasStretch : MethodName := ⟨RX5, "hasStretch", "(II)Z"⟩
abbrev cX5_at : ByteArray := prog_7_method_6_code
def yX5_at : MethodName := ⟨RX5, "at", "(I)J"⟩
abbrev cX5_put : ByteArray := prog_7_method_7_code
def yX5_put : MethodName := ⟨RX5, "put", "(IJ)V"⟩
abbrev cX5_cut : ByteArray := prog_7_method_8_code
def yX5_cut : MethodName := ⟨RX5, "cut", "(J)J"⟩
def RX6 : String := "OneForDog$Village"
def TX6 : u_T := fun k => match k with
  | 0 => ("OneForDog$Village", "shares", "I", false)
  | 1 => ("OneForDog$Village", "morning", "I", false)
  | 2 => ("OneForDog$Village", "overs", "I", false)
  | 3 => ("OneForDog$Village", "rules", "I", false)
  | 4 => ("OneForDog$Village", "isOver", "[Z", true)
  | 5 => ("OneForDog$Village", "amounts", "[I", true)
  | 6 => ("OneForDog$Village", "ends", "[I", true)
  | 7 => ("OneForDog$Village", "length", "I", false)
  | _ => ("OneForDog$Village", "steps", "[I", true)
def tyX6 : Nat → FieldType := fun k => match k with
  | 0 => .int
  | 1 => .int
  | 2 => .int
  | 3 => .int
  | 4 => .array .boolean
  | 5 => .array .int
  | 6 => .array .int
  | 7 => .int
  | _ => .array .int
abbrev wsX60 : List Cond := u_ws RX6 TX6 9
theorem nmX6 : ∀ a, a < 9 → ∀ b, b < 9 → a ≠ b → (TX6 a).2.1 ≠ (TX6 b).2.1 := by decide +kernel
theorem tyX6_ok : ∀ k, k < 9 → parseFieldDescriptor (TX6 k).2.2.1 = some (tyX6 k) := by decide +kernel
abbrev cX6_init : ByteArray := prog_8_method_1_code
def yX6_init : MethodName := ⟨RX6, "<init>", "()V"⟩
abbrev cX6_clear : ByteArray := prog_8_method_2_code
def yX6_clear : MethodName := ⟨RX6, "clear", "()V"⟩
abbrev cX6_setShares : ByteArray := prog_8_method_3_code
def yX6_setShares : MethodName := ⟨RX6, "setShares", "(I)V"⟩
abbrev cX6_addStep : ByteArray := prog_8_method_4_code
def yX6_addStep : MethodName := ⟨RX6, "addStep", "(I)V"⟩
abbrev cX6_addRule : ByteArray := prog_8_method_5_code
def yX6_addRule : MethodName := ⟨RX6, "addRule", "(ZI)V"⟩
abbrev cX6_over : ByteArray := prog_8_method_6_code
def yX6_over : MethodName := ⟨RX6, "over", "([I)I"⟩
abbrev cX6_back : ByteArray := prog_8_method_7_code
def yX6_back : MethodName := ⟨RX6, "back", "([I)I"⟩
abbrev cX6_sum : ByteArray := prog_8_method_8_code
def yX6_sum : MethodName := ⟨RX6, "sum", "(Z[I)I"⟩
abbrev cX6_holds : ByteArray := prog_8_method_9_code
def yX6_holds : MethodName := ⟨RX6, "holds", "(II[I)Z"⟩
abbrev cX6_isSo : ByteArray := prog_8_method_10_code
def yX6_isSo : MethodName := ⟨RX6, "isSo", "(I[I)Z"⟩
def RX7 : String := "OneForDog$VillageText"
def TX7 : u_T := fun k => match k with
  | 0 => ("OneForDog$VillageText", "signs", "[B", true)
  | 1 => ("OneForDog$VillageText", "length", "I", false)
  | 2 => ("OneForDog$VillageText", "place", "I", false)
  | _ => ("OneForDog$VillageText", "sign", "I", false)
def tyX7 : Nat → FieldType := fun k => match k with
  | 0 => .array .byte
  | 1 => .int
  | 2 => .int
  | _ => .int
abbrev wsX70 : List Cond := u_ws RX7 TX7 4
theorem nmX7 : ∀ a, a < 4 → ∀ b, b < 4 → a ≠ b → (TX7 a).2.1 ≠ (TX7 b).2.1 := by decide +kernel
theorem tyX7_ok : ∀ k, k < 4 → parseFieldDescriptor (TX7 k).2.2.1 = some (tyX7 k) := by decide +kernel
abbrev cX7_init : ByteArray := prog_9_method_1_code
def yX7_init : MethodName := ⟨RX7, "<init>", "()V"⟩
abbrev cX7_size : ByteArray := prog_9_method_2_code
def yX7_size : MethodName := ⟨RX7, "size", "()I"⟩
abbrev cX7_clear : ByteArray := prog_9_method_3_code
def yX7_clear : MethodName := ⟨RX7, "clear", "()V"⟩
abbrev cX7_add : ByteArray := prog_9_method_4_code
def yX7_add : MethodName := ⟨RX7, "add", "(I)Z"⟩
abbrev cX7_readInto : ByteArray := prog_9_method_5_code
def yX7_readInto : MethodName := ⟨RX7, "readInto", "(LOneForDog$Village;)I"⟩
abbrev cX7_goTo : ByteArray := prog_9_method_6_code
def yX7_goTo : MethodName := ⟨RX7, "goTo", "(I)V"⟩
abbrev cX7_clause : ByteArray := prog_9_method_7_code
def yX7_clause : MethodName := ⟨RX7, "clause", "(LOneForDog$Village;)Z"⟩
abbrev cX7_word : ByteArray := prog_9_method_8_code
def yX7_word : MethodName := ⟨RX7, "word", "()I"⟩
abbrev cX7_spells : ByteArray := prog_9_method_9_code
def yX7_spells : MethodName := ⟨RX7, "spells", "(Ljava/lang/String;)Z"⟩
abbrev cX7_number : ByteArray := prog_9_method_10_code
def yX7_number : MethodName := ⟨RX7, "number", "()I"⟩
abbrev cX7_either : ByteArray := prog_9_method_11_code
def yX7_either : MethodName := ⟨RX7, "either", "(LOneForDog$Village;I)Z"⟩
abbrev cX7_both : ByteArray := prog_9_method_12_code
def yX7_both : MethodName := ⟨RX7, "both", "(LOneForDog$Village;I)Z"⟩
abbrev cX7_factor : ByteArray := prog_9_method_13_code
def yX7_factor : MethodName := ⟨RX7, "factor", "(LOneForDog$Village;I)Z"⟩
abbrev cX7_nested : ByteArray := prog_9_method_14_code
def yX7_nested : MethodName := ⟨RX7, "nested", "(LOneForDog$Village;I)Z"⟩
abbrev cX7_indexIn : ByteArray := prog_9_method_15_code
def yX7_indexIn : MethodName := ⟨RX7, "indexIn", "(Ljava/lang/String;I)I"⟩
def RX8 : String := "OneForDog$Wakings"
def TX8 : u_T := fun k => match k with
  | 0 => ("OneForDog$Wakings", "kinds", "[I", true)
  | 1 => ("OneForDog$Wakings", "values", "[I", true)
  | 2 => ("OneForDog$Wakings", "parts", "[I", true)
  | 3 => ("OneForDog$Wakings", "gone", "I", false)
  | 4 => ("OneForDog$Wakings", "facts", "[I", true)
  | 5 => ("OneForDog$Wakings", "overs", "[I", true)
  | 6 => ("OneForDog$Wakings", "backs", "[I", true)
  | 7 => ("OneForDog$Wakings", "left", "I", false)
  | 8 => ("OneForDog$Wakings", "dogs", "I", false)
  | _ => ("OneForDog$Wakings", "hides", "I", false)
def tyX8 : Nat → FieldType := fun k => match k with
  | 0 => .array .int
  | 1 => .array .int
  | 2 => .array .int
  | 3 => .int
  | 4 => .array .int
  | 5 => .array .int
  | 6 => .array .int
  | 7 => .int
  | 8 => .int
  | _ => .int
abbrev wsX80 : List Cond := u_ws RX8 TX8 10
theorem nmX8 : ∀ a, a < 10 → ∀ b, b < 10 → a ≠ b → (TX8 a).2.1 ≠ (TX8 b).2.1 := by decide +kernel
theorem tyX8_ok : ∀ k, k < 10 → parseFieldDescriptor (TX8 k).2.2.1 = some (tyX8 k) := by decide +kernel
abbrev cX8_init : ByteArray := prog_10_method_1_code
def yX8_init : MethodName := ⟨RX8, "<init>", "()V"⟩
abbrev cX8_begin : ByteArray := prog_10_method_2_code
def yX8_begin : MethodName := ⟨RX8, "begin", "(LOneForDog$Camp;LOneForDog$Village;)V"⟩
abbrev cX8_partsFor : ByteArray := prog_10_method_3_code
def yX8_partsFor : MethodName := ⟨RX8, "partsFor", "(III)I"⟩
abbrev cX8_reckon : ByteArray := prog_10_method_4_code
def yX8_reckon : MethodName := ⟨RX8, "reckon", "(LOneForDog$Village;II)V"⟩
abbrev cX8_slot : ByteArray := prog_10_method_5_code
def yX8_slot : MethodName := ⟨RX8, "slot", "(III)I"⟩
abbrev cX8_partsOf : ByteArray := prog_10_method_6_code
def yX8_partsOf : MethodName := ⟨RX8, "partsOf", "(I)I"⟩
abbrev cX8_overOf : ByteArray := prog_10_method_7_code
def yX8_overOf : MethodName := ⟨RX8, "overOf", "(III)I"⟩
abbrev cX8_backOf : ByteArray := prog_10_method_8_code
def yX8_backOf : MethodName := ⟨RX8, "backOf", "(III)I"⟩
abbrev cX8_comesOut : ByteArray := prog_10_method_9_code
def yX8_comesOut : MethodName := ⟨RX8, "comesOut", "(III)Z"⟩
abbrev cX8_shareOnce : ByteArray := prog_10_method_10_code
def yX8_shareOnce : MethodName := ⟨RX8, "shareOnce", "(II)Z"⟩
abbrev cX8_hiddenOf : ByteArray := prog_10_method_11_code
def yX8_hiddenOf : MethodName := ⟨RX8, "hiddenOf", "(IIII)I"⟩
def RX9 : String := "OneForDog"
def TX9 : u_T := fun k => match k with
  | 0 => ("OneForDog", "camp", "LOneForDog$Camp;", true)
  | 1 => ("OneForDog", "image", "LOneForDog$Camp;", true)
  | 2 => ("OneForDog", "imageTaken", "Z", false)
  | 3 => ("OneForDog", "text", "LOneForDog$VillageText;", true)
  | 4 => ("OneForDog", "bare", "LOneForDog$Village;", true)
  | 5 => ("OneForDog", "villages", "[LOneForDog$Village;", true)
  | 6 => ("OneForDog", "villageCount", "I", false)
  | 7 => ("OneForDog", "now", "LOneForDog$Wakings;", true)
  | 8 => ("OneForDog", "night", "LOneForDog$Night;", true)
  | 9 => ("OneForDog", "roster", "LOneForDog$Roster;", true)
  | 10 => ("OneForDog", "longNumber", "LOneForDog$LongNumber;", true)
  | 11 => ("OneForDog", "bodies", "LOneForDog$Bodies;", true)
  | _ => ("OneForDog", "tapes", "[LOneForDog$Tape;", true)
def tyX9 : Nat → FieldType := fun k => match k with
  | 0 => .object "OneForDog$Camp"
  | 1 => .object "OneForDog$Camp"
  | 2 => .boolean
  | 3 => .object "OneForDog$VillageText"
  | 4 => .object "OneForDog$Village"
  | 5 => .array (.object "OneForDog$Village")
  | 6 => .int
  | 7 => .object "OneForDog$Wakings"
  | 8 => .object "OneForDog$Night"
  | 9 => .object "OneForDog$Roster"
  | 10 => .object "OneForDog$LongNumber"
  | 11 => .object "OneForDog$Bodies"
  | _ => .array (.object "OneForDog$Tape")
abbrev wsX90 : List Cond := u_ws RX9 TX9 13
theorem nmX9 : ∀ a, a < 13 → ∀ b, b < 13 → a ≠ b → (TX9 a).2.1 ≠ (TX9 b).2.1 := by decide +kernel
theorem tyX9_ok : ∀ k, k < 13 → parseFieldDescriptor (TX9 k).2.2.1 = some (tyX9 k) := by decide +kernel
abbrev cX9_init : ByteArray := prog_1_method_1_code
def yX9_init : MethodName := ⟨RX9, "<init>", "()V"⟩
abbrev cX9_man : ByteArray := prog_1_method_2_code
def yX9_man : MethodName := ⟨RX9, "man", "(II)I"⟩
abbrev cX9_of : ByteArray := prog_1_method_3_code
def yX9_of : MethodName := ⟨RX9, "of", "(II)I"⟩
abbrev cX9_heap : ByteArray := prog_1_method_4_code
def yX9_heap : MethodName := ⟨RX9, "heap", "(I)I"⟩
abbrev cX9_feed : ByteArray := prog_1_method_5_code
def yX9_feed : MethodName := ⟨RX9, "feed", "(I)I"⟩
abbrev cX9_village : ByteArray := prog_1_method_6_code
def yX9_village : MethodName := ⟨RX9, "village", "()I"⟩
abbrev cX9_told : ByteArray := prog_1_method_7_code
def yX9_told : MethodName := ⟨RX9, "told", "(I)I"⟩
abbrev cX9_wake : ByteArray := prog_1_method_8_code
def yX9_wake : MethodName := ⟨RX9, "wake", "(I)I"⟩
abbrev cX9_row : ByteArray := prog_1_method_9_code
def yX9_row : MethodName := ⟨RX9, "row", "(I)I"⟩
abbrev cX9_night : ByteArray := prog_1_method_10_code
def yX9_night : MethodName := ⟨RX9, "night", "(I)I"⟩
abbrev cX9_least : ByteArray := prog_1_method_11_code
def yX9_least : MethodName := ⟨RX9, "least", "(I)I"⟩
abbrev cX9_all : ByteArray := prog_1_method_12_code
def yX9_all : MethodName := ⟨RX9, "all", "(I)I"⟩
abbrev cX9_greatest : ByteArray := prog_1_method_13_code
def yX9_greatest : MethodName := ⟨RX9, "greatest", "(I)I"⟩
abbrev cX9_left : ByteArray := prog_1_method_14_code
def yX9_left : MethodName := ⟨RX9, "left", "(II)I"⟩
abbrev cX9_was : ByteArray := prog_1_method_15_code
def yX9_was : MethodName := ⟨RX9, "was", "(I)I"⟩
abbrev cX9_up : ByteArray := prog_1_method_16_code
def yX9_up : MethodName := ⟨RX9, "up", "(III)I"⟩
abbrev cX9_fair : ByteArray := prog_1_method_17_code
def yX9_fair : MethodName := ⟨RX9, "fair", "(III)J"⟩
abbrev cX9_chance : ByteArray := prog_1_method_18_code
def yX9_chance : MethodName := ⟨RX9, "chance", "(II)J"⟩
abbrev cX9_big : ByteArray := prog_1_method_19_code
def yX9_big : MethodName := ⟨RX9, "big", "(IIII)I"⟩
abbrev cX9_book : ByteArray := prog_1_method_20_code
def yX9_book : MethodName := ⟨RX9, "book", "(I)I"⟩
abbrev cX9_looked : ByteArray := prog_1_method_21_code
def yX9_looked : MethodName := ⟨RX9, "looked", "()I"⟩
abbrev cX9_judge : ByteArray := prog_1_method_22_code
def yX9_judge : MethodName := ⟨RX9, "judge", "(II)I"⟩
abbrev cX9_image : ByteArray := prog_1_method_23_code
def yX9_image : MethodName := ⟨RX9, "image", "()I"⟩
abbrev cX9_undo : ByteArray := prog_1_method_24_code
def yX9_undo : MethodName := ⟨RX9, "undo", "()I"⟩
abbrev cX9_act : ByteArray := prog_1_method_25_code
def yX9_act : MethodName := ⟨RX9, "act", "(III)I"⟩
abbrev cX9_trace : ByteArray := prog_1_method_26_code
def yX9_trace : MethodName := ⟨RX9, "trace", "(I)I"⟩
abbrev cX9_taken : ByteArray := prog_1_method_27_code
def yX9_taken : MethodName := ⟨RX9, "taken", "(II)I"⟩
abbrev cX9_count : ByteArray := prog_1_method_28_code
def yX9_count : MethodName := ⟨RX9, "count", "(I)I"⟩
abbrev cX9_tape : ByteArray := prog_1_method_29_code
def yX9_tape : MethodName := ⟨RX9, "tape", "(III)I"⟩
abbrev cX9_item : ByteArray := prog_1_method_30_code
def yX9_item : MethodName := ⟨RX9, "item", "(IIJ)I"⟩
abbrev cX9_read : ByteArray := prog_1_method_31_code
def yX9_read : MethodName := ⟨RX9, "read", "(II)J"⟩
abbrev cX9_shift : ByteArray := prog_1_method_32_code
def yX9_shift : MethodName := ⟨RX9, "shift", "(IIIII)I"⟩
abbrev cX9_isMan : ByteArray := prog_1_method_33_code
def yX9_isMan : MethodName := ⟨RX9, "isMan", "(I)Z"⟩
abbrev cX9_isHeap : ByteArray := prog_1_method_34_code
def yX9_isHeap : MethodName := ⟨RX9, "isHeap", "(I)Z"⟩
abbrev cX9_isBound : ByteArray := prog_1_method_35_code
def yX9_isBound : MethodName := ⟨RX9, "isBound", "(I)Z"⟩
abbrev cX9_isUnder : ByteArray := prog_1_method_36_code
def yX9_isUnder : MethodName := ⟨RX9, "isUnder", "(II)Z"⟩
abbrev cX9_aboveOf : ByteArray := prog_1_method_37_code
def yX9_aboveOf : MethodName := ⟨RX9, "aboveOf", "(I)I"⟩
abbrev cX9_heldVillage : ByteArray := prog_1_method_38_code
def yX9_heldVillage : MethodName := ⟨RX9, "heldVillage", "()LOneForDog$Village;"⟩
abbrev cX9_readyWaking : ByteArray := prog_1_method_39_code
def yX9_readyWaking : MethodName := ⟨RX9, "readyWaking", "(I)LOneForDog$Wakings;"⟩
abbrev cX9_readyNight : ByteArray := prog_1_method_40_code
def yX9_readyNight : MethodName := ⟨RX9, "readyNight", "()LOneForDog$Night;"⟩
abbrev cX9_tapeAt : ByteArray := prog_1_method_41_code
def yX9_tapeAt : MethodName := ⟨RX9, "tapeAt", "(I)LOneForDog$Tape;"⟩
abbrev cX9_ofFraction : ByteArray := prog_1_method_42_code
def yX9_ofFraction : MethodName := ⟨RX9, "ofFraction", "(JJI)J"⟩
abbrev cX9_commonDivisor : ByteArray := prog_1_method_43_code
def yX9_commonDivisor : MethodName := ⟨RX9, "commonDivisor", "(JJ)J"⟩
def RX10 : String := "OneForDogModel"
def TX10 : u_T := fun k => match k with
  | 0 => ("OneForDogModel", "men", "I", false)
  | 1 => ("OneForDogModel", "nuts", "I", false)
  | 2 => ("OneForDogModel", "dog", "I", false)
  | 3 => ("OneForDogModel", "wakings", "I", false)
  | 4 => ("OneForDogModel", "kind", "[I", true)
  | 5 => ("OneForDogModel", "v", "[I", true)
  | 6 => ("OneForDogModel", "hidden", "[I", true)
  | 7 => ("OneForDogModel", "villages", "I", false)
  | 8 => ("OneForDogModel", "the", "I", false)
  | 9 => ("OneForDogModel", "fed", "I", false)
  | 10 => ("OneForDogModel", "at", "I", false)
  | 11 => ("OneForDogModel", "digits", "I", false)
  | 12 => ("OneForDogModel", "text", "[I", true)
  | 13 => ("OneForDogModel", "clauses", "[I", true)
  | 14 => ("OneForDogModel", "word", "[I", true)
  | 15 => ("OneForDogModel", "number", "[I", true)
  | 16 => ("OneForDogModel", "from", "[I", true)
  | 17 => ("OneForDogModel", "to", "[I", true)
  | 18 => ("OneForDogModel", "sign", "[I", true)
  | 19 => ("OneForDogModel", "waits", "[I", true)
  | 20 => ("OneForDogModel", "signs", "I", false)
  | 21 => ("OneForDogModel", "waiting", "I", false)
  | 22 => ("OneForDogModel", "open", "I", false)
  | 23 => ("OneForDogModel", "letters", "[I", true)
  | 24 => ("OneForDogModel", "pile", "[Z", true)
  | 25 => ("OneForDogModel", "then", "I", false)
  | 26 => ("OneForDogModel", "given", "I", false)
  | 27 => ("OneForDogModel", "hides", "I", false)
  | 28 => ("OneForDogModel", "rows", "I", false)
  | 29 => ("OneForDogModel", "dogBy", "I", false)
  | 30 => ("OneForDogModel", "rowMan", "[I", true)
  | 31 => ("OneForDogModel", "hidBy", "[I", true)
  | 32 => ("OneForDogModel", "up", "[I", true)
  | 33 => ("OneForDogModel", "digit", "[I", true)
  | 34 => ("OneForDogModel", "books", "I", false)
  | 35 => ("OneForDogModel", "book", "[I", true)
  | 36 => ("OneForDogModel", "hasImage", "Z", false)
  | 37 => ("OneForDogModel", "imageThe", "I", false)
  | 38 => ("OneForDogModel", "imageMen", "I", false)
  | 39 => ("OneForDogModel", "imageNuts", "I", false)
  | 40 => ("OneForDogModel", "imageDog", "I", false)
  | 41 => ("OneForDogModel", "imageWakings", "I", false)
  | 42 => ("OneForDogModel", "imageRows", "I", false)
  | 43 => ("OneForDogModel", "imageBooks", "I", false)
  | 44 => ("OneForDogModel", "imageKind", "[I", true)
  | 45 => ("OneForDogModel", "imageV", "[I", true)
  | 46 => ("OneForDogModel", "imageHidden", "[I", true)
  | 47 => ("OneForDogModel", "imageRow", "[I", true)
  | 48 => ("OneForDogModel", "imageBook", "[I", true)
  | 49 => ("OneForDogModel", "ran", "I", false)
  | 50 => ("OneForDogModel", "bodies", "[I", true)
  | 51 => ("OneForDogModel", "sort", "[I", true)
  | 52 => ("OneForDogModel", "length", "[I", true)
  | 53 => ("OneForDogModel", "item", "[J", true)
  | _ => ("OneForDogModel", "aside", "[J", true)
def tyX10 : Nat → FieldType := fun k => match k with
  | 0 => .int
  | 1 => .int
  | 2 => .int
  | 3 => .int
  | 4 => .array .int
  | 5 => .array .int
  | 6 => .array .int
  | 7 => .int
  | 8 => .int
  | 9 => .int
  | 10 => .int
  | 11 => .int
  | 12 => .array .int
  | 13 => .array .int
  | 14 => .array .int
  | 15 => .array .int
  | 16 => .array .int
  | 17 => .array .int
  | 18 => .array .int
  | 19 => .array .int
  | 20 => .int
  | 21 => .int
  | 22 => .int
  | 23 => .array .int
  | 24 => .array .boolean
  | 25 => .int
  | 26 => .int
  | 27 => .int
  | 28 => .int
  | 29 => .int
  | 30 => .array .int
  | 31 => .array .int
  | 32 => .array .int
  | 33 => .array .int
  | 34 => .int
  | 35 => .array .int
  | 36 => .boolean
  | 37 => .int
  | 38 => .int
  | 39 => .int
  | 40 => .int
  | 41 => .int
  | 42 => .int
  | 43 => .int
  | 44 => .array .int
  | 45 => .array .int
  | 46 => .array .int
  | 47 => .array .int
  | 48 => .array .int
  | 49 => .int
  | 50 => .array .int
  | 51 => .array .int
  | 52 => .array .int
  | 53 => .array .long
  | _ => .array .long
abbrev wsX100 : List Cond := u_ws RX10 TX10 55
theorem nmX10 : ∀ a, a < 55 → ∀ b, b < 55 → a ≠ b → (TX10 a).2.1 ≠ (TX10 b).2.1 := by decide +kernel
theorem tyX10_ok : ∀ k, k < 55 → parseFieldDescriptor (TX10 k).2.2.1 = some (tyX10 k) := by decide +kernel
abbrev cX10_init : ByteArray := prog_12_method_1_code
def yX10_init : MethodName := ⟨RX10, "<init>", "()V"⟩
abbrev cX10_in : ByteArray := prog_12_method_2_code
def yX10_in : MethodName := ⟨RX10, "in", "(III)Z"⟩
abbrev cX10_isMan : ByteArray := prog_12_method_3_code
def yX10_isMan : MethodName := ⟨RX10, "isMan", "(I)Z"⟩
abbrev cX10_isHeap : ByteArray := prog_12_method_4_code
def yX10_isHeap : MethodName := ⟨RX10, "isHeap", "(I)Z"⟩
abbrev cX10_man : ByteArray := prog_12_method_5_code
def yX10_man : MethodName := ⟨RX10, "man", "(II)I"⟩
abbrev cX10_heap : ByteArray := prog_12_method_6_code
def yX10_heap : MethodName := ⟨RX10, "heap", "(I)I"⟩
abbrev cX10_feed : ByteArray := prog_12_method_7_code
def yX10_feed : MethodName := ⟨RX10, "feed", "(I)I"⟩
abbrev cX10_next : ByteArray := prog_12_method_8_code
def yX10_next : MethodName := ⟨RX10, "next", "()I"⟩
abbrev cX10_second : ByteArray := prog_12_method_9_code
def yX10_second : MethodName := ⟨RX10, "second", "()I"⟩
abbrev cX10_takes : ByteArray := prog_12_method_10_code
def yX10_takes : MethodName := ⟨RX10, "takes", "(I)Z"⟩
abbrev cX10_takesWord : ByteArray := prog_12_method_11_code
def yX10_takesWord : MethodName := ⟨RX10, "takesWord", "(II)Z"⟩
abbrev cX10_isDigit : ByteArray := prog_12_method_12_code
def yX10_isDigit : MethodName := ⟨RX10, "isDigit", "()Z"⟩
abbrev cX10_takesNumber : ByteArray := prog_12_method_13_code
def yX10_takesNumber : MethodName := ⟨RX10, "takesNumber", "()Z"⟩
abbrev cX10_put : ByteArray := prog_12_method_14_code
def yX10_put : MethodName := ⟨RX10, "put", "(I)V"⟩
abbrev cX10_whole : ByteArray := prog_12_method_15_code
def yX10_whole : MethodName := ⟨RX10, "whole", "()V"⟩
abbrev cX10_settle : ByteArray := prog_12_method_16_code
def yX10_settle : MethodName := ⟨RX10, "settle", "(I)V"⟩
abbrev cX10_place : ByteArray := prog_12_method_17_code
def yX10_place : MethodName := ⟨RX10, "place", "(I)I"⟩
abbrev cX10_takesTest : ByteArray := prog_12_method_18_code
def yX10_takesTest : MethodName := ⟨RX10, "takesTest", "()Z"⟩
abbrev cX10_takesE : ByteArray := prog_12_method_19_code
def yX10_takesE : MethodName := ⟨RX10, "takesE", "(I)Z"⟩
abbrev cX10_takesHead : ByteArray := prog_12_method_20_code
def yX10_takesHead : MethodName := ⟨RX10, "takesHead", "(I)Z"⟩
abbrev cX10_takesClause : ByteArray := prog_12_method_21_code
def yX10_takesClause : MethodName := ⟨RX10, "takesClause", "(I)Z"⟩
abbrev cX10_goesText : ByteArray := prog_12_method_22_code
def yX10_goesText : MethodName := ⟨RX10, "goesText", "(I)Z"⟩
abbrev cX10_village : ByteArray := prog_12_method_23_code
def yX10_village : MethodName := ⟨RX10, "village", "()I"⟩
abbrev cX10_begin : ByteArray := prog_12_method_24_code
def yX10_begin : MethodName := ⟨RX10, "begin", "()I"⟩
abbrev cX10_behind : ByteArray := prog_12_method_25_code
def yX10_behind : MethodName := ⟨RX10, "behind", "()I"⟩
abbrev cX10_lastOf : ByteArray := prog_12_method_26_code
def yX10_lastOf : MethodName := ⟨RX10, "lastOf", "(II)I"⟩
abbrev cX10_shares : ByteArray := prog_12_method_27_code
def yX10_shares : MethodName := ⟨RX10, "shares", "()I"⟩
abbrev cX10_factOf : ByteArray := prog_12_method_28_code
def yX10_factOf : MethodName := ⟨RX10, "factOf", "(IIII)I"⟩
abbrev cX10_holds : ByteArray := prog_12_method_29_code
def yX10_holds : MethodName := ⟨RX10, "holds", "(IIII)Z"⟩
abbrev cX10_sumOf : ByteArray := prog_12_method_30_code
def yX10_sumOf : MethodName := ⟨RX10, "sumOf", "(IIII)I"⟩
abbrev cX10_hasOver : ByteArray := prog_12_method_31_code
def yX10_hasOver : MethodName := ⟨RX10, "hasOver", "()Z"⟩
abbrev cX10_overOf : ByteArray := prog_12_method_32_code
def yX10_overOf : MethodName := ⟨RX10, "overOf", "(III)I"⟩
abbrev cX10_partsOf : ByteArray := prog_12_method_33_code
def yX10_partsOf : MethodName := ⟨RX10, "partsOf", "(I)I"⟩
abbrev cX10_comesOut : ByteArray := prog_12_method_34_code
def yX10_comesOut : MethodName := ⟨RX10, "comesOut", "(III)Z"⟩
abbrev cX10_hidesOf : ByteArray := prog_12_method_35_code
def yX10_hidesOf : MethodName := ⟨RX10, "hidesOf", "(III)I"⟩
abbrev cX10_shared : ByteArray := prog_12_method_36_code
def yX10_shared : MethodName := ⟨RX10, "shared", "(II)Z"⟩
abbrev cX10_wakes : ByteArray := prog_12_method_37_code
def yX10_wakes : MethodName := ⟨RX10, "wakes", "(II)Z"⟩
abbrev cX10_of : ByteArray := prog_12_method_38_code
def yX10_of : MethodName := ⟨RX10, "of", "(II)I"⟩
abbrev cX10_told : ByteArray := prog_12_method_39_code
def yX10_told : MethodName := ⟨RX10, "told", "(I)I"⟩
abbrev cX10_wake : ByteArray := prog_12_method_40_code
def yX10_wake : MethodName := ⟨RX10, "wake", "(I)I"⟩
abbrev cX10_row : ByteArray := prog_12_method_41_code
def yX10_row : MethodName := ⟨RX10, "row", "(I)I"⟩
abbrev cX10_goesRow : ByteArray := prog_12_method_42_code
def yX10_goesRow : MethodName := ⟨RX10, "goesRow", "(I)Z"⟩
abbrev cX10_isNight : ByteArray := prog_12_method_43_code
def yX10_isNight : MethodName := ⟨RX10, "isNight", "(I)Z"⟩
abbrev cX10_night : ByteArray := prog_12_method_44_code
def yX10_night : MethodName := ⟨RX10, "night", "(I)I"⟩
abbrev cX10_least : ByteArray := prog_12_method_45_code
def yX10_least : MethodName := ⟨RX10, "least", "(I)I"⟩
abbrev cX10_all : ByteArray := prog_12_method_46_code
def yX10_all : MethodName := ⟨RX10, "all", "(I)I"⟩
abbrev cX10_greatest : ByteArray := prog_12_method_47_code
def yX10_greatest : MethodName := ⟨RX10, "greatest", "(I)I"⟩
abbrev cX10_left : ByteArray := prog_12_method_48_code
def yX10_left : MethodName := ⟨RX10, "left", "(II)I"⟩
abbrev cX10_was : ByteArray := prog_12_method_49_code
def yX10_was : MethodName := ⟨RX10, "was", "(I)I"⟩
abbrev cX10_layUp : ByteArray := prog_12_method_50_code
def yX10_layUp : MethodName := ⟨RX10, "layUp", "(II)Z"⟩
abbrev cX10_leadsTo : ByteArray := prog_12_method_51_code
def yX10_leadsTo : MethodName := ⟨RX10, "leadsTo", "(III)Z"⟩
abbrev cX10_up : ByteArray := prog_12_method_52_code
def yX10_up : MethodName := ⟨RX10, "up", "(III)I"⟩
abbrev cX10_divisor : ByteArray := prog_12_method_53_code
def yX10_divisor : MethodName := ⟨RX10, "divisor", "(JJ)J"⟩
abbrev cX10_fair : ByteArray := prog_12_method_54_code
def yX10_fair : MethodName := ⟨RX10, "fair", "(III)J"⟩
abbrev cX10_chance : ByteArray := prog_12_method_55_code
def yX10_chance : MethodName := ⟨RX10, "chance", "(II)J"⟩
abbrev cX10_times : ByteArray := prog_12_method_56_code
def yX10_times : MethodName := ⟨RX10, "times", "(I)V"⟩
abbrev cX10_less : ByteArray := prog_12_method_57_code
def yX10_less : MethodName := ⟨RX10, "less", "(I)Z"⟩
abbrev cX10_layBig : ByteArray := prog_12_method_58_code
def yX10_layBig : MethodName := ⟨RX10, "layBig", "(III)V"⟩
abbrev cX10_big : ByteArray := prog_12_method_59_code
def yX10_big : MethodName := ⟨RX10, "big", "(IIII)I"⟩
abbrev cX10_book : ByteArray := prog_12_method_60_code
def yX10_book : MethodName := ⟨RX10, "book", "(I)I"⟩
abbrev cX10_looked : ByteArray := prog_12_method_61_code
def yX10_looked : MethodName := ⟨RX10, "looked", "()I"⟩
abbrev cX10_judge : ByteArray := prog_12_method_62_code
def yX10_judge : MethodName := ⟨RX10, "judge", "(II)I"⟩
abbrev cX10_image : ByteArray := prog_12_method_63_code
def yX10_image : MethodName := ⟨RX10, "image", "()I"⟩
abbrev cX10_undo : ByteArray := prog_12_method_64_code
def yX10_undo : MethodName := ⟨RX10, "undo", "()I"⟩
abbrev cX10_body : ByteArray := prog_12_method_65_code
def yX10_body : MethodName := ⟨RX10, "body", "(I)V"⟩
abbrev cX10_manWakes : ByteArray := prog_12_method_66_code
def yX10_manWakes : MethodName := ⟨RX10, "manWakes", "(II)I"⟩
abbrev cX10_wakesAct : ByteArray := prog_12_method_67_code
def yX10_wakesAct : MethodName := ⟨RX10, "wakesAct", "(II)I"⟩
abbrev cX10_manHides : ByteArray := prog_12_method_68_code
def yX10_manHides : MethodName := ⟨RX10, "manHides", "(II)I"⟩
abbrev cX10_sharingHides : ByteArray := prog_12_method_69_code
def yX10_sharingHides : MethodName := ⟨RX10, "sharingHides", "(II)I"⟩
abbrev cX10_hidesAct : ByteArray := prog_12_method_70_code
def yX10_hidesAct : MethodName := ⟨RX10, "hidesAct", "(II)I"⟩
abbrev cX10_manTells : ByteArray := prog_12_method_71_code
def yX10_manTells : MethodName := ⟨RX10, "manTells", "(II)I"⟩
abbrev cX10_tellsAct : ByteArray := prog_12_method_72_code
def yX10_tellsAct : MethodName := ⟨RX10, "tellsAct", "(II)I"⟩
abbrev cX10_act : ByteArray := prog_12_method_73_code
def yX10_act : MethodName := ⟨RX10, "act", "(III)I"⟩
abbrev cX10_trace : ByteArray := prog_12_method_74_code
def yX10_trace : MethodName := ⟨RX10, "trace", "(I)I"⟩
abbrev cX10_taken : ByteArray := prog_12_method_75_code
def yX10_taken : MethodName := ⟨RX10, "taken", "(II)I"⟩
abbrev cX10_count : ByteArray := prog_12_method_76_code
def yX10_count : MethodName := ⟨RX10, "count", "(I)I"⟩
abbrev cX10_isTape : ByteArray := prog_12_method_77_code
def yX10_isTape : MethodName := ⟨RX10, "isTape", "(I)Z"⟩
abbrev cX10_tape : ByteArray := prog_12_method_78_code
def yX10_tape : MethodName := ⟨RX10, "tape", "(III)I"⟩
abbrev cX10_narrow : ByteArray := prog_12_method_79_code
def yX10_narrow : MethodName := ⟨RX10, "narrow", "(IJ)J"⟩
abbrev cX10_item : ByteArray := prog_12_method_80_code
def yX10_item : MethodName := ⟨RX10, "item", "(IIJ)I"⟩
abbrev cX10_read : ByteArray := prog_12_method_81_code
def yX10_read : MethodName := ⟨RX10, "read", "(II)J"⟩
abbrev cX10_shift : ByteArray := prog_12_method_82_code
def yX10_shift : MethodName := ⟨RX10, "shift", "(IIIII)I"⟩
def RJ9 : String := "java/lang/Math"
abbrev cJ9_floorDiv_7cf53 : ByteArray := prog_13_method_47_code
def yJ9_floorDiv_7cf53 : MethodName := ⟨RJ9, "floorDiv", "(II)I"⟩
abbrev cJ9_floorMod_7cf53 : ByteArray := prog_13_method_50_code
def yJ9_floorMod_7cf53 : MethodName := ⟨RJ9, "floorMod", "(II)I"⟩
abbrev cJ9_abs_067f4 : ByteArray := prog_13_method_61_code
def yJ9_abs_067f4 : MethodName := ⟨RJ9, "abs", "(J)J"⟩
abbrev cJ9_max_7cf53 : ByteArray := prog_13_method_65_code
def yJ9_max_7cf53 : MethodName := ⟨RJ9, "max", "(II)I"⟩
abbrev cJ9_min_7cf53 : ByteArray := prog_13_method_69_code
def yJ9_min_7cf53 : MethodName := ⟨RJ9, "min", "(II)I"⟩
def RJ0 : String := "java/lang/String"
abbrev cJ0_length_8abf5 : ByteArray := prog_14_method_54_code
def yJ0_length_8abf5 : MethodName := ⟨RJ0, "length", "()I"⟩
abbrev cJ0_charAt_5068e : ByteArray := prog_14_method_56_code
def yJ0_charAt_5068e : MethodName := ⟨RJ0, "charAt", "(I)C"⟩
abbrev cJ0_coder_7d493 : ByteArray := prog_14_method_152_code
def yJ0_coder_7d493 : MethodName := ⟨RJ0, "coder", "()B"⟩
abbrev cJ0_isLatin1_aae02 : ByteArray := prog_14_method_154_code
def yJ0_isLatin1_aae02 : MethodName := ⟨RJ0, "isLatin1", "()Z"⟩
abbrev cJ0_checkIndex_df160 : ByteArray := prog_14_method_155_code
def yJ0_checkIndex_df160 : MethodName := ⟨RJ0, "checkIndex", "(II)V"⟩
def RJ1 : String := "java/lang/StringLatin1"
abbrev cJ1_charAt_3b067 : ByteArray := prog_15_method_2_code
def yJ1_charAt_3b067 : MethodName := ⟨RJ1, "charAt", "([BI)C"⟩
def RJ2 : String := "java/lang/StringUTF16"
abbrev cJ2_getChar_3b067 : ByteArray := prog_16_method_5_code
def yJ2_getChar_3b067 : MethodName := ⟨RJ2, "getChar", "([BI)C"⟩
abbrev cJ2_length_9d52b : ByteArray := prog_16_method_6_code
def yJ2_length_9d52b : MethodName := ⟨RJ2, "length", "([B)I"⟩
abbrev cJ2_charAt_3b067 : ByteArray := prog_16_method_83_code
def yJ2_charAt_3b067 : MethodName := ⟨RJ2, "charAt", "([BI)C"⟩
abbrev cJ2_checkIndex_2214a : ByteArray := prog_16_method_91_code
def yJ2_checkIndex_2214a : MethodName := ⟨RJ2, "checkIndex", "(I[B)V"⟩
def RJ10 : String := "java/lang/System"
def RJ7 : String := "java/util/Arrays"
abbrev cJ7_fill_d0a16 : ByteArray := prog_18_method_101_code
def yJ7_fill_d0a16 : MethodName := ⟨RJ7, "fill", "([JJ)V"⟩
abbrev cJ7_fill_53178 : ByteArray := prog_18_method_103_code
def yJ7_fill_53178 : MethodName := ⟨RJ7, "fill", "([II)V"⟩
def RJ3 : String := "jdk/internal/util/Preconditions"
abbrev cJ3_checkIndex_8e157 : ByteArray := prog_19_method_11_code
def yJ3_checkIndex_8e157 : MethodName := ⟨RJ3, "checkIndex", "(IILjava/util/function/BiFunction;)I"⟩
def RL : String := "OneForDogLaw"
abbrev cL_law : ByteArray := code
def yL_law : MethodName := ⟨RL, "law", "([I)Z"⟩
abbrev vwCl : List vw_C := [(RX0, TX0, 5), (RX1, TX1, 12), (RX2, TX2, 1), (RX3, TX3, 8), (RX4, TX4, 7), (RX5, TX5, 3), (RX6, TX6, 9), (RX7, TX7, 4), (RX8, TX8, 10), (RX9, TX9, 13), (RX10, TX10, 55)]
