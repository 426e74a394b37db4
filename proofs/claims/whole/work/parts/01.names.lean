-- ===== PART A: goes FIRST, ahead of the names: the tables' words, and 'selects' of the private methods out of them =====
/-- a private method of a class that the tables say can be made, by its rows of tables_1 -/
def lw_okq (q : MethodName × Nat) : Prop := (q.1.cls ≠ "java/lang/invoke/MethodHandle" ∧ q.1.cls ≠ "java/lang/invoke/VarHandle") ∧ Cond.instantiable q.1.cls q.2 ∈ tables_1 ∧ Cond.privateMethod q.1 ∈ tables_1 ∧ Cond.instanceMethod q.1 ∈ tables_1
theorem lw_p0 : lw_okq (⟨"TwoRumours$Text", "isLetter", "(I)Z"⟩, 8) := ⟨⟨by decide +kernel, by decide +kernel⟩, List.mem_of_getElem? (i := 30) (by decide +kernel), List.mem_of_getElem? (i := 425) (by decide +kernel), List.mem_of_getElem? (i := 426) (by decide +kernel)⟩
theorem lw_p1 : lw_okq (⟨"TwoRumours$Text", "isFigure", "(I)Z"⟩, 8) := ⟨⟨by decide +kernel, by decide +kernel⟩, List.mem_of_getElem? (i := 30) (by decide +kernel), List.mem_of_getElem? (i := 429) (by decide +kernel), List.mem_of_getElem? (i := 430) (by decide +kernel)⟩
theorem lw_p2 : lw_okq (⟨"TwoRumours$Text", "readFigures", "()V"⟩, 8) := ⟨⟨by decide +kernel, by decide +kernel⟩, List.mem_of_getElem? (i := 30) (by decide +kernel), List.mem_of_getElem? (i := 433) (by decide +kernel), List.mem_of_getElem? (i := 434) (by decide +kernel)⟩
theorem lw_p3 : lw_okq (⟨"TwoRumours$Town", "readPerson", "(LTwoRumours$Text;)V"⟩, 9) := ⟨⟨by decide +kernel, by decide +kernel⟩, List.mem_of_getElem? (i := 67) (by decide +kernel), List.mem_of_getElem? (i := 494) (by decide +kernel), List.mem_of_getElem? (i := 495) (by decide +kernel)⟩
theorem lw_p4 : lw_okq (⟨"TwoRumours$Town", "readTie", "(LTwoRumours$Text;)V"⟩, 9) := ⟨⟨by decide +kernel, by decide +kernel⟩, List.mem_of_getElem? (i := 67) (by decide +kernel), List.mem_of_getElem? (i := 528) (by decide +kernel), List.mem_of_getElem? (i := 529) (by decide +kernel)⟩
theorem lw_p5 : lw_okq (⟨"TwoRumours$Town", "befriend", "(III)V"⟩, 9) := ⟨⟨by decide +kernel, by decide +kernel⟩, List.mem_of_getElem? (i := 67) (by decide +kernel), List.mem_of_getElem? (i := 537) (by decide +kernel), List.mem_of_getElem? (i := 538) (by decide +kernel)⟩
theorem lw_p6 : lw_okq (⟨"TwoRumours", "closeText", "()I"⟩, 16) := ⟨⟨by decide +kernel, by decide +kernel⟩, List.mem_of_getElem? (i := 22) (by decide +kernel), List.mem_of_getElem? (i := 541) (by decide +kernel), List.mem_of_getElem? (i := 542) (by decide +kernel)⟩
theorem lw_p7 : lw_okq (⟨"TwoRumours", "startAnew", "()V"⟩, 16) := ⟨⟨by decide +kernel, by decide +kernel⟩, List.mem_of_getElem? (i := 22) (by decide +kernel), List.mem_of_getElem? (i := 556) (by decide +kernel), List.mem_of_getElem? (i := 557) (by decide +kernel)⟩
theorem lw_p8 : lw_okq (⟨"TwoRumours$Lore", "readSaying", "(LTwoRumours$Text;)V"⟩, 6) := ⟨⟨by decide +kernel, by decide +kernel⟩, List.mem_of_getElem? (i := 117) (by decide +kernel), List.mem_of_getElem? (i := 579) (by decide +kernel), List.mem_of_getElem? (i := 580) (by decide +kernel)⟩
theorem lw_p9 : lw_okq (⟨"TwoRumours$Lore", "readBarred", "(LTwoRumours$Text;)I"⟩, 6) := ⟨⟨by decide +kernel, by decide +kernel⟩, List.mem_of_getElem? (i := 117) (by decide +kernel), List.mem_of_getElem? (i := 590) (by decide +kernel), List.mem_of_getElem? (i := 591) (by decide +kernel)⟩
theorem lw_p10 : lw_okq (⟨"TwoRumours$Lore", "readUnlike", "(LTwoRumours$Text;I)I"⟩, 6) := ⟨⟨by decide +kernel, by decide +kernel⟩, List.mem_of_getElem? (i := 117) (by decide +kernel), List.mem_of_getElem? (i := 594) (by decide +kernel), List.mem_of_getElem? (i := 595) (by decide +kernel)⟩
theorem lw_p11 : lw_okq (⟨"TwoRumours$Lore", "readJoined", "(LTwoRumours$Text;)I"⟩, 6) := ⟨⟨by decide +kernel, by decide +kernel⟩, List.mem_of_getElem? (i := 117) (by decide +kernel), List.mem_of_getElem? (i := 601) (by decide +kernel), List.mem_of_getElem? (i := 602) (by decide +kernel)⟩
theorem lw_p12 : lw_okq (⟨"TwoRumours$Lore", "settleBarred", "(I)V"⟩, 6) := ⟨⟨by decide +kernel, by decide +kernel⟩, List.mem_of_getElem? (i := 117) (by decide +kernel), List.mem_of_getElem? (i := 606) (by decide +kernel), List.mem_of_getElem? (i := 607) (by decide +kernel)⟩
theorem lw_p13 : lw_okq (⟨"TwoRumours", "isPerson", "(I)Z"⟩, 16) := ⟨⟨by decide +kernel, by decide +kernel⟩, List.mem_of_getElem? (i := 22) (by decide +kernel), List.mem_of_getElem? (i := 637) (by decide +kernel), List.mem_of_getElem? (i := 638) (by decide +kernel)⟩
theorem lw_p14 : lw_okq (⟨"TwoRumours", "isSaying", "(I)Z"⟩, 16) := ⟨⟨by decide +kernel, by decide +kernel⟩, List.mem_of_getElem? (i := 22) (by decide +kernel), List.mem_of_getElem? (i := 651) (by decide +kernel), List.mem_of_getElem? (i := 652) (by decide +kernel)⟩
theorem lw_p15 : lw_okq (⟨"TwoRumours$Telling", "tellsOne", "(LTwoRumours$Course;I)Z"⟩, 3) := ⟨⟨by decide +kernel, by decide +kernel⟩, List.mem_of_getElem? (i := 165) (by decide +kernel), List.mem_of_getElem? (i := 701) (by decide +kernel), List.mem_of_getElem? (i := 702) (by decide +kernel)⟩
def lw_privs_1 : List (MethodName × Nat) := [(⟨"TwoRumours$Text", "isLetter", "(I)Z"⟩, 8), (⟨"TwoRumours$Text", "isFigure", "(I)Z"⟩, 8), (⟨"TwoRumours$Text", "readFigures", "()V"⟩, 8), (⟨"TwoRumours$Town", "readPerson", "(LTwoRumours$Text;)V"⟩, 9), (⟨"TwoRumours$Town", "readTie", "(LTwoRumours$Text;)V"⟩, 9), (⟨"TwoRumours$Town", "befriend", "(III)V"⟩, 9), (⟨"TwoRumours", "closeText", "()I"⟩, 16), (⟨"TwoRumours", "startAnew", "()V"⟩, 16), (⟨"TwoRumours$Lore", "readSaying", "(LTwoRumours$Text;)V"⟩, 6), (⟨"TwoRumours$Lore", "readBarred", "(LTwoRumours$Text;)I"⟩, 6), (⟨"TwoRumours$Lore", "readUnlike", "(LTwoRumours$Text;I)I"⟩, 6), (⟨"TwoRumours$Lore", "readJoined", "(LTwoRumours$Text;)I"⟩, 6), (⟨"TwoRumours$Lore", "settleBarred", "(I)V"⟩, 6), (⟨"TwoRumours", "isPerson", "(I)Z"⟩, 16), (⟨"TwoRumours", "isSaying", "(I)Z"⟩, 16), (⟨"TwoRumours$Telling", "tellsOne", "(LTwoRumours$Course;I)Z"⟩, 3)]
theorem lw_r1 : ∀ q ∈ lw_privs_1, lw_okq q := List.forall_mem_cons.mpr ⟨lw_p0, List.forall_mem_cons.mpr ⟨lw_p1, List.forall_mem_cons.mpr ⟨lw_p2, List.forall_mem_cons.mpr ⟨lw_p3, List.forall_mem_cons.mpr ⟨lw_p4, List.forall_mem_cons.mpr ⟨lw_p5, List.forall_mem_cons.mpr ⟨lw_p6, List.forall_mem_cons.mpr ⟨lw_p7, List.forall_mem_cons.mpr ⟨lw_p8, List.forall_mem_cons.mpr ⟨lw_p9, List.forall_mem_cons.mpr ⟨lw_p10, List.forall_mem_cons.mpr ⟨lw_p11, List.forall_mem_cons.mpr ⟨lw_p12, List.forall_mem_cons.mpr ⟨lw_p13, List.forall_mem_cons.mpr ⟨lw_p14, List.forall_mem_cons.mpr ⟨lw_p15, fun _ h => absurd h List.not_mem_nil⟩⟩⟩⟩⟩⟩⟩⟩⟩⟩⟩⟩⟩⟩⟩⟩
theorem lw_p16 : lw_okq (⟨"TwoRumours$Telling", "joins", "(LTwoRumours$Course;III)Z"⟩, 3) := ⟨⟨by decide +kernel, by decide +kernel⟩, List.mem_of_getElem? (i := 165) (by decide +kernel), List.mem_of_getElem? (i := 726) (by decide +kernel), List.mem_of_getElem? (i := 727) (by decide +kernel)⟩
theorem lw_p17 : lw_okq (⟨"TwoRumours$Telling", "heedFor", "(LTwoRumours$Course;II)I"⟩, 3) := ⟨⟨by decide +kernel, by decide +kernel⟩, List.mem_of_getElem? (i := 165) (by decide +kernel), List.mem_of_getElem? (i := 735) (by decide +kernel), List.mem_of_getElem? (i := 736) (by decide +kernel)⟩
theorem lw_p18 : lw_okq (⟨"TwoRumours$Ways", "toldApart", "(III)Z"⟩, 3) := ⟨⟨by decide +kernel, by decide +kernel⟩, List.mem_of_getElem? (i := 250) (by decide +kernel), List.mem_of_getElem? (i := 783) (by decide +kernel), List.mem_of_getElem? (i := 784) (by decide +kernel)⟩
theorem lw_p19 : lw_okq (⟨"TwoRumours$Ways", "comesBy", "(I)Z"⟩, 3) := ⟨⟨by decide +kernel, by decide +kernel⟩, List.mem_of_getElem? (i := 250) (by decide +kernel), List.mem_of_getElem? (i := 788) (by decide +kernel), List.mem_of_getElem? (i := 789) (by decide +kernel)⟩
theorem lw_p20 : lw_okq (⟨"TwoRumours$Interviews", "leadingTo", "(I)I"⟩, 3) := ⟨⟨by decide +kernel, by decide +kernel⟩, List.mem_of_getElem? (i := 268) (by decide +kernel), List.mem_of_getElem? (i := 859) (by decide +kernel), List.mem_of_getElem? (i := 860) (by decide +kernel)⟩
theorem lw_p21 : lw_okq (⟨"TwoRumours$Interviews", "isTooEarly", "(I)Z"⟩, 3) := ⟨⟨by decide +kernel, by decide +kernel⟩, List.mem_of_getElem? (i := 268) (by decide +kernel), List.mem_of_getElem? (i := 868) (by decide +kernel), List.mem_of_getElem? (i := 869) (by decide +kernel)⟩
theorem lw_p22 : lw_okq (⟨"TwoRumours", "heldBehind", "(II)I"⟩, 16) := ⟨⟨by decide +kernel, by decide +kernel⟩, List.mem_of_getElem? (i := 22) (by decide +kernel), List.mem_of_getElem? (i := 881) (by decide +kernel), List.mem_of_getElem? (i := 882) (by decide +kernel)⟩
theorem lw_p23 : lw_okq (⟨"TwoRumours", "isOfNet", "(I)Z"⟩, 16) := ⟨⟨by decide +kernel, by decide +kernel⟩, List.mem_of_getElem? (i := 22) (by decide +kernel), List.mem_of_getElem? (i := 889) (by decide +kernel), List.mem_of_getElem? (i := 890) (by decide +kernel)⟩
theorem lw_p24 : lw_okq (⟨"TwoRumours$Net", "spread", "(II)V"⟩, 7) := ⟨⟨by decide +kernel, by decide +kernel⟩, List.mem_of_getElem? (i := 284) (by decide +kernel), List.mem_of_getElem? (i := 905) (by decide +kernel), List.mem_of_getElem? (i := 906) (by decide +kernel)⟩
theorem lw_p25 : lw_okq (⟨"TwoRumours$Net", "prepare", "()V"⟩, 7) := ⟨⟨by decide +kernel, by decide +kernel⟩, List.mem_of_getElem? (i := 284) (by decide +kernel), List.mem_of_getElem? (i := 909) (by decide +kernel), List.mem_of_getElem? (i := 910) (by decide +kernel)⟩
theorem lw_p26 : lw_okq (⟨"TwoRumours$Net", "part", "(I)V"⟩, 7) := ⟨⟨by decide +kernel, by decide +kernel⟩, List.mem_of_getElem? (i := 284) (by decide +kernel), List.mem_of_getElem? (i := 919) (by decide +kernel), List.mem_of_getElem? (i := 920) (by decide +kernel)⟩
theorem lw_p27 : lw_okq (⟨"TwoRumours$Net", "tellOf", "(II)I"⟩, 7) := ⟨⟨by decide +kernel, by decide +kernel⟩, List.mem_of_getElem? (i := 284) (by decide +kernel), List.mem_of_getElem? (i := 923) (by decide +kernel), List.mem_of_getElem? (i := 924) (by decide +kernel)⟩
theorem lw_p28 : lw_okq (⟨"TwoRumours$Net", "partBy", "(II)V"⟩, 7) := ⟨⟨by decide +kernel, by decide +kernel⟩, List.mem_of_getElem? (i := 284) (by decide +kernel), List.mem_of_getElem? (i := 927) (by decide +kernel), List.mem_of_getElem? (i := 928) (by decide +kernel)⟩
theorem lw_p29 : lw_okq (⟨"TwoRumours$Land", "reachesReports", "(I)Z"⟩, 7) := ⟨⟨by decide +kernel, by decide +kernel⟩, List.mem_of_getElem? (i := 314) (by decide +kernel), List.mem_of_getElem? (i := 1000) (by decide +kernel), List.mem_of_getElem? (i := 1001) (by decide +kernel)⟩
theorem lw_p30 : lw_okq (⟨"TwoRumours$Land", "latestStart", "(II)I"⟩, 7) := ⟨⟨by decide +kernel, by decide +kernel⟩, List.mem_of_getElem? (i := 314) (by decide +kernel), List.mem_of_getElem? (i := 1004) (by decide +kernel), List.mem_of_getElem? (i := 1005) (by decide +kernel)⟩
theorem lw_p31 : lw_okq (⟨"TwoRumours$Land", "farness", "(III)I"⟩, 7) := ⟨⟨by decide +kernel, by decide +kernel⟩, List.mem_of_getElem? (i := 314) (by decide +kernel), List.mem_of_getElem? (i := 1008) (by decide +kernel), List.mem_of_getElem? (i := 1009) (by decide +kernel)⟩
def lw_privs_2 : List (MethodName × Nat) := [(⟨"TwoRumours$Telling", "joins", "(LTwoRumours$Course;III)Z"⟩, 3), (⟨"TwoRumours$Telling", "heedFor", "(LTwoRumours$Course;II)I"⟩, 3), (⟨"TwoRumours$Ways", "toldApart", "(III)Z"⟩, 3), (⟨"TwoRumours$Ways", "comesBy", "(I)Z"⟩, 3), (⟨"TwoRumours$Interviews", "leadingTo", "(I)I"⟩, 3), (⟨"TwoRumours$Interviews", "isTooEarly", "(I)Z"⟩, 3), (⟨"TwoRumours", "heldBehind", "(II)I"⟩, 16), (⟨"TwoRumours", "isOfNet", "(I)Z"⟩, 16), (⟨"TwoRumours$Net", "spread", "(II)V"⟩, 7), (⟨"TwoRumours$Net", "prepare", "()V"⟩, 7), (⟨"TwoRumours$Net", "part", "(I)V"⟩, 7), (⟨"TwoRumours$Net", "tellOf", "(II)I"⟩, 7), (⟨"TwoRumours$Net", "partBy", "(II)V"⟩, 7), (⟨"TwoRumours$Land", "reachesReports", "(I)Z"⟩, 7), (⟨"TwoRumours$Land", "latestStart", "(II)I"⟩, 7), (⟨"TwoRumours$Land", "farness", "(III)I"⟩, 7)]
theorem lw_r2 : ∀ q ∈ lw_privs_2, lw_okq q := List.forall_mem_cons.mpr ⟨lw_p16, List.forall_mem_cons.mpr ⟨lw_p17, List.forall_mem_cons.mpr ⟨lw_p18, List.forall_mem_cons.mpr ⟨lw_p19, List.forall_mem_cons.mpr ⟨lw_p20, List.forall_mem_cons.mpr ⟨lw_p21, List.forall_mem_cons.mpr ⟨lw_p22, List.forall_mem_cons.mpr ⟨lw_p23, List.forall_mem_cons.mpr ⟨lw_p24, List.forall_mem_cons.mpr ⟨lw_p25, List.forall_mem_cons.mpr ⟨lw_p26, List.forall_mem_cons.mpr ⟨lw_p27, List.forall_mem_cons.mpr ⟨lw_p28, List.forall_mem_cons.mpr ⟨lw_p29, List.forall_mem_cons.mpr ⟨lw_p30, List.forall_mem_cons.mpr ⟨lw_p31, fun _ h => absurd h List.not_mem_nil⟩⟩⟩⟩⟩⟩⟩⟩⟩⟩⟩⟩⟩⟩⟩⟩
theorem lw_p32 : lw_okq (⟨"TwoRumours$Land", "latenessOf", "(III)I"⟩, 7) := ⟨⟨by decide +kernel, by decide +kernel⟩, List.mem_of_getElem? (i := 314) (by decide +kernel), List.mem_of_getElem? (i := 1012) (by decide +kernel), List.mem_of_getElem? (i := 1013) (by decide +kernel)⟩
theorem lw_p33 : lw_okq (⟨"TwoRumoursModel", "beginReading", "()V"⟩, 41) := ⟨⟨by decide +kernel, by decide +kernel⟩, List.mem_of_getElem? (i := 1038) (by decide +kernel), List.mem_of_getElem? (i := 1184) (by decide +kernel), List.mem_of_getElem? (i := 1185) (by decide +kernel)⟩
theorem lw_p34 : lw_okq (⟨"TwoRumoursModel", "here", "()I"⟩, 41) := ⟨⟨by decide +kernel, by decide +kernel⟩, List.mem_of_getElem? (i := 1038) (by decide +kernel), List.mem_of_getElem? (i := 1188) (by decide +kernel), List.mem_of_getElem? (i := 1189) (by decide +kernel)⟩
theorem lw_p35 : lw_okq (⟨"TwoRumoursModel", "takeWord", "()V"⟩, 41) := ⟨⟨by decide +kernel, by decide +kernel⟩, List.mem_of_getElem? (i := 1038) (by decide +kernel), List.mem_of_getElem? (i := 1192) (by decide +kernel), List.mem_of_getElem? (i := 1193) (by decide +kernel)⟩
theorem lw_p36 : lw_okq (⟨"TwoRumoursModel", "isWord", "(IIIII)Z"⟩, 41) := ⟨⟨by decide +kernel, by decide +kernel⟩, List.mem_of_getElem? (i := 1038) (by decide +kernel), List.mem_of_getElem? (i := 1198) (by decide +kernel), List.mem_of_getElem? (i := 1199) (by decide +kernel)⟩
theorem lw_p37 : lw_okq (⟨"TwoRumoursModel", "isTail", "(III)Z"⟩, 41) := ⟨⟨by decide +kernel, by decide +kernel⟩, List.mem_of_getElem? (i := 1038) (by decide +kernel), List.mem_of_getElem? (i := 1202) (by decide +kernel), List.mem_of_getElem? (i := 1203) (by decide +kernel)⟩
theorem lw_p38 : lw_okq (⟨"TwoRumoursModel", "takePerson", "(I)V"⟩, 41) := ⟨⟨by decide +kernel, by decide +kernel⟩, List.mem_of_getElem? (i := 1038) (by decide +kernel), List.mem_of_getElem? (i := 1206) (by decide +kernel), List.mem_of_getElem? (i := 1207) (by decide +kernel)⟩
theorem lw_p39 : lw_okq (⟨"TwoRumoursModel", "want", "(ZII)Z"⟩, 41) := ⟨⟨by decide +kernel, by decide +kernel⟩, List.mem_of_getElem? (i := 1038) (by decide +kernel), List.mem_of_getElem? (i := 1210) (by decide +kernel), List.mem_of_getElem? (i := 1211) (by decide +kernel)⟩
theorem lw_p40 : lw_okq (⟨"TwoRumoursModel", "takeNumber", "(II)I"⟩, 41) := ⟨⟨by decide +kernel, by decide +kernel⟩, List.mem_of_getElem? (i := 1038) (by decide +kernel), List.mem_of_getElem? (i := 1214) (by decide +kernel), List.mem_of_getElem? (i := 1215) (by decide +kernel)⟩
theorem lw_p41 : lw_okq (⟨"TwoRumoursModel", "isNext", "(IIIIIIII)Z"⟩, 41) := ⟨⟨by decide +kernel, by decide +kernel⟩, List.mem_of_getElem? (i := 1038) (by decide +kernel), List.mem_of_getElem? (i := 1221) (by decide +kernel), List.mem_of_getElem? (i := 1222) (by decide +kernel)⟩
theorem lw_p42 : lw_okq (⟨"TwoRumoursModel", "takeTie", "(I)V"⟩, 41) := ⟨⟨by decide +kernel, by decide +kernel⟩, List.mem_of_getElem? (i := 1038) (by decide +kernel), List.mem_of_getElem? (i := 1225) (by decide +kernel), List.mem_of_getElem? (i := 1226) (by decide +kernel)⟩
theorem lw_p43 : lw_okq (⟨"TwoRumoursModel", "takeEnd", "()V"⟩, 41) := ⟨⟨by decide +kernel, by decide +kernel⟩, List.mem_of_getElem? (i := 1038) (by decide +kernel), List.mem_of_getElem? (i := 1229) (by decide +kernel), List.mem_of_getElem? (i := 1230) (by decide +kernel)⟩
theorem lw_p44 : lw_okq (⟨"TwoRumoursModel", "clearRow", "()V"⟩, 41) := ⟨⟨by decide +kernel, by decide +kernel⟩, List.mem_of_getElem? (i := 1038) (by decide +kernel), List.mem_of_getElem? (i := 1233) (by decide +kernel), List.mem_of_getElem? (i := 1234) (by decide +kernel)⟩
theorem lw_p45 : lw_okq (⟨"TwoRumoursModel", "takeSaying", "()V"⟩, 41) := ⟨⟨by decide +kernel, by decide +kernel⟩, List.mem_of_getElem? (i := 1038) (by decide +kernel), List.mem_of_getElem? (i := 1242) (by decide +kernel), List.mem_of_getElem? (i := 1243) (by decide +kernel)⟩
theorem lw_p46 : lw_okq (⟨"TwoRumoursModel", "isPerson", "(I)Z"⟩, 41) := ⟨⟨by decide +kernel, by decide +kernel⟩, List.mem_of_getElem? (i := 1038) (by decide +kernel), List.mem_of_getElem? (i := 1267) (by decide +kernel), List.mem_of_getElem? (i := 1268) (by decide +kernel)⟩
theorem lw_p47 : lw_okq (⟨"TwoRumoursModel", "tieMany", "(I)I"⟩, 41) := ⟨⟨by decide +kernel, by decide +kernel⟩, List.mem_of_getElem? (i := 1038) (by decide +kernel), List.mem_of_getElem? (i := 1272) (by decide +kernel), List.mem_of_getElem? (i := 1273) (by decide +kernel)⟩
def lw_privs_3 : List (MethodName × Nat) := [(⟨"TwoRumours$Land", "latenessOf", "(III)I"⟩, 7), (⟨"TwoRumoursModel", "beginReading", "()V"⟩, 41), (⟨"TwoRumoursModel", "here", "()I"⟩, 41), (⟨"TwoRumoursModel", "takeWord", "()V"⟩, 41), (⟨"TwoRumoursModel", "isWord", "(IIIII)Z"⟩, 41), (⟨"TwoRumoursModel", "isTail", "(III)Z"⟩, 41), (⟨"TwoRumoursModel", "takePerson", "(I)V"⟩, 41), (⟨"TwoRumoursModel", "want", "(ZII)Z"⟩, 41), (⟨"TwoRumoursModel", "takeNumber", "(II)I"⟩, 41), (⟨"TwoRumoursModel", "isNext", "(IIIIIIII)Z"⟩, 41), (⟨"TwoRumoursModel", "takeTie", "(I)V"⟩, 41), (⟨"TwoRumoursModel", "takeEnd", "()V"⟩, 41), (⟨"TwoRumoursModel", "clearRow", "()V"⟩, 41), (⟨"TwoRumoursModel", "takeSaying", "()V"⟩, 41), (⟨"TwoRumoursModel", "isPerson", "(I)Z"⟩, 41), (⟨"TwoRumoursModel", "tieMany", "(I)I"⟩, 41)]
theorem lw_r3 : ∀ q ∈ lw_privs_3, lw_okq q := List.forall_mem_cons.mpr ⟨lw_p32, List.forall_mem_cons.mpr ⟨lw_p33, List.forall_mem_cons.mpr ⟨lw_p34, List.forall_mem_cons.mpr ⟨lw_p35, List.forall_mem_cons.mpr ⟨lw_p36, List.forall_mem_cons.mpr ⟨lw_p37, List.forall_mem_cons.mpr ⟨lw_p38, List.forall_mem_cons.mpr ⟨lw_p39, List.forall_mem_cons.mpr ⟨lw_p40, List.forall_mem_cons.mpr ⟨lw_p41, List.forall_mem_cons.mpr ⟨lw_p42, List.forall_mem_cons.mpr ⟨lw_p43, List.forall_mem_cons.mpr ⟨lw_p44, List.forall_mem_cons.mpr ⟨lw_p45, List.forall_mem_cons.mpr ⟨lw_p46, List.forall_mem_cons.mpr ⟨lw_p47, fun _ h => absurd h List.not_mem_nil⟩⟩⟩⟩⟩⟩⟩⟩⟩⟩⟩⟩⟩⟩⟩⟩
theorem lw_p48 : lw_okq (⟨"TwoRumoursModel", "isOf", "(II)Z"⟩, 41) := ⟨⟨by decide +kernel, by decide +kernel⟩, List.mem_of_getElem? (i := 1038) (by decide +kernel), List.mem_of_getElem? (i := 1276) (by decide +kernel), List.mem_of_getElem? (i := 1277) (by decide +kernel)⟩
theorem lw_p49 : lw_okq (⟨"TwoRumoursModel", "tieSum", "(I)I"⟩, 41) := ⟨⟨by decide +kernel, by decide +kernel⟩, List.mem_of_getElem? (i := 1038) (by decide +kernel), List.mem_of_getElem? (i := 1280) (by decide +kernel), List.mem_of_getElem? (i := 1281) (by decide +kernel)⟩
theorem lw_p50 : lw_okq (⟨"TwoRumoursModel", "strength", "(II)I"⟩, 41) := ⟨⟨by decide +kernel, by decide +kernel⟩, List.mem_of_getElem? (i := 1038) (by decide +kernel), List.mem_of_getElem? (i := 1288) (by decide +kernel), List.mem_of_getElem? (i := 1289) (by decide +kernel)⟩
theorem lw_p51 : lw_okq (⟨"TwoRumoursModel", "isSaying", "(I)Z"⟩, 41) := ⟨⟨by decide +kernel, by decide +kernel⟩, List.mem_of_getElem? (i := 1038) (by decide +kernel), List.mem_of_getElem? (i := 1296) (by decide +kernel), List.mem_of_getElem? (i := 1297) (by decide +kernel)⟩
theorem lw_p52 : lw_okq (⟨"TwoRumoursModel", "isBarred", "(II)Z"⟩, 41) := ⟨⟨by decide +kernel, by decide +kernel⟩, List.mem_of_getElem? (i := 1038) (by decide +kernel), List.mem_of_getElem? (i := 1304) (by decide +kernel), List.mem_of_getElem? (i := 1305) (by decide +kernel)⟩
theorem lw_p53 : lw_okq (⟨"TwoRumoursModel", "joinOf", "(II)I"⟩, 41) := ⟨⟨by decide +kernel, by decide +kernel⟩, List.mem_of_getElem? (i := 1038) (by decide +kernel), List.mem_of_getElem? (i := 1308) (by decide +kernel), List.mem_of_getElem? (i := 1309) (by decide +kernel)⟩
theorem lw_p54 : lw_okq (⟨"TwoRumoursModel", "isHeld", "(III)Z"⟩, 41) := ⟨⟨by decide +kernel, by decide +kernel⟩, List.mem_of_getElem? (i := 1038) (by decide +kernel), List.mem_of_getElem? (i := 1322) (by decide +kernel), List.mem_of_getElem? (i := 1323) (by decide +kernel)⟩
theorem lw_p55 : lw_okq (⟨"TwoRumoursModel", "come", "(IIIII)V"⟩, 41) := ⟨⟨by decide +kernel, by decide +kernel⟩, List.mem_of_getElem? (i := 1038) (by decide +kernel), List.mem_of_getElem? (i := 1329) (by decide +kernel), List.mem_of_getElem? (i := 1330) (by decide +kernel)⟩
theorem lw_p56 : lw_okq (⟨"TwoRumoursModel", "holdersOf", "(II)I"⟩, 41) := ⟨⟨by decide +kernel, by decide +kernel⟩, List.mem_of_getElem? (i := 1038) (by decide +kernel), List.mem_of_getElem? (i := 1333) (by decide +kernel), List.mem_of_getElem? (i := 1334) (by decide +kernel)⟩
theorem lw_p57 : lw_okq (⟨"TwoRumoursModel", "tick", "(I)I"⟩, 41) := ⟨⟨by decide +kernel, by decide +kernel⟩, List.mem_of_getElem? (i := 1038) (by decide +kernel), List.mem_of_getElem? (i := 1342) (by decide +kernel), List.mem_of_getElem? (i := 1343) (by decide +kernel)⟩
theorem lw_p58 : lw_okq (⟨"TwoRumoursModel", "latest", "(II)I"⟩, 41) := ⟨⟨by decide +kernel, by decide +kernel⟩, List.mem_of_getElem? (i := 1038) (by decide +kernel), List.mem_of_getElem? (i := 1346) (by decide +kernel), List.mem_of_getElem? (i := 1347) (by decide +kernel)⟩
theorem lw_p59 : lw_okq (⟨"TwoRumoursModel", "listener", "(II)I"⟩, 41) := ⟨⟨by decide +kernel, by decide +kernel⟩, List.mem_of_getElem? (i := 1038) (by decide +kernel), List.mem_of_getElem? (i := 1350) (by decide +kernel), List.mem_of_getElem? (i := 1351) (by decide +kernel)⟩
theorem lw_p60 : lw_okq (⟨"TwoRumoursModel", "draw", "(II)I"⟩, 41) := ⟨⟨by decide +kernel, by decide +kernel⟩, List.mem_of_getElem? (i := 1038) (by decide +kernel), List.mem_of_getElem? (i := 1354) (by decide +kernel), List.mem_of_getElem? (i := 1355) (by decide +kernel)⟩
theorem lw_p61 : lw_okq (⟨"TwoRumoursModel", "tellTo", "(IIII)I"⟩, 41) := ⟨⟨by decide +kernel, by decide +kernel⟩, List.mem_of_getElem? (i := 1038) (by decide +kernel), List.mem_of_getElem? (i := 1362) (by decide +kernel), List.mem_of_getElem? (i := 1363) (by decide +kernel)⟩
theorem lw_p62 : lw_okq (⟨"TwoRumoursModel", "heedOf", "(III)I"⟩, 41) := ⟨⟨by decide +kernel, by decide +kernel⟩, List.mem_of_getElem? (i := 1038) (by decide +kernel), List.mem_of_getElem? (i := 1366) (by decide +kernel), List.mem_of_getElem? (i := 1367) (by decide +kernel)⟩
theorem lw_p63 : lw_okq (⟨"TwoRumoursModel", "hang", "(IIII)I"⟩, 41) := ⟨⟨by decide +kernel, by decide +kernel⟩, List.mem_of_getElem? (i := 1038) (by decide +kernel), List.mem_of_getElem? (i := 1375) (by decide +kernel), List.mem_of_getElem? (i := 1376) (by decide +kernel)⟩
def lw_privs_4 : List (MethodName × Nat) := [(⟨"TwoRumoursModel", "isOf", "(II)Z"⟩, 41), (⟨"TwoRumoursModel", "tieSum", "(I)I"⟩, 41), (⟨"TwoRumoursModel", "strength", "(II)I"⟩, 41), (⟨"TwoRumoursModel", "isSaying", "(I)Z"⟩, 41), (⟨"TwoRumoursModel", "isBarred", "(II)Z"⟩, 41), (⟨"TwoRumoursModel", "joinOf", "(II)I"⟩, 41), (⟨"TwoRumoursModel", "isHeld", "(III)Z"⟩, 41), (⟨"TwoRumoursModel", "come", "(IIIII)V"⟩, 41), (⟨"TwoRumoursModel", "holdersOf", "(II)I"⟩, 41), (⟨"TwoRumoursModel", "tick", "(I)I"⟩, 41), (⟨"TwoRumoursModel", "latest", "(II)I"⟩, 41), (⟨"TwoRumoursModel", "listener", "(II)I"⟩, 41), (⟨"TwoRumoursModel", "draw", "(II)I"⟩, 41), (⟨"TwoRumoursModel", "tellTo", "(IIII)I"⟩, 41), (⟨"TwoRumoursModel", "heedOf", "(III)I"⟩, 41), (⟨"TwoRumoursModel", "hang", "(IIII)I"⟩, 41)]
theorem lw_r4 : ∀ q ∈ lw_privs_4, lw_okq q := List.forall_mem_cons.mpr ⟨lw_p48, List.forall_mem_cons.mpr ⟨lw_p49, List.forall_mem_cons.mpr ⟨lw_p50, List.forall_mem_cons.mpr ⟨lw_p51, List.forall_mem_cons.mpr ⟨lw_p52, List.forall_mem_cons.mpr ⟨lw_p53, List.forall_mem_cons.mpr ⟨lw_p54, List.forall_mem_cons.mpr ⟨lw_p55, List.forall_mem_cons.mpr ⟨lw_p56, List.forall_mem_cons.mpr ⟨lw_p57, List.forall_mem_cons.mpr ⟨lw_p58, List.forall_mem_cons.mpr ⟨lw_p59, List.forall_mem_cons.mpr ⟨lw_p60, List.forall_mem_cons.mpr ⟨lw_p61, List.forall_mem_cons.mpr ⟨lw_p62, List.forall_mem_cons.mpr ⟨lw_p63, fun _ h => absurd h List.not_mem_nil⟩⟩⟩⟩⟩⟩⟩⟩⟩⟩⟩⟩⟩⟩⟩⟩
theorem lw_p64 : lw_okq (⟨"TwoRumoursModel", "findWay", "(II)V"⟩, 41) := ⟨⟨by decide +kernel, by decide +kernel⟩, List.mem_of_getElem? (i := 1038) (by decide +kernel), List.mem_of_getElem? (i := 1391) (by decide +kernel), List.mem_of_getElem? (i := 1392) (by decide +kernel)⟩
theorem lw_p65 : lw_okq (⟨"TwoRumoursModel", "isOnWay", "(I)Z"⟩, 41) := ⟨⟨by decide +kernel, by decide +kernel⟩, List.mem_of_getElem? (i := 1038) (by decide +kernel), List.mem_of_getElem? (i := 1400) (by decide +kernel), List.mem_of_getElem? (i := 1401) (by decide +kernel)⟩
theorem lw_p66 : lw_okq (⟨"TwoRumoursModel", "copy", "(II)V"⟩, 41) := ⟨⟨by decide +kernel, by decide +kernel⟩, List.mem_of_getElem? (i := 1038) (by decide +kernel), List.mem_of_getElem? (i := 1413) (by decide +kernel), List.mem_of_getElem? (i := 1414) (by decide +kernel)⟩
theorem lw_p67 : lw_okq (⟨"TwoRumoursModel", "freshen", "(I)V"⟩, 41) := ⟨⟨by decide +kernel, by decide +kernel⟩, List.mem_of_getElem? (i := 1038) (by decide +kernel), List.mem_of_getElem? (i := 1417) (by decide +kernel), List.mem_of_getElem? (i := 1418) (by decide +kernel)⟩
theorem lw_p68 : lw_okq (⟨"TwoRumoursModel", "endOf", "(I)I"⟩, 41) := ⟨⟨by decide +kernel, by decide +kernel⟩, List.mem_of_getElem? (i := 1038) (by decide +kernel), List.mem_of_getElem? (i := 1438) (by decide +kernel), List.mem_of_getElem? (i := 1439) (by decide +kernel)⟩
theorem lw_p69 : lw_okq (⟨"TwoRumoursModel", "leading", "(Z)I"⟩, 41) := ⟨⟨by decide +kernel, by decide +kernel⟩, List.mem_of_getElem? (i := 1038) (by decide +kernel), List.mem_of_getElem? (i := 1446) (by decide +kernel), List.mem_of_getElem? (i := 1447) (by decide +kernel)⟩
theorem lw_p70 : lw_okq (⟨"TwoRumoursModel", "tryNotice", "(IIIII)I"⟩, 41) := ⟨⟨by decide +kernel, by decide +kernel⟩, List.mem_of_getElem? (i := 1038) (by decide +kernel), List.mem_of_getElem? (i := 1455) (by decide +kernel), List.mem_of_getElem? (i := 1456) (by decide +kernel)⟩
theorem lw_p71 : lw_okq (⟨"TwoRumoursModel", "isNet", "(I)Z"⟩, 41) := ⟨⟨by decide +kernel, by decide +kernel⟩, List.mem_of_getElem? (i := 1038) (by decide +kernel), List.mem_of_getElem? (i := 1463) (by decide +kernel), List.mem_of_getElem? (i := 1464) (by decide +kernel)⟩
theorem lw_p72 : lw_okq (⟨"TwoRumoursModel", "net", "()I"⟩, 41) := ⟨⟨by decide +kernel, by decide +kernel⟩, List.mem_of_getElem? (i := 1038) (by decide +kernel), List.mem_of_getElem? (i := 1467) (by decide +kernel), List.mem_of_getElem? (i := 1468) (by decide +kernel)⟩
theorem lw_p73 : lw_okq (⟨"TwoRumoursModel", "findOdds", "(II)V"⟩, 41) := ⟨⟨by decide +kernel, by decide +kernel⟩, List.mem_of_getElem? (i := 1038) (by decide +kernel), List.mem_of_getElem? (i := 1475) (by decide +kernel), List.mem_of_getElem? (i := 1476) (by decide +kernel)⟩
theorem lw_p74 : lw_okq (⟨"TwoRumoursModel", "spread", "(I)V"⟩, 41) := ⟨⟨by decide +kernel, by decide +kernel⟩, List.mem_of_getElem? (i := 1038) (by decide +kernel), List.mem_of_getElem? (i := 1480) (by decide +kernel), List.mem_of_getElem? (i := 1481) (by decide +kernel)⟩
theorem lw_p75 : lw_okq (⟨"TwoRumoursModel", "stays", "(II)I"⟩, 41) := ⟨⟨by decide +kernel, by decide +kernel⟩, List.mem_of_getElem? (i := 1038) (by decide +kernel), List.mem_of_getElem? (i := 1484) (by decide +kernel), List.mem_of_getElem? (i := 1485) (by decide +kernel)⟩
theorem lw_p76 : lw_okq (⟨"TwoRumoursModel", "isNetSet", "(I)Z"⟩, 41) := ⟨⟨by decide +kernel, by decide +kernel⟩, List.mem_of_getElem? (i := 1038) (by decide +kernel), List.mem_of_getElem? (i := 1493) (by decide +kernel), List.mem_of_getElem? (i := 1494) (by decide +kernel)⟩
theorem lw_p77 : lw_okq (⟨"TwoRumoursModel", "manyFrom", "(II)I"⟩, 41) := ⟨⟨by decide +kernel, by decide +kernel⟩, List.mem_of_getElem? (i := 1038) (by decide +kernel), List.mem_of_getElem? (i := 1497) (by decide +kernel), List.mem_of_getElem? (i := 1498) (by decide +kernel)⟩
theorem lw_p78 : lw_okq (⟨"TwoRumoursModel", "findDays", "()V"⟩, 41) := ⟨⟨by decide +kernel, by decide +kernel⟩, List.mem_of_getElem? (i := 1038) (by decide +kernel), List.mem_of_getElem? (i := 1532) (by decide +kernel), List.mem_of_getElem? (i := 1533) (by decide +kernel)⟩
theorem lw_p79 : lw_okq (⟨"TwoRumoursModel", "findSource", "(I)V"⟩, 41) := ⟨⟨by decide +kernel, by decide +kernel⟩, List.mem_of_getElem? (i := 1038) (by decide +kernel), List.mem_of_getElem? (i := 1537) (by decide +kernel), List.mem_of_getElem? (i := 1538) (by decide +kernel)⟩
def lw_privs_5 : List (MethodName × Nat) := [(⟨"TwoRumoursModel", "findWay", "(II)V"⟩, 41), (⟨"TwoRumoursModel", "isOnWay", "(I)Z"⟩, 41), (⟨"TwoRumoursModel", "copy", "(II)V"⟩, 41), (⟨"TwoRumoursModel", "freshen", "(I)V"⟩, 41), (⟨"TwoRumoursModel", "endOf", "(I)I"⟩, 41), (⟨"TwoRumoursModel", "leading", "(Z)I"⟩, 41), (⟨"TwoRumoursModel", "tryNotice", "(IIIII)I"⟩, 41), (⟨"TwoRumoursModel", "isNet", "(I)Z"⟩, 41), (⟨"TwoRumoursModel", "net", "()I"⟩, 41), (⟨"TwoRumoursModel", "findOdds", "(II)V"⟩, 41), (⟨"TwoRumoursModel", "spread", "(I)V"⟩, 41), (⟨"TwoRumoursModel", "stays", "(II)I"⟩, 41), (⟨"TwoRumoursModel", "isNetSet", "(I)Z"⟩, 41), (⟨"TwoRumoursModel", "manyFrom", "(II)I"⟩, 41), (⟨"TwoRumoursModel", "findDays", "()V"⟩, 41), (⟨"TwoRumoursModel", "findSource", "(I)V"⟩, 41)]
theorem lw_r5 : ∀ q ∈ lw_privs_5, lw_okq q := List.forall_mem_cons.mpr ⟨lw_p64, List.forall_mem_cons.mpr ⟨lw_p65, List.forall_mem_cons.mpr ⟨lw_p66, List.forall_mem_cons.mpr ⟨lw_p67, List.forall_mem_cons.mpr ⟨lw_p68, List.forall_mem_cons.mpr ⟨lw_p69, List.forall_mem_cons.mpr ⟨lw_p70, List.forall_mem_cons.mpr ⟨lw_p71, List.forall_mem_cons.mpr ⟨lw_p72, List.forall_mem_cons.mpr ⟨lw_p73, List.forall_mem_cons.mpr ⟨lw_p74, List.forall_mem_cons.mpr ⟨lw_p75, List.forall_mem_cons.mpr ⟨lw_p76, List.forall_mem_cons.mpr ⟨lw_p77, List.forall_mem_cons.mpr ⟨lw_p78, List.forall_mem_cons.mpr ⟨lw_p79, fun _ h => absurd h List.not_mem_nil⟩⟩⟩⟩⟩⟩⟩⟩⟩⟩⟩⟩⟩⟩⟩⟩
def lw_privs : List (MethodName × Nat) := lw_privs_1 ++ (lw_privs_2 ++ (lw_privs_3 ++ (lw_privs_4 ++ (lw_privs_5))))
def lw_tbl : List Cond := k2_sels lw_privs ++ tables_1
theorem lw_privs_ok : ∀ q ∈ lw_privs, lw_okq q := by
  show ∀ q ∈ lw_privs_1 ++ (lw_privs_2 ++ (lw_privs_3 ++ (lw_privs_4 ++ (lw_privs_5)))), lw_okq q
  exact List.forall_mem_append.mpr ⟨lw_r1, List.forall_mem_append.mpr ⟨lw_r2, List.forall_mem_append.mpr ⟨lw_r3, List.forall_mem_append.mpr ⟨lw_r4, lw_r5⟩⟩⟩⟩
def RX0 : String := "TwoRumours$Course"
def TX0 : u_T := fun k => match k with
  | 0 => ("TwoRumours$Course", "held", "[I", true)
  | 1 => ("TwoRumours$Course", "telling", "[I", true)
  | 2 => ("TwoRumours$Course", "giver", "[I", true)
  | 3 => ("TwoRumours$Course", "heardAs", "[I", true)
  | 4 => ("TwoRumours$Course", "since", "[I", true)
  | 5 => ("TwoRumours$Course", "known", "[I", true)
  | 6 => ("TwoRumours$Course", "toldBy", "[I", true)
  | 7 => ("TwoRumours$Course", "beginner", "[I", true)
  | 8 => ("TwoRumours$Course", "begunSaying", "[I", true)
  | 9 => ("TwoRumours$Course", "begunTick", "[I", true)
  | 10 => ("TwoRumours$Course", "beginnings", "I", false)
  | 11 => ("TwoRumours$Course", "tick", "I", false)
  | 12 => ("TwoRumours$Course", "noes", "I", false)
  | 13 => ("TwoRumours$Course", "draws", "J", false)
  | _ => ("TwoRumours$Course", "kept", "Z", false)
def tyX0 : Nat → FieldType := fun k => match k with
  | 0 => .array .int
  | 1 => .array .int
  | 2 => .array .int
  | 3 => .array .int
  | 4 => .array .int
  | 5 => .array .int
  | 6 => .array .int
  | 7 => .array .int
  | 8 => .array .int
  | 9 => .array .int
  | 10 => .int
  | 11 => .int
  | 12 => .int
  | 13 => .long
  | _ => .boolean
theorem nmX0 : ∀ a, a < 15 → ∀ b, b < 15 → a ≠ b → (TX0 a).2.1 ≠ (TX0 b).2.1 := by decide +kernel
theorem tyX0_ok : ∀ k, k < 15 → parseFieldDescriptor (TX0 k).2.2.1 = some (tyX0 k) := by decide +kernel
abbrev cX0_init : ByteArray := prog_2_method_1_code
def yX0_init : MethodName := ⟨RX0, "<init>", "()V"⟩
abbrev cX0_clear : ByteArray := prog_2_method_2_code
def yX0_clear : MethodName := ⟨RX0, "clear", "()V"⟩
abbrev cX0_copyFrom : ByteArray := prog_2_method_3_code
def yX0_copyFrom : MethodName := ⟨RX0, "copyFrom", "(LTwoRumours$Course;)V"⟩
abbrev cX0_draw : ByteArray := prog_2_method_4_code
def yX0_draw : MethodName := ⟨RX0, "draw", "(I)I"⟩
abbrev cX0_has : ByteArray := prog_2_method_5_code
def yX0_has : MethodName := ⟨RX0, "has", "(II)Z"⟩
abbrev cX0_stateOf : ByteArray := prog_2_method_6_code
def yX0_stateOf : MethodName := ⟨RX0, "stateOf", "(II)I"⟩
abbrev cX0_setOf : ByteArray := prog_2_method_7_code
def yX0_setOf : MethodName := ⟨RX0, "setOf", "(II)I"⟩
abbrev cX0_take : ByteArray := prog_2_method_8_code
def yX0_take : MethodName := ⟨RX0, "take", "(IIII)V"⟩
abbrev cX0_noteBeginning : ByteArray := prog_2_method_9_code
def yX0_noteBeginning : MethodName := ⟨RX0, "noteBeginning", "(II)V"⟩
abbrev cX0_beginAsIn : ByteArray := prog_2_method_10_code
def yX0_beginAsIn : MethodName := ⟨RX0, "beginAsIn", "(LTwoRumours$Course;I)V"⟩
abbrev cX0_newestOf : ByteArray := prog_2_method_11_code
def yX0_newestOf : MethodName := ⟨RX0, "newestOf", "(I)I"⟩
abbrev cX0_hearKnown : ByteArray := prog_2_method_12_code
def yX0_hearKnown : MethodName := ⟨RX0, "hearKnown", "(III)V"⟩
def RX1 : String := "TwoRumours$Interviews"
def TX1 : u_T := fun k => match k with
  | 0 => ("TwoRumours$Interviews", "asked", "I", false)
  | 1 => ("TwoRumours$Interviews", "saysFrom", "[I", true)
  | _ => ("TwoRumours$Interviews", "saysTick", "[I", true)
def tyX1 : Nat → FieldType := fun k => match k with
  | 0 => .int
  | 1 => .array .int
  | _ => .array .int
theorem nmX1 : ∀ a, a < 3 → ∀ b, b < 3 → a ≠ b → (TX1 a).2.1 ≠ (TX1 b).2.1 := by decide +kernel
theorem tyX1_ok : ∀ k, k < 3 → parseFieldDescriptor (TX1 k).2.2.1 = some (tyX1 k) := by decide +kernel
abbrev cX1_init : ByteArray := prog_3_method_1_code
def yX1_init : MethodName := ⟨RX1, "<init>", "()V"⟩
abbrev cX1_clear : ByteArray := prog_3_method_2_code
def yX1_clear : MethodName := ⟨RX1, "clear", "()V"⟩
abbrev cX1_number : ByteArray := prog_3_method_3_code
def yX1_number : MethodName := ⟨RX1, "number", "()I"⟩
abbrev cX1_has : ByteArray := prog_3_method_4_code
def yX1_has : MethodName := ⟨RX1, "has", "(I)Z"⟩
abbrev cX1_put : ByteArray := prog_3_method_5_code
def yX1_put : MethodName := ⟨RX1, "put", "(III)I"⟩
abbrev cX1_endOf : ByteArray := prog_3_method_6_code
def yX1_endOf : MethodName := ⟨RX1, "endOf", "(I)I"⟩
abbrev cX1_mostLedTo : ByteArray := prog_3_method_7_code
def yX1_mostLedTo : MethodName := ⟨RX1, "mostLedTo", "(Z)I"⟩
abbrev cX1_leadingTo : ByteArray := prog_3_method_8_code
def yX1_leadingTo : MethodName := ⟨RX1, "leadingTo", "(I)I"⟩
abbrev cX1_falseOnes : ByteArray := prog_3_method_9_code
def yX1_falseOnes : MethodName := ⟨RX1, "falseOnes", "()I"⟩
abbrev cX1_isTooEarly : ByteArray := prog_3_method_10_code
def yX1_isTooEarly : MethodName := ⟨RX1, "isTooEarly", "(I)Z"⟩
def RX2 : String := "TwoRumours$Land"
def TX2 : u_T := fun k => match k with
  | 0 => ("TwoRumours$Land", "days", "[I", true)
  | 1 => ("TwoRumours$Land", "far", "[I", true)
  | 2 => ("TwoRumours$Land", "heardOn", "[I", true)
  | 3 => ("TwoRumours$Land", "heard", "I", false)
  | 4 => ("TwoRumours$Land", "market", "I", false)
  | 5 => ("TwoRumours$Land", "firstDay", "I", false)
  | _ => ("TwoRumours$Land", "lateness", "I", false)
def tyX2 : Nat → FieldType := fun k => match k with
  | 0 => .array .int
  | 1 => .array .int
  | 2 => .array .int
  | 3 => .int
  | 4 => .int
  | 5 => .int
  | _ => .int
theorem nmX2 : ∀ a, a < 7 → ∀ b, b < 7 → a ≠ b → (TX2 a).2.1 ≠ (TX2 b).2.1 := by decide +kernel
theorem tyX2_ok : ∀ k, k < 7 → parseFieldDescriptor (TX2 k).2.2.1 = some (tyX2 k) := by decide +kernel
abbrev cX2_init : ByteArray := prog_4_method_1_code
def yX2_init : MethodName := ⟨RX2, "<init>", "()V"⟩
abbrev cX2_lay : ByteArray := prog_4_method_2_code
def yX2_lay : MethodName := ⟨RX2, "lay", "(III)I"⟩
abbrev cX2_hear : ByteArray := prog_4_method_3_code
def yX2_hear : MethodName := ⟨RX2, "hear", "(II)I"⟩
abbrev cX2_hush : ByteArray := prog_4_method_4_code
def yX2_hush : MethodName := ⟨RX2, "hush", "()V"⟩
abbrev cX2_measure : ByteArray := prog_4_method_5_code
def yX2_measure : MethodName := ⟨RX2, "measure", "()V"⟩
abbrev cX2_seek : ByteArray := prog_4_method_6_code
def yX2_seek : MethodName := ⟨RX2, "seek", "(I)V"⟩
abbrev cX2_reachesReports : ByteArray := prog_4_method_7_code
def yX2_reachesReports : MethodName := ⟨RX2, "reachesReports", "(I)Z"⟩
abbrev cX2_farness : ByteArray := prog_4_method_8_code
def yX2_farness : MethodName := ⟨RX2, "farness", "(III)I"⟩
abbrev cX2_latestStart : ByteArray := prog_4_method_9_code
def yX2_latestStart : MethodName := ⟨RX2, "latestStart", "(II)I"⟩
abbrev cX2_latenessOf : ByteArray := prog_4_method_10_code
def yX2_latenessOf : MethodName := ⟨RX2, "latenessOf", "(III)I"⟩
abbrev cX2_bestPace : ByteArray := prog_4_method_11_code
def yX2_bestPace : MethodName := ⟨RX2, "bestPace", "()I"⟩
def RX3 : String := "TwoRumours$Lore"
def TX3 : u_T := fun k => match k with
  | 0 => ("TwoRumours$Lore", "said", "I", false)
  | 1 => ("TwoRumours$Lore", "asks", "[I", true)
  | 2 => ("TwoRumours$Lore", "answers", "[I", true)
  | 3 => ("TwoRumours$Lore", "bars", "[I", true)
  | 4 => ("TwoRumours$Lore", "joins", "[I", true)
  | _ => ("TwoRumours$Lore", "barred", "[I", true)
def tyX3 : Nat → FieldType := fun k => match k with
  | 0 => .int
  | 1 => .array .int
  | 2 => .array .int
  | 3 => .array .int
  | 4 => .array .int
  | _ => .array .int
theorem nmX3 : ∀ a, a < 6 → ∀ b, b < 6 → a ≠ b → (TX3 a).2.1 ≠ (TX3 b).2.1 := by decide +kernel
theorem tyX3_ok : ∀ k, k < 6 → parseFieldDescriptor (TX3 k).2.2.1 = some (tyX3 k) := by decide +kernel
abbrev cX3_init : ByteArray := prog_5_method_1_code
def yX3_init : MethodName := ⟨RX3, "<init>", "()V"⟩
abbrev cX3_copyFrom : ByteArray := prog_5_method_2_code
def yX3_copyFrom : MethodName := ⟨RX3, "copyFrom", "(LTwoRumours$Lore;)V"⟩
abbrev cX3_readFrom : ByteArray := prog_5_method_3_code
def yX3_readFrom : MethodName := ⟨RX3, "readFrom", "(LTwoRumours$Text;)V"⟩
abbrev cX3_readSaying : ByteArray := prog_5_method_4_code
def yX3_readSaying : MethodName := ⟨RX3, "readSaying", "(LTwoRumours$Text;)V"⟩
abbrev cX3_readBarred : ByteArray := prog_5_method_5_code
def yX3_readBarred : MethodName := ⟨RX3, "readBarred", "(LTwoRumours$Text;)I"⟩
abbrev cX3_readJoined : ByteArray := prog_5_method_6_code
def yX3_readJoined : MethodName := ⟨RX3, "readJoined", "(LTwoRumours$Text;)I"⟩
abbrev cX3_readUnlike : ByteArray := prog_5_method_7_code
def yX3_readUnlike : MethodName := ⟨RX3, "readUnlike", "(LTwoRumours$Text;I)I"⟩
abbrev cX3_settleBarred : ByteArray := prog_5_method_8_code
def yX3_settleBarred : MethodName := ⟨RX3, "settleBarred", "(I)V"⟩
abbrev cX3_joinOf : ByteArray := prog_5_method_9_code
def yX3_joinOf : MethodName := ⟨RX3, "joinOf", "(II)I"⟩
abbrev cX3_answersOneOf : ByteArray := prog_5_method_10_code
def yX3_answersOneOf : MethodName := ⟨RX3, "answersOneOf", "(II)Z"⟩
def RX4 : String := "TwoRumours$Net"
def TX4 : u_T := fun k => match k with
  | 0 => ("TwoRumours$Net", "people", "LTwoRumours$Town;", true)
  | 1 => ("TwoRumours$Net", "stays", "[I", true)
  | 2 => ("TwoRumours$Net", "odds", "[J", true)
  | 3 => ("TwoRumours$Net", "partSet", "[I", true)
  | 4 => ("TwoRumours$Net", "partOdds", "[J", true)
  | 5 => ("TwoRumours$Net", "parts", "I", false)
  | _ => ("TwoRumours$Net", "ready", "Z", false)
def tyX4 : Nat → FieldType := fun k => match k with
  | 0 => .object "TwoRumours$Town"
  | 1 => .array .int
  | 2 => .array .long
  | 3 => .array .int
  | 4 => .array .long
  | 5 => .int
  | _ => .boolean
theorem nmX4 : ∀ a, a < 7 → ∀ b, b < 7 → a ≠ b → (TX4 a).2.1 ≠ (TX4 b).2.1 := by decide +kernel
theorem tyX4_ok : ∀ k, k < 7 → parseFieldDescriptor (TX4 k).2.2.1 = some (tyX4 k) := by decide +kernel
abbrev cX4_init : ByteArray := prog_6_method_1_code
def yX4_init : MethodName := ⟨RX4, "<init>", "(LTwoRumours$Town;)V"⟩
abbrev cX4_size : ByteArray := prog_6_method_2_code
def yX4_size : MethodName := ⟨RX4, "size", "()I"⟩
abbrev cX4_prepare : ByteArray := prog_6_method_3_code
def yX4_prepare : MethodName := ⟨RX4, "prepare", "()V"⟩
abbrev cX4_tellOf : ByteArray := prog_6_method_4_code
def yX4_tellOf : MethodName := ⟨RX4, "tellOf", "(II)I"⟩
abbrev cX4_spread : ByteArray := prog_6_method_5_code
def yX4_spread : MethodName := ⟨RX4, "spread", "(II)V"⟩
abbrev cX4_part : ByteArray := prog_6_method_6_code
def yX4_part : MethodName := ⟨RX4, "part", "(I)V"⟩
abbrev cX4_partBy : ByteArray := prog_6_method_7_code
def yX4_partBy : MethodName := ⟨RX4, "partBy", "(II)V"⟩
abbrev cX4_reachOf : ByteArray := prog_6_method_8_code
def yX4_reachOf : MethodName := ⟨RX4, "reachOf", "(III)I"⟩
abbrev cX4_manyOf : ByteArray := prog_6_method_9_code
def yX4_manyOf : MethodName := ⟨RX4, "manyOf", "(II)I"⟩
abbrev cX4_beganOf : ByteArray := prog_6_method_10_code
def yX4_beganOf : MethodName := ⟨RX4, "beganOf", "(III)I"⟩
abbrev cX4_bestToSpeak : ByteArray := prog_6_method_11_code
def yX4_bestToSpeak : MethodName := ⟨RX4, "bestToSpeak", "(II)I"⟩
def RX5 : String := "TwoRumours$Rules"
def TX5 : u_T := fun k => match k with
  | 0 => ("TwoRumours$Rules", "known", "I", false)
  | _ => ("TwoRumours$Rules", "moreHeed", "I", false)
def tyX5 : Nat → FieldType := fun k => match k with
  | 0 => .int
  | _ => .int
theorem nmX5 : ∀ a, a < 2 → ∀ b, b < 2 → a ≠ b → (TX5 a).2.1 ≠ (TX5 b).2.1 := by decide +kernel
theorem tyX5_ok : ∀ k, k < 2 → parseFieldDescriptor (TX5 k).2.2.1 = some (tyX5 k) := by decide +kernel
abbrev cX5_init : ByteArray := prog_7_method_1_code
def yX5_init : MethodName := ⟨RX5, "<init>", "()V"⟩
def RX6 : String := "TwoRumours$Telling"
def TX6 : u_T := fun k => match k with
  | 0 => ("TwoRumours$Telling", "people", "LTwoRumours$Town;", true)
  | 1 => ("TwoRumours$Telling", "lore", "LTwoRumours$Lore;", true)
  | _ => ("TwoRumours$Telling", "rules", "LTwoRumours$Rules;", true)
def tyX6 : Nat → FieldType := fun k => match k with
  | 0 => .object "TwoRumours$Town"
  | 1 => .object "TwoRumours$Lore"
  | _ => .object "TwoRumours$Rules"
theorem nmX6 : ∀ a, a < 3 → ∀ b, b < 3 → a ≠ b → (TX6 a).2.1 ≠ (TX6 b).2.1 := by decide +kernel
theorem tyX6_ok : ∀ k, k < 3 → parseFieldDescriptor (TX6 k).2.2.1 = some (tyX6 k) := by decide +kernel
abbrev cX6_init : ByteArray := prog_8_method_1_code
def yX6_init : MethodName := ⟨RX6, "<init>", "(LTwoRumours$Town;LTwoRumours$Lore;LTwoRumours$Rules;)V"⟩
abbrev cX6_pass : ByteArray := prog_8_method_2_code
def yX6_pass : MethodName := ⟨RX6, "pass", "(LTwoRumours$Course;I)I"⟩
abbrev cX6_tell : ByteArray := prog_8_method_3_code
def yX6_tell : MethodName := ⟨RX6, "tell", "(LTwoRumours$Course;)I"⟩
abbrev cX6_tellsOne : ByteArray := prog_8_method_4_code
def yX6_tellsOne : MethodName := ⟨RX6, "tellsOne", "(LTwoRumours$Course;I)Z"⟩
abbrev cX6_joins : ByteArray := prog_8_method_5_code
def yX6_joins : MethodName := ⟨RX6, "joins", "(LTwoRumours$Course;III)Z"⟩
abbrev cX6_firstOf : ByteArray := prog_8_method_6_code
def yX6_firstOf : MethodName := ⟨RX6, "firstOf", "(I)I"⟩
abbrev cX6_heedFor : ByteArray := prog_8_method_7_code
def yX6_heedFor : MethodName := ⟨RX6, "heedFor", "(LTwoRumours$Course;II)I"⟩
abbrev cX6_post : ByteArray := prog_8_method_8_code
def yX6_post : MethodName := ⟨RX6, "post", "(LTwoRumours$Course;III)I"⟩
def RX7 : String := "TwoRumours$Text"
def TX7 : u_T := fun k => match k with
  | 0 => ("TwoRumours$Text", "signs", "[C", true)
  | 1 => ("TwoRumours$Text", "length", "I", false)
  | 2 => ("TwoRumours$Text", "kind", "I", false)
  | 3 => ("TwoRumours$Text", "first", "I", false)
  | 4 => ("TwoRumours$Text", "behind", "I", false)
  | 5 => ("TwoRumours$Text", "value", "I", false)
  | 6 => ("TwoRumours$Text", "fault", "I", false)
  | _ => ("TwoRumours$Text", "place", "I", false)
def tyX7 : Nat → FieldType := fun k => match k with
  | 0 => .array .char
  | 1 => .int
  | 2 => .int
  | 3 => .int
  | 4 => .int
  | 5 => .int
  | 6 => .int
  | _ => .int
theorem nmX7 : ∀ a, a < 8 → ∀ b, b < 8 → a ≠ b → (TX7 a).2.1 ≠ (TX7 b).2.1 := by decide +kernel
theorem tyX7_ok : ∀ k, k < 8 → parseFieldDescriptor (TX7 k).2.2.1 = some (tyX7 k) := by decide +kernel
abbrev cX7_init : ByteArray := prog_9_method_1_code
def yX7_init : MethodName := ⟨RX7, "<init>", "()V"⟩
abbrev cX7_append : ByteArray := prog_9_method_2_code
def yX7_append : MethodName := ⟨RX7, "append", "(C)V"⟩
abbrev cX7_open : ByteArray := prog_9_method_3_code
def yX7_open : MethodName := ⟨RX7, "open", "()V"⟩
abbrev cX7_goesOn : ByteArray := prog_9_method_4_code
def yX7_goesOn : MethodName := ⟨RX7, "goesOn", "()Z"⟩
abbrev cX7_blame : ByteArray := prog_9_method_5_code
def yX7_blame : MethodName := ⟨RX7, "blame", "(I)V"⟩
abbrev cX7_step : ByteArray := prog_9_method_6_code
def yX7_step : MethodName := ⟨RX7, "step", "()V"⟩
abbrev cX7_readFigures : ByteArray := prog_9_method_7_code
def yX7_readFigures : MethodName := ⟨RX7, "readFigures", "()V"⟩
abbrev cX7_isLetter : ByteArray := prog_9_method_8_code
def yX7_isLetter : MethodName := ⟨RX7, "isLetter", "(I)Z"⟩
abbrev cX7_isFigure : ByteArray := prog_9_method_9_code
def yX7_isFigure : MethodName := ⟨RX7, "isFigure", "(I)Z"⟩
abbrev cX7_isWord : ByteArray := prog_9_method_10_code
def yX7_isWord : MethodName := ⟨RX7, "isWord", "(Ljava/lang/String;)Z"⟩
abbrev cX7_isSign : ByteArray := prog_9_method_11_code
def yX7_isSign : MethodName := ⟨RX7, "isSign", "(C)Z"⟩
abbrev cX7_skipWord : ByteArray := prog_9_method_12_code
def yX7_skipWord : MethodName := ⟨RX7, "skipWord", "(Ljava/lang/String;)Z"⟩
abbrev cX7_lookNumber : ByteArray := prog_9_method_13_code
def yX7_lookNumber : MethodName := ⟨RX7, "lookNumber", "(II)I"⟩
abbrev cX7_takeNumber : ByteArray := prog_9_method_14_code
def yX7_takeNumber : MethodName := ⟨RX7, "takeNumber", "(II)I"⟩
abbrev cX7_closesClause : ByteArray := prog_9_method_15_code
def yX7_closesClause : MethodName := ⟨RX7, "closesClause", "()Z"⟩
def RX8 : String := "TwoRumours$Town"
def TX8 : u_T := fun k => match k with
  | 0 => ("TwoRumours$Town", "persons", "I", false)
  | 1 => ("TwoRumours$Town", "ties", "I", false)
  | 2 => ("TwoRumours$Town", "silent", "I", false)
  | 3 => ("TwoRumours$Town", "heed", "[I", true)
  | 4 => ("TwoRumours$Town", "seat", "[I", true)
  | 5 => ("TwoRumours$Town", "friends", "[I", true)
  | 6 => ("TwoRumours$Town", "weight", "[I", true)
  | 7 => ("TwoRumours$Town", "friend", "[I", true)
  | _ => ("TwoRumours$Town", "strength", "[I", true)
def tyX8 : Nat → FieldType := fun k => match k with
  | 0 => .int
  | 1 => .int
  | 2 => .int
  | 3 => .array .int
  | 4 => .array .int
  | 5 => .array .int
  | 6 => .array .int
  | 7 => .array .int
  | _ => .array .int
theorem nmX8 : ∀ a, a < 9 → ∀ b, b < 9 → a ≠ b → (TX8 a).2.1 ≠ (TX8 b).2.1 := by decide +kernel
theorem tyX8_ok : ∀ k, k < 9 → parseFieldDescriptor (TX8 k).2.2.1 = some (tyX8 k) := by decide +kernel
abbrev cX8_init : ByteArray := prog_10_method_1_code
def yX8_init : MethodName := ⟨RX8, "<init>", "()V"⟩
abbrev cX8_copyFrom : ByteArray := prog_10_method_2_code
def yX8_copyFrom : MethodName := ⟨RX8, "copyFrom", "(LTwoRumours$Town;)V"⟩
abbrev cX8_readFrom : ByteArray := prog_10_method_3_code
def yX8_readFrom : MethodName := ⟨RX8, "readFrom", "(LTwoRumours$Text;)V"⟩
abbrev cX8_readPerson : ByteArray := prog_10_method_4_code
def yX8_readPerson : MethodName := ⟨RX8, "readPerson", "(LTwoRumours$Text;)V"⟩
abbrev cX8_readTie : ByteArray := prog_10_method_5_code
def yX8_readTie : MethodName := ⟨RX8, "readTie", "(LTwoRumours$Text;)V"⟩
abbrev cX8_befriend : ByteArray := prog_10_method_6_code
def yX8_befriend : MethodName := ⟨RX8, "befriend", "(III)V"⟩
abbrev cX8_strengthOf : ByteArray := prog_10_method_7_code
def yX8_strengthOf : MethodName := ⟨RX8, "strengthOf", "(II)I"⟩
abbrev cX8_friendBy : ByteArray := prog_10_method_8_code
def yX8_friendBy : MethodName := ⟨RX8, "friendBy", "(II)I"⟩
def RX9 : String := "TwoRumours$Ways"
def TX9 : u_T := fun k => match k with
  | 0 => ("TwoRumours$Ways", "course", "LTwoRumours$Course;", true)
  | 1 => ("TwoRumours$Ways", "path", "[I", true)
  | _ => ("TwoRumours$Ways", "length", "I", false)
def tyX9 : Nat → FieldType := fun k => match k with
  | 0 => .object "TwoRumours$Course"
  | 1 => .array .int
  | _ => .int
theorem nmX9 : ∀ a, a < 3 → ∀ b, b < 3 → a ≠ b → (TX9 a).2.1 ≠ (TX9 b).2.1 := by decide +kernel
theorem tyX9_ok : ∀ k, k < 3 → parseFieldDescriptor (TX9 k).2.2.1 = some (tyX9 k) := by decide +kernel
abbrev cX9_init : ByteArray := prog_11_method_1_code
def yX9_init : MethodName := ⟨RX9, "<init>", "(LTwoRumours$Course;)V"⟩
abbrev cX9_trace : ByteArray := prog_11_method_2_code
def yX9_trace : MethodName := ⟨RX9, "trace", "(II)V"⟩
abbrev cX9_comesBy : ByteArray := prog_11_method_3_code
def yX9_comesBy : MethodName := ⟨RX9, "comesBy", "(I)Z"⟩
abbrev cX9_toldApart : ByteArray := prog_11_method_4_code
def yX9_toldApart : MethodName := ⟨RX9, "toldApart", "(III)Z"⟩
abbrev cX9_rootsBehind : ByteArray := prog_11_method_5_code
def yX9_rootsBehind : MethodName := ⟨RX9, "rootsBehind", "(II)I"⟩
abbrev cX9_splitBehind : ByteArray := prog_11_method_6_code
def yX9_splitBehind : MethodName := ⟨RX9, "splitBehind", "(II)I"⟩
abbrev cX9_thoseBy : ByteArray := prog_11_method_7_code
def yX9_thoseBy : MethodName := ⟨RX9, "thoseBy", "(II)I"⟩
def RX10 : String := "TwoRumours"
def TX10 : u_T := fun k => match k with
  | 0 => ("TwoRumours", "text", "LTwoRumours$Text;", true)
  | 1 => ("TwoRumours", "people", "LTwoRumours$Town;", true)
  | 2 => ("TwoRumours", "peopleRead", "LTwoRumours$Town;", true)
  | 3 => ("TwoRumours", "lore", "LTwoRumours$Lore;", true)
  | 4 => ("TwoRumours", "loreRead", "LTwoRumours$Lore;", true)
  | 5 => ("TwoRumours", "rules", "LTwoRumours$Rules;", true)
  | 6 => ("TwoRumours", "telling", "LTwoRumours$Telling;", true)
  | 7 => ("TwoRumours", "course", "LTwoRumours$Course;", true)
  | 8 => ("TwoRumours", "ahead", "LTwoRumours$Course;", true)
  | 9 => ("TwoRumours", "trial", "LTwoRumours$Course;", true)
  | 10 => ("TwoRumours", "images", "[LTwoRumours$Course;", true)
  | 11 => ("TwoRumours", "ways", "LTwoRumours$Ways;", true)
  | 12 => ("TwoRumours", "interviews", "LTwoRumours$Interviews;", true)
  | 13 => ("TwoRumours", "net", "LTwoRumours$Net;", true)
  | 14 => ("TwoRumours", "land", "LTwoRumours$Land;", true)
  | _ => ("TwoRumours", "latestFault", "I", false)
def tyX10 : Nat → FieldType := fun k => match k with
  | 0 => .object "TwoRumours$Text"
  | 1 => .object "TwoRumours$Town"
  | 2 => .object "TwoRumours$Town"
  | 3 => .object "TwoRumours$Lore"
  | 4 => .object "TwoRumours$Lore"
  | 5 => .object "TwoRumours$Rules"
  | 6 => .object "TwoRumours$Telling"
  | 7 => .object "TwoRumours$Course"
  | 8 => .object "TwoRumours$Course"
  | 9 => .object "TwoRumours$Course"
  | 10 => .array (.object "TwoRumours$Course")
  | 11 => .object "TwoRumours$Ways"
  | 12 => .object "TwoRumours$Interviews"
  | 13 => .object "TwoRumours$Net"
  | 14 => .object "TwoRumours$Land"
  | _ => .int
theorem nmX10 : ∀ a, a < 16 → ∀ b, b < 16 → a ≠ b → (TX10 a).2.1 ≠ (TX10 b).2.1 := by decide +kernel
theorem tyX10_ok : ∀ k, k < 16 → parseFieldDescriptor (TX10 k).2.2.1 = some (tyX10 k) := by decide +kernel
abbrev cX10_init : ByteArray := prog_1_method_1_code
def yX10_init : MethodName := ⟨RX10, "<init>", "()V"⟩
abbrev cX10_feed : ByteArray := prog_1_method_2_code
def yX10_feed : MethodName := ⟨RX10, "feed", "(IJ)I"⟩
abbrev cX10_town : ByteArray := prog_1_method_3_code
def yX10_town : MethodName := ⟨RX10, "town", "()I"⟩
abbrev cX10_sayings : ByteArray := prog_1_method_4_code
def yX10_sayings : MethodName := ⟨RX10, "sayings", "()I"⟩
abbrev cX10_fault : ByteArray := prog_1_method_5_code
def yX10_fault : MethodName := ⟨RX10, "fault", "()I"⟩
abbrev cX10_count : ByteArray := prog_1_method_6_code
def yX10_count : MethodName := ⟨RX10, "count", "(I)I"⟩
abbrev cX10_person : ByteArray := prog_1_method_7_code
def yX10_person : MethodName := ⟨RX10, "person", "(II)I"⟩
abbrev cX10_tie : ByteArray := prog_1_method_8_code
def yX10_tie : MethodName := ⟨RX10, "tie", "(II)I"⟩
abbrev cX10_saying : ByteArray := prog_1_method_9_code
def yX10_saying : MethodName := ⟨RX10, "saying", "(II)I"⟩
abbrev cX10_pair : ByteArray := prog_1_method_10_code
def yX10_pair : MethodName := ⟨RX10, "pair", "(III)I"⟩
abbrev cX10_rule : ByteArray := prog_1_method_11_code
def yX10_rule : MethodName := ⟨RX10, "rule", "(II)I"⟩
abbrev cX10_begin : ByteArray := prog_1_method_12_code
def yX10_begin : MethodName := ⟨RX10, "begin", "(II)I"⟩
abbrev cX10_go : ByteArray := prog_1_method_13_code
def yX10_go : MethodName := ⟨RX10, "go", "(I)I"⟩
abbrev cX10_notice : ByteArray := prog_1_method_14_code
def yX10_notice : MethodName := ⟨RX10, "notice", "(III)I"⟩
abbrev cX10_holds : ByteArray := prog_1_method_15_code
def yX10_holds : MethodName := ⟨RX10, "holds", "(III)I"⟩
abbrev cX10_holders : ByteArray := prog_1_method_16_code
def yX10_holders : MethodName := ⟨RX10, "holders", "(I)I"⟩
abbrev cX10_way : ByteArray := prog_1_method_17_code
def yX10_way : MethodName := ⟨RX10, "way", "(III)I"⟩
abbrev cX10_nine : ByteArray := prog_1_method_18_code
def yX10_nine : MethodName := ⟨RX10, "nine", "(III)I"⟩
abbrev cX10_below : ByteArray := prog_1_method_19_code
def yX10_below : MethodName := ⟨RX10, "below", "(II)I"⟩
abbrev cX10_curve : ByteArray := prog_1_method_20_code
def yX10_curve : MethodName := ⟨RX10, "curve", "(III)I"⟩
abbrev cX10_fresh : ByteArray := prog_1_method_21_code
def yX10_fresh : MethodName := ⟨RX10, "fresh", "()I"⟩
abbrev cX10_ask : ByteArray := prog_1_method_22_code
def yX10_ask : MethodName := ⟨RX10, "ask", "(III)I"⟩
abbrev cX10_forget : ByteArray := prog_1_method_23_code
def yX10_forget : MethodName := ⟨RX10, "forget", "()I"⟩
abbrev cX10_end : ByteArray := prog_1_method_24_code
def yX10_end : MethodName := ⟨RX10, "end", "(I)I"⟩
abbrev cX10_who : ByteArray := prog_1_method_25_code
def yX10_who : MethodName := ⟨RX10, "who", "(I)I"⟩
abbrev cX10_best : ByteArray := prog_1_method_26_code
def yX10_best : MethodName := ⟨RX10, "best", "(IIII)I"⟩
abbrev cX10_reach : ByteArray := prog_1_method_27_code
def yX10_reach : MethodName := ⟨RX10, "reach", "(III)I"⟩
abbrev cX10_many : ByteArray := prog_1_method_28_code
def yX10_many : MethodName := ⟨RX10, "many", "(II)I"⟩
abbrev cX10_began : ByteArray := prog_1_method_29_code
def yX10_began : MethodName := ⟨RX10, "began", "(III)I"⟩
abbrev cX10_speak : ByteArray := prog_1_method_30_code
def yX10_speak : MethodName := ⟨RX10, "speak", "(II)I"⟩
abbrev cX10_road : ByteArray := prog_1_method_31_code
def yX10_road : MethodName := ⟨RX10, "road", "(III)I"⟩
abbrev cX10_report : ByteArray := prog_1_method_32_code
def yX10_report : MethodName := ⟨RX10, "report", "(II)I"⟩
abbrev cX10_silence : ByteArray := prog_1_method_33_code
def yX10_silence : MethodName := ⟨RX10, "silence", "()I"⟩
abbrev cX10_source : ByteArray := prog_1_method_34_code
def yX10_source : MethodName := ⟨RX10, "source", "(II)I"⟩
abbrev cX10_pace : ByteArray := prog_1_method_35_code
def yX10_pace : MethodName := ⟨RX10, "pace", "()I"⟩
abbrev cX10_seed : ByteArray := prog_1_method_36_code
def yX10_seed : MethodName := ⟨RX10, "seed", "(I)I"⟩
abbrev cX10_keep : ByteArray := prog_1_method_37_code
def yX10_keep : MethodName := ⟨RX10, "keep", "(I)I"⟩
abbrev cX10_goBack : ByteArray := prog_1_method_38_code
def yX10_goBack : MethodName := ⟨RX10, "goBack", "(I)I"⟩
abbrev cX10_isPerson : ByteArray := prog_1_method_39_code
def yX10_isPerson : MethodName := ⟨RX10, "isPerson", "(I)Z"⟩
abbrev cX10_isSaying : ByteArray := prog_1_method_40_code
def yX10_isSaying : MethodName := ⟨RX10, "isSaying", "(I)Z"⟩
abbrev cX10_isOfNet : ByteArray := prog_1_method_41_code
def yX10_isOfNet : MethodName := ⟨RX10, "isOfNet", "(I)Z"⟩
abbrev cX10_isSetOf : ByteArray := prog_1_method_42_code
def yX10_isSetOf : MethodName := ⟨RX10, "isSetOf", "(II)Z"⟩
abbrev cX10_isSteps : ByteArray := prog_1_method_43_code
def yX10_isSteps : MethodName := ⟨RX10, "isSteps", "(I)Z"⟩
abbrev cX10_isMarket : ByteArray := prog_1_method_44_code
def yX10_isMarket : MethodName := ⟨RX10, "isMarket", "(I)Z"⟩
abbrev cX10_closeText : ByteArray := prog_1_method_45_code
def yX10_closeText : MethodName := ⟨RX10, "closeText", "()I"⟩
abbrev cX10_startAnew : ByteArray := prog_1_method_46_code
def yX10_startAnew : MethodName := ⟨RX10, "startAnew", "()V"⟩
abbrev cX10_heldBehind : ByteArray := prog_1_method_47_code
def yX10_heldBehind : MethodName := ⟨RX10, "heldBehind", "(II)I"⟩
def RX11 : String := "TwoRumoursModel"
def TX11 : u_T := fun k => match k with
  | 0 => ("TwoRumoursModel", "w", "[I", true)
  | 1 => ("TwoRumoursModel", "isKept", "[Z", true)
  | 2 => ("TwoRumoursModel", "know", "I", false)
  | 3 => ("TwoRumoursModel", "more", "I", false)
  | 4 => ("TwoRumoursModel", "heed", "[I", true)
  | 5 => ("TwoRumoursModel", "isSilent", "[Z", true)
  | 6 => ("TwoRumoursModel", "places", "[I", true)
  | 7 => ("TwoRumoursModel", "people", "[I", true)
  | 8 => ("TwoRumoursModel", "tieA", "[I", true)
  | 9 => ("TwoRumoursModel", "tieB", "[I", true)
  | 10 => ("TwoRumoursModel", "strong", "[I", true)
  | 11 => ("TwoRumoursModel", "ties", "[I", true)
  | 12 => ("TwoRumoursModel", "asks", "[I", true)
  | 13 => ("TwoRumoursModel", "answers", "[I", true)
  | 14 => ("TwoRumoursModel", "bars", "[I", true)
  | 15 => ("TwoRumoursModel", "joinK", "[I", true)
  | 16 => ("TwoRumoursModel", "joinL", "[I", true)
  | 17 => ("TwoRumoursModel", "many", "[I", true)
  | 18 => ("TwoRumoursModel", "text", "[I", true)
  | 19 => ("TwoRumoursModel", "textSize", "I", false)
  | 20 => ("TwoRumoursModel", "at", "I", false)
  | 21 => ("TwoRumoursModel", "first", "I", false)
  | 22 => ("TwoRumoursModel", "length", "I", false)
  | 23 => ("TwoRumoursModel", "faultOf", "I", false)
  | 24 => ("TwoRumoursModel", "fault", "I", false)
  | 25 => ("TwoRumoursModel", "steps", "[I", true)
  | 26 => ("TwoRumoursModel", "stepMany", "I", false)
  | 27 => ("TwoRumoursModel", "counts", "[I", true)
  | 28 => ("TwoRumoursModel", "asked", "I", false)
  | 29 => ("TwoRumoursModel", "says", "[I", true)
  | 30 => ("TwoRumoursModel", "saysAt", "[I", true)
  | 31 => ("TwoRumoursModel", "odds", "[I", true)
  | 32 => ("TwoRumoursModel", "then", "[I", true)
  | 33 => ("TwoRumoursModel", "part", "[I", true)
  | 34 => ("TwoRumoursModel", "roads", "[I", true)
  | 35 => ("TwoRumoursModel", "days", "[I", true)
  | 36 => ("TwoRumoursModel", "reported", "I", false)
  | 37 => ("TwoRumoursModel", "reports", "[I", true)
  | 38 => ("TwoRumoursModel", "sourceOf", "I", false)
  | 39 => ("TwoRumoursModel", "sourceDay", "I", false)
  | _ => ("TwoRumoursModel", "sourceLate", "I", false)
def tyX11 : Nat → FieldType := fun k => match k with
  | 0 => .array .int
  | 1 => .array .boolean
  | 2 => .int
  | 3 => .int
  | 4 => .array .int
  | 5 => .array .boolean
  | 6 => .array .int
  | 7 => .array .int
  | 8 => .array .int
  | 9 => .array .int
  | 10 => .array .int
  | 11 => .array .int
  | 12 => .array .int
  | 13 => .array .int
  | 14 => .array .int
  | 15 => .array .int
  | 16 => .array .int
  | 17 => .array .int
  | 18 => .array .int
  | 19 => .int
  | 20 => .int
  | 21 => .int
  | 22 => .int
  | 23 => .int
  | 24 => .int
  | 25 => .array .int
  | 26 => .int
  | 27 => .array .int
  | 28 => .int
  | 29 => .array .int
  | 30 => .array .int
  | 31 => .array .int
  | 32 => .array .int
  | 33 => .array .int
  | 34 => .array .int
  | 35 => .array .int
  | 36 => .int
  | 37 => .array .int
  | 38 => .int
  | 39 => .int
  | _ => .int
theorem nmX11 : ∀ a, a < 41 → ∀ b, b < 41 → a ≠ b → (TX11 a).2.1 ≠ (TX11 b).2.1 := by decide +kernel
theorem tyX11_ok : ∀ k, k < 41 → parseFieldDescriptor (TX11 k).2.2.1 = some (tyX11 k) := by decide +kernel
abbrev cX11_init : ByteArray := prog_13_method_1_code
def yX11_init : MethodName := ⟨RX11, "<init>", "()V"⟩
abbrev cX11_in : ByteArray := prog_13_method_3_code
def yX11_in : MethodName := ⟨RX11, "in", "(JJJ)Z"⟩
abbrev cX11_one : ByteArray := prog_13_method_4_code
def yX11_one : MethodName := ⟨RX11, "one", "(Z)I"⟩
abbrev cX11_has : ByteArray := prog_13_method_5_code
def yX11_has : MethodName := ⟨RX11, "has", "(II)Z"⟩
abbrev cX11_ones : ByteArray := prog_13_method_6_code
def yX11_ones : MethodName := ⟨RX11, "ones", "(I)I"⟩
abbrev cX11_feed : ByteArray := prog_13_method_7_code
def yX11_feed : MethodName := ⟨RX11, "feed", "(IJ)I"⟩
abbrev cX11_here : ByteArray := prog_13_method_8_code
def yX11_here : MethodName := ⟨RX11, "here", "()I"⟩
abbrev cX11_want : ByteArray := prog_13_method_9_code
def yX11_want : MethodName := ⟨RX11, "want", "(ZII)Z"⟩
abbrev cX11_takeWord : ByteArray := prog_13_method_10_code
def yX11_takeWord : MethodName := ⟨RX11, "takeWord", "()V"⟩
abbrev cX11_isWord : ByteArray := prog_13_method_11_code
def yX11_isWord : MethodName := ⟨RX11, "isWord", "(IIIII)Z"⟩
abbrev cX11_isTail : ByteArray := prog_13_method_12_code
def yX11_isTail : MethodName := ⟨RX11, "isTail", "(III)Z"⟩
abbrev cX11_isNext : ByteArray := prog_13_method_13_code
def yX11_isNext : MethodName := ⟨RX11, "isNext", "(IIIIIIII)Z"⟩
abbrev cX11_takeNumber : ByteArray := prog_13_method_14_code
def yX11_takeNumber : MethodName := ⟨RX11, "takeNumber", "(II)I"⟩
abbrev cX11_takeEnd : ByteArray := prog_13_method_15_code
def yX11_takeEnd : MethodName := ⟨RX11, "takeEnd", "()V"⟩
abbrev cX11_beginReading : ByteArray := prog_13_method_16_code
def yX11_beginReading : MethodName := ⟨RX11, "beginReading", "()V"⟩
abbrev cX11_takePerson : ByteArray := prog_13_method_17_code
def yX11_takePerson : MethodName := ⟨RX11, "takePerson", "(I)V"⟩
abbrev cX11_takeTie : ByteArray := prog_13_method_18_code
def yX11_takeTie : MethodName := ⟨RX11, "takeTie", "(I)V"⟩
abbrev cX11_clearRow : ByteArray := prog_13_method_19_code
def yX11_clearRow : MethodName := ⟨RX11, "clearRow", "()V"⟩
abbrev cX11_town : ByteArray := prog_13_method_20_code
def yX11_town : MethodName := ⟨RX11, "town", "()I"⟩
abbrev cX11_takeSaying : ByteArray := prog_13_method_21_code
def yX11_takeSaying : MethodName := ⟨RX11, "takeSaying", "()V"⟩
abbrev cX11_sayings : ByteArray := prog_13_method_22_code
def yX11_sayings : MethodName := ⟨RX11, "sayings", "()I"⟩
abbrev cX11_fault : ByteArray := prog_13_method_23_code
def yX11_fault : MethodName := ⟨RX11, "fault", "()I"⟩
abbrev cX11_isPerson : ByteArray := prog_13_method_24_code
def yX11_isPerson : MethodName := ⟨RX11, "isPerson", "(I)Z"⟩
abbrev cX11_isSaying : ByteArray := prog_13_method_25_code
def yX11_isSaying : MethodName := ⟨RX11, "isSaying", "(I)Z"⟩
abbrev cX11_count : ByteArray := prog_13_method_26_code
def yX11_count : MethodName := ⟨RX11, "count", "(I)I"⟩
abbrev cX11_isOf : ByteArray := prog_13_method_27_code
def yX11_isOf : MethodName := ⟨RX11, "isOf", "(II)Z"⟩
abbrev cX11_tieMany : ByteArray := prog_13_method_28_code
def yX11_tieMany : MethodName := ⟨RX11, "tieMany", "(I)I"⟩
abbrev cX11_tieSum : ByteArray := prog_13_method_29_code
def yX11_tieSum : MethodName := ⟨RX11, "tieSum", "(I)I"⟩
abbrev cX11_strength : ByteArray := prog_13_method_30_code
def yX11_strength : MethodName := ⟨RX11, "strength", "(II)I"⟩
abbrev cX11_person : ByteArray := prog_13_method_31_code
def yX11_person : MethodName := ⟨RX11, "person", "(II)I"⟩
abbrev cX11_tie : ByteArray := prog_13_method_32_code
def yX11_tie : MethodName := ⟨RX11, "tie", "(II)I"⟩
abbrev cX11_saying : ByteArray := prog_13_method_33_code
def yX11_saying : MethodName := ⟨RX11, "saying", "(II)I"⟩
abbrev cX11_isBarred : ByteArray := prog_13_method_34_code
def yX11_isBarred : MethodName := ⟨RX11, "isBarred", "(II)Z"⟩
abbrev cX11_joinOf : ByteArray := prog_13_method_35_code
def yX11_joinOf : MethodName := ⟨RX11, "joinOf", "(II)I"⟩
abbrev cX11_pair : ByteArray := prog_13_method_36_code
def yX11_pair : MethodName := ⟨RX11, "pair", "(III)I"⟩
abbrev cX11_rule : ByteArray := prog_13_method_37_code
def yX11_rule : MethodName := ⟨RX11, "rule", "(II)I"⟩
abbrev cX11_cell : ByteArray := prog_13_method_38_code
def yX11_cell : MethodName := ⟨RX11, "cell", "(II)I"⟩
abbrev cX11_draw : ByteArray := prog_13_method_39_code
def yX11_draw : MethodName := ⟨RX11, "draw", "(II)I"⟩
abbrev cX11_come : ByteArray := prog_13_method_40_code
def yX11_come : MethodName := ⟨RX11, "come", "(IIIII)V"⟩
abbrev cX11_isHeld : ByteArray := prog_13_method_41_code
def yX11_isHeld : MethodName := ⟨RX11, "isHeld", "(III)Z"⟩
abbrev cX11_latest : ByteArray := prog_13_method_42_code
def yX11_latest : MethodName := ⟨RX11, "latest", "(II)I"⟩
abbrev cX11_listener : ByteArray := prog_13_method_43_code
def yX11_listener : MethodName := ⟨RX11, "listener", "(II)I"⟩
abbrev cX11_heedOf : ByteArray := prog_13_method_44_code
def yX11_heedOf : MethodName := ⟨RX11, "heedOf", "(III)I"⟩
abbrev cX11_tellTo : ByteArray := prog_13_method_45_code
def yX11_tellTo : MethodName := ⟨RX11, "tellTo", "(IIII)I"⟩
abbrev cX11_tick : ByteArray := prog_13_method_46_code
def yX11_tick : MethodName := ⟨RX11, "tick", "(I)I"⟩
abbrev cX11_holdersOf : ByteArray := prog_13_method_47_code
def yX11_holdersOf : MethodName := ⟨RX11, "holdersOf", "(II)I"⟩
abbrev cX11_begin : ByteArray := prog_13_method_48_code
def yX11_begin : MethodName := ⟨RX11, "begin", "(II)I"⟩
abbrev cX11_go : ByteArray := prog_13_method_49_code
def yX11_go : MethodName := ⟨RX11, "go", "(I)I"⟩
abbrev cX11_hang : ByteArray := prog_13_method_50_code
def yX11_hang : MethodName := ⟨RX11, "hang", "(IIII)I"⟩
abbrev cX11_notice : ByteArray := prog_13_method_51_code
def yX11_notice : MethodName := ⟨RX11, "notice", "(III)I"⟩
abbrev cX11_holds : ByteArray := prog_13_method_52_code
def yX11_holds : MethodName := ⟨RX11, "holds", "(III)I"⟩
abbrev cX11_holders : ByteArray := prog_13_method_53_code
def yX11_holders : MethodName := ⟨RX11, "holders", "(I)I"⟩
abbrev cX11_findWay : ByteArray := prog_13_method_54_code
def yX11_findWay : MethodName := ⟨RX11, "findWay", "(II)V"⟩
abbrev cX11_isOnWay : ByteArray := prog_13_method_55_code
def yX11_isOnWay : MethodName := ⟨RX11, "isOnWay", "(I)Z"⟩
abbrev cX11_way : ByteArray := prog_13_method_56_code
def yX11_way : MethodName := ⟨RX11, "way", "(III)I"⟩
abbrev cX11_nine : ByteArray := prog_13_method_57_code
def yX11_nine : MethodName := ⟨RX11, "nine", "(III)I"⟩
abbrev cX11_below : ByteArray := prog_13_method_58_code
def yX11_below : MethodName := ⟨RX11, "below", "(II)I"⟩
abbrev cX11_freshen : ByteArray := prog_13_method_59_code
def yX11_freshen : MethodName := ⟨RX11, "freshen", "(I)V"⟩
abbrev cX11_curve : ByteArray := prog_13_method_60_code
def yX11_curve : MethodName := ⟨RX11, "curve", "(III)I"⟩
abbrev cX11_fresh : ByteArray := prog_13_method_61_code
def yX11_fresh : MethodName := ⟨RX11, "fresh", "()I"⟩
abbrev cX11_ask : ByteArray := prog_13_method_62_code
def yX11_ask : MethodName := ⟨RX11, "ask", "(III)I"⟩
abbrev cX11_forget : ByteArray := prog_13_method_63_code
def yX11_forget : MethodName := ⟨RX11, "forget", "()I"⟩
abbrev cX11_endOf : ByteArray := prog_13_method_64_code
def yX11_endOf : MethodName := ⟨RX11, "endOf", "(I)I"⟩
abbrev cX11_end : ByteArray := prog_13_method_65_code
def yX11_end : MethodName := ⟨RX11, "end", "(I)I"⟩
abbrev cX11_leading : ByteArray := prog_13_method_66_code
def yX11_leading : MethodName := ⟨RX11, "leading", "(Z)I"⟩
abbrev cX11_who : ByteArray := prog_13_method_67_code
def yX11_who : MethodName := ⟨RX11, "who", "(I)I"⟩
abbrev cX11_tryNotice : ByteArray := prog_13_method_68_code
def yX11_tryNotice : MethodName := ⟨RX11, "tryNotice", "(IIIII)I"⟩
abbrev cX11_best : ByteArray := prog_13_method_69_code
def yX11_best : MethodName := ⟨RX11, "best", "(IIII)I"⟩
abbrev cX11_net : ByteArray := prog_13_method_70_code
def yX11_net : MethodName := ⟨RX11, "net", "()I"⟩
abbrev cX11_stays : ByteArray := prog_13_method_71_code
def yX11_stays : MethodName := ⟨RX11, "stays", "(II)I"⟩
abbrev cX11_spread : ByteArray := prog_13_method_72_code
def yX11_spread : MethodName := ⟨RX11, "spread", "(I)V"⟩
abbrev cX11_findOdds : ByteArray := prog_13_method_73_code
def yX11_findOdds : MethodName := ⟨RX11, "findOdds", "(II)V"⟩
abbrev cX11_isNet : ByteArray := prog_13_method_74_code
def yX11_isNet : MethodName := ⟨RX11, "isNet", "(I)Z"⟩
abbrev cX11_isNetSet : ByteArray := prog_13_method_75_code
def yX11_isNetSet : MethodName := ⟨RX11, "isNetSet", "(I)Z"⟩
abbrev cX11_areSteps : ByteArray := prog_13_method_76_code
def yX11_areSteps : MethodName := ⟨RX11, "areSteps", "(I)Z"⟩
abbrev cX11_reach : ByteArray := prog_13_method_77_code
def yX11_reach : MethodName := ⟨RX11, "reach", "(III)I"⟩
abbrev cX11_manyFrom : ByteArray := prog_13_method_78_code
def yX11_manyFrom : MethodName := ⟨RX11, "manyFrom", "(II)I"⟩
abbrev cX11_many : ByteArray := prog_13_method_79_code
def yX11_many : MethodName := ⟨RX11, "many", "(II)I"⟩
abbrev cX11_began : ByteArray := prog_13_method_80_code
def yX11_began : MethodName := ⟨RX11, "began", "(III)I"⟩
abbrev cX11_speak : ByteArray := prog_13_method_81_code
def yX11_speak : MethodName := ⟨RX11, "speak", "(II)I"⟩
abbrev cX11_isMarket : ByteArray := prog_13_method_82_code
def yX11_isMarket : MethodName := ⟨RX11, "isMarket", "(I)Z"⟩
abbrev cX11_road : ByteArray := prog_13_method_83_code
def yX11_road : MethodName := ⟨RX11, "road", "(III)I"⟩
abbrev cX11_report : ByteArray := prog_13_method_84_code
def yX11_report : MethodName := ⟨RX11, "report", "(II)I"⟩
abbrev cX11_silence : ByteArray := prog_13_method_85_code
def yX11_silence : MethodName := ⟨RX11, "silence", "()I"⟩
abbrev cX11_findDays : ByteArray := prog_13_method_86_code
def yX11_findDays : MethodName := ⟨RX11, "findDays", "()V"⟩
abbrev cX11_findSource : ByteArray := prog_13_method_87_code
def yX11_findSource : MethodName := ⟨RX11, "findSource", "(I)V"⟩
abbrev cX11_source : ByteArray := prog_13_method_88_code
def yX11_source : MethodName := ⟨RX11, "source", "(II)I"⟩
abbrev cX11_pace : ByteArray := prog_13_method_89_code
def yX11_pace : MethodName := ⟨RX11, "pace", "()I"⟩
abbrev cX11_copy : ByteArray := prog_13_method_90_code
def yX11_copy : MethodName := ⟨RX11, "copy", "(II)V"⟩
abbrev cX11_seed : ByteArray := prog_13_method_91_code
def yX11_seed : MethodName := ⟨RX11, "seed", "(I)I"⟩
abbrev cX11_keep : ByteArray := prog_13_method_92_code
def yX11_keep : MethodName := ⟨RX11, "keep", "(I)I"⟩
abbrev cX11_goBack : ByteArray := prog_13_method_93_code
def yX11_goBack : MethodName := ⟨RX11, "goBack", "(I)I"⟩
def RJ6 : String := "java/lang/Integer"
def TJ6 : u_T := fun k => match k with
  | _ => ("", "", "", false)
def tyJ6 : Nat → FieldType := fun k => match k with
  | _ => .int
abbrev cJ6_bitCount_0f7a4 : ByteArray := prog_14_method_49_code
def yJ6_bitCount_0f7a4 : MethodName := ⟨RJ6, "bitCount", "(I)I"⟩
def RJ9 : String := "java/lang/Math"
def TJ9 : u_T := fun k => match k with
  | _ => ("", "", "", false)
def tyJ9 : Nat → FieldType := fun k => match k with
  | _ => .int
abbrev cJ9_max_7cf53 : ByteArray := prog_15_method_65_code
def yJ9_max_7cf53 : MethodName := ⟨RJ9, "max", "(II)I"⟩
abbrev cJ9_min_7cf53 : ByteArray := prog_15_method_69_code
def yJ9_min_7cf53 : MethodName := ⟨RJ9, "min", "(II)I"⟩
def RJ0 : String := "java/lang/String"
def TJ0 : u_T := fun k => match k with
  | _ => ("", "", "", false)
def tyJ0 : Nat → FieldType := fun k => match k with
  | _ => .int
abbrev cJ0_length_8abf5 : ByteArray := prog_16_method_54_code
def yJ0_length_8abf5 : MethodName := ⟨RJ0, "length", "()I"⟩
abbrev cJ0_charAt_5068e : ByteArray := prog_16_method_56_code
def yJ0_charAt_5068e : MethodName := ⟨RJ0, "charAt", "(I)C"⟩
abbrev cJ0_coder_7d493 : ByteArray := prog_16_method_152_code
def yJ0_coder_7d493 : MethodName := ⟨RJ0, "coder", "()B"⟩
abbrev cJ0_isLatin1_aae02 : ByteArray := prog_16_method_154_code
def yJ0_isLatin1_aae02 : MethodName := ⟨RJ0, "isLatin1", "()Z"⟩
abbrev cJ0_checkIndex_df160 : ByteArray := prog_16_method_155_code
def yJ0_checkIndex_df160 : MethodName := ⟨RJ0, "checkIndex", "(II)V"⟩
def RJ1 : String := "java/lang/StringLatin1"
def TJ1 : u_T := fun k => match k with
  | _ => ("", "", "", false)
def tyJ1 : Nat → FieldType := fun k => match k with
  | _ => .int
abbrev cJ1_charAt_3b067 : ByteArray := prog_17_method_2_code
def yJ1_charAt_3b067 : MethodName := ⟨RJ1, "charAt", "([BI)C"⟩
def RJ2 : String := "java/lang/StringUTF16"
def TJ2 : u_T := fun k => match k with
  | _ => ("", "", "", false)
def tyJ2 : Nat → FieldType := fun k => match k with
  | _ => .int
abbrev cJ2_getChar_3b067 : ByteArray := prog_18_method_5_code
def yJ2_getChar_3b067 : MethodName := ⟨RJ2, "getChar", "([BI)C"⟩
abbrev cJ2_length_9d52b : ByteArray := prog_18_method_6_code
def yJ2_length_9d52b : MethodName := ⟨RJ2, "length", "([B)I"⟩
abbrev cJ2_charAt_3b067 : ByteArray := prog_18_method_83_code
def yJ2_charAt_3b067 : MethodName := ⟨RJ2, "charAt", "([BI)C"⟩
abbrev cJ2_checkIndex_2214a : ByteArray := prog_18_method_91_code
def yJ2_checkIndex_2214a : MethodName := ⟨RJ2, "checkIndex", "(I[B)V"⟩
def RJ10 : String := "java/lang/System"
def TJ10 : u_T := fun k => match k with
  | _ => ("", "", "", false)
def tyJ10 : Nat → FieldType := fun k => match k with
  | _ => .int
def RJ7 : String := "java/util/Arrays"
def TJ7 : u_T := fun k => match k with
  | _ => ("", "", "", false)
def tyJ7 : Nat → FieldType := fun k => match k with
  | _ => .int
abbrev cJ7_fill_d0a16 : ByteArray := prog_20_method_101_code
def yJ7_fill_d0a16 : MethodName := ⟨RJ7, "fill", "([JJ)V"⟩
abbrev cJ7_fill_53178 : ByteArray := prog_20_method_103_code
def yJ7_fill_53178 : MethodName := ⟨RJ7, "fill", "([II)V"⟩
def RJ3 : String := "jdk/internal/util/Preconditions"
def TJ3 : u_T := fun k => match k with
  | _ => ("", "", "", false)
def tyJ3 : Nat → FieldType := fun k => match k with
  | _ => .int
abbrev cJ3_checkIndex_8e157 : ByteArray := prog_21_method_11_code
def yJ3_checkIndex_8e157 : MethodName := ⟨RJ3, "checkIndex", "(IILjava/util/function/BiFunction;)I"⟩
def RL : String := "TwoRumoursLaw"
abbrev cL_law : ByteArray := code
def yL_law : MethodName := ⟨RL, "law", "([I)Z"⟩
abbrev vwCl : List vw_C := [(RX0, TX0, 15), (RX1, TX1, 3), (RX2, TX2, 7), (RX3, TX3, 6), (RX4, TX4, 7), (RX5, TX5, 2), (RX6, TX6, 3), (RX7, TX7, 8), (RX8, TX8, 9), (RX9, TX9, 3), (RX10, TX10, 16), (RX11, TX11, 41)]
