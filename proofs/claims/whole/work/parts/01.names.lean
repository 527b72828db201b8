-- ===== PART A: goes FIRST, ahead of the names: the tables' words, and 'selects' of the private methods out of them =====
/-- a private method of a class that the tables say can be made, by its rows of tables_1 -/
def lw_okq (q : MethodName × Nat) : Prop := (q.1.cls ≠ "java/lang/invoke/MethodHandle" ∧ q.1.cls ≠ "java/lang/invoke/VarHandle") ∧ Cond.instantiable q.1.cls q.2 ∈ tables_1 ∧ Cond.privateMethod q.1 ∈ tables_1 ∧ Cond.instanceMethod q.1 ∈ tables_1
theorem lw_p0 : lw_okq (⟨"GivenUp", "deny", "(I)Z"⟩, 20) := ⟨⟨by decide +kernel, by decide +kernel⟩, List.mem_of_getElem? (i := 23) (by decide +kernel), List.mem_of_getElem? (i := 650) (by decide +kernel), List.mem_of_getElem? (i := 651) (by decide +kernel)⟩
theorem lw_p1 : lw_okq (⟨"GivenUp", "allow", "()Z"⟩, 20) := ⟨⟨by decide +kernel, by decide +kernel⟩, List.mem_of_getElem? (i := 23) (by decide +kernel), List.mem_of_getElem? (i := 659) (by decide +kernel), List.mem_of_getElem? (i := 660) (by decide +kernel)⟩
theorem lw_p2 : lw_okq (⟨"GivenUp", "trayStatus", "(II)I"⟩, 20) := ⟨⟨by decide +kernel, by decide +kernel⟩, List.mem_of_getElem? (i := 23) (by decide +kernel), List.mem_of_getElem? (i := 667) (by decide +kernel), List.mem_of_getElem? (i := 668) (by decide +kernel)⟩
theorem lw_p3 : lw_okq (⟨"GivenUp", "refuse", "(I)I"⟩, 20) := ⟨⟨by decide +kernel, by decide +kernel⟩, List.mem_of_getElem? (i := 23) (by decide +kernel), List.mem_of_getElem? (i := 680) (by decide +kernel), List.mem_of_getElem? (i := 681) (by decide +kernel)⟩
theorem lw_p4 : lw_okq (⟨"GivenUp$Text", "readWord", "()Z"⟩, 11) := ⟨⟨by decide +kernel, by decide +kernel⟩, List.mem_of_getElem? (i := 33) (by decide +kernel), List.mem_of_getElem? (i := 719) (by decide +kernel), List.mem_of_getElem? (i := 720) (by decide +kernel)⟩
theorem lw_p5 : lw_okq (⟨"GivenUp$Text", "readNumber", "()Z"⟩, 11) := ⟨⟨by decide +kernel, by decide +kernel⟩, List.mem_of_getElem? (i := 33) (by decide +kernel), List.mem_of_getElem? (i := 723) (by decide +kernel), List.mem_of_getElem? (i := 724) (by decide +kernel)⟩
theorem lw_p6 : lw_okq (⟨"GivenUp$ValleyReader", "readSuitor", "(LGivenUp$Valley;)Z"⟩, 3) := ⟨⟨by decide +kernel, by decide +kernel⟩, List.mem_of_getElem? (i := 130) (by decide +kernel), List.mem_of_getElem? (i := 730) (by decide +kernel), List.mem_of_getElem? (i := 731) (by decide +kernel)⟩
theorem lw_p7 : lw_okq (⟨"GivenUp$ValleyReader", "readMaid", "(LGivenUp$Valley;)Z"⟩, 3) := ⟨⟨by decide +kernel, by decide +kernel⟩, List.mem_of_getElem? (i := 130) (by decide +kernel), List.mem_of_getElem? (i := 760) (by decide +kernel), List.mem_of_getElem? (i := 761) (by decide +kernel)⟩
theorem lw_p8 : lw_okq (⟨"GivenUp$ValleyReader", "readThing", "(LGivenUp$Valley;)Z"⟩, 3) := ⟨⟨by decide +kernel, by decide +kernel⟩, List.mem_of_getElem? (i := 130) (by decide +kernel), List.mem_of_getElem? (i := 765) (by decide +kernel), List.mem_of_getElem? (i := 766) (by decide +kernel)⟩
theorem lw_p9 : lw_okq (⟨"GivenUp$ValleyReader", "readSays", "(LGivenUp$Valley;)Z"⟩, 3) := ⟨⟨by decide +kernel, by decide +kernel⟩, List.mem_of_getElem? (i := 130) (by decide +kernel), List.mem_of_getElem? (i := 781) (by decide +kernel), List.mem_of_getElem? (i := 782) (by decide +kernel)⟩
theorem lw_p10 : lw_okq (⟨"GivenUp$ValleyReader", "readAfter", "(LGivenUp$Valley;)Z"⟩, 3) := ⟨⟨by decide +kernel, by decide +kernel⟩, List.mem_of_getElem? (i := 130) (by decide +kernel), List.mem_of_getElem? (i := 785) (by decide +kernel), List.mem_of_getElem? (i := 786) (by decide +kernel)⟩
theorem lw_p11 : lw_okq (⟨"GivenUp$ValleyReader", "readLikes", "(LGivenUp$Valley;)Z"⟩, 3) := ⟨⟨by decide +kernel, by decide +kernel⟩, List.mem_of_getElem? (i := 130) (by decide +kernel), List.mem_of_getElem? (i := 790) (by decide +kernel), List.mem_of_getElem? (i := 791) (by decide +kernel)⟩
theorem lw_p12 : lw_okq (⟨"GivenUp$ValleyReader", "readWeekly", "(LGivenUp$Valley;)Z"⟩, 3) := ⟨⟨by decide +kernel, by decide +kernel⟩, List.mem_of_getElem? (i := 130) (by decide +kernel), List.mem_of_getElem? (i := 794) (by decide +kernel), List.mem_of_getElem? (i := 795) (by decide +kernel)⟩
theorem lw_p13 : lw_okq (⟨"GivenUp$ValleyReader", "readFair", "(LGivenUp$Valley;)Z"⟩, 3) := ⟨⟨by decide +kernel, by decide +kernel⟩, List.mem_of_getElem? (i := 130) (by decide +kernel), List.mem_of_getElem? (i := 798) (by decide +kernel), List.mem_of_getElem? (i := 799) (by decide +kernel)⟩
theorem lw_p14 : lw_okq (⟨"GivenUp$Valley", "findNeeds", "()V"⟩, 20) := ⟨⟨by decide +kernel, by decide +kernel⟩, List.mem_of_getElem? (i := 310) (by decide +kernel), List.mem_of_getElem? (i := 807) (by decide +kernel), List.mem_of_getElem? (i := 808) (by decide +kernel)⟩
theorem lw_p15 : lw_okq (⟨"GivenUp$Valley", "isHopeless", "(I)Z"⟩, 20) := ⟨⟨by decide +kernel, by decide +kernel⟩, List.mem_of_getElem? (i := 310) (by decide +kernel), List.mem_of_getElem? (i := 815) (by decide +kernel), List.mem_of_getElem? (i := 816) (by decide +kernel)⟩
def lw_privs_1 : List (MethodName × Nat) := [(⟨"GivenUp", "deny", "(I)Z"⟩, 20), (⟨"GivenUp", "allow", "()Z"⟩, 20), (⟨"GivenUp", "trayStatus", "(II)I"⟩, 20), (⟨"GivenUp", "refuse", "(I)I"⟩, 20), (⟨"GivenUp$Text", "readWord", "()Z"⟩, 11), (⟨"GivenUp$Text", "readNumber", "()Z"⟩, 11), (⟨"GivenUp$ValleyReader", "readSuitor", "(LGivenUp$Valley;)Z"⟩, 3), (⟨"GivenUp$ValleyReader", "readMaid", "(LGivenUp$Valley;)Z"⟩, 3), (⟨"GivenUp$ValleyReader", "readThing", "(LGivenUp$Valley;)Z"⟩, 3), (⟨"GivenUp$ValleyReader", "readSays", "(LGivenUp$Valley;)Z"⟩, 3), (⟨"GivenUp$ValleyReader", "readAfter", "(LGivenUp$Valley;)Z"⟩, 3), (⟨"GivenUp$ValleyReader", "readLikes", "(LGivenUp$Valley;)Z"⟩, 3), (⟨"GivenUp$ValleyReader", "readWeekly", "(LGivenUp$Valley;)Z"⟩, 3), (⟨"GivenUp$ValleyReader", "readFair", "(LGivenUp$Valley;)Z"⟩, 3), (⟨"GivenUp$Valley", "findNeeds", "()V"⟩, 20), (⟨"GivenUp$Valley", "isHopeless", "(I)Z"⟩, 20)]
theorem lw_r1 : ∀ q ∈ lw_privs_1, lw_okq q := List.forall_mem_cons.mpr ⟨lw_p0, List.forall_mem_cons.mpr ⟨lw_p1, List.forall_mem_cons.mpr ⟨lw_p2, List.forall_mem_cons.mpr ⟨lw_p3, List.forall_mem_cons.mpr ⟨lw_p4, List.forall_mem_cons.mpr ⟨lw_p5, List.forall_mem_cons.mpr ⟨lw_p6, List.forall_mem_cons.mpr ⟨lw_p7, List.forall_mem_cons.mpr ⟨lw_p8, List.forall_mem_cons.mpr ⟨lw_p9, List.forall_mem_cons.mpr ⟨lw_p10, List.forall_mem_cons.mpr ⟨lw_p11, List.forall_mem_cons.mpr ⟨lw_p12, List.forall_mem_cons.mpr ⟨lw_p13, List.forall_mem_cons.mpr ⟨lw_p14, List.forall_mem_cons.mpr ⟨lw_p15, fun _ h => absurd h List.not_mem_nil⟩⟩⟩⟩⟩⟩⟩⟩⟩⟩⟩⟩⟩⟩⟩⟩
theorem lw_p16 : lw_okq (⟨"GivenUp", "keepFault", "()V"⟩, 20) := ⟨⟨by decide +kernel, by decide +kernel⟩, List.mem_of_getElem? (i := 23) (by decide +kernel), List.mem_of_getElem? (i := 819) (by decide +kernel), List.mem_of_getElem? (i := 820) (by decide +kernel)⟩
theorem lw_p17 : lw_okq (⟨"GivenUp", "answer", "(I)I"⟩, 20) := ⟨⟨by decide +kernel, by decide +kernel⟩, List.mem_of_getElem? (i := 23) (by decide +kernel), List.mem_of_getElem? (i := 823) (by decide +kernel), List.mem_of_getElem? (i := 824) (by decide +kernel)⟩
theorem lw_p18 : lw_okq (⟨"GivenUp$YearsReader", "readEnd", "(LGivenUp$Years;)Z"⟩, 3) := ⟨⟨by decide +kernel, by decide +kernel⟩, List.mem_of_getElem? (i := 146) (by decide +kernel), List.mem_of_getElem? (i := 837) (by decide +kernel), List.mem_of_getElem? (i := 838) (by decide +kernel)⟩
theorem lw_p19 : lw_okq (⟨"GivenUp$YearsReader", "readStep", "(LGivenUp$Years;LGivenUp$Valley;)Z"⟩, 3) := ⟨⟨by decide +kernel, by decide +kernel⟩, List.mem_of_getElem? (i := 146) (by decide +kernel), List.mem_of_getElem? (i := 844) (by decide +kernel), List.mem_of_getElem? (i := 845) (by decide +kernel)⟩
theorem lw_p20 : lw_okq (⟨"GivenUp$YearsReader", "readTest", "(LGivenUp$Years;LGivenUp$Valley;)Z"⟩, 3) := ⟨⟨by decide +kernel, by decide +kernel⟩, List.mem_of_getElem? (i := 146) (by decide +kernel), List.mem_of_getElem? (i := 852) (by decide +kernel), List.mem_of_getElem? (i := 853) (by decide +kernel)⟩
theorem lw_p21 : lw_okq (⟨"GivenUp$YearsReader", "readDeed", "(LGivenUp$Years;LGivenUp$Valley;)Z"⟩, 3) := ⟨⟨by decide +kernel, by decide +kernel⟩, List.mem_of_getElem? (i := 146) (by decide +kernel), List.mem_of_getElem? (i := 858) (by decide +kernel), List.mem_of_getElem? (i := 859) (by decide +kernel)⟩
theorem lw_p22 : lw_okq (⟨"GivenUp$Valley", "worthOf", "(I)I"⟩, 20) := ⟨⟨by decide +kernel, by decide +kernel⟩, List.mem_of_getElem? (i := 310) (by decide +kernel), List.mem_of_getElem? (i := 895) (by decide +kernel), List.mem_of_getElem? (i := 896) (by decide +kernel)⟩
theorem lw_p23 : lw_okq (⟨"GivenUp", "answerOrNone", "(I)I"⟩, 20) := ⟨⟨by decide +kernel, by decide +kernel⟩, List.mem_of_getElem? (i := 23) (by decide +kernel), List.mem_of_getElem? (i := 903) (by decide +kernel), List.mem_of_getElem? (i := 904) (by decide +kernel)⟩
theorem lw_p24 : lw_okq (⟨"GivenUp", "isNoPair", "(II)Z"⟩, 20) := ⟨⟨by decide +kernel, by decide +kernel⟩, List.mem_of_getElem? (i := 23) (by decide +kernel), List.mem_of_getElem? (i := 946) (by decide +kernel), List.mem_of_getElem? (i := 947) (by decide +kernel)⟩
theorem lw_p25 : lw_okq (⟨"GivenUp$Valley", "canGive", "(I)Z"⟩, 20) := ⟨⟨by decide +kernel, by decide +kernel⟩, List.mem_of_getElem? (i := 310) (by decide +kernel), List.mem_of_getElem? (i := 958) (by decide +kernel), List.mem_of_getElem? (i := 959) (by decide +kernel)⟩
theorem lw_p26 : lw_okq (⟨"GivenUp$Valley", "isNeededByGiven", "(I)Z"⟩, 20) := ⟨⟨by decide +kernel, by decide +kernel⟩, List.mem_of_getElem? (i := 310) (by decide +kernel), List.mem_of_getElem? (i := 1049) (by decide +kernel), List.mem_of_getElem? (i := 1050) (by decide +kernel)⟩
theorem lw_p27 : lw_okq (⟨"GivenUp$Valley", "isDearer", "(III)Z"⟩, 20) := ⟨⟨by decide +kernel, by decide +kernel⟩, List.mem_of_getElem? (i := 310) (by decide +kernel), List.mem_of_getElem? (i := 1096) (by decide +kernel), List.mem_of_getElem? (i := 1097) (by decide +kernel)⟩
theorem lw_p28 : lw_okq (⟨"GivenUp", "tellFraction", "(JJ)V"⟩, 20) := ⟨⟨by decide +kernel, by decide +kernel⟩, List.mem_of_getElem? (i := 23) (by decide +kernel), List.mem_of_getElem? (i := 1105) (by decide +kernel), List.mem_of_getElem? (i := 1106) (by decide +kernel)⟩
theorem lw_p29 : lw_okq (⟨"GivenUp", "planStatus", "(III)I"⟩, 20) := ⟨⟨by decide +kernel, by decide +kernel⟩, List.mem_of_getElem? (i := 23) (by decide +kernel), List.mem_of_getElem? (i := 1124) (by decide +kernel), List.mem_of_getElem? (i := 1125) (by decide +kernel)⟩
theorem lw_p30 : lw_okq (⟨"GivenUp$Plan", "gather", "(LGivenUp$Valley;II)V"⟩, 17) := ⟨⟨by decide +kernel, by decide +kernel⟩, List.mem_of_getElem? (i := 165) (by decide +kernel), List.mem_of_getElem? (i := 1139) (by decide +kernel), List.mem_of_getElem? (i := 1140) (by decide +kernel)⟩
theorem lw_p31 : lw_okq (⟨"GivenUp$Plan", "grow", "(IIIII)V"⟩, 17) := ⟨⟨by decide +kernel, by decide +kernel⟩, List.mem_of_getElem? (i := 165) (by decide +kernel), List.mem_of_getElem? (i := 1148) (by decide +kernel), List.mem_of_getElem? (i := 1149) (by decide +kernel)⟩
def lw_privs_2 : List (MethodName × Nat) := [(⟨"GivenUp", "keepFault", "()V"⟩, 20), (⟨"GivenUp", "answer", "(I)I"⟩, 20), (⟨"GivenUp$YearsReader", "readEnd", "(LGivenUp$Years;)Z"⟩, 3), (⟨"GivenUp$YearsReader", "readStep", "(LGivenUp$Years;LGivenUp$Valley;)Z"⟩, 3), (⟨"GivenUp$YearsReader", "readTest", "(LGivenUp$Years;LGivenUp$Valley;)Z"⟩, 3), (⟨"GivenUp$YearsReader", "readDeed", "(LGivenUp$Years;LGivenUp$Valley;)Z"⟩, 3), (⟨"GivenUp$Valley", "worthOf", "(I)I"⟩, 20), (⟨"GivenUp", "answerOrNone", "(I)I"⟩, 20), (⟨"GivenUp", "isNoPair", "(II)Z"⟩, 20), (⟨"GivenUp$Valley", "canGive", "(I)Z"⟩, 20), (⟨"GivenUp$Valley", "isNeededByGiven", "(I)Z"⟩, 20), (⟨"GivenUp$Valley", "isDearer", "(III)Z"⟩, 20), (⟨"GivenUp", "tellFraction", "(JJ)V"⟩, 20), (⟨"GivenUp", "planStatus", "(III)I"⟩, 20), (⟨"GivenUp$Plan", "gather", "(LGivenUp$Valley;II)V"⟩, 17), (⟨"GivenUp$Plan", "grow", "(IIIII)V"⟩, 17)]
theorem lw_r2 : ∀ q ∈ lw_privs_2, lw_okq q := List.forall_mem_cons.mpr ⟨lw_p16, List.forall_mem_cons.mpr ⟨lw_p17, List.forall_mem_cons.mpr ⟨lw_p18, List.forall_mem_cons.mpr ⟨lw_p19, List.forall_mem_cons.mpr ⟨lw_p20, List.forall_mem_cons.mpr ⟨lw_p21, List.forall_mem_cons.mpr ⟨lw_p22, List.forall_mem_cons.mpr ⟨lw_p23, List.forall_mem_cons.mpr ⟨lw_p24, List.forall_mem_cons.mpr ⟨lw_p25, List.forall_mem_cons.mpr ⟨lw_p26, List.forall_mem_cons.mpr ⟨lw_p27, List.forall_mem_cons.mpr ⟨lw_p28, List.forall_mem_cons.mpr ⟨lw_p29, List.forall_mem_cons.mpr ⟨lw_p30, List.forall_mem_cons.mpr ⟨lw_p31, fun _ h => absurd h List.not_mem_nil⟩⟩⟩⟩⟩⟩⟩⟩⟩⟩⟩⟩⟩⟩⟩⟩
theorem lw_p32 : lw_okq (⟨"GivenUp$Plan", "weigh", "(IIII)V"⟩, 17) := ⟨⟨by decide +kernel, by decide +kernel⟩, List.mem_of_getElem? (i := 165) (by decide +kernel), List.mem_of_getElem? (i := 1152) (by decide +kernel), List.mem_of_getElem? (i := 1153) (by decide +kernel)⟩
theorem lw_p33 : lw_okq (⟨"GivenUp$Plan", "isLess", "(III)Z"⟩, 17) := ⟨⟨by decide +kernel, by decide +kernel⟩, List.mem_of_getElem? (i := 165) (by decide +kernel), List.mem_of_getElem? (i := 1157) (by decide +kernel), List.mem_of_getElem? (i := 1158) (by decide +kernel)⟩
theorem lw_p34 : lw_okq (⟨"GivenUp", "canPlan", "(III)Z"⟩, 20) := ⟨⟨by decide +kernel, by decide +kernel⟩, List.mem_of_getElem? (i := 23) (by decide +kernel), List.mem_of_getElem? (i := 1189) (by decide +kernel), List.mem_of_getElem? (i := 1190) (by decide +kernel)⟩
theorem lw_p35 : lw_okq (⟨"GivenUp$Village", "costOf", "(LGivenUp$Valley;III)I"⟩, 6) := ⟨⟨by decide +kernel, by decide +kernel⟩, List.mem_of_getElem? (i := 229) (by decide +kernel), List.mem_of_getElem? (i := 1205) (by decide +kernel), List.mem_of_getElem? (i := 1206) (by decide +kernel)⟩
theorem lw_p36 : lw_okq (⟨"GivenUp$Village", "weighWay", "(LGivenUp$Valley;I)V"⟩, 6) := ⟨⟨by decide +kernel, by decide +kernel⟩, List.mem_of_getElem? (i := 229) (by decide +kernel), List.mem_of_getElem? (i := 1213) (by decide +kernel), List.mem_of_getElem? (i := 1214) (by decide +kernel)⟩
theorem lw_p37 : lw_okq (⟨"GivenUp", "couplesStatus", "(I)I"⟩, 20) := ⟨⟨by decide +kernel, by decide +kernel⟩, List.mem_of_getElem? (i := 23) (by decide +kernel), List.mem_of_getElem? (i := 1228) (by decide +kernel), List.mem_of_getElem? (i := 1229) (by decide +kernel)⟩
theorem lw_p38 : lw_okq (⟨"GivenUp", "rowStatus", "(I)I"⟩, 20) := ⟨⟨by decide +kernel, by decide +kernel⟩, List.mem_of_getElem? (i := 23) (by decide +kernel), List.mem_of_getElem? (i := 1232) (by decide +kernel), List.mem_of_getElem? (i := 1233) (by decide +kernel)⟩
theorem lw_p39 : lw_okq (⟨"GivenUp$Courtship", "wouldBolt", "(LGivenUp$Valley;II)Z"⟩, 7) := ⟨⟨by decide +kernel, by decide +kernel⟩, List.mem_of_getElem? (i := 257) (by decide +kernel), List.mem_of_getElem? (i := 1246) (by decide +kernel), List.mem_of_getElem? (i := 1247) (by decide +kernel)⟩
theorem lw_p40 : lw_okq (⟨"GivenUp$Courtship", "dearestMaid", "(LGivenUp$Valley;I)I"⟩, 7) := ⟨⟨by decide +kernel, by decide +kernel⟩, List.mem_of_getElem? (i := 257) (by decide +kernel), List.mem_of_getElem? (i := 1264) (by decide +kernel), List.mem_of_getElem? (i := 1265) (by decide +kernel)⟩
theorem lw_p41 : lw_okq (⟨"GivenUp$Courtship", "refuseOthers", "(LGivenUp$Valley;I)Z"⟩, 7) := ⟨⟨by decide +kernel, by decide +kernel⟩, List.mem_of_getElem? (i := 257) (by decide +kernel), List.mem_of_getElem? (i := 1268) (by decide +kernel), List.mem_of_getElem? (i := 1269) (by decide +kernel)⟩
theorem lw_p42 : lw_okq (⟨"GivenUp", "countOrders", "(I)J"⟩, 20) := ⟨⟨by decide +kernel, by decide +kernel⟩, List.mem_of_getElem? (i := 23) (by decide +kernel), List.mem_of_getElem? (i := 1285) (by decide +kernel), List.mem_of_getElem? (i := 1286) (by decide +kernel)⟩
theorem lw_p43 : lw_okq (⟨"GivenUp", "ordersWithin", "(I)J"⟩, 20) := ⟨⟨by decide +kernel, by decide +kernel⟩, List.mem_of_getElem? (i := 23) (by decide +kernel), List.mem_of_getElem? (i := 1289) (by decide +kernel), List.mem_of_getElem? (i := 1290) (by decide +kernel)⟩
theorem lw_p44 : lw_okq (⟨"GivenUp$Life", "behindEnd", "(LGivenUp$Years;I)I"⟩, 4) := ⟨⟨by decide +kernel, by decide +kernel⟩, List.mem_of_getElem? (i := 290) (by decide +kernel), List.mem_of_getElem? (i := 1336) (by decide +kernel), List.mem_of_getElem? (i := 1337) (by decide +kernel)⟩
theorem lw_p45 : lw_okq (⟨"GivenUp$Life", "behindStep", "(LGivenUp$Valley;LGivenUp$Years;I)I"⟩, 4) := ⟨⟨by decide +kernel, by decide +kernel⟩, List.mem_of_getElem? (i := 290) (by decide +kernel), List.mem_of_getElem? (i := 1340) (by decide +kernel), List.mem_of_getElem? (i := 1341) (by decide +kernel)⟩
theorem lw_p46 : lw_okq (⟨"GivenUp$Life", "isDone", "(LGivenUp$Valley;LGivenUp$Years;I)Z"⟩, 4) := ⟨⟨by decide +kernel, by decide +kernel⟩, List.mem_of_getElem? (i := 290) (by decide +kernel), List.mem_of_getElem? (i := 1350) (by decide +kernel), List.mem_of_getElem? (i := 1351) (by decide +kernel)⟩
theorem lw_p47 : lw_okq (⟨"GivenUp$Life", "counted", "(IZ)Z"⟩, 4) := ⟨⟨by decide +kernel, by decide +kernel⟩, List.mem_of_getElem? (i := 290) (by decide +kernel), List.mem_of_getElem? (i := 1355) (by decide +kernel), List.mem_of_getElem? (i := 1356) (by decide +kernel)⟩
def lw_privs_3 : List (MethodName × Nat) := [(⟨"GivenUp$Plan", "weigh", "(IIII)V"⟩, 17), (⟨"GivenUp$Plan", "isLess", "(III)Z"⟩, 17), (⟨"GivenUp", "canPlan", "(III)Z"⟩, 20), (⟨"GivenUp$Village", "costOf", "(LGivenUp$Valley;III)I"⟩, 6), (⟨"GivenUp$Village", "weighWay", "(LGivenUp$Valley;I)V"⟩, 6), (⟨"GivenUp", "couplesStatus", "(I)I"⟩, 20), (⟨"GivenUp", "rowStatus", "(I)I"⟩, 20), (⟨"GivenUp$Courtship", "wouldBolt", "(LGivenUp$Valley;II)Z"⟩, 7), (⟨"GivenUp$Courtship", "dearestMaid", "(LGivenUp$Valley;I)I"⟩, 7), (⟨"GivenUp$Courtship", "refuseOthers", "(LGivenUp$Valley;I)Z"⟩, 7), (⟨"GivenUp", "countOrders", "(I)J"⟩, 20), (⟨"GivenUp", "ordersWithin", "(I)J"⟩, 20), (⟨"GivenUp$Life", "behindEnd", "(LGivenUp$Years;I)I"⟩, 4), (⟨"GivenUp$Life", "behindStep", "(LGivenUp$Valley;LGivenUp$Years;I)I"⟩, 4), (⟨"GivenUp$Life", "isDone", "(LGivenUp$Valley;LGivenUp$Years;I)Z"⟩, 4), (⟨"GivenUp$Life", "counted", "(IZ)Z"⟩, 4)]
theorem lw_r3 : ∀ q ∈ lw_privs_3, lw_okq q := List.forall_mem_cons.mpr ⟨lw_p32, List.forall_mem_cons.mpr ⟨lw_p33, List.forall_mem_cons.mpr ⟨lw_p34, List.forall_mem_cons.mpr ⟨lw_p35, List.forall_mem_cons.mpr ⟨lw_p36, List.forall_mem_cons.mpr ⟨lw_p37, List.forall_mem_cons.mpr ⟨lw_p38, List.forall_mem_cons.mpr ⟨lw_p39, List.forall_mem_cons.mpr ⟨lw_p40, List.forall_mem_cons.mpr ⟨lw_p41, List.forall_mem_cons.mpr ⟨lw_p42, List.forall_mem_cons.mpr ⟨lw_p43, List.forall_mem_cons.mpr ⟨lw_p44, List.forall_mem_cons.mpr ⟨lw_p45, List.forall_mem_cons.mpr ⟨lw_p46, List.forall_mem_cons.mpr ⟨lw_p47, fun _ h => absurd h List.not_mem_nil⟩⟩⟩⟩⟩⟩⟩⟩⟩⟩⟩⟩⟩⟩⟩⟩
theorem lw_p48 : lw_okq (⟨"GivenUp$Life", "gaveAny", "(LGivenUp$Valley;I)Z"⟩, 4) := ⟨⟨by decide +kernel, by decide +kernel⟩, List.mem_of_getElem? (i := 290) (by decide +kernel), List.mem_of_getElem? (i := 1360) (by decide +kernel), List.mem_of_getElem? (i := 1361) (by decide +kernel)⟩
theorem lw_p49 : lw_okq (⟨"GivenUp$Life", "draw", "(I)I"⟩, 4) := ⟨⟨by decide +kernel, by decide +kernel⟩, List.mem_of_getElem? (i := 290) (by decide +kernel), List.mem_of_getElem? (i := 1366) (by decide +kernel), List.mem_of_getElem? (i := 1367) (by decide +kernel)⟩
theorem lw_p50 : lw_okq (⟨"GivenUpModel", "plain", "(I)V"⟩, 41) := ⟨⟨by decide +kernel, by decide +kernel⟩, List.mem_of_getElem? (i := 1401) (by decide +kernel), List.mem_of_getElem? (i := 1407) (by decide +kernel), List.mem_of_getElem? (i := 1408) (by decide +kernel)⟩
theorem lw_p51 : lw_okq (⟨"GivenUpModel", "is", "(I)Z"⟩, 41) := ⟨⟨by decide +kernel, by decide +kernel⟩, List.mem_of_getElem? (i := 1401) (by decide +kernel), List.mem_of_getElem? (i := 1554) (by decide +kernel), List.mem_of_getElem? (i := 1555) (by decide +kernel)⟩
theorem lw_p52 : lw_okq (⟨"GivenUpModel", "wrongPlace", "(II)I"⟩, 41) := ⟨⟨by decide +kernel, by decide +kernel⟩, List.mem_of_getElem? (i := 1401) (by decide +kernel), List.mem_of_getElem? (i := 1562) (by decide +kernel), List.mem_of_getElem? (i := 1563) (by decide +kernel)⟩
theorem lw_p53 : lw_okq (⟨"GivenUpModel", "four", "(I)V"⟩, 41) := ⟨⟨by decide +kernel, by decide +kernel⟩, List.mem_of_getElem? (i := 1401) (by decide +kernel), List.mem_of_getElem? (i := 1582) (by decide +kernel), List.mem_of_getElem? (i := 1583) (by decide +kernel)⟩
theorem lw_p54 : lw_okq (⟨"GivenUpModel", "begins", "(II)Z"⟩, 41) := ⟨⟨by decide +kernel, by decide +kernel⟩, List.mem_of_getElem? (i := 1401) (by decide +kernel), List.mem_of_getElem? (i := 1594) (by decide +kernel), List.mem_of_getElem? (i := 1595) (by decide +kernel)⟩
theorem lw_p55 : lw_okq (⟨"GivenUpModel", "ahead", "()V"⟩, 41) := ⟨⟨by decide +kernel, by decide +kernel⟩, List.mem_of_getElem? (i := 1401) (by decide +kernel), List.mem_of_getElem? (i := 1598) (by decide +kernel), List.mem_of_getElem? (i := 1599) (by decide +kernel)⟩
theorem lw_p56 : lw_okq (⟨"GivenUpModel", "byteAt", "(I)I"⟩, 41) := ⟨⟨by decide +kernel, by decide +kernel⟩, List.mem_of_getElem? (i := 1401) (by decide +kernel), List.mem_of_getElem? (i := 1602) (by decide +kernel), List.mem_of_getElem? (i := 1603) (by decide +kernel)⟩
theorem lw_p57 : lw_okq (⟨"GivenUpModel", "refuse", "(I)I"⟩, 41) := ⟨⟨by decide +kernel, by decide +kernel⟩, List.mem_of_getElem? (i := 1401) (by decide +kernel), List.mem_of_getElem? (i := 1614) (by decide +kernel), List.mem_of_getElem? (i := 1615) (by decide +kernel)⟩
theorem lw_p58 : lw_okq (⟨"GivenUpModel", "valleyPart", "()Z"⟩, 41) := ⟨⟨by decide +kernel, by decide +kernel⟩, List.mem_of_getElem? (i := 1401) (by decide +kernel), List.mem_of_getElem? (i := 1618) (by decide +kernel), List.mem_of_getElem? (i := 1619) (by decide +kernel)⟩
theorem lw_p59 : lw_okq (⟨"GivenUpModel", "inWords", "(Ljava/lang/String;)I"⟩, 41) := ⟨⟨by decide +kernel, by decide +kernel⟩, List.mem_of_getElem? (i := 1401) (by decide +kernel), List.mem_of_getElem? (i := 1623) (by decide +kernel), List.mem_of_getElem? (i := 1624) (by decide +kernel)⟩
theorem lw_p60 : lw_okq (⟨"GivenUpModel", "aSuitor", "()Z"⟩, 41) := ⟨⟨by decide +kernel, by decide +kernel⟩, List.mem_of_getElem? (i := 1401) (by decide +kernel), List.mem_of_getElem? (i := 1629) (by decide +kernel), List.mem_of_getElem? (i := 1630) (by decide +kernel)⟩
theorem lw_p61 : lw_okq (⟨"GivenUpModel", "newOne", "(III)Z"⟩, 41) := ⟨⟨by decide +kernel, by decide +kernel⟩, List.mem_of_getElem? (i := 1401) (by decide +kernel), List.mem_of_getElem? (i := 1633) (by decide +kernel), List.mem_of_getElem? (i := 1634) (by decide +kernel)⟩
theorem lw_p62 : lw_okq (⟨"GivenUpModel", "fails", "(I)Z"⟩, 41) := ⟨⟨by decide +kernel, by decide +kernel⟩, List.mem_of_getElem? (i := 1401) (by decide +kernel), List.mem_of_getElem? (i := 1637) (by decide +kernel), List.mem_of_getElem? (i := 1638) (by decide +kernel)⟩
theorem lw_p63 : lw_okq (⟨"GivenUpModel", "isName", "(Ljava/lang/String;)Z"⟩, 41) := ⟨⟨by decide +kernel, by decide +kernel⟩, List.mem_of_getElem? (i := 1401) (by decide +kernel), List.mem_of_getElem? (i := 1641) (by decide +kernel), List.mem_of_getElem? (i := 1642) (by decide +kernel)⟩
def lw_privs_4 : List (MethodName × Nat) := [(⟨"GivenUp$Life", "gaveAny", "(LGivenUp$Valley;I)Z"⟩, 4), (⟨"GivenUp$Life", "draw", "(I)I"⟩, 4), (⟨"GivenUpModel", "plain", "(I)V"⟩, 41), (⟨"GivenUpModel", "is", "(I)Z"⟩, 41), (⟨"GivenUpModel", "wrongPlace", "(II)I"⟩, 41), (⟨"GivenUpModel", "four", "(I)V"⟩, 41), (⟨"GivenUpModel", "begins", "(II)Z"⟩, 41), (⟨"GivenUpModel", "ahead", "()V"⟩, 41), (⟨"GivenUpModel", "byteAt", "(I)I"⟩, 41), (⟨"GivenUpModel", "refuse", "(I)I"⟩, 41), (⟨"GivenUpModel", "valleyPart", "()Z"⟩, 41), (⟨"GivenUpModel", "inWords", "(Ljava/lang/String;)I"⟩, 41), (⟨"GivenUpModel", "aSuitor", "()Z"⟩, 41), (⟨"GivenUpModel", "newOne", "(III)Z"⟩, 41), (⟨"GivenUpModel", "fails", "(I)Z"⟩, 41), (⟨"GivenUpModel", "isName", "(Ljava/lang/String;)Z"⟩, 41)]
theorem lw_r4 : ∀ q ∈ lw_privs_4, lw_okq q := List.forall_mem_cons.mpr ⟨lw_p48, List.forall_mem_cons.mpr ⟨lw_p49, List.forall_mem_cons.mpr ⟨lw_p50, List.forall_mem_cons.mpr ⟨lw_p51, List.forall_mem_cons.mpr ⟨lw_p52, List.forall_mem_cons.mpr ⟨lw_p53, List.forall_mem_cons.mpr ⟨lw_p54, List.forall_mem_cons.mpr ⟨lw_p55, List.forall_mem_cons.mpr ⟨lw_p56, List.forall_mem_cons.mpr ⟨lw_p57, List.forall_mem_cons.mpr ⟨lw_p58, List.forall_mem_cons.mpr ⟨lw_p59, List.forall_mem_cons.mpr ⟨lw_p60, List.forall_mem_cons.mpr ⟨lw_p61, List.forall_mem_cons.mpr ⟨lw_p62, List.forall_mem_cons.mpr ⟨lw_p63, fun _ h => absurd h List.not_mem_nil⟩⟩⟩⟩⟩⟩⟩⟩⟩⟩⟩⟩⟩⟩⟩⟩
theorem lw_p64 : lw_okq (⟨"GivenUpModel", "findHere", "(II)I"⟩, 41) := ⟨⟨by decide +kernel, by decide +kernel⟩, List.mem_of_getElem? (i := 1401) (by decide +kernel), List.mem_of_getElem? (i := 1645) (by decide +kernel), List.mem_of_getElem? (i := 1646) (by decide +kernel)⟩
theorem lw_p65 : lw_okq (⟨"GivenUpModel", "nameHere", "()J"⟩, 41) := ⟨⟨by decide +kernel, by decide +kernel⟩, List.mem_of_getElem? (i := 1401) (by decide +kernel), List.mem_of_getElem? (i := 1649) (by decide +kernel), List.mem_of_getElem? (i := 1650) (by decide +kernel)⟩
theorem lw_p66 : lw_okq (⟨"GivenUpModel", "isThere", "(I)Z"⟩, 41) := ⟨⟨by decide +kernel, by decide +kernel⟩, List.mem_of_getElem? (i := 1401) (by decide +kernel), List.mem_of_getElem? (i := 1653) (by decide +kernel), List.mem_of_getElem? (i := 1654) (by decide +kernel)⟩
theorem lw_p67 : lw_okq (⟨"GivenUpModel", "number", "(III)Z"⟩, 41) := ⟨⟨by decide +kernel, by decide +kernel⟩, List.mem_of_getElem? (i := 1401) (by decide +kernel), List.mem_of_getElem? (i := 1657) (by decide +kernel), List.mem_of_getElem? (i := 1658) (by decide +kernel)⟩
theorem lw_p68 : lw_okq (⟨"GivenUpModel", "aMaid", "()Z"⟩, 41) := ⟨⟨by decide +kernel, by decide +kernel⟩, List.mem_of_getElem? (i := 1401) (by decide +kernel), List.mem_of_getElem? (i := 1661) (by decide +kernel), List.mem_of_getElem? (i := 1662) (by decide +kernel)⟩
theorem lw_p69 : lw_okq (⟨"GivenUpModel", "wantWord", "(Ljava/lang/String;I)Z"⟩, 41) := ⟨⟨by decide +kernel, by decide +kernel⟩, List.mem_of_getElem? (i := 1401) (by decide +kernel), List.mem_of_getElem? (i := 1665) (by decide +kernel), List.mem_of_getElem? (i := 1666) (by decide +kernel)⟩
theorem lw_p70 : lw_okq (⟨"GivenUpModel", "aThing", "()Z"⟩, 41) := ⟨⟨by decide +kernel, by decide +kernel⟩, List.mem_of_getElem? (i := 1401) (by decide +kernel), List.mem_of_getElem? (i := 1669) (by decide +kernel), List.mem_of_getElem? (i := 1670) (by decide +kernel)⟩
theorem lw_p71 : lw_okq (⟨"GivenUpModel", "oldOne", "(III)Z"⟩, 41) := ⟨⟨by decide +kernel, by decide +kernel⟩, List.mem_of_getElem? (i := 1401) (by decide +kernel), List.mem_of_getElem? (i := 1673) (by decide +kernel), List.mem_of_getElem? (i := 1674) (by decide +kernel)⟩
theorem lw_p72 : lw_okq (⟨"GivenUpModel", "aSaying", "()Z"⟩, 41) := ⟨⟨by decide +kernel, by decide +kernel⟩, List.mem_of_getElem? (i := 1401) (by decide +kernel), List.mem_of_getElem? (i := 1677) (by decide +kernel), List.mem_of_getElem? (i := 1678) (by decide +kernel)⟩
theorem lw_p73 : lw_okq (⟨"GivenUpModel", "anAfter", "()Z"⟩, 41) := ⟨⟨by decide +kernel, by decide +kernel⟩, List.mem_of_getElem? (i := 1401) (by decide +kernel), List.mem_of_getElem? (i := 1681) (by decide +kernel), List.mem_of_getElem? (i := 1682) (by decide +kernel)⟩
theorem lw_p74 : lw_okq (⟨"GivenUpModel", "aLiking", "()Z"⟩, 41) := ⟨⟨by decide +kernel, by decide +kernel⟩, List.mem_of_getElem? (i := 1401) (by decide +kernel), List.mem_of_getElem? (i := 1685) (by decide +kernel), List.mem_of_getElem? (i := 1686) (by decide +kernel)⟩
theorem lw_p75 : lw_okq (⟨"GivenUpModel", "once", "(I)Z"⟩, 41) := ⟨⟨by decide +kernel, by decide +kernel⟩, List.mem_of_getElem? (i := 1401) (by decide +kernel), List.mem_of_getElem? (i := 1689) (by decide +kernel), List.mem_of_getElem? (i := 1690) (by decide +kernel)⟩
theorem lw_p76 : lw_okq (⟨"GivenUpModel", "wantSign", "(I)Z"⟩, 41) := ⟨⟨by decide +kernel, by decide +kernel⟩, List.mem_of_getElem? (i := 1401) (by decide +kernel), List.mem_of_getElem? (i := 1693) (by decide +kernel), List.mem_of_getElem? (i := 1694) (by decide +kernel)⟩
theorem lw_p77 : lw_okq (⟨"GivenUpModel", "isSign", "(I)Z"⟩, 41) := ⟨⟨by decide +kernel, by decide +kernel⟩, List.mem_of_getElem? (i := 1401) (by decide +kernel), List.mem_of_getElem? (i := 1697) (by decide +kernel), List.mem_of_getElem? (i := 1698) (by decide +kernel)⟩
theorem lw_p78 : lw_okq (⟨"GivenUpModel", "taken", "(I)I"⟩, 41) := ⟨⟨by decide +kernel, by decide +kernel⟩, List.mem_of_getElem? (i := 1401) (by decide +kernel), List.mem_of_getElem? (i := 1701) (by decide +kernel), List.mem_of_getElem? (i := 1702) (by decide +kernel)⟩
theorem lw_p79 : lw_okq (⟨"GivenUpModel", "gives", "(I)I"⟩, 41) := ⟨⟨by decide +kernel, by decide +kernel⟩, List.mem_of_getElem? (i := 1401) (by decide +kernel), List.mem_of_getElem? (i := 1705) (by decide +kernel), List.mem_of_getElem? (i := 1706) (by decide +kernel)⟩
def lw_privs_5 : List (MethodName × Nat) := [(⟨"GivenUpModel", "findHere", "(II)I"⟩, 41), (⟨"GivenUpModel", "nameHere", "()J"⟩, 41), (⟨"GivenUpModel", "isThere", "(I)Z"⟩, 41), (⟨"GivenUpModel", "number", "(III)Z"⟩, 41), (⟨"GivenUpModel", "aMaid", "()Z"⟩, 41), (⟨"GivenUpModel", "wantWord", "(Ljava/lang/String;I)Z"⟩, 41), (⟨"GivenUpModel", "aThing", "()Z"⟩, 41), (⟨"GivenUpModel", "oldOne", "(III)Z"⟩, 41), (⟨"GivenUpModel", "aSaying", "()Z"⟩, 41), (⟨"GivenUpModel", "anAfter", "()Z"⟩, 41), (⟨"GivenUpModel", "aLiking", "()Z"⟩, 41), (⟨"GivenUpModel", "once", "(I)Z"⟩, 41), (⟨"GivenUpModel", "wantSign", "(I)Z"⟩, 41), (⟨"GivenUpModel", "isSign", "(I)Z"⟩, 41), (⟨"GivenUpModel", "taken", "(I)I"⟩, 41), (⟨"GivenUpModel", "gives", "(I)I"⟩, 41)]
theorem lw_r5 : ∀ q ∈ lw_privs_5, lw_okq q := List.forall_mem_cons.mpr ⟨lw_p64, List.forall_mem_cons.mpr ⟨lw_p65, List.forall_mem_cons.mpr ⟨lw_p66, List.forall_mem_cons.mpr ⟨lw_p67, List.forall_mem_cons.mpr ⟨lw_p68, List.forall_mem_cons.mpr ⟨lw_p69, List.forall_mem_cons.mpr ⟨lw_p70, List.forall_mem_cons.mpr ⟨lw_p71, List.forall_mem_cons.mpr ⟨lw_p72, List.forall_mem_cons.mpr ⟨lw_p73, List.forall_mem_cons.mpr ⟨lw_p74, List.forall_mem_cons.mpr ⟨lw_p75, List.forall_mem_cons.mpr ⟨lw_p76, List.forall_mem_cons.mpr ⟨lw_p77, List.forall_mem_cons.mpr ⟨lw_p78, List.forall_mem_cons.mpr ⟨lw_p79, fun _ h => absurd h List.not_mem_nil⟩⟩⟩⟩⟩⟩⟩⟩⟩⟩⟩⟩⟩⟩⟩⟩
theorem lw_p80 : lw_okq (⟨"GivenUpModel", "yearStep", "()Z"⟩, 41) := ⟨⟨by decide +kernel, by decide +kernel⟩, List.mem_of_getElem? (i := 1401) (by decide +kernel), List.mem_of_getElem? (i := 1713) (by decide +kernel), List.mem_of_getElem? (i := 1714) (by decide +kernel)⟩
theorem lw_p81 : lw_okq (⟨"GivenUpModel", "yearOrder", "(II)Z"⟩, 41) := ⟨⟨by decide +kernel, by decide +kernel⟩, List.mem_of_getElem? (i := 1401) (by decide +kernel), List.mem_of_getElem? (i := 1717) (by decide +kernel), List.mem_of_getElem? (i := 1718) (by decide +kernel)⟩
theorem lw_p82 : lw_okq (⟨"GivenUpModel", "suitorTo", "(I)Z"⟩, 41) := ⟨⟨by decide +kernel, by decide +kernel⟩, List.mem_of_getElem? (i := 1401) (by decide +kernel), List.mem_of_getElem? (i := 1721) (by decide +kernel), List.mem_of_getElem? (i := 1722) (by decide +kernel)⟩
theorem lw_p83 : lw_okq (⟨"GivenUpModel", "maidTo", "(I)Z"⟩, 41) := ⟨⟨by decide +kernel, by decide +kernel⟩, List.mem_of_getElem? (i := 1401) (by decide +kernel), List.mem_of_getElem? (i := 1725) (by decide +kernel), List.mem_of_getElem? (i := 1726) (by decide +kernel)⟩
theorem lw_p84 : lw_okq (⟨"GivenUpModel", "test", "(I)Z"⟩, 41) := ⟨⟨by decide +kernel, by decide +kernel⟩, List.mem_of_getElem? (i := 1401) (by decide +kernel), List.mem_of_getElem? (i := 1729) (by decide +kernel), List.mem_of_getElem? (i := 1730) (by decide +kernel)⟩
theorem lw_p85 : lw_okq (⟨"GivenUpModel", "isSuitor", "(I)Z"⟩, 41) := ⟨⟨by decide +kernel, by decide +kernel⟩, List.mem_of_getElem? (i := 1401) (by decide +kernel), List.mem_of_getElem? (i := 1741) (by decide +kernel), List.mem_of_getElem? (i := 1742) (by decide +kernel)⟩
theorem lw_p86 : lw_okq (⟨"GivenUpModel", "thingsOf", "(I)I"⟩, 41) := ⟨⟨by decide +kernel, by decide +kernel⟩, List.mem_of_getElem? (i := 1401) (by decide +kernel), List.mem_of_getElem? (i := 1748) (by decide +kernel), List.mem_of_getElem? (i := 1749) (by decide +kernel)⟩
theorem lw_p87 : lw_okq (⟨"GivenUpModel", "ownerOf", "(I)I"⟩, 41) := ⟨⟨by decide +kernel, by decide +kernel⟩, List.mem_of_getElem? (i := 1401) (by decide +kernel), List.mem_of_getElem? (i := 1752) (by decide +kernel), List.mem_of_getElem? (i := 1753) (by decide +kernel)⟩
theorem lw_p88 : lw_okq (⟨"GivenUpModel", "worthOf", "(I)I"⟩, 41) := ⟨⟨by decide +kernel, by decide +kernel⟩, List.mem_of_getElem? (i := 1401) (by decide +kernel), List.mem_of_getElem? (i := 1759) (by decide +kernel), List.mem_of_getElem? (i := 1760) (by decide +kernel)⟩
theorem lw_p89 : lw_okq (⟨"GivenUpModel", "isIn", "(II)Z"⟩, 41) := ⟨⟨by decide +kernel, by decide +kernel⟩, List.mem_of_getElem? (i := 1401) (by decide +kernel), List.mem_of_getElem? (i := 1763) (by decide +kernel), List.mem_of_getElem? (i := 1764) (by decide +kernel)⟩
theorem lw_p90 : lw_okq (⟨"GivenUpModel", "lossOf", "(I)I"⟩, 41) := ⟨⟨by decide +kernel, by decide +kernel⟩, List.mem_of_getElem? (i := 1401) (by decide +kernel), List.mem_of_getElem? (i := 1767) (by decide +kernel), List.mem_of_getElem? (i := 1768) (by decide +kernel)⟩
theorem lw_p91 : lw_okq (⟨"GivenUpModel", "orNone", "(I)I"⟩, 41) := ⟨⟨by decide +kernel, by decide +kernel⟩, List.mem_of_getElem? (i := 1401) (by decide +kernel), List.mem_of_getElem? (i := 1771) (by decide +kernel), List.mem_of_getElem? (i := 1772) (by decide +kernel)⟩
theorem lw_p92 : lw_okq (⟨"GivenUpModel", "isMaid", "(I)Z"⟩, 41) := ⟨⟨by decide +kernel, by decide +kernel⟩, List.mem_of_getElem? (i := 1401) (by decide +kernel), List.mem_of_getElem? (i := 1779) (by decide +kernel), List.mem_of_getElem? (i := 1780) (by decide +kernel)⟩
theorem lw_p93 : lw_okq (⟨"GivenUpModel", "barIn", "(II)I"⟩, 41) := ⟨⟨by decide +kernel, by decide +kernel⟩, List.mem_of_getElem? (i := 1401) (by decide +kernel), List.mem_of_getElem? (i := 1786) (by decide +kernel), List.mem_of_getElem? (i := 1787) (by decide +kernel)⟩
theorem lw_p94 : lw_okq (⟨"GivenUpModel", "isThing", "(I)Z"⟩, 41) := ⟨⟨by decide +kernel, by decide +kernel⟩, List.mem_of_getElem? (i := 1401) (by decide +kernel), List.mem_of_getElem? (i := 1794) (by decide +kernel), List.mem_of_getElem? (i := 1795) (by decide +kernel)⟩
theorem lw_p95 : lw_okq (⟨"GivenUpModel", "aheadOf", "(I)I"⟩, 41) := ⟨⟨by decide +kernel, by decide +kernel⟩, List.mem_of_getElem? (i := 1401) (by decide +kernel), List.mem_of_getElem? (i := 1798) (by decide +kernel), List.mem_of_getElem? (i := 1799) (by decide +kernel)⟩
def lw_privs_6 : List (MethodName × Nat) := [(⟨"GivenUpModel", "yearStep", "()Z"⟩, 41), (⟨"GivenUpModel", "yearOrder", "(II)Z"⟩, 41), (⟨"GivenUpModel", "suitorTo", "(I)Z"⟩, 41), (⟨"GivenUpModel", "maidTo", "(I)Z"⟩, 41), (⟨"GivenUpModel", "test", "(I)Z"⟩, 41), (⟨"GivenUpModel", "isSuitor", "(I)Z"⟩, 41), (⟨"GivenUpModel", "thingsOf", "(I)I"⟩, 41), (⟨"GivenUpModel", "ownerOf", "(I)I"⟩, 41), (⟨"GivenUpModel", "worthOf", "(I)I"⟩, 41), (⟨"GivenUpModel", "isIn", "(II)Z"⟩, 41), (⟨"GivenUpModel", "lossOf", "(I)I"⟩, 41), (⟨"GivenUpModel", "orNone", "(I)I"⟩, 41), (⟨"GivenUpModel", "isMaid", "(I)Z"⟩, 41), (⟨"GivenUpModel", "barIn", "(II)I"⟩, 41), (⟨"GivenUpModel", "isThing", "(I)Z"⟩, 41), (⟨"GivenUpModel", "aheadOf", "(I)I"⟩, 41)]
theorem lw_r6 : ∀ q ∈ lw_privs_6, lw_okq q := List.forall_mem_cons.mpr ⟨lw_p80, List.forall_mem_cons.mpr ⟨lw_p81, List.forall_mem_cons.mpr ⟨lw_p82, List.forall_mem_cons.mpr ⟨lw_p83, List.forall_mem_cons.mpr ⟨lw_p84, List.forall_mem_cons.mpr ⟨lw_p85, List.forall_mem_cons.mpr ⟨lw_p86, List.forall_mem_cons.mpr ⟨lw_p87, List.forall_mem_cons.mpr ⟨lw_p88, List.forall_mem_cons.mpr ⟨lw_p89, List.forall_mem_cons.mpr ⟨lw_p90, List.forall_mem_cons.mpr ⟨lw_p91, List.forall_mem_cons.mpr ⟨lw_p92, List.forall_mem_cons.mpr ⟨lw_p93, List.forall_mem_cons.mpr ⟨lw_p94, List.forall_mem_cons.mpr ⟨lw_p95, fun _ h => absurd h List.not_mem_nil⟩⟩⟩⟩⟩⟩⟩⟩⟩⟩⟩⟩⟩⟩⟩⟩
theorem lw_p96 : lw_okq (⟨"GivenUpModel", "deepOf", "(I)I"⟩, 41) := ⟨⟨by decide +kernel, by decide +kernel⟩, List.mem_of_getElem? (i := 1401) (by decide +kernel), List.mem_of_getElem? (i := 1802) (by decide +kernel), List.mem_of_getElem? (i := 1803) (by decide +kernel)⟩
theorem lw_p97 : lw_okq (⟨"GivenUpModel", "isNever", "(I)Z"⟩, 41) := ⟨⟨by decide +kernel, by decide +kernel⟩, List.mem_of_getElem? (i := 1401) (by decide +kernel), List.mem_of_getElem? (i := 1806) (by decide +kernel), List.mem_of_getElem? (i := 1807) (by decide +kernel)⟩
theorem lw_p98 : lw_okq (⟨"GivenUpModel", "needsOf", "(I)I"⟩, 41) := ⟨⟨by decide +kernel, by decide +kernel⟩, List.mem_of_getElem? (i := 1401) (by decide +kernel), List.mem_of_getElem? (i := 1810) (by decide +kernel), List.mem_of_getElem? (i := 1811) (by decide +kernel)⟩
theorem lw_p99 : lw_okq (⟨"GivenUpModel", "areBoth", "(II)Z"⟩, 41) := ⟨⟨by decide +kernel, by decide +kernel⟩, List.mem_of_getElem? (i := 1401) (by decide +kernel), List.mem_of_getElem? (i := 1825) (by decide +kernel), List.mem_of_getElem? (i := 1826) (by decide +kernel)⟩
theorem lw_p100 : lw_okq (⟨"GivenUpModel", "parts", "(II)Z"⟩, 41) := ⟨⟨by decide +kernel, by decide +kernel⟩, List.mem_of_getElem? (i := 1401) (by decide +kernel), List.mem_of_getElem? (i := 1833) (by decide +kernel), List.mem_of_getElem? (i := 1834) (by decide +kernel)⟩
theorem lw_p101 : lw_okq (⟨"GivenUpModel", "mayGive", "(I)Z"⟩, 41) := ⟨⟨by decide +kernel, by decide +kernel⟩, List.mem_of_getElem? (i := 1401) (by decide +kernel), List.mem_of_getElem? (i := 1837) (by decide +kernel), List.mem_of_getElem? (i := 1838) (by decide +kernel)⟩
theorem lw_p102 : lw_okq (⟨"GivenUpModel", "hasWed", "(I)Z"⟩, 41) := ⟨⟨by decide +kernel, by decide +kernel⟩, List.mem_of_getElem? (i := 1401) (by decide +kernel), List.mem_of_getElem? (i := 1841) (by decide +kernel), List.mem_of_getElem? (i := 1842) (by decide +kernel)⟩
theorem lw_p103 : lw_okq (⟨"GivenUpModel", "feignedBy", "(I)I"⟩, 41) := ⟨⟨by decide +kernel, by decide +kernel⟩, List.mem_of_getElem? (i := 1401) (by decide +kernel), List.mem_of_getElem? (i := 1849) (by decide +kernel), List.mem_of_getElem? (i := 1850) (by decide +kernel)⟩
theorem lw_p104 : lw_okq (⟨"GivenUpModel", "mayOf", "(I)I"⟩, 41) := ⟨⟨by decide +kernel, by decide +kernel⟩, List.mem_of_getElem? (i := 1401) (by decide +kernel), List.mem_of_getElem? (i := 1861) (by decide +kernel), List.mem_of_getElem? (i := 1862) (by decide +kernel)⟩
theorem lw_p105 : lw_okq (⟨"GivenUpModel", "goesBy", "()Z"⟩, 41) := ⟨⟨by decide +kernel, by decide +kernel⟩, List.mem_of_getElem? (i := 1401) (by decide +kernel), List.mem_of_getElem? (i := 1869) (by decide +kernel), List.mem_of_getElem? (i := 1870) (by decide +kernel)⟩
theorem lw_p106 : lw_okq (⟨"GivenUpModel", "heardOf", "(II)I"⟩, 41) := ⟨⟨by decide +kernel, by decide +kernel⟩, List.mem_of_getElem? (i := 1401) (by decide +kernel), List.mem_of_getElem? (i := 1877) (by decide +kernel), List.mem_of_getElem? (i := 1878) (by decide +kernel)⟩
theorem lw_p107 : lw_okq (⟨"GivenUpModel", "saidBy", "(II)I"⟩, 41) := ⟨⟨by decide +kernel, by decide +kernel⟩, List.mem_of_getElem? (i := 1401) (by decide +kernel), List.mem_of_getElem? (i := 1881) (by decide +kernel), List.mem_of_getElem? (i := 1882) (by decide +kernel)⟩
theorem lw_p108 : lw_okq (⟨"GivenUpModel", "saysYes", "(II)Z"⟩, 41) := ⟨⟨by decide +kernel, by decide +kernel⟩, List.mem_of_getElem? (i := 1401) (by decide +kernel), List.mem_of_getElem? (i := 1889) (by decide +kernel), List.mem_of_getElem? (i := 1890) (by decide +kernel)⟩
theorem lw_p109 : lw_okq (⟨"GivenUpModel", "isWed", "(I)Z"⟩, 41) := ⟨⟨by decide +kernel, by decide +kernel⟩, List.mem_of_getElem? (i := 1401) (by decide +kernel), List.mem_of_getElem? (i := 1893) (by decide +kernel), List.mem_of_getElem? (i := 1894) (by decide +kernel)⟩
theorem lw_p110 : lw_okq (⟨"GivenUpModel", "weds", "(II)Z"⟩, 41) := ⟨⟨by decide +kernel, by decide +kernel⟩, List.mem_of_getElem? (i := 1401) (by decide +kernel), List.mem_of_getElem? (i := 1905) (by decide +kernel), List.mem_of_getElem? (i := 1906) (by decide +kernel)⟩
theorem lw_p111 : lw_okq (⟨"GivenUpModel", "comesBack", "(I)Z"⟩, 41) := ⟨⟨by decide +kernel, by decide +kernel⟩, List.mem_of_getElem? (i := 1401) (by decide +kernel), List.mem_of_getElem? (i := 1913) (by decide +kernel), List.mem_of_getElem? (i := 1914) (by decide +kernel)⟩
def lw_privs_7 : List (MethodName × Nat) := [(⟨"GivenUpModel", "deepOf", "(I)I"⟩, 41), (⟨"GivenUpModel", "isNever", "(I)Z"⟩, 41), (⟨"GivenUpModel", "needsOf", "(I)I"⟩, 41), (⟨"GivenUpModel", "areBoth", "(II)Z"⟩, 41), (⟨"GivenUpModel", "parts", "(II)Z"⟩, 41), (⟨"GivenUpModel", "mayGive", "(I)Z"⟩, 41), (⟨"GivenUpModel", "hasWed", "(I)Z"⟩, 41), (⟨"GivenUpModel", "feignedBy", "(I)I"⟩, 41), (⟨"GivenUpModel", "mayOf", "(I)I"⟩, 41), (⟨"GivenUpModel", "goesBy", "()Z"⟩, 41), (⟨"GivenUpModel", "heardOf", "(II)I"⟩, 41), (⟨"GivenUpModel", "saidBy", "(II)I"⟩, 41), (⟨"GivenUpModel", "saysYes", "(II)Z"⟩, 41), (⟨"GivenUpModel", "isWed", "(I)Z"⟩, 41), (⟨"GivenUpModel", "weds", "(II)Z"⟩, 41), (⟨"GivenUpModel", "comesBack", "(I)Z"⟩, 41)]
theorem lw_r7 : ∀ q ∈ lw_privs_7, lw_okq q := List.forall_mem_cons.mpr ⟨lw_p96, List.forall_mem_cons.mpr ⟨lw_p97, List.forall_mem_cons.mpr ⟨lw_p98, List.forall_mem_cons.mpr ⟨lw_p99, List.forall_mem_cons.mpr ⟨lw_p100, List.forall_mem_cons.mpr ⟨lw_p101, List.forall_mem_cons.mpr ⟨lw_p102, List.forall_mem_cons.mpr ⟨lw_p103, List.forall_mem_cons.mpr ⟨lw_p104, List.forall_mem_cons.mpr ⟨lw_p105, List.forall_mem_cons.mpr ⟨lw_p106, List.forall_mem_cons.mpr ⟨lw_p107, List.forall_mem_cons.mpr ⟨lw_p108, List.forall_mem_cons.mpr ⟨lw_p109, List.forall_mem_cons.mpr ⟨lw_p110, List.forall_mem_cons.mpr ⟨lw_p111, fun _ h => absurd h List.not_mem_nil⟩⟩⟩⟩⟩⟩⟩⟩⟩⟩⟩⟩⟩⟩⟩⟩
theorem lw_p112 : lw_okq (⟨"GivenUpModel", "isFair", "()Z"⟩, 41) := ⟨⟨by decide +kernel, by decide +kernel⟩, List.mem_of_getElem? (i := 1401) (by decide +kernel), List.mem_of_getElem? (i := 1918) (by decide +kernel), List.mem_of_getElem? (i := 1919) (by decide +kernel)⟩
theorem lw_p113 : lw_okq (⟨"GivenUpModel", "behindIt", "(I)I"⟩, 41) := ⟨⟨by decide +kernel, by decide +kernel⟩, List.mem_of_getElem? (i := 1401) (by decide +kernel), List.mem_of_getElem? (i := 1922) (by decide +kernel), List.mem_of_getElem? (i := 1923) (by decide +kernel)⟩
theorem lw_p114 : lw_okq (⟨"GivenUpModel", "isBare", "(I)Z"⟩, 41) := ⟨⟨by decide +kernel, by decide +kernel⟩, List.mem_of_getElem? (i := 1401) (by decide +kernel), List.mem_of_getElem? (i := 1934) (by decide +kernel), List.mem_of_getElem? (i := 1935) (by decide +kernel)⟩
theorem lw_p115 : lw_okq (⟨"GivenUpModel", "prefers", "(III)Z"⟩, 41) := ⟨⟨by decide +kernel, by decide +kernel⟩, List.mem_of_getElem? (i := 1401) (by decide +kernel), List.mem_of_getElem? (i := 1942) (by decide +kernel), List.mem_of_getElem? (i := 1943) (by decide +kernel)⟩
theorem lw_p116 : lw_okq (⟨"GivenUpModel", "tellsBy", "(JJ)Z"⟩, 41) := ⟨⟨by decide +kernel, by decide +kernel⟩, List.mem_of_getElem? (i := 1401) (by decide +kernel), List.mem_of_getElem? (i := 1958) (by decide +kernel), List.mem_of_getElem? (i := 1959) (by decide +kernel)⟩
theorem lw_p117 : lw_okq (⟨"GivenUpModel", "wrongPlan", "(III)I"⟩, 41) := ⟨⟨by decide +kernel, by decide +kernel⟩, List.mem_of_getElem? (i := 1401) (by decide +kernel), List.mem_of_getElem? (i := 1979) (by decide +kernel), List.mem_of_getElem? (i := 1980) (by decide +kernel)⟩
theorem lw_p118 : lw_okq (⟨"GivenUpModel", "planOf", "(IIII)I"⟩, 41) := ⟨⟨by decide +kernel, by decide +kernel⟩, List.mem_of_getElem? (i := 1401) (by decide +kernel), List.mem_of_getElem? (i := 1986) (by decide +kernel), List.mem_of_getElem? (i := 1987) (by decide +kernel)⟩
theorem lw_p119 : lw_okq (⟨"GivenUpModel", "laysCan", "(I)I"⟩, 41) := ⟨⟨by decide +kernel, by decide +kernel⟩, List.mem_of_getElem? (i := 1401) (by decide +kernel), List.mem_of_getElem? (i := 1990) (by decide +kernel), List.mem_of_getElem? (i := 1991) (by decide +kernel)⟩
theorem lw_p120 : lw_okq (⟨"GivenUpModel", "weeksFor", "(II)I"⟩, 41) := ⟨⟨by decide +kernel, by decide +kernel⟩, List.mem_of_getElem? (i := 1401) (by decide +kernel), List.mem_of_getElem? (i := 1994) (by decide +kernel), List.mem_of_getElem? (i := 1995) (by decide +kernel)⟩
theorem lw_p121 : lw_okq (⟨"GivenUpModel", "isLess", "(IIII)Z"⟩, 41) := ⟨⟨by decide +kernel, by decide +kernel⟩, List.mem_of_getElem? (i := 1401) (by decide +kernel), List.mem_of_getElem? (i := 1998) (by decide +kernel), List.mem_of_getElem? (i := 1999) (by decide +kernel)⟩
theorem lw_p122 : lw_okq (⟨"GivenUpModel", "soonestOf", "(II)I"⟩, 41) := ⟨⟨by decide +kernel, by decide +kernel⟩, List.mem_of_getElem? (i := 1401) (by decide +kernel), List.mem_of_getElem? (i := 2014) (by decide +kernel), List.mem_of_getElem? (i := 2015) (by decide +kernel)⟩
theorem lw_p123 : lw_okq (⟨"GivenUpModel", "lossBy", "(III)I"⟩, 41) := ⟨⟨by decide +kernel, by decide +kernel⟩, List.mem_of_getElem? (i := 1401) (by decide +kernel), List.mem_of_getElem? (i := 2031) (by decide +kernel), List.mem_of_getElem? (i := 2032) (by decide +kernel)⟩
theorem lw_p124 : lw_okq (⟨"GivenUpModel", "laysVillage", "(I)V"⟩, 41) := ⟨⟨by decide +kernel, by decide +kernel⟩, List.mem_of_getElem? (i := 1401) (by decide +kernel), List.mem_of_getElem? (i := 2043) (by decide +kernel), List.mem_of_getElem? (i := 2044) (by decide +kernel)⟩
theorem lw_p125 : lw_okq (⟨"GivenUpModel", "wrongCouples", "(I)I"⟩, 41) := ⟨⟨by decide +kernel, by decide +kernel⟩, List.mem_of_getElem? (i := 1401) (by decide +kernel), List.mem_of_getElem? (i := 2055) (by decide +kernel), List.mem_of_getElem? (i := 2056) (by decide +kernel)⟩
theorem lw_p126 : lw_okq (⟨"GivenUpModel", "doBolt", "(III)Z"⟩, 41) := ⟨⟨by decide +kernel, by decide +kernel⟩, List.mem_of_getElem? (i := 1401) (by decide +kernel), List.mem_of_getElem? (i := 2059) (by decide +kernel), List.mem_of_getElem? (i := 2060) (by decide +kernel)⟩
theorem lw_p127 : lw_okq (⟨"GivenUpModel", "allAsk", "()V"⟩, 41) := ⟨⟨by decide +kernel, by decide +kernel⟩, List.mem_of_getElem? (i := 1401) (by decide +kernel), List.mem_of_getElem? (i := 2071) (by decide +kernel), List.mem_of_getElem? (i := 2072) (by decide +kernel)⟩
def lw_privs_8 : List (MethodName × Nat) := [(⟨"GivenUpModel", "isFair", "()Z"⟩, 41), (⟨"GivenUpModel", "behindIt", "(I)I"⟩, 41), (⟨"GivenUpModel", "isBare", "(I)Z"⟩, 41), (⟨"GivenUpModel", "prefers", "(III)Z"⟩, 41), (⟨"GivenUpModel", "tellsBy", "(JJ)Z"⟩, 41), (⟨"GivenUpModel", "wrongPlan", "(III)I"⟩, 41), (⟨"GivenUpModel", "planOf", "(IIII)I"⟩, 41), (⟨"GivenUpModel", "laysCan", "(I)I"⟩, 41), (⟨"GivenUpModel", "weeksFor", "(II)I"⟩, 41), (⟨"GivenUpModel", "isLess", "(IIII)Z"⟩, 41), (⟨"GivenUpModel", "soonestOf", "(II)I"⟩, 41), (⟨"GivenUpModel", "lossBy", "(III)I"⟩, 41), (⟨"GivenUpModel", "laysVillage", "(I)V"⟩, 41), (⟨"GivenUpModel", "wrongCouples", "(I)I"⟩, 41), (⟨"GivenUpModel", "doBolt", "(III)Z"⟩, 41), (⟨"GivenUpModel", "allAsk", "()V"⟩, 41)]
theorem lw_r8 : ∀ q ∈ lw_privs_8, lw_okq q := List.forall_mem_cons.mpr ⟨lw_p112, List.forall_mem_cons.mpr ⟨lw_p113, List.forall_mem_cons.mpr ⟨lw_p114, List.forall_mem_cons.mpr ⟨lw_p115, List.forall_mem_cons.mpr ⟨lw_p116, List.forall_mem_cons.mpr ⟨lw_p117, List.forall_mem_cons.mpr ⟨lw_p118, List.forall_mem_cons.mpr ⟨lw_p119, List.forall_mem_cons.mpr ⟨lw_p120, List.forall_mem_cons.mpr ⟨lw_p121, List.forall_mem_cons.mpr ⟨lw_p122, List.forall_mem_cons.mpr ⟨lw_p123, List.forall_mem_cons.mpr ⟨lw_p124, List.forall_mem_cons.mpr ⟨lw_p125, List.forall_mem_cons.mpr ⟨lw_p126, List.forall_mem_cons.mpr ⟨lw_p127, fun _ h => absurd h List.not_mem_nil⟩⟩⟩⟩⟩⟩⟩⟩⟩⟩⟩⟩⟩⟩⟩⟩
theorem lw_p128 : lw_okq (⟨"GivenUpModel", "isKept", "(I)Z"⟩, 41) := ⟨⟨by decide +kernel, by decide +kernel⟩, List.mem_of_getElem? (i := 1401) (by decide +kernel), List.mem_of_getElem? (i := 2075) (by decide +kernel), List.mem_of_getElem? (i := 2076) (by decide +kernel)⟩
theorem lw_p129 : lw_okq (⟨"GivenUpModel", "askedBy", "(I)I"⟩, 41) := ⟨⟨by decide +kernel, by decide +kernel⟩, List.mem_of_getElem? (i := 1401) (by decide +kernel), List.mem_of_getElem? (i := 2079) (by decide +kernel), List.mem_of_getElem? (i := 2080) (by decide +kernel)⟩
theorem lw_p130 : lw_okq (⟨"GivenUpModel", "keeperOf", "(I)I"⟩, 41) := ⟨⟨by decide +kernel, by decide +kernel⟩, List.mem_of_getElem? (i := 1401) (by decide +kernel), List.mem_of_getElem? (i := 2083) (by decide +kernel), List.mem_of_getElem? (i := 2084) (by decide +kernel)⟩
theorem lw_p131 : lw_okq (⟨"GivenUpModel", "ordersOf", "(I)J"⟩, 41) := ⟨⟨by decide +kernel, by decide +kernel⟩, List.mem_of_getElem? (i := 1401) (by decide +kernel), List.mem_of_getElem? (i := 2099) (by decide +kernel), List.mem_of_getElem? (i := 2100) (by decide +kernel)⟩
theorem lw_p132 : lw_okq (⟨"GivenUpModel", "givesLong", "(J)J"⟩, 41) := ⟨⟨by decide +kernel, by decide +kernel⟩, List.mem_of_getElem? (i := 1401) (by decide +kernel), List.mem_of_getElem? (i := 2103) (by decide +kernel), List.mem_of_getElem? (i := 2104) (by decide +kernel)⟩
theorem lw_p133 : lw_okq (⟨"GivenUpModel", "neverOf", "(I)I"⟩, 41) := ⟨⟨by decide +kernel, by decide +kernel⟩, List.mem_of_getElem? (i := 1401) (by decide +kernel), List.mem_of_getElem? (i := 2119) (by decide +kernel), List.mem_of_getElem? (i := 2120) (by decide +kernel)⟩
theorem lw_p134 : lw_okq (⟨"GivenUpModel", "lives", "(I)V"⟩, 41) := ⟨⟨by decide +kernel, by decide +kernel⟩, List.mem_of_getElem? (i := 1401) (by decide +kernel), List.mem_of_getElem? (i := 2140) (by decide +kernel), List.mem_of_getElem? (i := 2141) (by decide +kernel)⟩
theorem lw_p135 : lw_okq (⟨"GivenUpModel", "does", "(I)Z"⟩, 41) := ⟨⟨by decide +kernel, by decide +kernel⟩, List.mem_of_getElem? (i := 1401) (by decide +kernel), List.mem_of_getElem? (i := 2144) (by decide +kernel), List.mem_of_getElem? (i := 2145) (by decide +kernel)⟩
theorem lw_p136 : lw_okq (⟨"GivenUpModel", "partsBy", "(I)Z"⟩, 41) := ⟨⟨by decide +kernel, by decide +kernel⟩, List.mem_of_getElem? (i := 1401) (by decide +kernel), List.mem_of_getElem? (i := 2148) (by decide +kernel), List.mem_of_getElem? (i := 2149) (by decide +kernel)⟩
theorem lw_p137 : lw_okq (⟨"GivenUpModel", "givesAny", "(I)Z"⟩, 41) := ⟨⟨by decide +kernel, by decide +kernel⟩, List.mem_of_getElem? (i := 1401) (by decide +kernel), List.mem_of_getElem? (i := 2152) (by decide +kernel), List.mem_of_getElem? (i := 2153) (by decide +kernel)⟩
theorem lw_p138 : lw_okq (⟨"GivenUpModel", "draw", "(I)I"⟩, 41) := ⟨⟨by decide +kernel, by decide +kernel⟩, List.mem_of_getElem? (i := 1401) (by decide +kernel), List.mem_of_getElem? (i := 2156) (by decide +kernel), List.mem_of_getElem? (i := 2157) (by decide +kernel)⟩
theorem lw_p139 : lw_okq (⟨"GivenUpModel", "holds", "(I)Z"⟩, 41) := ⟨⟨by decide +kernel, by decide +kernel⟩, List.mem_of_getElem? (i := 1401) (by decide +kernel), List.mem_of_getElem? (i := 2161) (by decide +kernel), List.mem_of_getElem? (i := 2162) (by decide +kernel)⟩
theorem lw_p140 : lw_okq (⟨"GivenUpModel", "behindEnds", "(I)I"⟩, 41) := ⟨⟨by decide +kernel, by decide +kernel⟩, List.mem_of_getElem? (i := 1401) (by decide +kernel), List.mem_of_getElem? (i := 2165) (by decide +kernel), List.mem_of_getElem? (i := 2166) (by decide +kernel)⟩
theorem lw_p141 : lw_okq (⟨"GivenUpModel", "copies", "(II)V"⟩, 41) := ⟨⟨by decide +kernel, by decide +kernel⟩, List.mem_of_getElem? (i := 1401) (by decide +kernel), List.mem_of_getElem? (i := 2182) (by decide +kernel), List.mem_of_getElem? (i := 2183) (by decide +kernel)⟩
def lw_privs_9 : List (MethodName × Nat) := [(⟨"GivenUpModel", "isKept", "(I)Z"⟩, 41), (⟨"GivenUpModel", "askedBy", "(I)I"⟩, 41), (⟨"GivenUpModel", "keeperOf", "(I)I"⟩, 41), (⟨"GivenUpModel", "ordersOf", "(I)J"⟩, 41), (⟨"GivenUpModel", "givesLong", "(J)J"⟩, 41), (⟨"GivenUpModel", "neverOf", "(I)I"⟩, 41), (⟨"GivenUpModel", "lives", "(I)V"⟩, 41), (⟨"GivenUpModel", "does", "(I)Z"⟩, 41), (⟨"GivenUpModel", "partsBy", "(I)Z"⟩, 41), (⟨"GivenUpModel", "givesAny", "(I)Z"⟩, 41), (⟨"GivenUpModel", "draw", "(I)I"⟩, 41), (⟨"GivenUpModel", "holds", "(I)Z"⟩, 41), (⟨"GivenUpModel", "behindEnds", "(I)I"⟩, 41), (⟨"GivenUpModel", "copies", "(II)V"⟩, 41)]
theorem lw_r9 : ∀ q ∈ lw_privs_9, lw_okq q := List.forall_mem_cons.mpr ⟨lw_p128, List.forall_mem_cons.mpr ⟨lw_p129, List.forall_mem_cons.mpr ⟨lw_p130, List.forall_mem_cons.mpr ⟨lw_p131, List.forall_mem_cons.mpr ⟨lw_p132, List.forall_mem_cons.mpr ⟨lw_p133, List.forall_mem_cons.mpr ⟨lw_p134, List.forall_mem_cons.mpr ⟨lw_p135, List.forall_mem_cons.mpr ⟨lw_p136, List.forall_mem_cons.mpr ⟨lw_p137, List.forall_mem_cons.mpr ⟨lw_p138, List.forall_mem_cons.mpr ⟨lw_p139, List.forall_mem_cons.mpr ⟨lw_p140, List.forall_mem_cons.mpr ⟨lw_p141, fun _ h => absurd h List.not_mem_nil⟩⟩⟩⟩⟩⟩⟩⟩⟩⟩⟩⟩⟩⟩
def lw_privs : List (MethodName × Nat) := lw_privs_1 ++ (lw_privs_2 ++ (lw_privs_3 ++ (lw_privs_4 ++ (lw_privs_5 ++ (lw_privs_6 ++ (lw_privs_7 ++ (lw_privs_8 ++ (lw_privs_9))))))))
def lw_tbl : List Cond := k2_sels lw_privs ++ tables_1
theorem lw_privs_ok : ∀ q ∈ lw_privs, lw_okq q := by
  show ∀ q ∈ lw_privs_1 ++ (lw_privs_2 ++ (lw_privs_3 ++ (lw_privs_4 ++ (lw_privs_5 ++ (lw_privs_6 ++ (lw_privs_7 ++ (lw_privs_8 ++ (lw_privs_9)))))))), lw_okq q
  exact List.forall_mem_append.mpr ⟨lw_r1, List.forall_mem_append.mpr ⟨lw_r2, List.forall_mem_append.mpr ⟨lw_r3, List.forall_mem_append.mpr ⟨lw_r4, List.forall_mem_append.mpr ⟨lw_r5, List.forall_mem_append.mpr ⟨lw_r6, List.forall_mem_append.mpr ⟨lw_r7, List.forall_mem_append.mpr ⟨lw_r8, lw_r9⟩⟩⟩⟩⟩⟩⟩⟩

/-! PART 01: the names and tables of the program -/
def RX0 : String := "GivenUp$Courtship"
def TX0 : u_T := fun k => match k with
  | 0 => ("GivenUp$Courtship", "own", "[I", true)
  | 1 => ("GivenUp$Courtship", "noes", "[I", true)
  | 2 => ("GivenUp$Courtship", "maidOf", "[I", true)
  | 3 => ("GivenUp$Courtship", "bolting", "I", false)
  | 4 => ("GivenUp$Courtship", "firstSuitor", "I", false)
  | 5 => ("GivenUp$Courtship", "firstMaid", "I", false)
  | _ => ("GivenUp$Courtship", "refused", "I", false)
def RX1 : String := "GivenUp$Deeds"
def TX1 : u_T := fun k => match k with
  | 0 => ("GivenUp$Deeds", "cows", "[I", true)
  | 1 => ("GivenUp$Deeds", "thisWeek", "[I", true)
  | 2 => ("GivenUp$Deeds", "maidOf", "[I", true)
  | 3 => ("GivenUp$Deeds", "suitorOf", "[I", true)
  | 4 => ("GivenUp$Deeds", "week", "I", false)
  | 5 => ("GivenUp$Deeds", "given", "I", false)
  | _ => ("GivenUp$Deeds", "feigned", "I", false)
def RX2 : String := "GivenUp$Life"
def TX2 : u_T := fun k => match k with
  | 0 => ("GivenUp$Life", "roundsLeft", "[I", true)
  | 1 => ("GivenUp$Life", "tally", "[I", true)
  | 2 => ("GivenUp$Life", "steps", "I", false)
  | _ => ("GivenUp$Life", "drawn", "I", false)
def RX3 : String := "GivenUp$Plan"
def TX3 : u_T := fun k => match k with
  | 0 => ("GivenUp$Plan", "item", "[I", true)
  | 1 => ("GivenUp$Plan", "itemWorth", "[I", true)
  | 2 => ("GivenUp$Plan", "itemWord", "[I", true)
  | 3 => ("GivenUp$Plan", "itemAfter", "[I", true)
  | 4 => ("GivenUp$Plan", "items", "I", false)
  | 5 => ("GivenUp$Plan", "given", "I", false)
  | 6 => ("GivenUp$Plan", "leftNow", "I", false)
  | 7 => ("GivenUp$Plan", "weekly", "I", false)
  | 8 => ("GivenUp$Plan", "room", "I", false)
  | 9 => ("GivenUp$Plan", "bar", "I", false)
  | 10 => ("GivenUp$Plan", "rises", "I", false)
  | 11 => ("GivenUp$Plan", "size", "I", false)
  | 12 => ("GivenUp$Plan", "worth", "I", false)
  | 13 => ("GivenUp$Plan", "set", "I", false)
  | 14 => ("GivenUp$Plan", "fewest", "I", false)
  | 15 => ("GivenUp$Plan", "soonest", "I", false)
  | _ => ("GivenUp$Plan", "most", "I", false)
def RX4 : String := "GivenUp$Text"
def TX4 : u_T := fun k => match k with
  | 0 => ("GivenUp$Text", "tape", "[B", true)
  | 1 => ("GivenUp$Text", "own", "[J", true)
  | 2 => ("GivenUp$Text", "end", "I", false)
  | 3 => ("GivenUp$Text", "next", "I", false)
  | 4 => ("GivenUp$Text", "start", "I", false)
  | 5 => ("GivenUp$Text", "fed", "I", false)
  | 6 => ("GivenUp$Text", "kind", "I", false)
  | 7 => ("GivenUp$Text", "number", "I", false)
  | 8 => ("GivenUp$Text", "name", "J", false)
  | 9 => ("GivenUp$Text", "fault", "I", false)
  | _ => ("GivenUp$Text", "faultPlace", "I", false)
def RX5 : String := "GivenUp$Tray"
def TX5 : u_T := fun k => match k with
  | 0 => ("GivenUp$Tray", "row", "[J", true)
  | 1 => ("GivenUp$Tray", "there", "Z", false)
  | 2 => ("GivenUp$Tray", "sort", "I", false)
  | _ => ("GivenUp$Tray", "many", "I", false)
def RX6 : String := "GivenUp$Valley"
def TX6 : u_T := fun k => match k with
  | 0 => ("GivenUp$Valley", "names", "[J", true)
  | 1 => ("GivenUp$Valley", "age", "[I", true)
  | 2 => ("GivenUp$Valley", "liking", "[I", true)
  | 3 => ("GivenUp$Valley", "bars", "[I", true)
  | 4 => ("GivenUp$Valley", "rises", "[I", true)
  | 5 => ("GivenUp$Valley", "mother", "[I", true)
  | 6 => ("GivenUp$Valley", "of", "[I", true)
  | 7 => ("GivenUp$Valley", "worth", "[I", true)
  | 8 => ("GivenUp$Valley", "after", "[I", true)
  | 9 => ("GivenUp$Valley", "need", "[I", true)
  | 10 => ("GivenUp$Valley", "say", "[I", true)
  | 11 => ("GivenUp$Valley", "deeds", "LGivenUp$Deeds;", true)
  | 12 => ("GivenUp$Valley", "years", "LGivenUp$Years;", true)
  | 13 => ("GivenUp$Valley", "suitors", "I", false)
  | 14 => ("GivenUp$Valley", "maids", "I", false)
  | 15 => ("GivenUp$Valley", "things", "I", false)
  | 16 => ("GivenUp$Valley", "afters", "I", false)
  | 17 => ("GivenUp$Valley", "weekly", "I", false)
  | 18 => ("GivenUp$Valley", "fair", "I", false)
  | _ => ("GivenUp$Valley", "hopeless", "I", false)
def RX7 : String := "GivenUp$ValleyReader"
def TX7 : u_T := fun k => match k with
  | 0 => ("GivenUp$ValleyReader", "in", "LGivenUp$Text;", true)
  | 1 => ("GivenUp$ValleyReader", "weeklyTold", "Z", false)
  | _ => ("GivenUp$ValleyReader", "fairTold", "Z", false)
def RX8 : String := "GivenUp$Village"
def TX8 : u_T := fun k => match k with
  | 0 => ("GivenUp$Village", "plan", "LGivenUp$Plan;", true)
  | 1 => ("GivenUp$Village", "cost", "[I", true)
  | 2 => ("GivenUp$Village", "tried", "[I", true)
  | 3 => ("GivenUp$Village", "chosen", "[I", true)
  | 4 => ("GivenUp$Village", "couples", "I", false)
  | _ => ("GivenUp$Village", "loss", "I", false)
def RX9 : String := "GivenUp$Years"
def TX9 : u_T := fun k => match k with
  | 0 => ("GivenUp$Years", "act", "[I", true)
  | 1 => ("GivenUp$Years", "who", "[I", true)
  | 2 => ("GivenUp$Years", "whom", "[I", true)
  | 3 => ("GivenUp$Years", "compare", "[I", true)
  | 4 => ("GivenUp$Years", "number", "[I", true)
  | 5 => ("GivenUp$Years", "link", "[I", true)
  | 6 => ("GivenUp$Years", "there", "Z", false)
  | 7 => ("GivenUp$Years", "steps", "I", false)
  | _ => ("GivenUp$Years", "lines", "I", false)
def RX10 : String := "GivenUp$YearsReader"
def TX10 : u_T := fun k => match k with
  | 0 => ("GivenUp$YearsReader", "in", "LGivenUp$Text;", true)
  | 1 => ("GivenUp$YearsReader", "open", "[I", true)
  | _ => ("GivenUp$YearsReader", "opened", "I", false)
def RX11 : String := "GivenUp"
def TX11 : u_T := fun k => match k with
  | 0 => ("GivenUp", "trays", "[LGivenUp$Tray;", true)
  | 1 => ("GivenUp", "text", "LGivenUp$Text;", true)
  | 2 => ("GivenUp", "valleyReader", "LGivenUp$ValleyReader;", true)
  | 3 => ("GivenUp", "yearsReader", "LGivenUp$YearsReader;", true)
  | 4 => ("GivenUp", "marks", "[LGivenUp$Valley;", true)
  | 5 => ("GivenUp", "plan", "LGivenUp$Plan;", true)
  | 6 => ("GivenUp", "matches", "LGivenUp$Village;", true)
  | 7 => ("GivenUp", "courtship", "LGivenUp$Courtship;", true)
  | 8 => ("GivenUp", "life", "LGivenUp$Life;", true)
  | 9 => ("GivenUp", "orderRow", "[J", true)
  | 10 => ("GivenUp", "latest", "[I", true)
  | 11 => ("GivenUp", "hasLived", "Z", false)
  | 12 => ("GivenUp", "now", "LGivenUp$Valley;", false)
  | 13 => ("GivenUp", "spare", "LGivenUp$Valley;", false)
  | 14 => ("GivenUp", "marked", "I", false)
  | 15 => ("GivenUp", "status", "I", false)
  | 16 => ("GivenUp", "fractionTop", "J", false)
  | 17 => ("GivenUp", "fractionBottom", "J", false)
  | 18 => ("GivenUp", "faultKind", "I", false)
  | _ => ("GivenUp", "faultPlace", "I", false)
def RX12 : String := "GivenUpModel"
def TX12 : u_T := fun k => match k with
  | 0 => ("GivenUpModel", "at", "[I", true)
  | 1 => ("GivenUpModel", "names", "[J", true)
  | 2 => ("GivenUpModel", "status", "I", false)
  | 3 => ("GivenUpModel", "top", "J", false)
  | 4 => ("GivenUpModel", "bottom", "J", false)
  | 5 => ("GivenUpModel", "sort", "[I", true)
  | 6 => ("GivenUpModel", "trayMany", "[I", true)
  | 7 => ("GivenUpModel", "trays", "[J", true)
  | 8 => ("GivenUpModel", "tape", "[B", true)
  | 9 => ("GivenUpModel", "text", "[B", true)
  | 10 => ("GivenUpModel", "taped", "I", false)
  | 11 => ("GivenUpModel", "size", "I", false)
  | 12 => ("GivenUpModel", "token", "I", false)
  | 13 => ("GivenUpModel", "from", "I", false)
  | 14 => ("GivenUpModel", "end", "I", false)
  | 15 => ("GivenUpModel", "value", "I", false)
  | 16 => ("GivenUpModel", "faultKind", "I", false)
  | 17 => ("GivenUpModel", "faultPlace", "I", false)
  | 18 => ("GivenUpModel", "faults", "I", false)
  | 19 => ("GivenUpModel", "seen", "I", false)
  | 20 => ("GivenUpModel", "told0", "I", false)
  | 21 => ("GivenUpModel", "opened", "[I", true)
  | 22 => ("GivenUpModel", "depth", "I", false)
  | 23 => ("GivenUpModel", "counted", "I", false)
  | 24 => ("GivenUpModel", "can", "[I", true)
  | 25 => ("GivenUpModel", "loss", "[I", true)
  | 26 => ("GivenUpModel", "tried", "[I", true)
  | 27 => ("GivenUpModel", "best", "[I", true)
  | 28 => ("GivenUpModel", "bestMany", "I", false)
  | 29 => ("GivenUpModel", "bestLoss", "I", false)
  | 30 => ("GivenUpModel", "keeps", "[I", true)
  | 31 => ("GivenUpModel", "refused", "[I", true)
  | 32 => ("GivenUpModel", "refusals0", "I", false)
  | 33 => ("GivenUpModel", "ways0", "[J", true)
  | 34 => ("GivenUpModel", "drawn", "I", false)
  | 35 => ("GivenUpModel", "ranSteps", "I", false)
  | 36 => ("GivenUpModel", "loops", "[I", true)
  | 37 => ("GivenUpModel", "ran", "[I", true)
  | 38 => ("GivenUpModel", "told1", "[I", true)
  | 39 => ("GivenUpModel", "isTold", "Z", false)
  | _ => ("GivenUpModel", "marks", "I", false)
abbrev vwCl : List vw_C := [(RX0, TX0, 7), (RX1, TX1, 7), (RX2, TX2, 4), (RX3, TX3, 17), (RX4, TX4, 11), (RX5, TX5, 4), (RX6, TX6, 20), (RX7, TX7, 3), (RX8, TX8, 6), (RX9, TX9, 9), (RX10, TX10, 3), (RX11, TX11, 20), (RX12, TX12, 41)]
def TBL : List Cond := lw_tbl.filter goodWord
theorem TBL_mem {w : Cond} (i : Nat) (h : lw_tbl[i]? = some w) (hg : goodWord w = true) : w ∈ TBL := List.mem_filter.mpr ⟨List.mem_of_getElem? h, hg⟩
theorem TBL_lw {w : Cond} (h : w ∈ TBL) : w ∈ lw_tbl := (List.mem_filter.mp h).1
theorem TBL_good {w : Cond} (h : w ∈ TBL) : goodWord w = true := (List.mem_filter.mp h).2
theorem TBL_list {ws : List Cond} (ps : List Nat) (h : ws = ps.filterMap (fun i => lw_tbl[i]?)) (hg : ws.all goodWord = true) : ∀ w ∈ ws, w ∈ TBL := by
  intro w hw
  have h1 := List.all_eq_true.mp hg w hw
  rw [h] at hw
  obtain ⟨i, -, hi⟩ := List.mem_filterMap.mp hw
  exact TBL_mem i hi h1
def tyX0 : Nat → FieldType := fun k => match k with
  | 0 => .array .int
  | 1 => .array .int
  | 2 => .array .int
  | 3 => .int
  | 4 => .int
  | 5 => .int
  | _ => .int
theorem nmX0 : ∀ a, a < 7 → ∀ b, b < 7 → a ≠ b → (TX0 a).2.1 ≠ (TX0 b).2.1 := by decide +kernel
theorem tyX0_ok : ∀ k, k < 7 → parseFieldDescriptor (TX0 k).2.2.1 = some (tyX0 k) := by decide +kernel
set_option maxRecDepth 20000 in
theorem inX0 : ∀ w ∈ u_ws RX0 TX0 7, w ∈ TBL := TBL_list [416, 418, 420, 422, 424, 426, 428] (by decide +kernel) (by decide +kernel)
def tyX1 : Nat → FieldType := fun k => match k with
  | 0 => .array .int
  | 1 => .array .int
  | 2 => .array .int
  | 3 => .array .int
  | 4 => .int
  | 5 => .int
  | _ => .int
theorem nmX1 : ∀ a, a < 7 → ∀ b, b < 7 → a ≠ b → (TX1 a).2.1 ≠ (TX1 b).2.1 := by decide +kernel
theorem tyX1_ok : ∀ k, k < 7 → parseFieldDescriptor (TX1 k).2.2.1 = some (tyX1 k) := by decide +kernel
set_option maxRecDepth 20000 in
theorem inX1 : ∀ w ∈ u_ws RX1 TX1 7, w ∈ TBL := TBL_list [489, 491, 493, 495, 497, 499, 501] (by decide +kernel) (by decide +kernel)
def tyX2 : Nat → FieldType := fun k => match k with
  | 0 => .array .int
  | 1 => .array .int
  | 2 => .int
  | _ => .int
theorem nmX2 : ∀ a, a < 4 → ∀ b, b < 4 → a ≠ b → (TX2 a).2.1 ≠ (TX2 b).2.1 := by decide +kernel
theorem tyX2_ok : ∀ k, k < 4 → parseFieldDescriptor (TX2 k).2.2.1 = some (tyX2 k) := by decide +kernel
set_option maxRecDepth 20000 in
theorem inX2 : ∀ w ∈ u_ws RX2 TX2 4, w ∈ TBL := TBL_list [443, 445, 447, 449] (by decide +kernel) (by decide +kernel)
def tyX3 : Nat → FieldType := fun k => match k with
  | 0 => .array .int
  | 1 => .array .int
  | 2 => .array .int
  | 3 => .array .int
  | 4 => .int
  | 5 => .int
  | 6 => .int
  | 7 => .int
  | 8 => .int
  | 9 => .int
  | 10 => .int
  | 11 => .int
  | 12 => .int
  | 13 => .int
  | 14 => .int
  | 15 => .int
  | _ => .int
theorem nmX3 : ∀ a, a < 17 → ∀ b, b < 17 → a ≠ b → (TX3 a).2.1 ≠ (TX3 b).2.1 := by decide +kernel
theorem tyX3_ok : ∀ k, k < 17 → parseFieldDescriptor (TX3 k).2.2.1 = some (tyX3 k) := by decide +kernel
set_option maxRecDepth 20000 in
theorem inX3 : ∀ w ∈ u_ws RX3 TX3 17, w ∈ TBL := TBL_list [335, 337, 339, 341, 343, 345, 347, 349, 351, 353, 355, 357, 359, 361, 363, 365, 367] (by decide +kernel) (by decide +kernel)
def tyX4 : Nat → FieldType := fun k => match k with
  | 0 => .array .byte
  | 1 => .array .long
  | 2 => .int
  | 3 => .int
  | 4 => .int
  | 5 => .int
  | 6 => .int
  | 7 => .int
  | 8 => .long
  | 9 => .int
  | _ => .int
theorem nmX4 : ∀ a, a < 11 → ∀ b, b < 11 → a ≠ b → (TX4 a).2.1 ≠ (TX4 b).2.1 := by decide +kernel
theorem tyX4_ok : ∀ k, k < 11 → parseFieldDescriptor (TX4 k).2.2.1 = some (tyX4 k) := by decide +kernel
set_option maxRecDepth 20000 in
theorem inX4 : ∀ w ∈ u_ws RX4 TX4 11, w ∈ TBL := TBL_list [246, 248, 250, 252, 254, 256, 258, 260, 262, 264, 266] (by decide +kernel) (by decide +kernel)
def tyX5 : Nat → FieldType := fun k => match k with
  | 0 => .array .long
  | 1 => .boolean
  | 2 => .int
  | _ => .int
theorem nmX5 : ∀ a, a < 4 → ∀ b, b < 4 → a ≠ b → (TX5 a).2.1 ≠ (TX5 b).2.1 := by decide +kernel
theorem tyX5_ok : ∀ k, k < 4 → parseFieldDescriptor (TX5 k).2.2.1 = some (tyX5 k) := by decide +kernel
set_option maxRecDepth 20000 in
theorem inX5 : ∀ w ∈ u_ws RX5 TX5 4, w ∈ TBL := TBL_list [702, 704, 706, 708] (by decide +kernel) (by decide +kernel)
def tyX6 : Nat → FieldType := fun k => match k with
  | 0 => .array .long
  | 1 => .array .int
  | 2 => .array .int
  | 3 => .array .int
  | 4 => .array .int
  | 5 => .array .int
  | 6 => .array .int
  | 7 => .array .int
  | 8 => .array .int
  | 9 => .array .int
  | 10 => .array .int
  | 11 => .object "GivenUp$Deeds"
  | 12 => .object "GivenUp$Years"
  | 13 => .int
  | 14 => .int
  | 15 => .int
  | 16 => .int
  | 17 => .int
  | 18 => .int
  | _ => .int
theorem nmX6 : ∀ a, a < 20 → ∀ b, b < 20 → a ≠ b → (TX6 a).2.1 ≠ (TX6 b).2.1 := by decide +kernel
theorem tyX6_ok : ∀ k, k < 20 → parseFieldDescriptor (TX6 k).2.2.1 = some (tyX6 k) := by decide +kernel
set_option maxRecDepth 20000 in
theorem inX6 : ∀ w ∈ u_ws RX6 TX6 20, w ∈ TBL := TBL_list [647, 649, 651, 653, 655, 657, 659, 661, 663, 665, 667, 669, 671, 673, 675, 677, 679, 681, 683, 685] (by decide +kernel) (by decide +kernel)
def tyX7 : Nat → FieldType := fun k => match k with
  | 0 => .object "GivenUp$Text"
  | 1 => .boolean
  | _ => .boolean
theorem nmX7 : ∀ a, a < 3 → ∀ b, b < 3 → a ≠ b → (TX7 a).2.1 ≠ (TX7 b).2.1 := by decide +kernel
theorem tyX7_ok : ∀ k, k < 3 → parseFieldDescriptor (TX7 k).2.2.1 = some (tyX7 k) := by decide +kernel
set_option maxRecDepth 20000 in
theorem inX7 : ∀ w ∈ u_ws RX7 TX7 3, w ∈ TBL := TBL_list [280, 282, 284] (by decide +kernel) (by decide +kernel)
def tyX8 : Nat → FieldType := fun k => match k with
  | 0 => .object "GivenUp$Plan"
  | 1 => .array .int
  | 2 => .array .int
  | 3 => .array .int
  | 4 => .int
  | _ => .int
theorem nmX8 : ∀ a, a < 6 → ∀ b, b < 6 → a ≠ b → (TX8 a).2.1 ≠ (TX8 b).2.1 := by decide +kernel
theorem tyX8_ok : ∀ k, k < 6 → parseFieldDescriptor (TX8 k).2.2.1 = some (tyX8 k) := by decide +kernel
set_option maxRecDepth 20000 in
theorem inX8 : ∀ w ∈ u_ws RX8 TX8 6, w ∈ TBL := TBL_list [385, 387, 389, 391, 393, 395] (by decide +kernel) (by decide +kernel)
def tyX9 : Nat → FieldType := fun k => match k with
  | 0 => .array .int
  | 1 => .array .int
  | 2 => .array .int
  | 3 => .array .int
  | 4 => .array .int
  | 5 => .array .int
  | 6 => .boolean
  | 7 => .int
  | _ => .int
theorem nmX9 : ∀ a, a < 9 → ∀ b, b < 9 → a ≠ b → (TX9 a).2.1 ≠ (TX9 b).2.1 := by decide +kernel
theorem tyX9_ok : ∀ k, k < 9 → parseFieldDescriptor (TX9 k).2.2.1 = some (tyX9 k) := by decide +kernel
set_option maxRecDepth 20000 in
theorem inX9 : ∀ w ∈ u_ws RX9 TX9 9, w ∈ TBL := TBL_list [537, 539, 541, 543, 545, 547, 549, 551, 553] (by decide +kernel) (by decide +kernel)
def tyX10 : Nat → FieldType := fun k => match k with
  | 0 => .object "GivenUp$Text"
  | 1 => .array .int
  | _ => .int
theorem nmX10 : ∀ a, a < 3 → ∀ b, b < 3 → a ≠ b → (TX10 a).2.1 ≠ (TX10 b).2.1 := by decide +kernel
theorem tyX10_ok : ∀ k, k < 3 → parseFieldDescriptor (TX10 k).2.2.1 = some (tyX10 k) := by decide +kernel
set_option maxRecDepth 20000 in
theorem inX10 : ∀ w ∈ u_ws RX10 TX10 3, w ∈ TBL := TBL_list [296, 298, 300] (by decide +kernel) (by decide +kernel)
def tyX11 : Nat → FieldType := fun k => match k with
  | 0 => .array (.object "GivenUp$Tray")
  | 1 => .object "GivenUp$Text"
  | 2 => .object "GivenUp$ValleyReader"
  | 3 => .object "GivenUp$YearsReader"
  | 4 => .array (.object "GivenUp$Valley")
  | 5 => .object "GivenUp$Plan"
  | 6 => .object "GivenUp$Village"
  | 7 => .object "GivenUp$Courtship"
  | 8 => .object "GivenUp$Life"
  | 9 => .array .long
  | 10 => .array .int
  | 11 => .boolean
  | 12 => .object "GivenUp$Valley"
  | 13 => .object "GivenUp$Valley"
  | 14 => .int
  | 15 => .int
  | 16 => .long
  | 17 => .long
  | 18 => .int
  | _ => .int
theorem nmX11 : ∀ a, a < 20 → ∀ b, b < 20 → a ≠ b → (TX11 a).2.1 ≠ (TX11 b).2.1 := by decide +kernel
theorem tyX11_ok : ∀ k, k < 20 → parseFieldDescriptor (TX11 k).2.2.1 = some (tyX11 k) := by decide +kernel
set_option maxRecDepth 20000 in
theorem inX11 : ∀ w ∈ u_ws RX11 TX11 20, w ∈ TBL := TBL_list [731, 733, 735, 737, 739, 741, 743, 745, 747, 749, 751, 753, 755, 757, 759, 761, 763, 765, 767, 769] (by decide +kernel) (by decide +kernel)
def tyX12 : Nat → FieldType := fun k => match k with
  | 0 => .array .int
  | 1 => .array .long
  | 2 => .int
  | 3 => .long
  | 4 => .long
  | 5 => .array .int
  | 6 => .array .int
  | 7 => .array .long
  | 8 => .array .byte
  | 9 => .array .byte
  | 10 => .int
  | 11 => .int
  | 12 => .int
  | 13 => .int
  | 14 => .int
  | 15 => .int
  | 16 => .int
  | 17 => .int
  | 18 => .int
  | 19 => .int
  | 20 => .int
  | 21 => .array .int
  | 22 => .int
  | 23 => .int
  | 24 => .array .int
  | 25 => .array .int
  | 26 => .array .int
  | 27 => .array .int
  | 28 => .int
  | 29 => .int
  | 30 => .array .int
  | 31 => .array .int
  | 32 => .int
  | 33 => .array .long
  | 34 => .int
  | 35 => .int
  | 36 => .array .int
  | 37 => .array .int
  | 38 => .array .int
  | 39 => .boolean
  | _ => .int
theorem nmX12 : ∀ a, a < 41 → ∀ b, b < 41 → a ≠ b → (TX12 a).2.1 ≠ (TX12 b).2.1 := by decide +kernel
theorem tyX12_ok : ∀ k, k < 41 → parseFieldDescriptor (TX12 k).2.2.1 = some (tyX12 k) := by decide +kernel
set_option maxRecDepth 20000 in
theorem inX12 : ∀ w ∈ u_ws RX12 TX12 41, w ∈ TBL := TBL_list [1593, 1595, 1597, 1599, 1601, 1603, 1605, 1607, 1609, 1611, 1613, 1615, 1617, 1619, 1621, 1623, 1625, 1627, 1629, 1631, 1633, 1635, 1637, 1639, 1641, 1643, 1645, 1647, 1649, 1651, 1653, 1655, 1657, 1659, 1661, 1663, 1665, 1667, 1669, 1671, 1673] (by decide +kernel) (by decide +kernel)
/-- what each kind of cell is: (0 object, class; 1 ints, length; 2 longs; 3 bytes; 4, 5 rows of TRAYS, of valleys; 9 none of the world), how many there are, an object's fields -/
def SHT : List (Nat × Nat × Nat × List (Nat × Nat × Nat)) := [(0, 0, 1, [(2, 13, 0), (2, 14, 0), (2, 15, 0), (0, 0, 0), (0, 0, 0), (0, 0, 0), (0, 0, 0)]),
  (0, 1, 5, [(2, 16, 0), (2, 17, 0), (2, 18, 0), (2, 19, 0), (0, 0, 0), (0, 0, 0), (0, 0, 0)]),
  (0, 2, 1, [(2, 20, 0), (2, 21, 0), (0, 0, 0), (0, 0, 0)]),
  (0, 3, 1, [(2, 22, 0), (2, 23, 0), (2, 24, 0), (2, 25, 0), (0, 0, 0), (0, 0, 0), (0, 0, 0), (0, 0, 0), (0, 0, 0), (0, 0, 0), (0, 0, 0), (0, 0, 0), (0, 0, 0), (0, 0, 0), (0, 0, 0), (0, 0, 0), (0, 0, 0)]),
  (0, 4, 1, [(2, 26, 0), (2, 27, 0), (0, 0, 0), (0, 0, 0), (0, 0, 0), (0, 0, 0), (0, 0, 0), (0, 0, 0), (1, 0, 0), (0, 0, 0), (0, 0, 0)]),
  (0, 5, 4, [(2, 28, 0), (0, 0, 0), (0, 0, 0), (0, 0, 0)]),
  (0, 6, 5, [(2, 29, 0), (2, 30, 0), (2, 31, 0), (2, 32, 0), (2, 33, 0), (2, 34, 0), (2, 35, 0), (2, 36, 0), (2, 37, 0), (2, 38, 0), (2, 39, 0), (2, 1, 0), (2, 9, 0), (0, 0, 0), (0, 0, 0), (0, 0, 0), (0, 0, 0), (0, 0, 0), (0, 0, 0), (0, 0, 0)]),
  (0, 7, 1, [(3, 4, 0), (0, 0, 0), (0, 0, 0)]),
  (0, 8, 1, [(3, 3, 0), (2, 40, 0), (2, 41, 0), (2, 42, 0), (0, 0, 0), (0, 0, 0)]),
  (0, 9, 5, [(2, 43, 0), (2, 44, 0), (2, 45, 0), (2, 46, 0), (2, 47, 0), (2, 48, 0), (0, 0, 0), (0, 0, 0), (0, 0, 0)]),
  (0, 10, 1, [(3, 4, 0), (2, 49, 0), (0, 0, 0)]),
  (0, 11, 1, [(2, 50, 0), (3, 4, 0), (3, 7, 0), (3, 10, 0), (2, 51, 0), (3, 3, 0), (3, 8, 0), (3, 0, 0), (3, 2, 0), (2, 52, 0), (2, 53, 0), (0, 0, 0), (4, 6, 0), (4, 6, 1), (0, 0, 0), (0, 0, 0), (1, 0, 0), (1, 0, 0), (0, 0, 0), (0, 0, 0)]),
  (0, 12, 1, [(2, 54, 0), (2, 55, 0), (0, 0, 0), (1, 0, 0), (1, 0, 0), (2, 56, 0), (2, 57, 0), (2, 58, 0), (2, 59, 0), (2, 60, 0), (0, 0, 0), (0, 0, 0), (0, 0, 0), (0, 0, 0), (0, 0, 0), (0, 0, 0), (0, 0, 0), (0, 0, 0), (0, 0, 0), (0, 0, 0), (0, 0, 0), (2, 61, 0), (0, 0, 0), (0, 0, 0), (2, 62, 0), (2, 63, 0), (2, 64, 0), (2, 65, 0), (0, 0, 0), (0, 0, 0), (2, 66, 0), (2, 67, 0), (0, 0, 0), (2, 68, 0), (0, 0, 0), (0, 0, 0), (2, 69, 0), (2, 70, 0), (2, 71, 0), (0, 0, 0), (0, 0, 0)]),
  (1, 4, 1, []),
  (1, 4, 1, []),
  (1, 4, 1, []),
  (1, 4, 5, []),
  (1, 4, 5, []),
  (1, 4, 5, []),
  (1, 4, 5, []),
  (1, 60, 1, []),
  (1, 5, 1, []),
  (1, 12, 1, []),
  (1, 12, 1, []),
  (1, 12, 1, []),
  (1, 12, 1, []),
  (3, 900, 1, []),
  (2, 30, 1, []),
  (2, 60, 4, []),
  (2, 20, 5, []),
  (1, 4, 5, []),
  (1, 16, 5, []),
  (1, 4, 5, []),
  (1, 4, 5, []),
  (1, 4, 5, []),
  (1, 12, 5, []),
  (1, 12, 5, []),
  (1, 12, 5, []),
  (1, 12, 5, []),
  (1, 48, 5, []),
  (1, 16, 1, []),
  (1, 4, 1, []),
  (1, 4, 1, []),
  (1, 60, 5, []),
  (1, 60, 5, []),
  (1, 60, 5, []),
  (1, 60, 5, []),
  (1, 60, 5, []),
  (1, 60, 5, []),
  (1, 3, 1, []),
  (4, 4, 1, [(7, 5, 0)]),
  (5, 3, 1, [(7, 6, 2)]),
  (2, 4096, 1, []),
  (1, 5, 1, []),
  (1, 3060, 1, []),
  (2, 120, 1, []),
  (1, 4, 1, []),
  (1, 4, 1, []),
  (2, 240, 1, []),
  (3, 900, 1, []),
  (3, 900, 1, []),
  (1, 3, 1, []),
  (1, 4096, 1, []),
  (1, 16, 1, []),
  (1, 4, 1, []),
  (1, 4, 1, []),
  (1, 4, 1, []),
  (1, 4, 1, []),
  (2, 4096, 1, []),
  (1, 80, 1, []),
  (1, 5, 1, []),
  (1, 5, 1, []),
  (9, 0, 2, []),
  (9, 0, 2, []),
  (9, 0, 1, [])]
