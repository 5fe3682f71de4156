-- ===== the tables' words (the skeleton's part A) =====
/-- a private method of a class that the tables say can be made, by its rows of tables_1 -/
def lw_okq (q : MethodName × Nat) : Prop := (q.1.cls ≠ "java/lang/invoke/MethodHandle" ∧ q.1.cls ≠ "java/lang/invoke/VarHandle") ∧ Cond.instantiable q.1.cls q.2 ∈ tables_1 ∧ Cond.privateMethod q.1 ∈ tables_1 ∧ Cond.instanceMethod q.1 ∈ tables_1
theorem lw_p0 : lw_okq (⟨"StoneFurrows$Stone", "setFurrow", "(II)V"⟩, 5) := ⟨⟨by decide +kernel, by decide +kernel⟩, List.mem_of_getElem? (i := 161) (by decide +kernel), List.mem_of_getElem? (i := 174) (by decide +kernel), List.mem_of_getElem? (i := 175) (by decide +kernel)⟩
theorem lw_p1 : lw_okq (⟨"StoneFurrows$Stone", "layHeights", "()I"⟩, 5) := ⟨⟨by decide +kernel, by decide +kernel⟩, List.mem_of_getElem? (i := 161) (by decide +kernel), List.mem_of_getElem? (i := 190) (by decide +kernel), List.mem_of_getElem? (i := 191) (by decide +kernel)⟩
theorem lw_p2 : lw_okq (⟨"StoneFurrows$Stone", "leadsOutFrom", "(I)Z"⟩, 5) := ⟨⟨by decide +kernel, by decide +kernel⟩, List.mem_of_getElem? (i := 161) (by decide +kernel), List.mem_of_getElem? (i := 330) (by decide +kernel), List.mem_of_getElem? (i := 331) (by decide +kernel)⟩
theorem lw_p3 : lw_okq (⟨"StoneFurrows$Stone", "stepTo", "(I)Z"⟩, 5) := ⟨⟨by decide +kernel, by decide +kernel⟩, List.mem_of_getElem? (i := 161) (by decide +kernel), List.mem_of_getElem? (i := 334) (by decide +kernel), List.mem_of_getElem? (i := 335) (by decide +kernel)⟩
theorem lw_p4 : lw_okq (⟨"StoneFurrows$Grain", "beat", "(LStoneFurrows$Couple;LStoneFurrows$Hanging;)V"⟩, 7) := ⟨⟨by decide +kernel, by decide +kernel⟩, List.mem_of_getElem? (i := 44) (by decide +kernel), List.mem_of_getElem? (i := 470) (by decide +kernel), List.mem_of_getElem? (i := 471) (by decide +kernel)⟩
theorem lw_p5 : lw_okq (⟨"StoneFurrows$Grain", "beCut", "(I)V"⟩, 7) := ⟨⟨by decide +kernel, by decide +kernel⟩, List.mem_of_getElem? (i := 44) (by decide +kernel), List.mem_of_getElem? (i := 483) (by decide +kernel), List.mem_of_getElem? (i := 484) (by decide +kernel)⟩
theorem lw_p6 : lw_okq (⟨"StoneFurrows$Grain", "goOutward", "(LStoneFurrows$Couple;)V"⟩, 7) := ⟨⟨by decide +kernel, by decide +kernel⟩, List.mem_of_getElem? (i := 44) (by decide +kernel), List.mem_of_getElem? (i := 489) (by decide +kernel), List.mem_of_getElem? (i := 490) (by decide +kernel)⟩
theorem lw_p7 : lw_okq (⟨"StoneFurrows$Grain", "beGround", "(I)V"⟩, 7) := ⟨⟨by decide +kernel, by decide +kernel⟩, List.mem_of_getElem? (i := 44) (by decide +kernel), List.mem_of_getElem? (i := 494) (by decide +kernel), List.mem_of_getElem? (i := 495) (by decide +kernel)⟩
theorem lw_p8 : lw_okq (⟨"StoneFurrows$Stone", "highestAgainst", "(LStoneFurrows$Stone;)I"⟩, 5) := ⟨⟨by decide +kernel, by decide +kernel⟩, List.mem_of_getElem? (i := 161) (by decide +kernel), List.mem_of_getElem? (i := 528) (by decide +kernel), List.mem_of_getElem? (i := 529) (by decide +kernel)⟩
theorem lw_p9 : lw_okq (⟨"StoneFurrows$Stone", "wearRing", "(II)I"⟩, 5) := ⟨⟨by decide +kernel, by decide +kernel⟩, List.mem_of_getElem? (i := 161) (by decide +kernel), List.mem_of_getElem? (i := 539) (by decide +kernel), List.mem_of_getElem? (i := 540) (by decide +kernel)⟩
theorem lw_p10 : lw_okq (⟨"StoneFurrows$Touches", "areExplainedByTrial", "()Z"⟩, 5) := ⟨⟨by decide +kernel, by decide +kernel⟩, List.mem_of_getElem? (i := 72) (by decide +kernel), List.mem_of_getElem? (i := 605) (by decide +kernel), List.mem_of_getElem? (i := 606) (by decide +kernel)⟩
theorem lw_p11 : lw_okq (⟨"StoneFurrows$Hours", "isCoarse", "(II)Z"⟩, 3) := ⟨⟨by decide +kernel, by decide +kernel⟩, List.mem_of_getElem? (i := 98) (by decide +kernel), List.mem_of_getElem? (i := 648) (by decide +kernel), List.mem_of_getElem? (i := 649) (by decide +kernel)⟩
theorem lw_p12 : lw_okq (⟨"StoneFurrows$Hours", "wasSeen", "(I)Z"⟩, 3) := ⟨⟨by decide +kernel, by decide +kernel⟩, List.mem_of_getElem? (i := 98) (by decide +kernel), List.mem_of_getElem? (i := 653) (by decide +kernel), List.mem_of_getElem? (i := 654) (by decide +kernel)⟩
theorem lw_p13 : lw_okq (⟨"StoneFurrows", "planAnew", "()V"⟩, 13) := ⟨⟨by decide +kernel, by decide +kernel⟩, List.mem_of_getElem? (i := 13) (by decide +kernel), List.mem_of_getElem? (i := 712) (by decide +kernel), List.mem_of_getElem? (i := 713) (by decide +kernel)⟩
theorem lw_p14 : lw_okq (⟨"StoneFurrows$Planner", "findEnds", "(LStoneFurrows$Mills;I)V"⟩, 5) := ⟨⟨by decide +kernel, by decide +kernel⟩, List.mem_of_getElem? (i := 139) (by decide +kernel), List.mem_of_getElem? (i := 722) (by decide +kernel), List.mem_of_getElem? (i := 723) (by decide +kernel)⟩
theorem lw_p15 : lw_okq (⟨"StoneFurrows$Planner", "earliestEnd", "(LStoneFurrows$Mills;II)I"⟩, 5) := ⟨⟨by decide +kernel, by decide +kernel⟩, List.mem_of_getElem? (i := 139) (by decide +kernel), List.mem_of_getElem? (i := 730) (by decide +kernel), List.mem_of_getElem? (i := 731) (by decide +kernel)⟩
def lw_privs_1 : List (MethodName × Nat) := [(⟨"StoneFurrows$Stone", "setFurrow", "(II)V"⟩, 5), (⟨"StoneFurrows$Stone", "layHeights", "()I"⟩, 5), (⟨"StoneFurrows$Stone", "leadsOutFrom", "(I)Z"⟩, 5), (⟨"StoneFurrows$Stone", "stepTo", "(I)Z"⟩, 5), (⟨"StoneFurrows$Grain", "beat", "(LStoneFurrows$Couple;LStoneFurrows$Hanging;)V"⟩, 7), (⟨"StoneFurrows$Grain", "beCut", "(I)V"⟩, 7), (⟨"StoneFurrows$Grain", "goOutward", "(LStoneFurrows$Couple;)V"⟩, 7), (⟨"StoneFurrows$Grain", "beGround", "(I)V"⟩, 7), (⟨"StoneFurrows$Stone", "highestAgainst", "(LStoneFurrows$Stone;)I"⟩, 5), (⟨"StoneFurrows$Stone", "wearRing", "(II)I"⟩, 5), (⟨"StoneFurrows$Touches", "areExplainedByTrial", "()Z"⟩, 5), (⟨"StoneFurrows$Hours", "isCoarse", "(II)Z"⟩, 3), (⟨"StoneFurrows$Hours", "wasSeen", "(I)Z"⟩, 3), (⟨"StoneFurrows", "planAnew", "()V"⟩, 13), (⟨"StoneFurrows$Planner", "findEnds", "(LStoneFurrows$Mills;I)V"⟩, 5), (⟨"StoneFurrows$Planner", "earliestEnd", "(LStoneFurrows$Mills;II)I"⟩, 5)]
theorem lw_r1 : ∀ q ∈ lw_privs_1, lw_okq q := List.forall_mem_cons.mpr ⟨lw_p0, List.forall_mem_cons.mpr ⟨lw_p1, List.forall_mem_cons.mpr ⟨lw_p2, List.forall_mem_cons.mpr ⟨lw_p3, List.forall_mem_cons.mpr ⟨lw_p4, List.forall_mem_cons.mpr ⟨lw_p5, List.forall_mem_cons.mpr ⟨lw_p6, List.forall_mem_cons.mpr ⟨lw_p7, List.forall_mem_cons.mpr ⟨lw_p8, List.forall_mem_cons.mpr ⟨lw_p9, List.forall_mem_cons.mpr ⟨lw_p10, List.forall_mem_cons.mpr ⟨lw_p11, List.forall_mem_cons.mpr ⟨lw_p12, List.forall_mem_cons.mpr ⟨lw_p13, List.forall_mem_cons.mpr ⟨lw_p14, List.forall_mem_cons.mpr ⟨lw_p15, fun _ h => absurd h List.not_mem_nil⟩⟩⟩⟩⟩⟩⟩⟩⟩⟩⟩⟩⟩⟩⟩⟩
theorem lw_p16 : lw_okq (⟨"StoneFurrows$Planner", "bestSharing", "(II)I"⟩, 5) := ⟨⟨by decide +kernel, by decide +kernel⟩, List.mem_of_getElem? (i := 139) (by decide +kernel), List.mem_of_getElem? (i := 755) (by decide +kernel), List.mem_of_getElem? (i := 756) (by decide +kernel)⟩
theorem lw_p17 : lw_okq (⟨"StoneFurrows$Planner", "dayOfSharing", "(III)I"⟩, 5) := ⟨⟨by decide +kernel, by decide +kernel⟩, List.mem_of_getElem? (i := 139) (by decide +kernel), List.mem_of_getElem? (i := 759) (by decide +kernel), List.mem_of_getElem? (i := 760) (by decide +kernel)⟩
theorem lw_p18 : lw_okq (⟨"StoneFurrows$Planner", "readOwners", "(III)V"⟩, 5) := ⟨⟨by decide +kernel, by decide +kernel⟩, List.mem_of_getElem? (i := 139) (by decide +kernel), List.mem_of_getElem? (i := 770) (by decide +kernel), List.mem_of_getElem? (i := 771) (by decide +kernel)⟩
theorem lw_p19 : lw_okq (⟨"StoneFurrows$Planner", "layOut", "(LStoneFurrows$Mills;I)V"⟩, 5) := ⟨⟨by decide +kernel, by decide +kernel⟩, List.mem_of_getElem? (i := 139) (by decide +kernel), List.mem_of_getElem? (i := 774) (by decide +kernel), List.mem_of_getElem? (i := 775) (by decide +kernel)⟩
theorem lw_p20 : lw_okq (⟨"StoneFurrowsModel", "furrow", "(IIIII)I"⟩, 38) := ⟨⟨by decide +kernel, by decide +kernel⟩, List.mem_of_getElem? (i := 841) (by decide +kernel), List.mem_of_getElem? (i := 847) (by decide +kernel), List.mem_of_getElem? (i := 848) (by decide +kernel)⟩
theorem lw_p21 : lw_okq (⟨"StoneFurrowsModel", "crossingsOf", "(I)I"⟩, 38) := ⟨⟨by decide +kernel, by decide +kernel⟩, List.mem_of_getElem? (i := 841) (by decide +kernel), List.mem_of_getElem? (i := 1030) (by decide +kernel), List.mem_of_getElem? (i := 1031) (by decide +kernel)⟩
theorem lw_p22 : lw_okq (⟨"StoneFurrowsModel", "crosses", "(III)Z"⟩, 38) := ⟨⟨by decide +kernel, by decide +kernel⟩, List.mem_of_getElem? (i := 841) (by decide +kernel), List.mem_of_getElem? (i := 1034) (by decide +kernel), List.mem_of_getElem? (i := 1035) (by decide +kernel)⟩
theorem lw_p23 : lw_okq (⟨"StoneFurrowsModel", "below", "(II)Z"⟩, 38) := ⟨⟨by decide +kernel, by decide +kernel⟩, List.mem_of_getElem? (i := 841) (by decide +kernel), List.mem_of_getElem? (i := 1038) (by decide +kernel), List.mem_of_getElem? (i := 1039) (by decide +kernel)⟩
theorem lw_p24 : lw_okq (⟨"StoneFurrowsModel", "above", "(III)Z"⟩, 38) := ⟨⟨by decide +kernel, by decide +kernel⟩, List.mem_of_getElem? (i := 841) (by decide +kernel), List.mem_of_getElem? (i := 1042) (by decide +kernel), List.mem_of_getElem? (i := 1043) (by decide +kernel)⟩
theorem lw_p25 : lw_okq (⟨"StoneFurrowsModel", "goOn", "(II)I"⟩, 38) := ⟨⟨by decide +kernel, by decide +kernel⟩, List.mem_of_getElem? (i := 841) (by decide +kernel), List.mem_of_getElem? (i := 1054) (by decide +kernel), List.mem_of_getElem? (i := 1055) (by decide +kernel)⟩
theorem lw_p26 : lw_okq (⟨"StoneFurrowsModel", "gapOf", "(III)I"⟩, 38) := ⟨⟨by decide +kernel, by decide +kernel⟩, List.mem_of_getElem? (i := 841) (by decide +kernel), List.mem_of_getElem? (i := 1076) (by decide +kernel), List.mem_of_getElem? (i := 1077) (by decide +kernel)⟩
theorem lw_p27 : lw_okq (⟨"StoneFurrowsModel", "gapBy", "(IIIIII)I"⟩, 38) := ⟨⟨by decide +kernel, by decide +kernel⟩, List.mem_of_getElem? (i := 841) (by decide +kernel), List.mem_of_getElem? (i := 1080) (by decide +kernel), List.mem_of_getElem? (i := 1081) (by decide +kernel)⟩
theorem lw_p28 : lw_okq (⟨"StoneFurrowsModel", "send", "(III)V"⟩, 38) := ⟨⟨by decide +kernel, by decide +kernel⟩, List.mem_of_getElem? (i := 841) (by decide +kernel), List.mem_of_getElem? (i := 1097) (by decide +kernel), List.mem_of_getElem? (i := 1098) (by decide +kernel)⟩
theorem lw_p29 : lw_okq (⟨"StoneFurrowsModel", "wear", "(II)I"⟩, 38) := ⟨⟨by decide +kernel, by decide +kernel⟩, List.mem_of_getElem? (i := 841) (by decide +kernel), List.mem_of_getElem? (i := 1109) (by decide +kernel), List.mem_of_getElem? (i := 1110) (by decide +kernel)⟩
theorem lw_p30 : lw_okq (⟨"StoneFurrowsModel", "isGround", "(IIII)Z"⟩, 38) := ⟨⟨by decide +kernel, by decide +kernel⟩, List.mem_of_getElem? (i := 841) (by decide +kernel), List.mem_of_getElem? (i := 1113) (by decide +kernel), List.mem_of_getElem? (i := 1114) (by decide +kernel)⟩
theorem lw_p31 : lw_okq (⟨"StoneFurrowsModel", "leastLand", "(I)I"⟩, 38) := ⟨⟨by decide +kernel, by decide +kernel⟩, List.mem_of_getElem? (i := 841) (by decide +kernel), List.mem_of_getElem? (i := 1125) (by decide +kernel), List.mem_of_getElem? (i := 1126) (by decide +kernel)⟩
def lw_privs_2 : List (MethodName × Nat) := [(⟨"StoneFurrows$Planner", "bestSharing", "(II)I"⟩, 5), (⟨"StoneFurrows$Planner", "dayOfSharing", "(III)I"⟩, 5), (⟨"StoneFurrows$Planner", "readOwners", "(III)V"⟩, 5), (⟨"StoneFurrows$Planner", "layOut", "(LStoneFurrows$Mills;I)V"⟩, 5), (⟨"StoneFurrowsModel", "furrow", "(IIIII)I"⟩, 38), (⟨"StoneFurrowsModel", "crossingsOf", "(I)I"⟩, 38), (⟨"StoneFurrowsModel", "crosses", "(III)Z"⟩, 38), (⟨"StoneFurrowsModel", "below", "(II)Z"⟩, 38), (⟨"StoneFurrowsModel", "above", "(III)Z"⟩, 38), (⟨"StoneFurrowsModel", "goOn", "(II)I"⟩, 38), (⟨"StoneFurrowsModel", "gapOf", "(III)I"⟩, 38), (⟨"StoneFurrowsModel", "gapBy", "(IIIIII)I"⟩, 38), (⟨"StoneFurrowsModel", "send", "(III)V"⟩, 38), (⟨"StoneFurrowsModel", "wear", "(II)I"⟩, 38), (⟨"StoneFurrowsModel", "isGround", "(IIII)Z"⟩, 38), (⟨"StoneFurrowsModel", "leastLand", "(I)I"⟩, 38)]
theorem lw_r2 : ∀ q ∈ lw_privs_2, lw_okq q := List.forall_mem_cons.mpr ⟨lw_p16, List.forall_mem_cons.mpr ⟨lw_p17, List.forall_mem_cons.mpr ⟨lw_p18, List.forall_mem_cons.mpr ⟨lw_p19, List.forall_mem_cons.mpr ⟨lw_p20, List.forall_mem_cons.mpr ⟨lw_p21, List.forall_mem_cons.mpr ⟨lw_p22, List.forall_mem_cons.mpr ⟨lw_p23, List.forall_mem_cons.mpr ⟨lw_p24, List.forall_mem_cons.mpr ⟨lw_p25, List.forall_mem_cons.mpr ⟨lw_p26, List.forall_mem_cons.mpr ⟨lw_p27, List.forall_mem_cons.mpr ⟨lw_p28, List.forall_mem_cons.mpr ⟨lw_p29, List.forall_mem_cons.mpr ⟨lw_p30, List.forall_mem_cons.mpr ⟨lw_p31, fun _ h => absurd h List.not_mem_nil⟩⟩⟩⟩⟩⟩⟩⟩⟩⟩⟩⟩⟩⟩⟩⟩
theorem lw_p32 : lw_okq (⟨"StoneFurrowsModel", "explain", "(I)I"⟩, 38) := ⟨⟨by decide +kernel, by decide +kernel⟩, List.mem_of_getElem? (i := 841) (by decide +kernel), List.mem_of_getElem? (i := 1145) (by decide +kernel), List.mem_of_getElem? (i := 1146) (by decide +kernel)⟩
theorem lw_p33 : lw_okq (⟨"StoneFurrowsModel", "add", "(II)I"⟩, 38) := ⟨⟨by decide +kernel, by decide +kernel⟩, List.mem_of_getElem? (i := 841) (by decide +kernel), List.mem_of_getElem? (i := 1159) (by decide +kernel), List.mem_of_getElem? (i := 1160) (by decide +kernel)⟩
theorem lw_p34 : lw_okq (⟨"StoneFurrowsModel", "findPlan", "()I"⟩, 38) := ⟨⟨by decide +kernel, by decide +kernel⟩, List.mem_of_getElem? (i := 841) (by decide +kernel), List.mem_of_getElem? (i := 1200) (by decide +kernel), List.mem_of_getElem? (i := 1201) (by decide +kernel)⟩
theorem lw_p35 : lw_okq (⟨"StoneFurrowsModel", "dues", "()I"⟩, 38) := ⟨⟨by decide +kernel, by decide +kernel⟩, List.mem_of_getElem? (i := 841) (by decide +kernel), List.mem_of_getElem? (i := 1204) (by decide +kernel), List.mem_of_getElem? (i := 1205) (by decide +kernel)⟩
theorem lw_p36 : lw_okq (⟨"StoneFurrowsModel", "setWho", "(I)V"⟩, 38) := ⟨⟨by decide +kernel, by decide +kernel⟩, List.mem_of_getElem? (i := 841) (by decide +kernel), List.mem_of_getElem? (i := 1208) (by decide +kernel), List.mem_of_getElem? (i := 1209) (by decide +kernel)⟩
theorem lw_p37 : lw_okq (⟨"StoneFurrowsModel", "tryHand", "(II)I"⟩, 38) := ⟨⟨by decide +kernel, by decide +kernel⟩, List.mem_of_getElem? (i := 841) (by decide +kernel), List.mem_of_getElem? (i := 1212) (by decide +kernel), List.mem_of_getElem? (i := 1213) (by decide +kernel)⟩
theorem lw_p38 : lw_okq (⟨"StoneFurrowsModel", "layOrder", "(I)V"⟩, 38) := ⟨⟨by decide +kernel, by decide +kernel⟩, List.mem_of_getElem? (i := 841) (by decide +kernel), List.mem_of_getElem? (i := 1216) (by decide +kernel), List.mem_of_getElem? (i := 1217) (by decide +kernel)⟩
theorem lw_p39 : lw_okq (⟨"StoneFurrowsModel", "latest", "()I"⟩, 38) := ⟨⟨by decide +kernel, by decide +kernel⟩, List.mem_of_getElem? (i := 841) (by decide +kernel), List.mem_of_getElem? (i := 1220) (by decide +kernel), List.mem_of_getElem? (i := 1221) (by decide +kernel)⟩
theorem lw_p40 : lw_okq (⟨"StoneFurrowsModel", "nextOrder", "()Z"⟩, 38) := ⟨⟨by decide +kernel, by decide +kernel⟩, List.mem_of_getElem? (i := 841) (by decide +kernel), List.mem_of_getElem? (i := 1224) (by decide +kernel), List.mem_of_getElem? (i := 1225) (by decide +kernel)⟩
theorem lw_p41 : lw_okq (⟨"StoneFurrowsModel", "swap", "(II)V"⟩, 38) := ⟨⟨by decide +kernel, by decide +kernel⟩, List.mem_of_getElem? (i := 841) (by decide +kernel), List.mem_of_getElem? (i := 1228) (by decide +kernel), List.mem_of_getElem? (i := 1229) (by decide +kernel)⟩
def lw_privs_3 : List (MethodName × Nat) := [(⟨"StoneFurrowsModel", "explain", "(I)I"⟩, 38), (⟨"StoneFurrowsModel", "add", "(II)I"⟩, 38), (⟨"StoneFurrowsModel", "findPlan", "()I"⟩, 38), (⟨"StoneFurrowsModel", "dues", "()I"⟩, 38), (⟨"StoneFurrowsModel", "setWho", "(I)V"⟩, 38), (⟨"StoneFurrowsModel", "tryHand", "(II)I"⟩, 38), (⟨"StoneFurrowsModel", "layOrder", "(I)V"⟩, 38), (⟨"StoneFurrowsModel", "latest", "()I"⟩, 38), (⟨"StoneFurrowsModel", "nextOrder", "()Z"⟩, 38), (⟨"StoneFurrowsModel", "swap", "(II)V"⟩, 38)]
theorem lw_r3 : ∀ q ∈ lw_privs_3, lw_okq q := List.forall_mem_cons.mpr ⟨lw_p32, List.forall_mem_cons.mpr ⟨lw_p33, List.forall_mem_cons.mpr ⟨lw_p34, List.forall_mem_cons.mpr ⟨lw_p35, List.forall_mem_cons.mpr ⟨lw_p36, List.forall_mem_cons.mpr ⟨lw_p37, List.forall_mem_cons.mpr ⟨lw_p38, List.forall_mem_cons.mpr ⟨lw_p39, List.forall_mem_cons.mpr ⟨lw_p40, List.forall_mem_cons.mpr ⟨lw_p41, fun _ h => absurd h List.not_mem_nil⟩⟩⟩⟩⟩⟩⟩⟩⟩⟩
def lw_privs : List (MethodName × Nat) := lw_privs_1 ++ (lw_privs_2 ++ (lw_privs_3))
def lw_tbl : List Cond := k2_sels lw_privs ++ tables_1
theorem lw_privs_ok : ∀ q ∈ lw_privs, lw_okq q := by
  show ∀ q ∈ lw_privs_1 ++ (lw_privs_2 ++ (lw_privs_3)), lw_okq q
  exact List.forall_mem_append.mpr ⟨lw_r1, List.forall_mem_append.mpr ⟨lw_r2, lw_r3⟩⟩
-- ===== names, out of claim/NAMES.whole.lean.txt =====
def RX0 : String := "StoneFurrows$Couple"
def TX0 : u_T := fun k => match k with
  | 0 => ("StoneFurrows$Couple", "under", "LStoneFurrows$Stone;", false)
  | _ => ("StoneFurrows$Couple", "over", "LStoneFurrows$Stone;", false)
def tyX0 : Nat → FieldType := fun k => match k with
  | 0 => .object "StoneFurrows$Stone"
  | _ => .object "StoneFurrows$Stone"
abbrev wsX00 : List Cond := u_ws RX0 TX0 2
theorem nmX0 : ∀ a, a < 2 → ∀ b, b < 2 → a ≠ b → (TX0 a).2.1 ≠ (TX0 b).2.1 := by decide +kernel
theorem tyX0_ok : ∀ k, k < 2 → parseFieldDescriptor (TX0 k).2.2.1 = some (tyX0 k) := by decide +kernel
abbrev cX0_init : ByteArray := prog_2_method_1_code
def yX0_init : MethodName := ⟨RX0, "<init>", "(LStoneFurrows$Stone;LStoneFurrows$Stone;)V"⟩
abbrev cX0_join : ByteArray := prog_2_method_2_code
def yX0_join : MethodName := ⟨RX0, "join", "(LStoneFurrows$Stone;LStoneFurrows$Stone;)V"⟩
abbrev cX0_hasFurrowBelow : ByteArray := prog_2_method_3_code
def yX0_hasFurrowBelow : MethodName := ⟨RX0, "hasFurrowBelow", "(II)Z"⟩
abbrev cX0_hasFurrowAbove : ByteArray := prog_2_method_4_code
def yX0_hasFurrowAbove : MethodName := ⟨RX0, "hasFurrowAbove", "(III)Z"⟩
abbrev cX0_crosses : ByteArray := prog_2_method_5_code
def yX0_crosses : MethodName := ⟨RX0, "crosses", "(III)Z"⟩
abbrev cX0_crossesNear : ByteArray := prog_2_method_6_code
def yX0_crossesNear : MethodName := ⟨RX0, "crossesNear", "(III)Z"⟩
abbrev cX0_countCrossings : ByteArray := prog_2_method_7_code
def yX0_countCrossings : MethodName := ⟨RX0, "countCrossings", "(I)I"⟩
abbrev cX0_countGroundOfAll : ByteArray := prog_2_method_8_code
def yX0_countGroundOfAll : MethodName := ⟨RX0, "countGroundOfAll", "()I"⟩
abbrev cX0_crossingsOfAll : ByteArray := prog_2_method_9_code
def yX0_crossingsOfAll : MethodName := ⟨RX0, "crossingsOfAll", "(I)I"⟩
abbrev cX0_outwardLessInward : ByteArray := prog_2_method_10_code
def yX0_outwardLessInward : MethodName := ⟨RX0, "outwardLessInward", "(I)I"⟩
abbrev cX0_wearDown : ByteArray := prog_2_method_11_code
def yX0_wearDown : MethodName := ⟨RX0, "wearDown", "()I"⟩
def RX1 : String := "StoneFurrows$Grain"
def TX1 : u_T := fun k => match k with
  | 0 => ("StoneFurrows$Grain", "ring", "I", false)
  | 1 => ("StoneFurrows$Grain", "sector", "I", false)
  | 2 => ("StoneFurrows$Grain", "turn", "I", false)
  | 3 => ("StoneFurrows$Grain", "size", "I", false)
  | 4 => ("StoneFurrows$Grain", "cuts", "I", false)
  | 5 => ("StoneFurrows$Grain", "warmth", "I", false)
  | _ => ("StoneFurrows$Grain", "beats", "I", false)
def tyX1 : Nat → FieldType := fun k => match k with
  | 0 => .int
  | 1 => .int
  | 2 => .int
  | 3 => .int
  | 4 => .int
  | 5 => .int
  | _ => .int
abbrev wsX10 : List Cond := u_ws RX1 TX1 7
theorem nmX1 : ∀ a, a < 7 → ∀ b, b < 7 → a ≠ b → (TX1 a).2.1 ≠ (TX1 b).2.1 := by decide +kernel
theorem tyX1_ok : ∀ k, k < 7 → parseFieldDescriptor (TX1 k).2.2.1 = some (tyX1 k) := by decide +kernel
abbrev cX1_init : ByteArray := prog_3_method_1_code
def yX1_init : MethodName := ⟨RX1, "<init>", "()V"⟩
abbrev cX1_begin : ByteArray := prog_3_method_2_code
def yX1_begin : MethodName := ⟨RX1, "begin", "(III)V"⟩
abbrev cX1_travel : ByteArray := prog_3_method_3_code
def yX1_travel : MethodName := ⟨RX1, "travel", "(LStoneFurrows$Couple;LStoneFurrows$Hanging;)V"⟩
abbrev cX1_beat : ByteArray := prog_3_method_4_code
def yX1_beat : MethodName := ⟨RX1, "beat", "(LStoneFurrows$Couple;LStoneFurrows$Hanging;)V"⟩
abbrev cX1_beCut : ByteArray := prog_3_method_5_code
def yX1_beCut : MethodName := ⟨RX1, "beCut", "(I)V"⟩
abbrev cX1_goOutward : ByteArray := prog_3_method_6_code
def yX1_goOutward : MethodName := ⟨RX1, "goOutward", "(LStoneFurrows$Couple;)V"⟩
abbrev cX1_beGround : ByteArray := prog_3_method_7_code
def yX1_beGround : MethodName := ⟨RX1, "beGround", "(I)V"⟩
abbrev cX1_isOut : ByteArray := prog_3_method_8_code
def yX1_isOut : MethodName := ⟨RX1, "isOut", "()Z"⟩
abbrev cX1_tell : ByteArray := prog_3_method_9_code
def yX1_tell : MethodName := ⟨RX1, "tell", "(I)I"⟩
abbrev cX1_shareOfGrist : ByteArray := prog_3_method_10_code
def yX1_shareOfGrist : MethodName := ⟨RX1, "shareOfGrist", "(I)I"⟩
def RX2 : String := "StoneFurrows$Hanging"
def TX2 : u_T := fun k => match k with
  | 0 => ("StoneFurrows$Hanging", "width", "I", false)
  | 1 => ("StoneFurrows$Hanging", "kind", "I", false)
  | 2 => ("StoneFurrows$Hanging", "size", "I", false)
  | _ => ("StoneFurrows$Hanging", "sector", "I", false)
def tyX2 : Nat → FieldType := fun k => match k with
  | 0 => .int
  | 1 => .int
  | 2 => .int
  | _ => .int
abbrev wsX20 : List Cond := u_ws RX2 TX2 4
theorem nmX2 : ∀ a, a < 4 → ∀ b, b < 4 → a ≠ b → (TX2 a).2.1 ≠ (TX2 b).2.1 := by decide +kernel
theorem tyX2_ok : ∀ k, k < 4 → parseFieldDescriptor (TX2 k).2.2.1 = some (tyX2 k) := by decide +kernel
abbrev cX2_init : ByteArray := prog_4_method_1_code
def yX2_init : MethodName := ⟨RX2, "<init>", "()V"⟩
abbrev cX2_become : ByteArray := prog_4_method_2_code
def yX2_become : MethodName := ⟨RX2, "become", "(III)V"⟩
abbrev cX2_becomeNumber : ByteArray := prog_4_method_3_code
def yX2_becomeNumber : MethodName := ⟨RX2, "becomeNumber", "(I)V"⟩
abbrev cX2_code : ByteArray := prog_4_method_4_code
def yX2_code : MethodName := ⟨RX2, "code", "()I"⟩
abbrev cX2_gapOver : ByteArray := prog_4_method_5_code
def yX2_gapOver : MethodName := ⟨RX2, "gapOver", "(III)I"⟩
abbrev cX2_slopeOf : ByteArray := prog_4_method_6_code
def yX2_slopeOf : MethodName := ⟨RX2, "slopeOf", "(I)I"⟩
abbrev cX2_leastGap : ByteArray := prog_4_method_7_code
def yX2_leastGap : MethodName := ⟨RX2, "leastGap", "()I"⟩
abbrev cX2_greatestGap : ByteArray := prog_4_method_8_code
def yX2_greatestGap : MethodName := ⟨RX2, "greatestGap", "()I"⟩
abbrev cX2_addTo : ByteArray := prog_4_method_9_code
def yX2_addTo : MethodName := ⟨RX2, "addTo", "(J)J"⟩
def RX3 : String := "StoneFurrows$Hours"
def TX3 : u_T := fun k => match k with
  | 0 => ("StoneFurrows$Hours", "coarses", "[I", true)
  | 1 => ("StoneFurrows$Hours", "fines", "[I", true)
  | _ => ("StoneFurrows$Hours", "held", "I", false)
def tyX3 : Nat → FieldType := fun k => match k with
  | 0 => .array .int
  | 1 => .array .int
  | _ => .int
abbrev wsX30 : List Cond := u_ws RX3 TX3 3
theorem nmX3 : ∀ a, a < 3 → ∀ b, b < 3 → a ≠ b → (TX3 a).2.1 ≠ (TX3 b).2.1 := by decide +kernel
theorem tyX3_ok : ∀ k, k < 3 → parseFieldDescriptor (TX3 k).2.2.1 = some (tyX3 k) := by decide +kernel
abbrev cX3_init : ByteArray := prog_5_method_1_code
def yX3_init : MethodName := ⟨RX3, "<init>", "()V"⟩
abbrev cX3_add : ByteArray := prog_5_method_2_code
def yX3_add : MethodName := ⟨RX3, "add", "(II)Z"⟩
abbrev cX3_wasSeen : ByteArray := prog_5_method_3_code
def yX3_wasSeen : MethodName := ⟨RX3, "wasSeen", "(I)Z"⟩
abbrev cX3_isCoarse : ByteArray := prog_5_method_4_code
def yX3_isCoarse : MethodName := ⟨RX3, "isCoarse", "(II)Z"⟩
abbrev cX3_countCoarse : ByteArray := prog_5_method_5_code
def yX3_countCoarse : MethodName := ⟨RX3, "countCoarse", "(I)I"⟩
abbrev cX3_dullSince : ByteArray := prog_5_method_6_code
def yX3_dullSince : MethodName := ⟨RX3, "dullSince", "(I)I"⟩
abbrev cX3_longestCoarse : ByteArray := prog_5_method_7_code
def yX3_longestCoarse : MethodName := ⟨RX3, "longestCoarse", "(I)I"⟩
abbrev cX3_addTo : ByteArray := prog_5_method_8_code
def yX3_addTo : MethodName := ⟨RX3, "addTo", "(J)J"⟩
def RX4 : String := "StoneFurrows$Mills"
def TX4 : u_T := fun k => match k with
  | 0 => ("StoneFurrows$Mills", "firsts", "[I", true)
  | 1 => ("StoneFurrows$Mills", "lasts", "[I", true)
  | 2 => ("StoneFurrows$Mills", "spans", "[I", true)
  | 3 => ("StoneFurrows$Mills", "roads", "[I", true)
  | _ => ("StoneFurrows$Mills", "dresserCount", "I", false)
def tyX4 : Nat → FieldType := fun k => match k with
  | 0 => .array .int
  | 1 => .array .int
  | 2 => .array .int
  | 3 => .array .int
  | _ => .int
abbrev wsX40 : List Cond := u_ws RX4 TX4 5
theorem nmX4 : ∀ a, a < 5 → ∀ b, b < 5 → a ≠ b → (TX4 a).2.1 ≠ (TX4 b).2.1 := by decide +kernel
theorem tyX4_ok : ∀ k, k < 5 → parseFieldDescriptor (TX4 k).2.2.1 = some (tyX4 k) := by decide +kernel
abbrev cX4_init : ByteArray := prog_6_method_1_code
def yX4_init : MethodName := ⟨RX4, "<init>", "()V"⟩
abbrev cX4_setDue : ByteArray := prog_6_method_2_code
def yX4_setDue : MethodName := ⟨RX4, "setDue", "(IIII)V"⟩
abbrev cX4_isDue : ByteArray := prog_6_method_3_code
def yX4_isDue : MethodName := ⟨RX4, "isDue", "(I)Z"⟩
abbrev cX4_countDue : ByteArray := prog_6_method_4_code
def yX4_countDue : MethodName := ⟨RX4, "countDue", "()I"⟩
abbrev cX4_roadBetween : ByteArray := prog_6_method_5_code
def yX4_roadBetween : MethodName := ⟨RX4, "roadBetween", "(II)I"⟩
abbrev cX4_setRoad : ByteArray := prog_6_method_6_code
def yX4_setRoad : MethodName := ⟨RX4, "setRoad", "(III)V"⟩
abbrev cX4_earliestStart : ByteArray := prog_6_method_7_code
def yX4_earliestStart : MethodName := ⟨RX4, "earliestStart", "(I)I"⟩
abbrev cX4_startBehind : ByteArray := prog_6_method_8_code
def yX4_startBehind : MethodName := ⟨RX4, "startBehind", "(III)I"⟩
abbrev cX4_lastDay : ByteArray := prog_6_method_9_code
def yX4_lastDay : MethodName := ⟨RX4, "lastDay", "(II)I"⟩
abbrev cX4_isInTime : ByteArray := prog_6_method_10_code
def yX4_isInTime : MethodName := ⟨RX4, "isInTime", "(II)Z"⟩
abbrev cX4_addTo : ByteArray := prog_6_method_11_code
def yX4_addTo : MethodName := ⟨RX4, "addTo", "(J)J"⟩
def RX5 : String := "StoneFurrows$Planner"
def TX5 : u_T := fun k => match k with
  | 0 => ("StoneFurrows$Planner", "ends", "[I", true)
  | 1 => ("StoneFurrows$Planner", "soonest", "[I", true)
  | 2 => ("StoneFurrows$Planner", "owners", "[I", true)
  | 3 => ("StoneFurrows$Planner", "starts", "[I", true)
  | _ => ("StoneFurrows$Planner", "latest", "I", false)
def tyX5 : Nat → FieldType := fun k => match k with
  | 0 => .array .int
  | 1 => .array .int
  | 2 => .array .int
  | 3 => .array .int
  | _ => .int
abbrev wsX50 : List Cond := u_ws RX5 TX5 5
theorem nmX5 : ∀ a, a < 5 → ∀ b, b < 5 → a ≠ b → (TX5 a).2.1 ≠ (TX5 b).2.1 := by decide +kernel
theorem tyX5_ok : ∀ k, k < 5 → parseFieldDescriptor (TX5 k).2.2.1 = some (tyX5 k) := by decide +kernel
abbrev cX5_init : ByteArray := prog_7_method_1_code
def yX5_init : MethodName := ⟨RX5, "<init>", "()V"⟩
abbrev cX5_solve : ByteArray := prog_7_method_2_code
def yX5_solve : MethodName := ⟨RX5, "solve", "(LStoneFurrows$Mills;)V"⟩
abbrev cX5_dresserOf : ByteArray := prog_7_method_3_code
def yX5_dresserOf : MethodName := ⟨RX5, "dresserOf", "(I)I"⟩
abbrev cX5_startOf : ByteArray := prog_7_method_4_code
def yX5_startOf : MethodName := ⟨RX5, "startOf", "(I)I"⟩
abbrev cX5_has : ByteArray := prog_7_method_5_code
def yX5_has : MethodName := ⟨RX5, "has", "(II)Z"⟩
abbrev cX5_findEnds : ByteArray := prog_7_method_6_code
def yX5_findEnds : MethodName := ⟨RX5, "findEnds", "(LStoneFurrows$Mills;I)V"⟩
abbrev cX5_earliestEnd : ByteArray := prog_7_method_7_code
def yX5_earliestEnd : MethodName := ⟨RX5, "earliestEnd", "(LStoneFurrows$Mills;II)I"⟩
abbrev cX5_bestSharing : ByteArray := prog_7_method_8_code
def yX5_bestSharing : MethodName := ⟨RX5, "bestSharing", "(II)I"⟩
abbrev cX5_readOwners : ByteArray := prog_7_method_9_code
def yX5_readOwners : MethodName := ⟨RX5, "readOwners", "(III)V"⟩
abbrev cX5_dayOfSharing : ByteArray := prog_7_method_10_code
def yX5_dayOfSharing : MethodName := ⟨RX5, "dayOfSharing", "(III)I"⟩
abbrev cX5_digitOf : ByteArray := prog_7_method_11_code
def yX5_digitOf : MethodName := ⟨RX5, "digitOf", "(II)I"⟩
abbrev cX5_withoutDigit : ByteArray := prog_7_method_12_code
def yX5_withoutDigit : MethodName := ⟨RX5, "withoutDigit", "(II)I"⟩
abbrev cX5_layOut : ByteArray := prog_7_method_13_code
def yX5_layOut : MethodName := ⟨RX5, "layOut", "(LStoneFurrows$Mills;I)V"⟩
abbrev cX5_goOn : ByteArray := prog_7_method_14_code
def yX5_goOn : MethodName := ⟨RX5, "goOn", "(LStoneFurrows$Planner;LStoneFurrows$Mills;IIII)Z"⟩
def RX6 : String := "StoneFurrows$Stone"
def TX6 : u_T := fun k => match k with
  | 0 => ("StoneFurrows$Stone", "furrows", "[Z", true)
  | 1 => ("StoneFurrows$Stone", "cracks", "[Z", true)
  | 2 => ("StoneFurrows$Stone", "heights", "[I", true)
  | 3 => ("StoneFurrows$Stone", "reached", "[Z", true)
  | _ => ("StoneFurrows$Stone", "next", "[Z", true)
def tyX6 : Nat → FieldType := fun k => match k with
  | 0 => .array .boolean
  | 1 => .array .boolean
  | 2 => .array .int
  | 3 => .array .boolean
  | _ => .array .boolean
abbrev wsX60 : List Cond := u_ws RX6 TX6 5
theorem nmX6 : ∀ a, a < 5 → ∀ b, b < 5 → a ≠ b → (TX6 a).2.1 ≠ (TX6 b).2.1 := by decide +kernel
theorem tyX6_ok : ∀ k, k < 5 → parseFieldDescriptor (TX6 k).2.2.1 = some (tyX6 k) := by decide +kernel
abbrev cX6_init : ByteArray := prog_8_method_1_code
def yX6_init : MethodName := ⟨RX6, "<init>", "()V"⟩
abbrev cX6_cutHarps : ByteArray := prog_8_method_2_code
def yX6_cutHarps : MethodName := ⟨RX6, "cutHarps", "(IIII)I"⟩
abbrev cX6_layHeights : ByteArray := prog_8_method_3_code
def yX6_layHeights : MethodName := ⟨RX6, "layHeights", "()I"⟩
abbrev cX6_setFurrow : ByteArray := prog_8_method_4_code
def yX6_setFurrow : MethodName := ⟨RX6, "setFurrow", "(II)V"⟩
abbrev cX6_isFurrow : ByteArray := prog_8_method_5_code
def yX6_isFurrow : MethodName := ⟨RX6, "isFurrow", "(II)Z"⟩
abbrev cX6_isLand : ByteArray := prog_8_method_6_code
def yX6_isLand : MethodName := ⟨RX6, "isLand", "(II)Z"⟩
abbrev cX6_heightAt : ByteArray := prog_8_method_7_code
def yX6_heightAt : MethodName := ⟨RX6, "heightAt", "(II)I"⟩
abbrev cX6_isCracked : ByteArray := prog_8_method_8_code
def yX6_isCracked : MethodName := ⟨RX6, "isCracked", "(II)Z"⟩
abbrev cX6_setCrack : ByteArray := prog_8_method_9_code
def yX6_setCrack : MethodName := ⟨RX6, "setCrack", "(IIZ)V"⟩
abbrev cX6_lower : ByteArray := prog_8_method_10_code
def yX6_lower : MethodName := ⟨RX6, "lower", "(III)I"⟩
abbrev cX6_countLeading : ByteArray := prog_8_method_11_code
def yX6_countLeading : MethodName := ⟨RX6, "countLeading", "(Z)I"⟩
abbrev cX6_leadsOutFrom : ByteArray := prog_8_method_12_code
def yX6_leadsOutFrom : MethodName := ⟨RX6, "leadsOutFrom", "(I)Z"⟩
abbrev cX6_stepTo : ByteArray := prog_8_method_13_code
def yX6_stepTo : MethodName := ⟨RX6, "stepTo", "(I)Z"⟩
abbrev cX6_matches : ByteArray := prog_8_method_14_code
def yX6_matches : MethodName := ⟨RX6, "matches", "(LStoneFurrows$Stone;II)Z"⟩
abbrev cX6_sumOfHeights : ByteArray := prog_8_method_15_code
def yX6_sumOfHeights : MethodName := ⟨RX6, "sumOfHeights", "()I"⟩
abbrev cX6_hasLand : ByteArray := prog_8_method_16_code
def yX6_hasLand : MethodName := ⟨RX6, "hasLand", "(I)Z"⟩
abbrev cX6_wearAgainst : ByteArray := prog_8_method_17_code
def yX6_wearAgainst : MethodName := ⟨RX6, "wearAgainst", "(LStoneFurrows$Stone;)I"⟩
abbrev cX6_highestAgainst : ByteArray := prog_8_method_18_code
def yX6_highestAgainst : MethodName := ⟨RX6, "highestAgainst", "(LStoneFurrows$Stone;)I"⟩
abbrev cX6_wearRing : ByteArray := prog_8_method_19_code
def yX6_wearRing : MethodName := ⟨RX6, "wearRing", "(II)I"⟩
abbrev cX6_marksOnLine : ByteArray := prog_8_method_20_code
def yX6_marksOnLine : MethodName := ⟨RX6, "marksOnLine", "(II)I"⟩
abbrev cX6_leastLand : ByteArray := prog_8_method_21_code
def yX6_leastLand : MethodName := ⟨RX6, "leastLand", "()I"⟩
abbrev cX6_countLandAbove : ByteArray := prog_8_method_22_code
def yX6_countLandAbove : MethodName := ⟨RX6, "countLandAbove", "(I)I"⟩
abbrev cX6_sumLandAbove : ByteArray := prog_8_method_23_code
def yX6_sumLandAbove : MethodName := ⟨RX6, "sumLandAbove", "(I)I"⟩
abbrev cX6_cutLandTo : ByteArray := prog_8_method_24_code
def yX6_cutLandTo : MethodName := ⟨RX6, "cutLandTo", "(I)V"⟩
abbrev cX6_addTo : ByteArray := prog_8_method_25_code
def yX6_addTo : MethodName := ⟨RX6, "addTo", "(J)J"⟩
def RX7 : String := "StoneFurrows$Touches"
def TX7 : u_T := fun k => match k with
  | 0 => ("StoneFurrows$Touches", "sectors", "[I", true)
  | 1 => ("StoneFurrows$Touches", "turns", "[I", true)
  | 2 => ("StoneFurrows$Touches", "values", "[I", true)
  | 3 => ("StoneFurrows$Touches", "trial", "LStoneFurrows$Hanging;", true)
  | _ => ("StoneFurrows$Touches", "held", "I", false)
def tyX7 : Nat → FieldType := fun k => match k with
  | 0 => .array .int
  | 1 => .array .int
  | 2 => .array .int
  | 3 => .object "StoneFurrows$Hanging"
  | _ => .int
abbrev wsX70 : List Cond := u_ws RX7 TX7 5
theorem nmX7 : ∀ a, a < 5 → ∀ b, b < 5 → a ≠ b → (TX7 a).2.1 ≠ (TX7 b).2.1 := by decide +kernel
theorem tyX7_ok : ∀ k, k < 5 → parseFieldDescriptor (TX7 k).2.2.1 = some (tyX7 k) := by decide +kernel
abbrev cX7_init : ByteArray := prog_9_method_1_code
def yX7_init : MethodName := ⟨RX7, "<init>", "()V"⟩
abbrev cX7_add : ByteArray := prog_9_method_2_code
def yX7_add : MethodName := ⟨RX7, "add", "(III)Z"⟩
abbrev cX7_areExplainedByTrial : ByteArray := prog_9_method_3_code
def yX7_areExplainedByTrial : MethodName := ⟨RX7, "areExplainedByTrial", "()Z"⟩
abbrev cX7_countExplaining : ByteArray := prog_9_method_4_code
def yX7_countExplaining : MethodName := ⟨RX7, "countExplaining", "(I)I"⟩
abbrev cX7_codeOfExplaining : ByteArray := prog_9_method_5_code
def yX7_codeOfExplaining : MethodName := ⟨RX7, "codeOfExplaining", "(II)I"⟩
abbrev cX7_addTo : ByteArray := prog_9_method_6_code
def yX7_addTo : MethodName := ⟨RX7, "addTo", "(J)J"⟩
def RX8 : String := "StoneFurrows"
def TX8 : u_T := fun k => match k with
  | 0 => ("StoneFurrows", "stones", "[LStoneFurrows$Stone;", true)
  | 1 => ("StoneFurrows", "couple", "LStoneFurrows$Couple;", true)
  | 2 => ("StoneFurrows", "hanging", "LStoneFurrows$Hanging;", true)
  | 3 => ("StoneFurrows", "traveller", "LStoneFurrows$Grain;", true)
  | 4 => ("StoneFurrows", "touches", "LStoneFurrows$Touches;", true)
  | 5 => ("StoneFurrows", "hours", "LStoneFurrows$Hours;", true)
  | 6 => ("StoneFurrows", "mills", "LStoneFurrows$Mills;", true)
  | 7 => ("StoneFurrows", "planner", "LStoneFurrows$Planner;", true)
  | 8 => ("StoneFurrows", "bed", "I", false)
  | 9 => ("StoneFurrows", "runner", "I", false)
  | 10 => ("StoneFurrows", "gristsDone", "I", false)
  | 11 => ("StoneFurrows", "plansDone", "I", false)
  | _ => ("StoneFurrows", "bushels", "I", false)
def tyX8 : Nat → FieldType := fun k => match k with
  | 0 => .array (.object "StoneFurrows$Stone")
  | 1 => .object "StoneFurrows$Couple"
  | 2 => .object "StoneFurrows$Hanging"
  | 3 => .object "StoneFurrows$Grain"
  | 4 => .object "StoneFurrows$Touches"
  | 5 => .object "StoneFurrows$Hours"
  | 6 => .object "StoneFurrows$Mills"
  | 7 => .object "StoneFurrows$Planner"
  | 8 => .int
  | 9 => .int
  | 10 => .int
  | 11 => .int
  | _ => .int
abbrev wsX80 : List Cond := u_ws RX8 TX8 13
theorem nmX8 : ∀ a, a < 13 → ∀ b, b < 13 → a ≠ b → (TX8 a).2.1 ≠ (TX8 b).2.1 := by decide +kernel
theorem tyX8_ok : ∀ k, k < 13 → parseFieldDescriptor (TX8 k).2.2.1 = some (tyX8 k) := by decide +kernel
abbrev cX8_init : ByteArray := prog_1_method_1_code
def yX8_init : MethodName := ⟨RX8, "<init>", "()V"⟩
abbrev cX8_dress : ByteArray := prog_1_method_2_code
def yX8_dress : MethodName := ⟨RX8, "dress", "(IIIII)I"⟩
abbrev cX8_spot : ByteArray := prog_1_method_3_code
def yX8_spot : MethodName := ⟨RX8, "spot", "(IIII)I"⟩
abbrev cX8_chisel : ByteArray := prog_1_method_4_code
def yX8_chisel : MethodName := ⟨RX8, "chisel", "(IIII)I"⟩
abbrev cX8_crack : ByteArray := prog_1_method_5_code
def yX8_crack : MethodName := ⟨RX8, "crack", "(IIIZ)I"⟩
abbrev cX8_leads : ByteArray := prog_1_method_6_code
def yX8_leads : MethodName := ⟨RX8, "leads", "(II)I"⟩
abbrev cX8_is : ByteArray := prog_1_method_7_code
def yX8_is : MethodName := ⟨RX8, "is", "(II)I"⟩
abbrev cX8_stuff : ByteArray := prog_1_method_8_code
def yX8_stuff : MethodName := ⟨RX8, "stuff", "(I)I"⟩
abbrev cX8_pair : ByteArray := prog_1_method_9_code
def yX8_pair : MethodName := ⟨RX8, "pair", "(II)I"⟩
abbrev cX8_crossings : ByteArray := prog_1_method_10_code
def yX8_crossings : MethodName := ⟨RX8, "crossings", "(I)I"⟩
abbrev cX8_round : ByteArray := prog_1_method_11_code
def yX8_round : MethodName := ⟨RX8, "round", "(I)I"⟩
abbrev cX8_outward : ByteArray := prog_1_method_12_code
def yX8_outward : MethodName := ⟨RX8, "outward", "(I)I"⟩
abbrev cX8_drift : ByteArray := prog_1_method_13_code
def yX8_drift : MethodName := ⟨RX8, "drift", "()I"⟩
abbrev cX8_gap : ByteArray := prog_1_method_14_code
def yX8_gap : MethodName := ⟨RX8, "gap", "(I)I"⟩
abbrev cX8_hang : ByteArray := prog_1_method_15_code
def yX8_hang : MethodName := ⟨RX8, "hang", "(III)I"⟩
abbrev cX8_gapAt : ByteArray := prog_1_method_16_code
def yX8_gapAt : MethodName := ⟨RX8, "gapAt", "(III)I"⟩
abbrev cX8_gaps : ByteArray := prog_1_method_17_code
def yX8_gaps : MethodName := ⟨RX8, "gaps", "(I)I"⟩
abbrev cX8_grain : ByteArray := prog_1_method_18_code
def yX8_grain : MethodName := ⟨RX8, "grain", "(IIII)I"⟩
abbrev cX8_grist : ByteArray := prog_1_method_19_code
def yX8_grist : MethodName := ⟨RX8, "grist", "(II)I"⟩
abbrev cX8_mill : ByteArray := prog_1_method_20_code
def yX8_mill : MethodName := ⟨RX8, "mill", "(I)I"⟩
abbrev cX8_staff : ByteArray := prog_1_method_21_code
def yX8_staff : MethodName := ⟨RX8, "staff", "(III)I"⟩
abbrev cX8_high : ByteArray := prog_1_method_22_code
def yX8_high : MethodName := ⟨RX8, "high", "(III)I"⟩
abbrev cX8_level : ByteArray := prog_1_method_23_code
def yX8_level : MethodName := ⟨RX8, "level", "(II)I"⟩
abbrev cX8_feel : ByteArray := prog_1_method_24_code
def yX8_feel : MethodName := ⟨RX8, "feel", "(III)I"⟩
abbrev cX8_numb : ByteArray := prog_1_method_25_code
def yX8_numb : MethodName := ⟨RX8, "numb", "()I"⟩
abbrev cX8_explains : ByteArray := prog_1_method_26_code
def yX8_explains : MethodName := ⟨RX8, "explains", "()I"⟩
abbrev cX8_explained : ByteArray := prog_1_method_27_code
def yX8_explained : MethodName := ⟨RX8, "explained", "(I)I"⟩
abbrev cX8_sieve : ByteArray := prog_1_method_28_code
def yX8_sieve : MethodName := ⟨RX8, "sieve", "(II)I"⟩
abbrev cX8_skip : ByteArray := prog_1_method_29_code
def yX8_skip : MethodName := ⟨RX8, "skip", "()I"⟩
abbrev cX8_meal : ByteArray := prog_1_method_30_code
def yX8_meal : MethodName := ⟨RX8, "meal", "(II)I"⟩
abbrev cX8_sweep : ByteArray := prog_1_method_31_code
def yX8_sweep : MethodName := ⟨RX8, "sweep", "()I"⟩
abbrev cX8_due : ByteArray := prog_1_method_32_code
def yX8_due : MethodName := ⟨RX8, "due", "(IIII)I"⟩
abbrev cX8_free : ByteArray := prog_1_method_33_code
def yX8_free : MethodName := ⟨RX8, "free", "(I)I"⟩
abbrev cX8_road : ByteArray := prog_1_method_34_code
def yX8_road : MethodName := ⟨RX8, "road", "(III)I"⟩
abbrev cX8_dressers : ByteArray := prog_1_method_35_code
def yX8_dressers : MethodName := ⟨RX8, "dressers", "(I)I"⟩
abbrev cX8_plan : ByteArray := prog_1_method_36_code
def yX8_plan : MethodName := ⟨RX8, "plan", "()I"⟩
abbrev cX8_given : ByteArray := prog_1_method_37_code
def yX8_given : MethodName := ⟨RX8, "given", "(I)I"⟩
abbrev cX8_begun : ByteArray := prog_1_method_38_code
def yX8_begun : MethodName := ⟨RX8, "begun", "(I)I"⟩
abbrev cX8_count : ByteArray := prog_1_method_39_code
def yX8_count : MethodName := ⟨RX8, "count", "(I)I"⟩
abbrev cX8_digest : ByteArray := prog_1_method_40_code
def yX8_digest : MethodName := ⟨RX8, "digest", "()J"⟩
abbrev cX8_planAnew : ByteArray := prog_1_method_41_code
def yX8_planAnew : MethodName := ⟨RX8, "planAnew", "()V"⟩
abbrev cX8_isWithin : ByteArray := prog_1_method_42_code
def yX8_isWithin : MethodName := ⟨RX8, "isWithin", "(III)Z"⟩
abbrev cX8_isStone : ByteArray := prog_1_method_43_code
def yX8_isStone : MethodName := ⟨RX8, "isStone", "(I)Z"⟩
abbrev cX8_isRing : ByteArray := prog_1_method_44_code
def yX8_isRing : MethodName := ⟨RX8, "isRing", "(I)Z"⟩
abbrev cX8_isSector : ByteArray := prog_1_method_45_code
def yX8_isSector : MethodName := ⟨RX8, "isSector", "(I)Z"⟩
abbrev cX8_isSpot : ByteArray := prog_1_method_46_code
def yX8_isSpot : MethodName := ⟨RX8, "isSpot", "(II)Z"⟩
abbrev cX8_isMill : ByteArray := prog_1_method_47_code
def yX8_isMill : MethodName := ⟨RX8, "isMill", "(I)Z"⟩
abbrev cX8_isHarps : ByteArray := prog_1_method_48_code
def yX8_isHarps : MethodName := ⟨RX8, "isHarps", "(I)Z"⟩
abbrev cX8_oneIf : ByteArray := prog_1_method_49_code
def yX8_oneIf : MethodName := ⟨RX8, "oneIf", "(Z)I"⟩
abbrev cX8_around : ByteArray := prog_1_method_50_code
def yX8_around : MethodName := ⟨RX8, "around", "(I)I"⟩
abbrev cX8_mix : ByteArray := prog_1_method_51_code
def yX8_mix : MethodName := ⟨RX8, "mix", "(JJ)J"⟩
abbrev cX8_itemOf : ByteArray := prog_1_method_52_code
def yX8_itemOf : MethodName := ⟨RX8, "itemOf", "([II)I"⟩
abbrev cX8_putItem : ByteArray := prog_1_method_53_code
def yX8_putItem : MethodName := ⟨RX8, "putItem", "([III)V"⟩
def RX9 : String := "StoneFurrowsModel"
def TX9 : u_T := fun k => match k with
  | 0 => ("StoneFurrowsModel", "isFurrow", "[Z", true)
  | 1 => ("StoneFurrowsModel", "heights", "[I", true)
  | 2 => ("StoneFurrowsModel", "isCracked", "[Z", true)
  | 3 => ("StoneFurrowsModel", "leads", "[Z", true)
  | 4 => ("StoneFurrowsModel", "bed", "I", false)
  | 5 => ("StoneFurrowsModel", "runner", "I", false)
  | 6 => ("StoneFurrowsModel", "wide", "I", false)
  | 7 => ("StoneFurrowsModel", "kind", "I", false)
  | 8 => ("StoneFurrowsModel", "size", "I", false)
  | 9 => ("StoneFurrowsModel", "sector", "I", false)
  | 10 => ("StoneFurrowsModel", "ring", "I", false)
  | 11 => ("StoneFurrowsModel", "place", "I", false)
  | 12 => ("StoneFurrowsModel", "grain", "I", false)
  | 13 => ("StoneFurrowsModel", "cuts", "I", false)
  | 14 => ("StoneFurrowsModel", "warmth", "I", false)
  | 15 => ("StoneFurrowsModel", "beats", "I", false)
  | 16 => ("StoneFurrowsModel", "grists", "I", false)
  | 17 => ("StoneFurrowsModel", "bushels", "I", false)
  | 18 => ("StoneFurrowsModel", "felts", "I", false)
  | 19 => ("StoneFurrowsModel", "feltSector", "[I", true)
  | 20 => ("StoneFurrowsModel", "feltTurn", "[I", true)
  | 21 => ("StoneFurrowsModel", "feltGap", "[I", true)
  | 22 => ("StoneFurrowsModel", "foundHanging", "I", false)
  | 23 => ("StoneFurrowsModel", "hours", "I", false)
  | 24 => ("StoneFurrowsModel", "coarse", "[I", true)
  | 25 => ("StoneFurrowsModel", "fine", "[I", true)
  | 26 => ("StoneFurrowsModel", "isDue", "[Z", true)
  | 27 => ("StoneFurrowsModel", "dueFrom", "[I", true)
  | 28 => ("StoneFurrowsModel", "dueTo", "[I", true)
  | 29 => ("StoneFurrowsModel", "dueDays", "[I", true)
  | 30 => ("StoneFurrowsModel", "roads", "[I", true)
  | 31 => ("StoneFurrowsModel", "hands", "I", false)
  | 32 => ("StoneFurrowsModel", "planned", "I", false)
  | 33 => ("StoneFurrowsModel", "who", "[I", true)
  | 34 => ("StoneFurrowsModel", "bestWho", "[I", true)
  | 35 => ("StoneFurrowsModel", "order", "[I", true)
  | 36 => ("StoneFurrowsModel", "orderMany", "I", false)
  | _ => ("StoneFurrowsModel", "begins", "[I", true)
def tyX9 : Nat → FieldType := fun k => match k with
  | 0 => .array .boolean
  | 1 => .array .int
  | 2 => .array .boolean
  | 3 => .array .boolean
  | 4 => .int
  | 5 => .int
  | 6 => .int
  | 7 => .int
  | 8 => .int
  | 9 => .int
  | 10 => .int
  | 11 => .int
  | 12 => .int
  | 13 => .int
  | 14 => .int
  | 15 => .int
  | 16 => .int
  | 17 => .int
  | 18 => .int
  | 19 => .array .int
  | 20 => .array .int
  | 21 => .array .int
  | 22 => .int
  | 23 => .int
  | 24 => .array .int
  | 25 => .array .int
  | 26 => .array .boolean
  | 27 => .array .int
  | 28 => .array .int
  | 29 => .array .int
  | 30 => .array .int
  | 31 => .int
  | 32 => .int
  | 33 => .array .int
  | 34 => .array .int
  | 35 => .array .int
  | 36 => .int
  | _ => .array .int
abbrev wsX90 : List Cond := u_ws RX9 TX9 38
theorem nmX9 : ∀ a, a < 38 → ∀ b, b < 38 → a ≠ b → (TX9 a).2.1 ≠ (TX9 b).2.1 := by decide +kernel
theorem tyX9_ok : ∀ k, k < 38 → parseFieldDescriptor (TX9 k).2.2.1 = some (tyX9 k) := by decide +kernel
abbrev cX9_init : ByteArray := prog_11_method_1_code
def yX9_init : MethodName := ⟨RX9, "<init>", "()V"⟩
abbrev cX9_in : ByteArray := prog_11_method_2_code
def yX9_in : MethodName := ⟨RX9, "in", "(JJJ)Z"⟩
abbrev cX9_floor : ByteArray := prog_11_method_3_code
def yX9_floor : MethodName := ⟨RX9, "floor", "(II)I"⟩
abbrev cX9_turned : ByteArray := prog_11_method_4_code
def yX9_turned : MethodName := ⟨RX9, "turned", "(I)I"⟩
abbrev cX9_at : ByteArray := prog_11_method_5_code
def yX9_at : MethodName := ⟨RX9, "at", "(III)I"⟩
abbrev cX9_isStone : ByteArray := prog_11_method_6_code
def yX9_isStone : MethodName := ⟨RX9, "isStone", "(I)Z"⟩
abbrev cX9_isSector : ByteArray := prog_11_method_7_code
def yX9_isSector : MethodName := ⟨RX9, "isSector", "(I)Z"⟩
abbrev cX9_isSpot : ByteArray := prog_11_method_8_code
def yX9_isSpot : MethodName := ⟨RX9, "isSpot", "(III)Z"⟩
abbrev cX9_furrow : ByteArray := prog_11_method_9_code
def yX9_furrow : MethodName := ⟨RX9, "furrow", "(IIIII)I"⟩
abbrev cX9_dress : ByteArray := prog_11_method_10_code
def yX9_dress : MethodName := ⟨RX9, "dress", "(IIIII)I"⟩
abbrev cX9_spot : ByteArray := prog_11_method_11_code
def yX9_spot : MethodName := ⟨RX9, "spot", "(IIII)I"⟩
abbrev cX9_chisel : ByteArray := prog_11_method_12_code
def yX9_chisel : MethodName := ⟨RX9, "chisel", "(IIII)I"⟩
abbrev cX9_crack : ByteArray := prog_11_method_13_code
def yX9_crack : MethodName := ⟨RX9, "crack", "(IIIZ)I"⟩
abbrev cX9_leads : ByteArray := prog_11_method_14_code
def yX9_leads : MethodName := ⟨RX9, "leads", "(II)I"⟩
abbrev cX9_is : ByteArray := prog_11_method_15_code
def yX9_is : MethodName := ⟨RX9, "is", "(II)I"⟩
abbrev cX9_stuff : ByteArray := prog_11_method_16_code
def yX9_stuff : MethodName := ⟨RX9, "stuff", "(I)I"⟩
abbrev cX9_pair : ByteArray := prog_11_method_17_code
def yX9_pair : MethodName := ⟨RX9, "pair", "(II)I"⟩
abbrev cX9_below : ByteArray := prog_11_method_18_code
def yX9_below : MethodName := ⟨RX9, "below", "(II)Z"⟩
abbrev cX9_above : ByteArray := prog_11_method_19_code
def yX9_above : MethodName := ⟨RX9, "above", "(III)Z"⟩
abbrev cX9_crosses : ByteArray := prog_11_method_20_code
def yX9_crosses : MethodName := ⟨RX9, "crosses", "(III)Z"⟩
abbrev cX9_crossingsOf : ByteArray := prog_11_method_21_code
def yX9_crossingsOf : MethodName := ⟨RX9, "crossingsOf", "(I)I"⟩
abbrev cX9_crossings : ByteArray := prog_11_method_22_code
def yX9_crossings : MethodName := ⟨RX9, "crossings", "(I)I"⟩
abbrev cX9_round : ByteArray := prog_11_method_23_code
def yX9_round : MethodName := ⟨RX9, "round", "(I)I"⟩
abbrev cX9_goOn : ByteArray := prog_11_method_24_code
def yX9_goOn : MethodName := ⟨RX9, "goOn", "(II)I"⟩
abbrev cX9_outward : ByteArray := prog_11_method_25_code
def yX9_outward : MethodName := ⟨RX9, "outward", "(I)I"⟩
abbrev cX9_drift : ByteArray := prog_11_method_26_code
def yX9_drift : MethodName := ⟨RX9, "drift", "()I"⟩
abbrev cX9_gap : ByteArray := prog_11_method_27_code
def yX9_gap : MethodName := ⟨RX9, "gap", "(I)I"⟩
abbrev cX9_hang : ByteArray := prog_11_method_28_code
def yX9_hang : MethodName := ⟨RX9, "hang", "(III)I"⟩
abbrev cX9_slope : ByteArray := prog_11_method_29_code
def yX9_slope : MethodName := ⟨RX9, "slope", "(I)I"⟩
abbrev cX9_gapBy : ByteArray := prog_11_method_30_code
def yX9_gapBy : MethodName := ⟨RX9, "gapBy", "(IIIIII)I"⟩
abbrev cX9_gapOf : ByteArray := prog_11_method_31_code
def yX9_gapOf : MethodName := ⟨RX9, "gapOf", "(III)I"⟩
abbrev cX9_gapAt : ByteArray := prog_11_method_32_code
def yX9_gapAt : MethodName := ⟨RX9, "gapAt", "(III)I"⟩
abbrev cX9_gaps : ByteArray := prog_11_method_33_code
def yX9_gaps : MethodName := ⟨RX9, "gaps", "(I)I"⟩
abbrev cX9_send : ByteArray := prog_11_method_34_code
def yX9_send : MethodName := ⟨RX9, "send", "(III)V"⟩
abbrev cX9_grain : ByteArray := prog_11_method_35_code
def yX9_grain : MethodName := ⟨RX9, "grain", "(IIII)I"⟩
abbrev cX9_grist : ByteArray := prog_11_method_36_code
def yX9_grist : MethodName := ⟨RX9, "grist", "(II)I"⟩
abbrev cX9_isGround : ByteArray := prog_11_method_37_code
def yX9_isGround : MethodName := ⟨RX9, "isGround", "(IIII)Z"⟩
abbrev cX9_wear : ByteArray := prog_11_method_38_code
def yX9_wear : MethodName := ⟨RX9, "wear", "(II)I"⟩
abbrev cX9_mill : ByteArray := prog_11_method_39_code
def yX9_mill : MethodName := ⟨RX9, "mill", "(I)I"⟩
abbrev cX9_staff : ByteArray := prog_11_method_40_code
def yX9_staff : MethodName := ⟨RX9, "staff", "(III)I"⟩
abbrev cX9_leastLand : ByteArray := prog_11_method_41_code
def yX9_leastLand : MethodName := ⟨RX9, "leastLand", "(I)I"⟩
abbrev cX9_high : ByteArray := prog_11_method_42_code
def yX9_high : MethodName := ⟨RX9, "high", "(III)I"⟩
abbrev cX9_level : ByteArray := prog_11_method_43_code
def yX9_level : MethodName := ⟨RX9, "level", "(II)I"⟩
abbrev cX9_feel : ByteArray := prog_11_method_44_code
def yX9_feel : MethodName := ⟨RX9, "feel", "(III)I"⟩
abbrev cX9_numb : ByteArray := prog_11_method_45_code
def yX9_numb : MethodName := ⟨RX9, "numb", "()I"⟩
abbrev cX9_explain : ByteArray := prog_11_method_46_code
def yX9_explain : MethodName := ⟨RX9, "explain", "(I)I"⟩
abbrev cX9_explains : ByteArray := prog_11_method_47_code
def yX9_explains : MethodName := ⟨RX9, "explains", "()I"⟩
abbrev cX9_explained : ByteArray := prog_11_method_48_code
def yX9_explained : MethodName := ⟨RX9, "explained", "(I)I"⟩
abbrev cX9_add : ByteArray := prog_11_method_49_code
def yX9_add : MethodName := ⟨RX9, "add", "(II)I"⟩
abbrev cX9_sieve : ByteArray := prog_11_method_50_code
def yX9_sieve : MethodName := ⟨RX9, "sieve", "(II)I"⟩
abbrev cX9_skip : ByteArray := prog_11_method_51_code
def yX9_skip : MethodName := ⟨RX9, "skip", "()I"⟩
abbrev cX9_meal : ByteArray := prog_11_method_52_code
def yX9_meal : MethodName := ⟨RX9, "meal", "(II)I"⟩
abbrev cX9_sweep : ByteArray := prog_11_method_53_code
def yX9_sweep : MethodName := ⟨RX9, "sweep", "()I"⟩
abbrev cX9_isMill : ByteArray := prog_11_method_54_code
def yX9_isMill : MethodName := ⟨RX9, "isMill", "(I)Z"⟩
abbrev cX9_due : ByteArray := prog_11_method_55_code
def yX9_due : MethodName := ⟨RX9, "due", "(IIII)I"⟩
abbrev cX9_free : ByteArray := prog_11_method_56_code
def yX9_free : MethodName := ⟨RX9, "free", "(I)I"⟩
abbrev cX9_road : ByteArray := prog_11_method_57_code
def yX9_road : MethodName := ⟨RX9, "road", "(III)I"⟩
abbrev cX9_dressers : ByteArray := prog_11_method_58_code
def yX9_dressers : MethodName := ⟨RX9, "dressers", "(I)I"⟩
abbrev cX9_dues : ByteArray := prog_11_method_59_code
def yX9_dues : MethodName := ⟨RX9, "dues", "()I"⟩
abbrev cX9_layOrder : ByteArray := prog_11_method_60_code
def yX9_layOrder : MethodName := ⟨RX9, "layOrder", "(I)V"⟩
abbrev cX9_latest : ByteArray := prog_11_method_61_code
def yX9_latest : MethodName := ⟨RX9, "latest", "()I"⟩
abbrev cX9_nextOrder : ByteArray := prog_11_method_62_code
def yX9_nextOrder : MethodName := ⟨RX9, "nextOrder", "()Z"⟩
abbrev cX9_swap : ByteArray := prog_11_method_63_code
def yX9_swap : MethodName := ⟨RX9, "swap", "(II)V"⟩
abbrev cX9_tryHand : ByteArray := prog_11_method_64_code
def yX9_tryHand : MethodName := ⟨RX9, "tryHand", "(II)I"⟩
abbrev cX9_setWho : ByteArray := prog_11_method_65_code
def yX9_setWho : MethodName := ⟨RX9, "setWho", "(I)V"⟩
abbrev cX9_findPlan : ByteArray := prog_11_method_66_code
def yX9_findPlan : MethodName := ⟨RX9, "findPlan", "()I"⟩
abbrev cX9_plan : ByteArray := prog_11_method_67_code
def yX9_plan : MethodName := ⟨RX9, "plan", "()I"⟩
abbrev cX9_given : ByteArray := prog_11_method_68_code
def yX9_given : MethodName := ⟨RX9, "given", "(I)I"⟩
abbrev cX9_begun : ByteArray := prog_11_method_69_code
def yX9_begun : MethodName := ⟨RX9, "begun", "(I)I"⟩
abbrev cX9_count : ByteArray := prog_11_method_70_code
def yX9_count : MethodName := ⟨RX9, "count", "(I)I"⟩
abbrev cX9_digest : ByteArray := prog_11_method_71_code
def yX9_digest : MethodName := ⟨RX9, "digest", "()J"⟩
def RJ9 : String := "java/lang/Math"
abbrev cJ9_floorDiv_7cf53 : ByteArray := prog_12_method_47_code
def yJ9_floorDiv_7cf53 : MethodName := ⟨RJ9, "floorDiv", "(II)I"⟩
abbrev cJ9_floorMod_7cf53 : ByteArray := prog_12_method_50_code
def yJ9_floorMod_7cf53 : MethodName := ⟨RJ9, "floorMod", "(II)I"⟩
abbrev cJ9_abs_0f7a4 : ByteArray := prog_12_method_59_code
def yJ9_abs_0f7a4 : MethodName := ⟨RJ9, "abs", "(I)I"⟩
abbrev cJ9_max_7cf53 : ByteArray := prog_12_method_65_code
def yJ9_max_7cf53 : MethodName := ⟨RJ9, "max", "(II)I"⟩
abbrev cJ9_min_7cf53 : ByteArray := prog_12_method_69_code
def yJ9_min_7cf53 : MethodName := ⟨RJ9, "min", "(II)I"⟩
def RL : String := "StoneFurrowsLaw"
abbrev cL_law : ByteArray := code
def yL_law : MethodName := ⟨RL, "law", "([I)Z"⟩
abbrev vwCl : List vw_C := [(RX0, TX0, 2), (RX1, TX1, 7), (RX2, TX2, 4), (RX3, TX3, 3), (RX4, TX4, 5), (RX5, TX5, 5), (RX6, TX6, 5), (RX7, TX7, 5), (RX8, TX8, 13), (RX9, TX9, 38)]
