section
-- ===== PART A: goes FIRST, ahead of the names: the tables' words, and 'selects' of the private methods out of them =====
/-- a private method of a class that the tables say can be made, by its rows of tables_1 -/
def lw_okq (q : MethodName × Nat) : Prop := (q.1.cls ≠ "java/lang/invoke/MethodHandle" ∧ q.1.cls ≠ "java/lang/invoke/VarHandle") ∧ Cond.instantiable q.1.cls q.2 ∈ tables_1 ∧ Cond.privateMethod q.1 ∈ tables_1 ∧ Cond.instanceMethod q.1 ∈ tables_1
theorem lw_p0 : lw_okq (⟨"TrainBearers", "refuse", "(I)I"⟩, 16) := ⟨⟨by decide +kernel, by decide +kernel⟩, List.mem_of_getElem? (i := 22) (by decide +kernel), List.mem_of_getElem? (i := 412) (by decide +kernel), List.mem_of_getElem? (i := 413) (by decide +kernel)⟩
theorem lw_p1 : lw_okq (⟨"TrainBearers", "accept", "(I)I"⟩, 16) := ⟨⟨by decide +kernel, by decide +kernel⟩, List.mem_of_getElem? (i := 22) (by decide +kernel), List.mem_of_getElem? (i := 420) (by decide +kernel), List.mem_of_getElem? (i := 421) (by decide +kernel)⟩
theorem lw_p2 : lw_okq (⟨"TrainBearers$Rules", "fillWords", "(LTrainBearers$Train;IIII)V"⟩, 2) := ⟨⟨by decide +kernel, by decide +kernel⟩, List.mem_of_getElem? (i := 253) (by decide +kernel), List.mem_of_getElem? (i := 445) (by decide +kernel), List.mem_of_getElem? (i := 446) (by decide +kernel)⟩
theorem lw_p3 : lw_okq (⟨"TrainBearers$Rules", "tell", "(LTrainBearers$Train;I)I"⟩, 2) := ⟨⟨by decide +kernel, by decide +kernel⟩, List.mem_of_getElem? (i := 253) (by decide +kernel), List.mem_of_getElem? (i := 453) (by decide +kernel), List.mem_of_getElem? (i := 454) (by decide +kernel)⟩
theorem lw_p4 : lw_okq (⟨"TrainBearers", "layTold", "(I)Z"⟩, 16) := ⟨⟨by decide +kernel, by decide +kernel⟩, List.mem_of_getElem? (i := 22) (by decide +kernel), List.mem_of_getElem? (i := 555) (by decide +kernel), List.mem_of_getElem? (i := 556) (by decide +kernel)⟩
theorem lw_p5 : lw_okq (⟨"TrainBearers$Reader", "advance", "()V"⟩, 8) := ⟨⟨by decide +kernel, by decide +kernel⟩, List.mem_of_getElem? (i := 162) (by decide +kernel), List.mem_of_getElem? (i := 575) (by decide +kernel), List.mem_of_getElem? (i := 576) (by decide +kernel)⟩
theorem lw_p6 : lw_okq (⟨"TrainBearers$Reader", "lawClause", "(I)Z"⟩, 8) := ⟨⟨by decide +kernel, by decide +kernel⟩, List.mem_of_getElem? (i := 162) (by decide +kernel), List.mem_of_getElem? (i := 579) (by decide +kernel), List.mem_of_getElem? (i := 580) (by decide +kernel)⟩
theorem lw_p7 : lw_okq (⟨"TrainBearers$Reader", "wordHere", "(Ljava/lang/String;)I"⟩, 8) := ⟨⟨by decide +kernel, by decide +kernel⟩, List.mem_of_getElem? (i := 162) (by decide +kernel), List.mem_of_getElem? (i := 584) (by decide +kernel), List.mem_of_getElem? (i := 585) (by decide +kernel)⟩
theorem lw_p8 : lw_okq (⟨"TrainBearers$Reader", "firstSum", "(I)Z"⟩, 8) := ⟨⟨by decide +kernel, by decide +kernel⟩, List.mem_of_getElem? (i := 162) (by decide +kernel), List.mem_of_getElem? (i := 640) (by decide +kernel), List.mem_of_getElem? (i := 641) (by decide +kernel)⟩
theorem lw_p9 : lw_okq (⟨"TrainBearers$Reader", "chain", "(II)Z"⟩, 8) := ⟨⟨by decide +kernel, by decide +kernel⟩, List.mem_of_getElem? (i := 162) (by decide +kernel), List.mem_of_getElem? (i := 644) (by decide +kernel), List.mem_of_getElem? (i := 645) (by decide +kernel)⟩
theorem lw_p10 : lw_okq (⟨"TrainBearers$Reader", "plain", "(I)Z"⟩, 8) := ⟨⟨by decide +kernel, by decide +kernel⟩, List.mem_of_getElem? (i := 162) (by decide +kernel), List.mem_of_getElem? (i := 648) (by decide +kernel), List.mem_of_getElem? (i := 649) (by decide +kernel)⟩
theorem lw_p11 : lw_okq (⟨"TrainBearers$Reader", "pass", "(Ljava/lang/String;)Z"⟩, 8) := ⟨⟨by decide +kernel, by decide +kernel⟩, List.mem_of_getElem? (i := 162) (by decide +kernel), List.mem_of_getElem? (i := 653) (by decide +kernel), List.mem_of_getElem? (i := 654) (by decide +kernel)⟩
theorem lw_p12 : lw_okq (⟨"TrainBearers$Reader", "isHere", "(Ljava/lang/String;)Z"⟩, 8) := ⟨⟨by decide +kernel, by decide +kernel⟩, List.mem_of_getElem? (i := 162) (by decide +kernel), List.mem_of_getElem? (i := 657) (by decide +kernel), List.mem_of_getElem? (i := 658) (by decide +kernel)⟩
theorem lw_p13 : lw_okq (⟨"TrainBearers$Reader", "open", "(I)Z"⟩, 8) := ⟨⟨by decide +kernel, by decide +kernel⟩, List.mem_of_getElem? (i := 162) (by decide +kernel), List.mem_of_getElem? (i := 662) (by decide +kernel), List.mem_of_getElem? (i := 663) (by decide +kernel)⟩
theorem lw_p14 : lw_okq (⟨"TrainBearers$Reader", "part", "(I)Z"⟩, 8) := ⟨⟨by decide +kernel, by decide +kernel⟩, List.mem_of_getElem? (i := 162) (by decide +kernel), List.mem_of_getElem? (i := 674) (by decide +kernel), List.mem_of_getElem? (i := 675) (by decide +kernel)⟩
theorem lw_p15 : lw_okq (⟨"TrainBearers$Reader", "numberOrWord", "()Z"⟩, 8) := ⟨⟨by decide +kernel, by decide +kernel⟩, List.mem_of_getElem? (i := 162) (by decide +kernel), List.mem_of_getElem? (i := 680) (by decide +kernel), List.mem_of_getElem? (i := 681) (by decide +kernel)⟩
def lw_privs_1 : List (MethodName × Nat) := [(⟨"TrainBearers", "refuse", "(I)I"⟩, 16), (⟨"TrainBearers", "accept", "(I)I"⟩, 16), (⟨"TrainBearers$Rules", "fillWords", "(LTrainBearers$Train;IIII)V"⟩, 2), (⟨"TrainBearers$Rules", "tell", "(LTrainBearers$Train;I)I"⟩, 2), (⟨"TrainBearers", "layTold", "(I)Z"⟩, 16), (⟨"TrainBearers$Reader", "advance", "()V"⟩, 8), (⟨"TrainBearers$Reader", "lawClause", "(I)Z"⟩, 8), (⟨"TrainBearers$Reader", "wordHere", "(Ljava/lang/String;)I"⟩, 8), (⟨"TrainBearers$Reader", "firstSum", "(I)Z"⟩, 8), (⟨"TrainBearers$Reader", "chain", "(II)Z"⟩, 8), (⟨"TrainBearers$Reader", "plain", "(I)Z"⟩, 8), (⟨"TrainBearers$Reader", "pass", "(Ljava/lang/String;)Z"⟩, 8), (⟨"TrainBearers$Reader", "isHere", "(Ljava/lang/String;)Z"⟩, 8), (⟨"TrainBearers$Reader", "open", "(I)Z"⟩, 8), (⟨"TrainBearers$Reader", "part", "(I)Z"⟩, 8), (⟨"TrainBearers$Reader", "numberOrWord", "()Z"⟩, 8)]
theorem lw_r1 : ∀ q ∈ lw_privs_1, lw_okq q := List.forall_mem_cons.mpr ⟨lw_p0, List.forall_mem_cons.mpr ⟨lw_p1, List.forall_mem_cons.mpr ⟨lw_p2, List.forall_mem_cons.mpr ⟨lw_p3, List.forall_mem_cons.mpr ⟨lw_p4, List.forall_mem_cons.mpr ⟨lw_p5, List.forall_mem_cons.mpr ⟨lw_p6, List.forall_mem_cons.mpr ⟨lw_p7, List.forall_mem_cons.mpr ⟨lw_p8, List.forall_mem_cons.mpr ⟨lw_p9, List.forall_mem_cons.mpr ⟨lw_p10, List.forall_mem_cons.mpr ⟨lw_p11, List.forall_mem_cons.mpr ⟨lw_p12, List.forall_mem_cons.mpr ⟨lw_p13, List.forall_mem_cons.mpr ⟨lw_p14, List.forall_mem_cons.mpr ⟨lw_p15, fun _ h => absurd h List.not_mem_nil⟩⟩⟩⟩⟩⟩⟩⟩⟩⟩⟩⟩⟩⟩⟩⟩
theorem lw_p16 : lw_okq (⟨"TrainBearers$Reader", "numberHere", "()I"⟩, 8) := ⟨⟨by decide +kernel, by decide +kernel⟩, List.mem_of_getElem? (i := 162) (by decide +kernel), List.mem_of_getElem? (i := 684) (by decide +kernel), List.mem_of_getElem? (i := 685) (by decide +kernel)⟩
theorem lw_p17 : lw_okq (⟨"TrainBearers$Reader", "operatorHere", "(I)I"⟩, 8) := ⟨⟨by decide +kernel, by decide +kernel⟩, List.mem_of_getElem? (i := 162) (by decide +kernel), List.mem_of_getElem? (i := 699) (by decide +kernel), List.mem_of_getElem? (i := 700) (by decide +kernel)⟩
theorem lw_p18 : lw_okq (⟨"TrainBearers$Reader", "orderClause", "(I)Z"⟩, 8) := ⟨⟨by decide +kernel, by decide +kernel⟩, List.mem_of_getElem? (i := 162) (by decide +kernel), List.mem_of_getElem? (i := 710) (by decide +kernel), List.mem_of_getElem? (i := 711) (by decide +kernel)⟩
theorem lw_p19 : lw_okq (⟨"TrainBearers$Reader", "secondSum", "(I)Z"⟩, 8) := ⟨⟨by decide +kernel, by decide +kernel⟩, List.mem_of_getElem? (i := 162) (by decide +kernel), List.mem_of_getElem? (i := 715) (by decide +kernel), List.mem_of_getElem? (i := 716) (by decide +kernel)⟩
theorem lw_p20 : lw_okq (⟨"TrainBearers$Reader", "repetition", "(I)Z"⟩, 8) := ⟨⟨by decide +kernel, by decide +kernel⟩, List.mem_of_getElem? (i := 162) (by decide +kernel), List.mem_of_getElem? (i := 720) (by decide +kernel), List.mem_of_getElem? (i := 721) (by decide +kernel)⟩
theorem lw_p21 : lw_okq (⟨"TrainBearers$Reader", "condition", "(I)Z"⟩, 8) := ⟨⟨by decide +kernel, by decide +kernel⟩, List.mem_of_getElem? (i := 162) (by decide +kernel), List.mem_of_getElem? (i := 725) (by decide +kernel), List.mem_of_getElem? (i := 726) (by decide +kernel)⟩
theorem lw_p22 : lw_okq (⟨"TrainBearers$Deeds", "fillWords", "(LTrainBearers$Train;III)V"⟩, 6) := ⟨⟨by decide +kernel, by decide +kernel⟩, List.mem_of_getElem? (i := 277) (by decide +kernel), List.mem_of_getElem? (i := 768) (by decide +kernel), List.mem_of_getElem? (i := 769) (by decide +kernel)⟩
theorem lw_p23 : lw_okq (⟨"TrainBearers$Deeds", "goThere", "(LTrainBearers$Train;II)V"⟩, 6) := ⟨⟨by decide +kernel, by decide +kernel⟩, List.mem_of_getElem? (i := 277) (by decide +kernel), List.mem_of_getElem? (i := 803) (by decide +kernel), List.mem_of_getElem? (i := 804) (by decide +kernel)⟩
theorem lw_p24 : lw_okq (⟨"TrainBearers", "takePaper", "()V"⟩, 16) := ⟨⟨by decide +kernel, by decide +kernel⟩, List.mem_of_getElem? (i := 22) (by decide +kernel), List.mem_of_getElem? (i := 813) (by decide +kernel), List.mem_of_getElem? (i := 814) (by decide +kernel)⟩
theorem lw_p25 : lw_okq (⟨"TrainBearers", "settle", "(I)I"⟩, 16) := ⟨⟨by decide +kernel, by decide +kernel⟩, List.mem_of_getElem? (i := 22) (by decide +kernel), List.mem_of_getElem? (i := 835) (by decide +kernel), List.mem_of_getElem? (i := 836) (by decide +kernel)⟩
theorem lw_p26 : lw_okq (⟨"TrainBearers$Bearing", "weigh", "(LTrainBearers$Train;LTrainBearers$Rules;I)V"⟩, 6) := ⟨⟨by decide +kernel, by decide +kernel⟩, List.mem_of_getElem? (i := 307) (by decide +kernel), List.mem_of_getElem? (i := 870) (by decide +kernel), List.mem_of_getElem? (i := 871) (by decide +kernel)⟩
theorem lw_p27 : lw_okq (⟨"TrainBearers$Bearing", "bestOf", "(II)I"⟩, 6) := ⟨⟨by decide +kernel, by decide +kernel⟩, List.mem_of_getElem? (i := 307) (by decide +kernel), List.mem_of_getElem? (i := 878) (by decide +kernel), List.mem_of_getElem? (i := 879) (by decide +kernel)⟩
theorem lw_p28 : lw_okq (⟨"TrainBearers$Bearing", "worthWith", "(III)I"⟩, 6) := ⟨⟨by decide +kernel, by decide +kernel⟩, List.mem_of_getElem? (i := 307) (by decide +kernel), List.mem_of_getElem? (i := 882) (by decide +kernel), List.mem_of_getElem? (i := 883) (by decide +kernel)⟩
theorem lw_p29 : lw_okq (⟨"TrainBearers$Bearing", "firstBest", "(II)I"⟩, 6) := ⟨⟨by decide +kernel, by decide +kernel⟩, List.mem_of_getElem? (i := 307) (by decide +kernel), List.mem_of_getElem? (i := 887) (by decide +kernel), List.mem_of_getElem? (i := 888) (by decide +kernel)⟩
theorem lw_p30 : lw_okq (⟨"TrainBearers", "bestExchange", "()I"⟩, 16) := ⟨⟨by decide +kernel, by decide +kernel⟩, List.mem_of_getElem? (i := 22) (by decide +kernel), List.mem_of_getElem? (i := 903) (by decide +kernel), List.mem_of_getElem? (i := 904) (by decide +kernel)⟩
theorem lw_p31 : lw_okq (⟨"TrainBearers", "mayTake", "(II)Z"⟩, 16) := ⟨⟨by decide +kernel, by decide +kernel⟩, List.mem_of_getElem? (i := 22) (by decide +kernel), List.mem_of_getElem? (i := 913) (by decide +kernel), List.mem_of_getElem? (i := 914) (by decide +kernel)⟩
def lw_privs_2 : List (MethodName × Nat) := [(⟨"TrainBearers$Reader", "numberHere", "()I"⟩, 8), (⟨"TrainBearers$Reader", "operatorHere", "(I)I"⟩, 8), (⟨"TrainBearers$Reader", "orderClause", "(I)Z"⟩, 8), (⟨"TrainBearers$Reader", "secondSum", "(I)Z"⟩, 8), (⟨"TrainBearers$Reader", "repetition", "(I)Z"⟩, 8), (⟨"TrainBearers$Reader", "condition", "(I)Z"⟩, 8), (⟨"TrainBearers$Deeds", "fillWords", "(LTrainBearers$Train;III)V"⟩, 6), (⟨"TrainBearers$Deeds", "goThere", "(LTrainBearers$Train;II)V"⟩, 6), (⟨"TrainBearers", "takePaper", "()V"⟩, 16), (⟨"TrainBearers", "settle", "(I)I"⟩, 16), (⟨"TrainBearers$Bearing", "weigh", "(LTrainBearers$Train;LTrainBearers$Rules;I)V"⟩, 6), (⟨"TrainBearers$Bearing", "bestOf", "(II)I"⟩, 6), (⟨"TrainBearers$Bearing", "worthWith", "(III)I"⟩, 6), (⟨"TrainBearers$Bearing", "firstBest", "(II)I"⟩, 6), (⟨"TrainBearers", "bestExchange", "()I"⟩, 16), (⟨"TrainBearers", "mayTake", "(II)Z"⟩, 16)]
theorem lw_r2 : ∀ q ∈ lw_privs_2, lw_okq q := List.forall_mem_cons.mpr ⟨lw_p16, List.forall_mem_cons.mpr ⟨lw_p17, List.forall_mem_cons.mpr ⟨lw_p18, List.forall_mem_cons.mpr ⟨lw_p19, List.forall_mem_cons.mpr ⟨lw_p20, List.forall_mem_cons.mpr ⟨lw_p21, List.forall_mem_cons.mpr ⟨lw_p22, List.forall_mem_cons.mpr ⟨lw_p23, List.forall_mem_cons.mpr ⟨lw_p24, List.forall_mem_cons.mpr ⟨lw_p25, List.forall_mem_cons.mpr ⟨lw_p26, List.forall_mem_cons.mpr ⟨lw_p27, List.forall_mem_cons.mpr ⟨lw_p28, List.forall_mem_cons.mpr ⟨lw_p29, List.forall_mem_cons.mpr ⟨lw_p30, List.forall_mem_cons.mpr ⟨lw_p31, fun _ h => absurd h List.not_mem_nil⟩⟩⟩⟩⟩⟩⟩⟩⟩⟩⟩⟩⟩⟩⟩⟩
theorem lw_p32 : lw_okq (⟨"TrainBearers$Guess", "isAsSeen", "(LTrainBearers$Train;I)Z"⟩, 1) := ⟨⟨by decide +kernel, by decide +kernel⟩, List.mem_of_getElem? (i := 339) (by decide +kernel), List.mem_of_getElem? (i := 934) (by decide +kernel), List.mem_of_getElem? (i := 935) (by decide +kernel)⟩
theorem lw_p33 : lw_okq (⟨"TrainBearers$Ways", "costBy", "(LTrainBearers$Train;II)I"⟩, 1) := ⟨⟨by decide +kernel, by decide +kernel⟩, List.mem_of_getElem? (i := 349) (by decide +kernel), List.mem_of_getElem? (i := 963) (by decide +kernel), List.mem_of_getElem? (i := 964) (by decide +kernel)⟩
theorem lw_p34 : lw_okq (⟨"TrainBearers", "countRefusedOrTerm", "(I)I"⟩, 16) := ⟨⟨by decide +kernel, by decide +kernel⟩, List.mem_of_getElem? (i := 22) (by decide +kernel), List.mem_of_getElem? (i := 1036) (by decide +kernel), List.mem_of_getElem? (i := 1037) (by decide +kernel)⟩
theorem lw_p35 : lw_okq (⟨"TrainBearersModel", "tell", "(I)I"⟩, 59) := ⟨⟨by decide +kernel, by decide +kernel⟩, List.mem_of_getElem? (i := 1044) (by decide +kernel), List.mem_of_getElem? (i := 1254) (by decide +kernel), List.mem_of_getElem? (i := 1255) (by decide +kernel)⟩
theorem lw_p36 : lw_okq (⟨"TrainBearersModel", "putBack", "(I)V"⟩, 59) := ⟨⟨by decide +kernel, by decide +kernel⟩, List.mem_of_getElem? (i := 1044) (by decide +kernel), List.mem_of_getElem? (i := 1258) (by decide +kernel), List.mem_of_getElem? (i := 1259) (by decide +kernel)⟩
theorem lw_p37 : lw_okq (⟨"TrainBearersModel", "settled", "(I)I"⟩, 59) := ⟨⟨by decide +kernel, by decide +kernel⟩, List.mem_of_getElem? (i := 1044) (by decide +kernel), List.mem_of_getElem? (i := 1273) (by decide +kernel), List.mem_of_getElem? (i := 1274) (by decide +kernel)⟩
theorem lw_p38 : lw_okq (⟨"TrainBearersModel", "isYard", "(I)Z"⟩, 59) := ⟨⟨by decide +kernel, by decide +kernel⟩, List.mem_of_getElem? (i := 1044) (by decide +kernel), List.mem_of_getElem? (i := 1286) (by decide +kernel), List.mem_of_getElem? (i := 1287) (by decide +kernel)⟩
theorem lw_p39 : lw_okq (⟨"TrainBearersModel", "holders", "(I)I"⟩, 59) := ⟨⟨by decide +kernel, by decide +kernel⟩, List.mem_of_getElem? (i := 1044) (by decide +kernel), List.mem_of_getElem? (i := 1290) (by decide +kernel), List.mem_of_getElem? (i := 1291) (by decide +kernel)⟩
theorem lw_p40 : lw_okq (⟨"TrainBearersModel", "dipOf", "(II)I"⟩, 59) := ⟨⟨by decide +kernel, by decide +kernel⟩, List.mem_of_getElem? (i := 1044) (by decide +kernel), List.mem_of_getElem? (i := 1294) (by decide +kernel), List.mem_of_getElem? (i := 1295) (by decide +kernel)⟩
theorem lw_p41 : lw_okq (⟨"TrainBearersModel", "liftsOf", "(II)I"⟩, 59) := ⟨⟨by decide +kernel, by decide +kernel⟩, List.mem_of_getElem? (i := 1044) (by decide +kernel), List.mem_of_getElem? (i := 1301) (by decide +kernel), List.mem_of_getElem? (i := 1302) (by decide +kernel)⟩
theorem lw_p42 : lw_okq (⟨"TrainBearersModel", "tells", "(IIIIIJ)J"⟩, 59) := ⟨⟨by decide +kernel, by decide +kernel⟩, List.mem_of_getElem? (i := 1044) (by decide +kernel), List.mem_of_getElem? (i := 1305) (by decide +kernel), List.mem_of_getElem? (i := 1306) (by decide +kernel)⟩
theorem lw_p43 : lw_okq (⟨"TrainBearersModel", "isSo", "(I)Z"⟩, 59) := ⟨⟨by decide +kernel, by decide +kernel⟩, List.mem_of_getElem? (i := 1044) (by decide +kernel), List.mem_of_getElem? (i := 1310) (by decide +kernel), List.mem_of_getElem? (i := 1311) (by decide +kernel)⟩
theorem lw_p44 : lw_okq (⟨"TrainBearersModel", "reckonAll", "(II)V"⟩, 59) := ⟨⟨by decide +kernel, by decide +kernel⟩, List.mem_of_getElem? (i := 1044) (by decide +kernel), List.mem_of_getElem? (i := 1314) (by decide +kernel), List.mem_of_getElem? (i := 1315) (by decide +kernel)⟩
theorem lw_p45 : lw_okq (⟨"TrainBearersModel", "isGirl", "(I)Z"⟩, 59) := ⟨⟨by decide +kernel, by decide +kernel⟩, List.mem_of_getElem? (i := 1044) (by decide +kernel), List.mem_of_getElem? (i := 1318) (by decide +kernel), List.mem_of_getElem? (i := 1319) (by decide +kernel)⟩
theorem lw_p46 : lw_okq (⟨"TrainBearersModel", "reckon", "(IJJ)J"⟩, 59) := ⟨⟨by decide +kernel, by decide +kernel⟩, List.mem_of_getElem? (i := 1044) (by decide +kernel), List.mem_of_getElem? (i := 1322) (by decide +kernel), List.mem_of_getElem? (i := 1323) (by decide +kernel)⟩
theorem lw_p47 : lw_okq (⟨"TrainBearersModel", "bringsOf", "(II)I"⟩, 59) := ⟨⟨by decide +kernel, by decide +kernel⟩, List.mem_of_getElem? (i := 1044) (by decide +kernel), List.mem_of_getElem? (i := 1331) (by decide +kernel), List.mem_of_getElem? (i := 1332) (by decide +kernel)⟩
def lw_privs_3 : List (MethodName × Nat) := [(⟨"TrainBearers$Guess", "isAsSeen", "(LTrainBearers$Train;I)Z"⟩, 1), (⟨"TrainBearers$Ways", "costBy", "(LTrainBearers$Train;II)I"⟩, 1), (⟨"TrainBearers", "countRefusedOrTerm", "(I)I"⟩, 16), (⟨"TrainBearersModel", "tell", "(I)I"⟩, 59), (⟨"TrainBearersModel", "putBack", "(I)V"⟩, 59), (⟨"TrainBearersModel", "settled", "(I)I"⟩, 59), (⟨"TrainBearersModel", "isYard", "(I)Z"⟩, 59), (⟨"TrainBearersModel", "holders", "(I)I"⟩, 59), (⟨"TrainBearersModel", "dipOf", "(II)I"⟩, 59), (⟨"TrainBearersModel", "liftsOf", "(II)I"⟩, 59), (⟨"TrainBearersModel", "tells", "(IIIIIJ)J"⟩, 59), (⟨"TrainBearersModel", "isSo", "(I)Z"⟩, 59), (⟨"TrainBearersModel", "reckonAll", "(II)V"⟩, 59), (⟨"TrainBearersModel", "isGirl", "(I)Z"⟩, 59), (⟨"TrainBearersModel", "reckon", "(IJJ)J"⟩, 59), (⟨"TrainBearersModel", "bringsOf", "(II)I"⟩, 59)]
theorem lw_r3 : ∀ q ∈ lw_privs_3, lw_okq q := List.forall_mem_cons.mpr ⟨lw_p32, List.forall_mem_cons.mpr ⟨lw_p33, List.forall_mem_cons.mpr ⟨lw_p34, List.forall_mem_cons.mpr ⟨lw_p35, List.forall_mem_cons.mpr ⟨lw_p36, List.forall_mem_cons.mpr ⟨lw_p37, List.forall_mem_cons.mpr ⟨lw_p38, List.forall_mem_cons.mpr ⟨lw_p39, List.forall_mem_cons.mpr ⟨lw_p40, List.forall_mem_cons.mpr ⟨lw_p41, List.forall_mem_cons.mpr ⟨lw_p42, List.forall_mem_cons.mpr ⟨lw_p43, List.forall_mem_cons.mpr ⟨lw_p44, List.forall_mem_cons.mpr ⟨lw_p45, List.forall_mem_cons.mpr ⟨lw_p46, List.forall_mem_cons.mpr ⟨lw_p47, fun _ h => absurd h List.not_mem_nil⟩⟩⟩⟩⟩⟩⟩⟩⟩⟩⟩⟩⟩⟩⟩⟩
theorem lw_p48 : lw_okq (⟨"TrainBearersModel", "isBarred", "(II)Z"⟩, 59) := ⟨⟨by decide +kernel, by decide +kernel⟩, List.mem_of_getElem? (i := 1044) (by decide +kernel), List.mem_of_getElem? (i := 1348) (by decide +kernel), List.mem_of_getElem? (i := 1349) (by decide +kernel)⟩
theorem lw_p49 : lw_okq (⟨"TrainBearersModel", "setLane", "(III)V"⟩, 59) := ⟨⟨by decide +kernel, by decide +kernel⟩, List.mem_of_getElem? (i := 1044) (by decide +kernel), List.mem_of_getElem? (i := 1363) (by decide +kernel), List.mem_of_getElem? (i := 1364) (by decide +kernel)⟩
theorem lw_p50 : lw_okq (⟨"TrainBearersModel", "change", "(II)I"⟩, 59) := ⟨⟨by decide +kernel, by decide +kernel⟩, List.mem_of_getElem? (i := 1044) (by decide +kernel), List.mem_of_getElem? (i := 1377) (by decide +kernel), List.mem_of_getElem? (i := 1378) (by decide +kernel)⟩
theorem lw_p51 : lw_okq (⟨"TrainBearersModel", "four", "(I)V"⟩, 59) := ⟨⟨by decide +kernel, by decide +kernel⟩, List.mem_of_getElem? (i := 1044) (by decide +kernel), List.mem_of_getElem? (i := 1394) (by decide +kernel), List.mem_of_getElem? (i := 1395) (by decide +kernel)⟩
theorem lw_p52 : lw_okq (⟨"TrainBearersModel", "beginText", "(Z)V"⟩, 59) := ⟨⟨by decide +kernel, by decide +kernel⟩, List.mem_of_getElem? (i := 1044) (by decide +kernel), List.mem_of_getElem? (i := 1410) (by decide +kernel), List.mem_of_getElem? (i := 1411) (by decide +kernel)⟩
theorem lw_p53 : lw_okq (⟨"TrainBearersModel", "begin", "()V"⟩, 59) := ⟨⟨by decide +kernel, by decide +kernel⟩, List.mem_of_getElem? (i := 1044) (by decide +kernel), List.mem_of_getElem? (i := 1414) (by decide +kernel), List.mem_of_getElem? (i := 1415) (by decide +kernel)⟩
theorem lw_p54 : lw_okq (⟨"TrainBearersModel", "next", "()V"⟩, 59) := ⟨⟨by decide +kernel, by decide +kernel⟩, List.mem_of_getElem? (i := 1044) (by decide +kernel), List.mem_of_getElem? (i := 1418) (by decide +kernel), List.mem_of_getElem? (i := 1419) (by decide +kernel)⟩
theorem lw_p55 : lw_okq (⟨"TrainBearersModel", "readLaw", "()V"⟩, 59) := ⟨⟨by decide +kernel, by decide +kernel⟩, List.mem_of_getElem? (i := 1044) (by decide +kernel), List.mem_of_getElem? (i := 1432) (by decide +kernel), List.mem_of_getElem? (i := 1433) (by decide +kernel)⟩
theorem lw_p56 : lw_okq (⟨"TrainBearersModel", "isWord", "(J)Z"⟩, 59) := ⟨⟨by decide +kernel, by decide +kernel⟩, List.mem_of_getElem? (i := 1044) (by decide +kernel), List.mem_of_getElem? (i := 1436) (by decide +kernel), List.mem_of_getElem? (i := 1437) (by decide +kernel)⟩
theorem lw_p57 : lw_okq (⟨"TrainBearersModel", "must", "(Z)V"⟩, 59) := ⟨⟨by decide +kernel, by decide +kernel⟩, List.mem_of_getElem? (i := 1044) (by decide +kernel), List.mem_of_getElem? (i := 1440) (by decide +kernel), List.mem_of_getElem? (i := 1441) (by decide +kernel)⟩
theorem lw_p58 : lw_okq (⟨"TrainBearersModel", "readExpression", "(Z)V"⟩, 59) := ⟨⟨by decide +kernel, by decide +kernel⟩, List.mem_of_getElem? (i := 1044) (by decide +kernel), List.mem_of_getElem? (i := 1444) (by decide +kernel), List.mem_of_getElem? (i := 1445) (by decide +kernel)⟩
theorem lw_p59 : lw_okq (⟨"TrainBearersModel", "readPlain", "()I"⟩, 59) := ⟨⟨by decide +kernel, by decide +kernel⟩, List.mem_of_getElem? (i := 1044) (by decide +kernel), List.mem_of_getElem? (i := 1448) (by decide +kernel), List.mem_of_getElem? (i := 1449) (by decide +kernel)⟩
theorem lw_p60 : lw_okq (⟨"TrainBearersModel", "push", "(II)V"⟩, 59) := ⟨⟨by decide +kernel, by decide +kernel⟩, List.mem_of_getElem? (i := 1044) (by decide +kernel), List.mem_of_getElem? (i := 1453) (by decide +kernel), List.mem_of_getElem? (i := 1454) (by decide +kernel)⟩
theorem lw_p61 : lw_okq (⟨"TrainBearersModel", "isSign", "(I)Z"⟩, 59) := ⟨⟨by decide +kernel, by decide +kernel⟩, List.mem_of_getElem? (i := 1044) (by decide +kernel), List.mem_of_getElem? (i := 1457) (by decide +kernel), List.mem_of_getElem? (i := 1458) (by decide +kernel)⟩
theorem lw_p62 : lw_okq (⟨"TrainBearersModel", "openBracket", "(I)V"⟩, 59) := ⟨⟨by decide +kernel, by decide +kernel⟩, List.mem_of_getElem? (i := 1044) (by decide +kernel), List.mem_of_getElem? (i := 1461) (by decide +kernel), List.mem_of_getElem? (i := 1462) (by decide +kernel)⟩
theorem lw_p63 : lw_okq (⟨"TrainBearersModel", "readPart", "()I"⟩, 59) := ⟨⟨by decide +kernel, by decide +kernel⟩, List.mem_of_getElem? (i := 1044) (by decide +kernel), List.mem_of_getElem? (i := 1465) (by decide +kernel), List.mem_of_getElem? (i := 1466) (by decide +kernel)⟩
def lw_privs_4 : List (MethodName × Nat) := [(⟨"TrainBearersModel", "isBarred", "(II)Z"⟩, 59), (⟨"TrainBearersModel", "setLane", "(III)V"⟩, 59), (⟨"TrainBearersModel", "change", "(II)I"⟩, 59), (⟨"TrainBearersModel", "four", "(I)V"⟩, 59), (⟨"TrainBearersModel", "beginText", "(Z)V"⟩, 59), (⟨"TrainBearersModel", "begin", "()V"⟩, 59), (⟨"TrainBearersModel", "next", "()V"⟩, 59), (⟨"TrainBearersModel", "readLaw", "()V"⟩, 59), (⟨"TrainBearersModel", "isWord", "(J)Z"⟩, 59), (⟨"TrainBearersModel", "must", "(Z)V"⟩, 59), (⟨"TrainBearersModel", "readExpression", "(Z)V"⟩, 59), (⟨"TrainBearersModel", "readPlain", "()I"⟩, 59), (⟨"TrainBearersModel", "push", "(II)V"⟩, 59), (⟨"TrainBearersModel", "isSign", "(I)Z"⟩, 59), (⟨"TrainBearersModel", "openBracket", "(I)V"⟩, 59), (⟨"TrainBearersModel", "readPart", "()I"⟩, 59)]
theorem lw_r4 : ∀ q ∈ lw_privs_4, lw_okq q := List.forall_mem_cons.mpr ⟨lw_p48, List.forall_mem_cons.mpr ⟨lw_p49, List.forall_mem_cons.mpr ⟨lw_p50, List.forall_mem_cons.mpr ⟨lw_p51, List.forall_mem_cons.mpr ⟨lw_p52, List.forall_mem_cons.mpr ⟨lw_p53, List.forall_mem_cons.mpr ⟨lw_p54, List.forall_mem_cons.mpr ⟨lw_p55, List.forall_mem_cons.mpr ⟨lw_p56, List.forall_mem_cons.mpr ⟨lw_p57, List.forall_mem_cons.mpr ⟨lw_p58, List.forall_mem_cons.mpr ⟨lw_p59, List.forall_mem_cons.mpr ⟨lw_p60, List.forall_mem_cons.mpr ⟨lw_p61, List.forall_mem_cons.mpr ⟨lw_p62, List.forall_mem_cons.mpr ⟨lw_p63, fun _ h => absurd h List.not_mem_nil⟩⟩⟩⟩⟩⟩⟩⟩⟩⟩⟩⟩⟩⟩⟩⟩
theorem lw_p64 : lw_okq (⟨"TrainBearersModel", "orderPartAt", "()I"⟩, 59) := ⟨⟨by decide +kernel, by decide +kernel⟩, List.mem_of_getElem? (i := 1044) (by decide +kernel), List.mem_of_getElem? (i := 1469) (by decide +kernel), List.mem_of_getElem? (i := 1470) (by decide +kernel)⟩
theorem lw_p65 : lw_okq (⟨"TrainBearersModel", "partAt", "()I"⟩, 59) := ⟨⟨by decide +kernel, by decide +kernel⟩, List.mem_of_getElem? (i := 1044) (by decide +kernel), List.mem_of_getElem? (i := 1473) (by decide +kernel), List.mem_of_getElem? (i := 1474) (by decide +kernel)⟩
theorem lw_p66 : lw_okq (⟨"TrainBearersModel", "leaf", "(ZII)V"⟩, 59) := ⟨⟨by decide +kernel, by decide +kernel⟩, List.mem_of_getElem? (i := 1044) (by decide +kernel), List.mem_of_getElem? (i := 1478) (by decide +kernel), List.mem_of_getElem? (i := 1479) (by decide +kernel)⟩
theorem lw_p67 : lw_okq (⟨"TrainBearersModel", "emit", "(II)V"⟩, 59) := ⟨⟨by decide +kernel, by decide +kernel⟩, List.mem_of_getElem? (i := 1044) (by decide +kernel), List.mem_of_getElem? (i := 1482) (by decide +kernel), List.mem_of_getElem? (i := 1483) (by decide +kernel)⟩
theorem lw_p68 : lw_okq (⟨"TrainBearersModel", "number", "(JJ)I"⟩, 59) := ⟨⟨by decide +kernel, by decide +kernel⟩, List.mem_of_getElem? (i := 1044) (by decide +kernel), List.mem_of_getElem? (i := 1487) (by decide +kernel), List.mem_of_getElem? (i := 1488) (by decide +kernel)⟩
theorem lw_p69 : lw_okq (⟨"TrainBearersModel", "behindSum", "(Z)I"⟩, 59) := ⟨⟨by decide +kernel, by decide +kernel⟩, List.mem_of_getElem? (i := 1044) (by decide +kernel), List.mem_of_getElem? (i := 1491) (by decide +kernel), List.mem_of_getElem? (i := 1492) (by decide +kernel)⟩
theorem lw_p70 : lw_okq (⟨"TrainBearersModel", "settle", "(I)V"⟩, 59) := ⟨⟨by decide +kernel, by decide +kernel⟩, List.mem_of_getElem? (i := 1044) (by decide +kernel), List.mem_of_getElem? (i := 1498) (by decide +kernel), List.mem_of_getElem? (i := 1499) (by decide +kernel)⟩
theorem lw_p71 : lw_okq (⟨"TrainBearersModel", "inner", "()I"⟩, 59) := ⟨⟨by decide +kernel, by decide +kernel⟩, List.mem_of_getElem? (i := 1044) (by decide +kernel), List.mem_of_getElem? (i := 1502) (by decide +kernel), List.mem_of_getElem? (i := 1503) (by decide +kernel)⟩
theorem lw_p72 : lw_okq (⟨"TrainBearersModel", "isCompared", "()Z"⟩, 59) := ⟨⟨by decide +kernel, by decide +kernel⟩, List.mem_of_getElem? (i := 1044) (by decide +kernel), List.mem_of_getElem? (i := 1506) (by decide +kernel), List.mem_of_getElem? (i := 1507) (by decide +kernel)⟩
theorem lw_p73 : lw_okq (⟨"TrainBearersModel", "behindTest", "()I"⟩, 59) := ⟨⟨by decide +kernel, by decide +kernel⟩, List.mem_of_getElem? (i := 1044) (by decide +kernel), List.mem_of_getElem? (i := 1513) (by decide +kernel), List.mem_of_getElem? (i := 1514) (by decide +kernel)⟩
theorem lw_p74 : lw_okq (⟨"TrainBearersModel", "endText", "()V"⟩, 59) := ⟨⟨by decide +kernel, by decide +kernel⟩, List.mem_of_getElem? (i := 1044) (by decide +kernel), List.mem_of_getElem? (i := 1520) (by decide +kernel), List.mem_of_getElem? (i := 1521) (by decide +kernel)⟩
theorem lw_p75 : lw_okq (⟨"TrainBearersModel", "isLaw", "(I)Z"⟩, 59) := ⟨⟨by decide +kernel, by decide +kernel⟩, List.mem_of_getElem? (i := 1044) (by decide +kernel), List.mem_of_getElem? (i := 1528) (by decide +kernel), List.mem_of_getElem? (i := 1529) (by decide +kernel)⟩
theorem lw_p76 : lw_okq (⟨"TrainBearersModel", "holdNow", "(II)I"⟩, 59) := ⟨⟨by decide +kernel, by decide +kernel⟩, List.mem_of_getElem? (i := 1044) (by decide +kernel), List.mem_of_getElem? (i := 1536) (by decide +kernel), List.mem_of_getElem? (i := 1537) (by decide +kernel)⟩
theorem lw_p77 : lw_okq (⟨"TrainBearersModel", "canHold", "(II)Z"⟩, 59) := ⟨⟨by decide +kernel, by decide +kernel⟩, List.mem_of_getElem? (i := 1044) (by decide +kernel), List.mem_of_getElem? (i := 1540) (by decide +kernel), List.mem_of_getElem? (i := 1541) (by decide +kernel)⟩
theorem lw_p78 : lw_okq (⟨"TrainBearersModel", "remember", "(I)V"⟩, 59) := ⟨⟨by decide +kernel, by decide +kernel⟩, List.mem_of_getElem? (i := 1044) (by decide +kernel), List.mem_of_getElem? (i := 1547) (by decide +kernel), List.mem_of_getElem? (i := 1548) (by decide +kernel)⟩
theorem lw_p79 : lw_okq (⟨"TrainBearersModel", "keepAll", "(I)V"⟩, 59) := ⟨⟨by decide +kernel, by decide +kernel⟩, List.mem_of_getElem? (i := 1044) (by decide +kernel), List.mem_of_getElem? (i := 1551) (by decide +kernel), List.mem_of_getElem? (i := 1552) (by decide +kernel)⟩
def lw_privs_5 : List (MethodName × Nat) := [(⟨"TrainBearersModel", "orderPartAt", "()I"⟩, 59), (⟨"TrainBearersModel", "partAt", "()I"⟩, 59), (⟨"TrainBearersModel", "leaf", "(ZII)V"⟩, 59), (⟨"TrainBearersModel", "emit", "(II)V"⟩, 59), (⟨"TrainBearersModel", "number", "(JJ)I"⟩, 59), (⟨"TrainBearersModel", "behindSum", "(Z)I"⟩, 59), (⟨"TrainBearersModel", "settle", "(I)V"⟩, 59), (⟨"TrainBearersModel", "inner", "()I"⟩, 59), (⟨"TrainBearersModel", "isCompared", "()Z"⟩, 59), (⟨"TrainBearersModel", "behindTest", "()I"⟩, 59), (⟨"TrainBearersModel", "endText", "()V"⟩, 59), (⟨"TrainBearersModel", "isLaw", "(I)Z"⟩, 59), (⟨"TrainBearersModel", "holdNow", "(II)I"⟩, 59), (⟨"TrainBearersModel", "canHold", "(II)Z"⟩, 59), (⟨"TrainBearersModel", "remember", "(I)V"⟩, 59), (⟨"TrainBearersModel", "keepAll", "(I)V"⟩, 59)]
theorem lw_r5 : ∀ q ∈ lw_privs_5, lw_okq q := List.forall_mem_cons.mpr ⟨lw_p64, List.forall_mem_cons.mpr ⟨lw_p65, List.forall_mem_cons.mpr ⟨lw_p66, List.forall_mem_cons.mpr ⟨lw_p67, List.forall_mem_cons.mpr ⟨lw_p68, List.forall_mem_cons.mpr ⟨lw_p69, List.forall_mem_cons.mpr ⟨lw_p70, List.forall_mem_cons.mpr ⟨lw_p71, List.forall_mem_cons.mpr ⟨lw_p72, List.forall_mem_cons.mpr ⟨lw_p73, List.forall_mem_cons.mpr ⟨lw_p74, List.forall_mem_cons.mpr ⟨lw_p75, List.forall_mem_cons.mpr ⟨lw_p76, List.forall_mem_cons.mpr ⟨lw_p77, List.forall_mem_cons.mpr ⟨lw_p78, List.forall_mem_cons.mpr ⟨lw_p79, fun _ h => absurd h List.not_mem_nil⟩⟩⟩⟩⟩⟩⟩⟩⟩⟩⟩⟩⟩⟩⟩⟩
theorem lw_p80 : lw_okq (⟨"TrainBearersModel", "dropNow", "(I)I"⟩, 59) := ⟨⟨by decide +kernel, by decide +kernel⟩, List.mem_of_getElem? (i := 1044) (by decide +kernel), List.mem_of_getElem? (i := 1559) (by decide +kernel), List.mem_of_getElem? (i := 1560) (by decide +kernel)⟩
theorem lw_p81 : lw_okq (⟨"TrainBearersModel", "walkNow", "(I)I"⟩, 59) := ⟨⟨by decide +kernel, by decide +kernel⟩, List.mem_of_getElem? (i := 1044) (by decide +kernel), List.mem_of_getElem? (i := 1567) (by decide +kernel), List.mem_of_getElem? (i := 1568) (by decide +kernel)⟩
theorem lw_p82 : lw_okq (⟨"TrainBearersModel", "canWalk", "(I)Z"⟩, 59) := ⟨⟨by decide +kernel, by decide +kernel⟩, List.mem_of_getElem? (i := 1044) (by decide +kernel), List.mem_of_getElem? (i := 1571) (by decide +kernel), List.mem_of_getElem? (i := 1572) (by decide +kernel)⟩
theorem lw_p83 : lw_okq (⟨"TrainBearersModel", "walkIt", "(I)I"⟩, 59) := ⟨⟨by decide +kernel, by decide +kernel⟩, List.mem_of_getElem? (i := 1044) (by decide +kernel), List.mem_of_getElem? (i := 1575) (by decide +kernel), List.mem_of_getElem? (i := 1576) (by decide +kernel)⟩
theorem lw_p84 : lw_okq (⟨"TrainBearersModel", "broughtNow", "()I"⟩, 59) := ⟨⟨by decide +kernel, by decide +kernel⟩, List.mem_of_getElem? (i := 1044) (by decide +kernel), List.mem_of_getElem? (i := 1579) (by decide +kernel), List.mem_of_getElem? (i := 1580) (by decide +kernel)⟩
theorem lw_p85 : lw_okq (⟨"TrainBearersModel", "layDips", "()V"⟩, 59) := ⟨⟨by decide +kernel, by decide +kernel⟩, List.mem_of_getElem? (i := 1044) (by decide +kernel), List.mem_of_getElem? (i := 1583) (by decide +kernel), List.mem_of_getElem? (i := 1584) (by decide +kernel)⟩
theorem lw_p86 : lw_okq (⟨"TrainBearersModel", "tiresOf", "(II)I"⟩, 59) := ⟨⟨by decide +kernel, by decide +kernel⟩, List.mem_of_getElem? (i := 1044) (by decide +kernel), List.mem_of_getElem? (i := 1587) (by decide +kernel), List.mem_of_getElem? (i := 1588) (by decide +kernel)⟩
theorem lw_p87 : lw_okq (⟨"TrainBearersModel", "restNow", "()I"⟩, 59) := ⟨⟨by decide +kernel, by decide +kernel⟩, List.mem_of_getElem? (i := 1044) (by decide +kernel), List.mem_of_getElem? (i := 1595) (by decide +kernel), List.mem_of_getElem? (i := 1596) (by decide +kernel)⟩
theorem lw_p88 : lw_okq (⟨"TrainBearersModel", "restIt", "()V"⟩, 59) := ⟨⟨by decide +kernel, by decide +kernel⟩, List.mem_of_getElem? (i := 1044) (by decide +kernel), List.mem_of_getElem? (i := 1599) (by decide +kernel), List.mem_of_getElem? (i := 1600) (by decide +kernel)⟩
theorem lw_p89 : lw_okq (⟨"TrainBearersModel", "layCosts", "()V"⟩, 59) := ⟨⟨by decide +kernel, by decide +kernel⟩, List.mem_of_getElem? (i := 1044) (by decide +kernel), List.mem_of_getElem? (i := 1607) (by decide +kernel), List.mem_of_getElem? (i := 1608) (by decide +kernel)⟩
theorem lw_p90 : lw_okq (⟨"TrainBearersModel", "costOf", "(II)I"⟩, 59) := ⟨⟨by decide +kernel, by decide +kernel⟩, List.mem_of_getElem? (i := 1044) (by decide +kernel), List.mem_of_getElem? (i := 1611) (by decide +kernel), List.mem_of_getElem? (i := 1612) (by decide +kernel)⟩
theorem lw_p91 : lw_okq (⟨"TrainBearersModel", "layBorne", "()V"⟩, 59) := ⟨⟨by decide +kernel, by decide +kernel⟩, List.mem_of_getElem? (i := 1044) (by decide +kernel), List.mem_of_getElem? (i := 1615) (by decide +kernel), List.mem_of_getElem? (i := 1616) (by decide +kernel)⟩
theorem lw_p92 : lw_okq (⟨"TrainBearersModel", "with", "(III)I"⟩, 59) := ⟨⟨by decide +kernel, by decide +kernel⟩, List.mem_of_getElem? (i := 1044) (by decide +kernel), List.mem_of_getElem? (i := 1619) (by decide +kernel), List.mem_of_getElem? (i := 1620) (by decide +kernel)⟩
theorem lw_p93 : lw_okq (⟨"TrainBearersModel", "whoLetGo", "()I"⟩, 59) := ⟨⟨by decide +kernel, by decide +kernel⟩, List.mem_of_getElem? (i := 1044) (by decide +kernel), List.mem_of_getElem? (i := 1640) (by decide +kernel), List.mem_of_getElem? (i := 1641) (by decide +kernel)⟩
theorem lw_p94 : lw_okq (⟨"TrainBearersModel", "dipWithout", "(II)I"⟩, 59) := ⟨⟨by decide +kernel, by decide +kernel⟩, List.mem_of_getElem? (i := 1044) (by decide +kernel), List.mem_of_getElem? (i := 1644) (by decide +kernel), List.mem_of_getElem? (i := 1645) (by decide +kernel)⟩
theorem lw_p95 : lw_okq (⟨"TrainBearersModel", "layLeft", "(I)V"⟩, 59) := ⟨⟨by decide +kernel, by decide +kernel⟩, List.mem_of_getElem? (i := 1044) (by decide +kernel), List.mem_of_getElem? (i := 1656) (by decide +kernel), List.mem_of_getElem? (i := 1657) (by decide +kernel)⟩
def lw_privs_6 : List (MethodName × Nat) := [(⟨"TrainBearersModel", "dropNow", "(I)I"⟩, 59), (⟨"TrainBearersModel", "walkNow", "(I)I"⟩, 59), (⟨"TrainBearersModel", "canWalk", "(I)Z"⟩, 59), (⟨"TrainBearersModel", "walkIt", "(I)I"⟩, 59), (⟨"TrainBearersModel", "broughtNow", "()I"⟩, 59), (⟨"TrainBearersModel", "layDips", "()V"⟩, 59), (⟨"TrainBearersModel", "tiresOf", "(II)I"⟩, 59), (⟨"TrainBearersModel", "restNow", "()I"⟩, 59), (⟨"TrainBearersModel", "restIt", "()V"⟩, 59), (⟨"TrainBearersModel", "layCosts", "()V"⟩, 59), (⟨"TrainBearersModel", "costOf", "(II)I"⟩, 59), (⟨"TrainBearersModel", "layBorne", "()V"⟩, 59), (⟨"TrainBearersModel", "with", "(III)I"⟩, 59), (⟨"TrainBearersModel", "whoLetGo", "()I"⟩, 59), (⟨"TrainBearersModel", "dipWithout", "(II)I"⟩, 59), (⟨"TrainBearersModel", "layLeft", "(I)V"⟩, 59)]
theorem lw_r6 : ∀ q ∈ lw_privs_6, lw_okq q := List.forall_mem_cons.mpr ⟨lw_p80, List.forall_mem_cons.mpr ⟨lw_p81, List.forall_mem_cons.mpr ⟨lw_p82, List.forall_mem_cons.mpr ⟨lw_p83, List.forall_mem_cons.mpr ⟨lw_p84, List.forall_mem_cons.mpr ⟨lw_p85, List.forall_mem_cons.mpr ⟨lw_p86, List.forall_mem_cons.mpr ⟨lw_p87, List.forall_mem_cons.mpr ⟨lw_p88, List.forall_mem_cons.mpr ⟨lw_p89, List.forall_mem_cons.mpr ⟨lw_p90, List.forall_mem_cons.mpr ⟨lw_p91, List.forall_mem_cons.mpr ⟨lw_p92, List.forall_mem_cons.mpr ⟨lw_p93, List.forall_mem_cons.mpr ⟨lw_p94, List.forall_mem_cons.mpr ⟨lw_p95, fun _ h => absurd h List.not_mem_nil⟩⟩⟩⟩⟩⟩⟩⟩⟩⟩⟩⟩⟩⟩⟩⟩
theorem lw_p96 : lw_okq (⟨"TrainBearersModel", "costTo", "(II)I"⟩, 59) := ⟨⟨by decide +kernel, by decide +kernel⟩, List.mem_of_getElem? (i := 1044) (by decide +kernel), List.mem_of_getElem? (i := 1660) (by decide +kernel), List.mem_of_getElem? (i := 1661) (by decide +kernel)⟩
theorem lw_p97 : lw_okq (⟨"TrainBearersModel", "nextOf", "(I)I"⟩, 59) := ⟨⟨by decide +kernel, by decide +kernel⟩, List.mem_of_getElem? (i := 1044) (by decide +kernel), List.mem_of_getElem? (i := 1664) (by decide +kernel), List.mem_of_getElem? (i := 1665) (by decide +kernel)⟩
theorem lw_p98 : lw_okq (⟨"TrainBearersModel", "readOrder", "()V"⟩, 59) := ⟨⟨by decide +kernel, by decide +kernel⟩, List.mem_of_getElem? (i := 1044) (by decide +kernel), List.mem_of_getElem? (i := 1698) (by decide +kernel), List.mem_of_getElem? (i := 1699) (by decide +kernel)⟩
theorem lw_p99 : lw_okq (⟨"TrainBearersModel", "readSum", "(I)V"⟩, 59) := ⟨⟨by decide +kernel, by decide +kernel⟩, List.mem_of_getElem? (i := 1044) (by decide +kernel), List.mem_of_getElem? (i := 1702) (by decide +kernel), List.mem_of_getElem? (i := 1703) (by decide +kernel)⟩
theorem lw_p100 : lw_okq (⟨"TrainBearersModel", "run", "(I)I"⟩, 59) := ⟨⟨by decide +kernel, by decide +kernel⟩, List.mem_of_getElem? (i := 1044) (by decide +kernel), List.mem_of_getElem? (i := 1708) (by decide +kernel), List.mem_of_getElem? (i := 1709) (by decide +kernel)⟩
theorem lw_p101 : lw_okq (⟨"TrainBearersModel", "sumOf", "(I)I"⟩, 59) := ⟨⟨by decide +kernel, by decide +kernel⟩, List.mem_of_getElem? (i := 1044) (by decide +kernel), List.mem_of_getElem? (i := 1712) (by decide +kernel), List.mem_of_getElem? (i := 1713) (by decide +kernel)⟩
theorem lw_p102 : lw_okq (⟨"TrainBearersModel", "act", "(III)I"⟩, 59) := ⟨⟨by decide +kernel, by decide +kernel⟩, List.mem_of_getElem? (i := 1044) (by decide +kernel), List.mem_of_getElem? (i := 1716) (by decide +kernel), List.mem_of_getElem? (i := 1717) (by decide +kernel)⟩
theorem lw_p103 : lw_okq (⟨"TrainBearersModel", "giveBack", "(I)V"⟩, 59) := ⟨⟨by decide +kernel, by decide +kernel⟩, List.mem_of_getElem? (i := 1044) (by decide +kernel), List.mem_of_getElem? (i := 1720) (by decide +kernel), List.mem_of_getElem? (i := 1721) (by decide +kernel)⟩
theorem lw_p104 : lw_okq (⟨"TrainBearersModel", "draw", "(I)I"⟩, 59) := ⟨⟨by decide +kernel, by decide +kernel⟩, List.mem_of_getElem? (i := 1044) (by decide +kernel), List.mem_of_getElem? (i := 1732) (by decide +kernel), List.mem_of_getElem? (i := 1733) (by decide +kernel)⟩
theorem lw_p105 : lw_okq (⟨"TrainBearersModel", "holding", "()I"⟩, 59) := ⟨⟨by decide +kernel, by decide +kernel⟩, List.mem_of_getElem? (i := 1044) (by decide +kernel), List.mem_of_getElem? (i := 1748) (by decide +kernel), List.mem_of_getElem? (i := 1749) (by decide +kernel)⟩
def lw_privs_7 : List (MethodName × Nat) := [(⟨"TrainBearersModel", "costTo", "(II)I"⟩, 59), (⟨"TrainBearersModel", "nextOf", "(I)I"⟩, 59), (⟨"TrainBearersModel", "readOrder", "()V"⟩, 59), (⟨"TrainBearersModel", "readSum", "(I)V"⟩, 59), (⟨"TrainBearersModel", "run", "(I)I"⟩, 59), (⟨"TrainBearersModel", "sumOf", "(I)I"⟩, 59), (⟨"TrainBearersModel", "act", "(III)I"⟩, 59), (⟨"TrainBearersModel", "giveBack", "(I)V"⟩, 59), (⟨"TrainBearersModel", "draw", "(I)I"⟩, 59), (⟨"TrainBearersModel", "holding", "()I"⟩, 59)]
theorem lw_r7 : ∀ q ∈ lw_privs_7, lw_okq q := List.forall_mem_cons.mpr ⟨lw_p96, List.forall_mem_cons.mpr ⟨lw_p97, List.forall_mem_cons.mpr ⟨lw_p98, List.forall_mem_cons.mpr ⟨lw_p99, List.forall_mem_cons.mpr ⟨lw_p100, List.forall_mem_cons.mpr ⟨lw_p101, List.forall_mem_cons.mpr ⟨lw_p102, List.forall_mem_cons.mpr ⟨lw_p103, List.forall_mem_cons.mpr ⟨lw_p104, List.forall_mem_cons.mpr ⟨lw_p105, fun _ h => absurd h List.not_mem_nil⟩⟩⟩⟩⟩⟩⟩⟩⟩⟩
def lw_privs : List (MethodName × Nat) := lw_privs_1 ++ (lw_privs_2 ++ (lw_privs_3 ++ (lw_privs_4 ++ (lw_privs_5 ++ (lw_privs_6 ++ (lw_privs_7))))))
def lw_tbl : List Cond := k2_sels lw_privs ++ tables_1
theorem lw_privs_ok : ∀ q ∈ lw_privs, lw_okq q := by
  show ∀ q ∈ lw_privs_1 ++ (lw_privs_2 ++ (lw_privs_3 ++ (lw_privs_4 ++ (lw_privs_5 ++ (lw_privs_6 ++ (lw_privs_7)))))), lw_okq q
  exact List.forall_mem_append.mpr ⟨lw_r1, List.forall_mem_append.mpr ⟨lw_r2, List.forall_mem_append.mpr ⟨lw_r3, List.forall_mem_append.mpr ⟨lw_r4, List.forall_mem_append.mpr ⟨lw_r5, List.forall_mem_append.mpr ⟨lw_r6, lw_r7⟩⟩⟩⟩⟩⟩
end
section
/-! names: classes, their fields (printed by TURN); then the pure machine's own lists of classes -/
def RX0 : String := "TrainBearers$Bearing"
def TX0 : u_T := fun k => match k with
  | 0 => ("TrainBearers$Bearing", "sets", "[I", true)
  | 1 => ("TrainBearers$Bearing", "worth", "[I", true)
  | 2 => ("TrainBearers$Bearing", "best", "[I", true)
  | 3 => ("TrainBearers$Bearing", "lifted", "[I", true)
  | 4 => ("TrainBearers$Bearing", "everyone", "I", false)
  | _ => ("TrainBearers$Bearing", "chosen", "[I", true)
def tyX0 : Nat → FieldType := fun k => match k with
  | 0 => .array .int
  | 1 => .array .int
  | 2 => .array .int
  | 3 => .array .int
  | 4 => .int
  | _ => .array .int
theorem nmX0 : ∀ a, a < 6 → ∀ b, b < 6 → a ≠ b → (TX0 a).2.1 ≠ (TX0 b).2.1 := by decide +kernel
theorem tyX0_ok : ∀ k, k < 6 → parseFieldDescriptor (TX0 k).2.2.1 = some (tyX0 k) := by decide +kernel
def RX1 : String := "TrainBearers$Deeds"
def TX1 : u_T := fun k => match k with
  | 0 => ("TrainBearers$Deeds", "rules", "LTrainBearers$Rules;", true)
  | 1 => ("TrainBearers$Deeds", "sums", "LTrainBearers$Sums;", true)
  | 2 => ("TrainBearers$Deeds", "words", "[I", true)
  | 3 => ("TrainBearers$Deeds", "tiring", "[I", true)
  | 4 => ("TrainBearers$Deeds", "dips", "[I", true)
  | _ => ("TrainBearers$Deeds", "stopped", "I", false)
def tyX1 : Nat → FieldType := fun k => match k with
  | 0 => .object "TrainBearers$Rules"
  | 1 => .object "TrainBearers$Sums"
  | 2 => .array .int
  | 3 => .array .int
  | 4 => .array .int
  | _ => .int
theorem nmX1 : ∀ a, a < 6 → ∀ b, b < 6 → a ≠ b → (TX1 a).2.1 ≠ (TX1 b).2.1 := by decide +kernel
theorem tyX1_ok : ∀ k, k < 6 → parseFieldDescriptor (TX1 k).2.2.1 = some (tyX1 k) := by decide +kernel
def RX2 : String := "TrainBearers$Guess"
def TX2 : u_T := fun k => match k with
  | _ => ("TrainBearers$Guess", "dips", "[I", true)
def tyX2 : Nat → FieldType := fun k => match k with
  | _ => .array .int
theorem nmX2 : ∀ a, a < 1 → ∀ b, b < 1 → a ≠ b → (TX2 a).2.1 ≠ (TX2 b).2.1 := by decide +kernel
theorem tyX2_ok : ∀ k, k < 1 → parseFieldDescriptor (TX2 k).2.2.1 = some (tyX2 k) := by decide +kernel
def RX3 : String := "TrainBearers$Reader"
def TX3 : u_T := fun k => match k with
  | 0 => ("TrainBearers$Reader", "tape", "[I", true)
  | 1 => ("TrainBearers$Reader", "size", "I", false)
  | 2 => ("TrainBearers$Reader", "fault", "I", false)
  | 3 => ("TrainBearers$Reader", "start", "I", false)
  | 4 => ("TrainBearers$Reader", "stop", "I", false)
  | 5 => ("TrainBearers$Reader", "parts", "I", false)
  | 6 => ("TrainBearers$Reader", "laws", "Z", false)
  | _ => ("TrainBearers$Reader", "text", "LTrainBearers$Text;", true)
def tyX3 : Nat → FieldType := fun k => match k with
  | 0 => .array .int
  | 1 => .int
  | 2 => .int
  | 3 => .int
  | 4 => .int
  | 5 => .int
  | 6 => .boolean
  | _ => .object "TrainBearers$Text"
theorem nmX3 : ∀ a, a < 8 → ∀ b, b < 8 → a ≠ b → (TX3 a).2.1 ≠ (TX3 b).2.1 := by decide +kernel
theorem tyX3_ok : ∀ k, k < 8 → parseFieldDescriptor (TX3 k).2.2.1 = some (tyX3 k) := by decide +kernel
def RX4 : String := "TrainBearers$Rules"
def TX4 : u_T := fun k => match k with
  | 0 => ("TrainBearers$Rules", "sums", "LTrainBearers$Sums;", true)
  | _ => ("TrainBearers$Rules", "words", "[I", true)
def tyX4 : Nat → FieldType := fun k => match k with
  | 0 => .object "TrainBearers$Sums"
  | _ => .array .int
theorem nmX4 : ∀ a, a < 2 → ∀ b, b < 2 → a ≠ b → (TX4 a).2.1 ≠ (TX4 b).2.1 := by decide +kernel
theorem tyX4_ok : ∀ k, k < 2 → parseFieldDescriptor (TX4 k).2.2.1 = some (tyX4 k) := by decide +kernel
def RX5 : String := "TrainBearers$Steps"
def TX5 : u_T := fun k => match k with
  | 0 => ("TrainBearers$Steps", "rows", "[I", true)
  | 1 => ("TrainBearers$Steps", "first", "I", false)
  | _ => ("TrainBearers$Steps", "size", "I", false)
def tyX5 : Nat → FieldType := fun k => match k with
  | 0 => .array .int
  | 1 => .int
  | _ => .int
theorem nmX5 : ∀ a, a < 3 → ∀ b, b < 3 → a ≠ b → (TX5 a).2.1 ≠ (TX5 b).2.1 := by decide +kernel
theorem tyX5_ok : ∀ k, k < 3 → parseFieldDescriptor (TX5 k).2.2.1 = some (tyX5 k) := by decide +kernel
def RX6 : String := "TrainBearers$Sums"
def TX6 : u_T := fun k => match k with
  | _ => ("TrainBearers$Sums", "stack", "[J", true)
def tyX6 : Nat → FieldType := fun k => match k with
  | _ => .array .long
theorem nmX6 : ∀ a, a < 1 → ∀ b, b < 1 → a ≠ b → (TX6 a).2.1 ≠ (TX6 b).2.1 := by decide +kernel
theorem tyX6_ok : ∀ k, k < 1 → parseFieldDescriptor (TX6 k).2.2.1 = some (tyX6 k) := by decide +kernel
def RX7 : String := "TrainBearers$Text"
def TX7 : u_T := fun k => match k with
  | 0 => ("TrainBearers$Text", "clauses", "I", false)
  | 1 => ("TrainBearers$Text", "kind", "[I", true)
  | 2 => ("TrainBearers$Text", "first", "[I", true)
  | 3 => ("TrainBearers$Text", "second", "[I", true)
  | 4 => ("TrainBearers$Text", "test", "[I", true)
  | 5 => ("TrainBearers$Text", "times", "[I", true)
  | 6 => ("TrainBearers$Text", "length", "I", false)
  | 7 => ("TrainBearers$Text", "operations", "[I", true)
  | 8 => ("TrainBearers$Text", "operands", "[I", true)
  | _ => ("TrainBearers$Text", "dips", "I", false)
def tyX7 : Nat → FieldType := fun k => match k with
  | 0 => .int
  | 1 => .array .int
  | 2 => .array .int
  | 3 => .array .int
  | 4 => .array .int
  | 5 => .array .int
  | 6 => .int
  | 7 => .array .int
  | 8 => .array .int
  | _ => .int
theorem nmX7 : ∀ a, a < 10 → ∀ b, b < 10 → a ≠ b → (TX7 a).2.1 ≠ (TX7 b).2.1 := by decide +kernel
theorem tyX7_ok : ∀ k, k < 10 → parseFieldDescriptor (TX7 k).2.2.1 = some (tyX7 k) := by decide +kernel
def RX8 : String := "TrainBearers$Train"
def TX8 : u_T := fun k => match k with
  | 0 => ("TrainBearers$Train", "yards", "I", false)
  | 1 => ("TrainBearers$Train", "heavy", "[I", true)
  | 2 => ("TrainBearers$Train", "mud", "[I", true)
  | 3 => ("TrainBearers$Train", "girls", "I", false)
  | 4 => ("TrainBearers$Train", "strong", "[I", true)
  | 5 => ("TrainBearers$Train", "tired", "[I", true)
  | 6 => ("TrainBearers$Train", "holds", "[I", true)
  | 7 => ("TrainBearers$Train", "lanes", "[I", true)
  | 8 => ("TrainBearers$Train", "place", "I", false)
  | 9 => ("TrainBearers$Train", "fate", "I", false)
  | 10 => ("TrainBearers$Train", "sights", "I", false)
  | 11 => ("TrainBearers$Train", "sightYard", "[I", true)
  | 12 => ("TrainBearers$Train", "sightDip", "[I", true)
  | 13 => ("TrainBearers$Train", "terms", "[I", true)
  | 14 => ("TrainBearers$Train", "laws", "I", false)
  | 15 => ("TrainBearers$Train", "lawTexts", "[LTrainBearers$Text;", true)
  | _ => ("TrainBearers$Train", "inForce", "I", false)
def tyX8 : Nat → FieldType := fun k => match k with
  | 0 => .int
  | 1 => .array .int
  | 2 => .array .int
  | 3 => .int
  | 4 => .array .int
  | 5 => .array .int
  | 6 => .array .int
  | 7 => .array .int
  | 8 => .int
  | 9 => .int
  | 10 => .int
  | 11 => .array .int
  | 12 => .array .int
  | 13 => .array .int
  | 14 => .int
  | 15 => .array (.object "TrainBearers$Text")
  | _ => .int
theorem nmX8 : ∀ a, a < 17 → ∀ b, b < 17 → a ≠ b → (TX8 a).2.1 ≠ (TX8 b).2.1 := by decide +kernel
theorem tyX8_ok : ∀ k, k < 17 → parseFieldDescriptor (TX8 k).2.2.1 = some (tyX8 k) := by decide +kernel
def RX9 : String := "TrainBearers$Ways"
def TX9 : u_T := fun k => match k with
  | _ => ("TrainBearers$Ways", "cost", "[I", true)
def tyX9 : Nat → FieldType := fun k => match k with
  | _ => .array .int
theorem nmX9 : ∀ a, a < 1 → ∀ b, b < 1 → a ≠ b → (TX9 a).2.1 ≠ (TX9 b).2.1 := by decide +kernel
theorem tyX9_ok : ∀ k, k < 1 → parseFieldDescriptor (TX9 k).2.2.1 = some (tyX9 k) := by decide +kernel
def RX10 : String := "TrainBearers"
def TX10 : u_T := fun k => match k with
  | 0 => ("TrainBearers", "now", "LTrainBearers$Train;", false)
  | 1 => ("TrainBearers", "paper", "LTrainBearers$Train;", false)
  | 2 => ("TrainBearers", "drawnTrain", "LTrainBearers$Train;", true)
  | 3 => ("TrainBearers", "images", "[LTrainBearers$Train;", true)
  | 4 => ("TrainBearers", "imageKept", "[Z", true)
  | 5 => ("TrainBearers", "steps", "LTrainBearers$Steps;", false)
  | 6 => ("TrainBearers", "paperSteps", "LTrainBearers$Steps;", false)
  | 7 => ("TrainBearers", "reader", "LTrainBearers$Reader;", true)
  | 8 => ("TrainBearers", "rules", "LTrainBearers$Rules;", true)
  | 9 => ("TrainBearers", "deeds", "LTrainBearers$Deeds;", true)
  | 10 => ("TrainBearers", "bearing", "LTrainBearers$Bearing;", true)
  | 11 => ("TrainBearers", "guess", "LTrainBearers$Guess;", true)
  | 12 => ("TrainBearers", "ways", "LTrainBearers$Ways;", true)
  | 13 => ("TrainBearers", "refusals", "[I", true)
  | 14 => ("TrainBearers", "latestRefusal", "I", false)
  | _ => ("TrainBearers", "rowPuddles", "I", false)
def tyX10 : Nat → FieldType := fun k => match k with
  | 0 => .object "TrainBearers$Train"
  | 1 => .object "TrainBearers$Train"
  | 2 => .object "TrainBearers$Train"
  | 3 => .array (.object "TrainBearers$Train")
  | 4 => .array .boolean
  | 5 => .object "TrainBearers$Steps"
  | 6 => .object "TrainBearers$Steps"
  | 7 => .object "TrainBearers$Reader"
  | 8 => .object "TrainBearers$Rules"
  | 9 => .object "TrainBearers$Deeds"
  | 10 => .object "TrainBearers$Bearing"
  | 11 => .object "TrainBearers$Guess"
  | 12 => .object "TrainBearers$Ways"
  | 13 => .array .int
  | 14 => .int
  | _ => .int
theorem nmX10 : ∀ a, a < 16 → ∀ b, b < 16 → a ≠ b → (TX10 a).2.1 ≠ (TX10 b).2.1 := by decide +kernel
theorem tyX10_ok : ∀ k, k < 16 → parseFieldDescriptor (TX10 k).2.2.1 = some (tyX10 k) := by decide +kernel
def RX11 : String := "TrainBearersModel"
def TX11 : u_T := fun k => match k with
  | 0 => ("TrainBearersModel", "thrown", "I", false)
  | 1 => ("TrainBearersModel", "status", "I", false)
  | 2 => ("TrainBearersModel", "refusals", "[I", true)
  | 3 => ("TrainBearersModel", "row", "[I", true)
  | 4 => ("TrainBearersModel", "images", "[I", true)
  | 5 => ("TrainBearersModel", "isKept", "[Z", true)
  | 6 => ("TrainBearersModel", "undos", "[I", true)
  | 7 => ("TrainBearersModel", "sorts", "[I", true)
  | 8 => ("TrainBearersModel", "nUndo", "I", false)
  | 9 => ("TrainBearersModel", "undosBefore", "[I", true)
  | 10 => ("TrainBearersModel", "sortsBefore", "[I", true)
  | 11 => ("TrainBearersModel", "puddles", "I", false)
  | 12 => ("TrainBearersModel", "tape", "[I", true)
  | 13 => ("TrainBearersModel", "taped", "I", false)
  | 14 => ("TrainBearersModel", "from", "I", false)
  | 15 => ("TrainBearersModel", "to", "I", false)
  | 16 => ("TrainBearersModel", "sort", "I", false)
  | 17 => ("TrainBearersModel", "worth", "J", false)
  | 18 => ("TrainBearersModel", "fault", "I", false)
  | 19 => ("TrainBearersModel", "bad", "Z", false)
  | 20 => ("TrainBearersModel", "ordered", "Z", false)
  | 21 => ("TrainBearersModel", "nClauses", "I", false)
  | 22 => ("TrainBearersModel", "nClause", "[I", true)
  | 23 => ("TrainBearersModel", "nCode", "I", false)
  | 24 => ("TrainBearersModel", "nOp", "[I", true)
  | 25 => ("TrainBearersModel", "nArg", "[I", true)
  | 26 => ("TrainBearersModel", "nLeaves", "I", false)
  | 27 => ("TrainBearersModel", "pile", "[I", true)
  | 28 => ("TrainBearersModel", "pileAt", "[I", true)
  | 29 => ("TrainBearersModel", "piled", "I", false)
  | 30 => ("TrainBearersModel", "opened", "I", false)
  | 31 => ("TrainBearersModel", "words", "[J", true)
  | 32 => ("TrainBearersModel", "orderWords", "[J", true)
  | 33 => ("TrainBearersModel", "heads", "[J", true)
  | 34 => ("TrainBearersModel", "law", "I", false)
  | 35 => ("TrainBearersModel", "set", "[J", true)
  | 36 => ("TrainBearersModel", "now", "[J", true)
  | 37 => ("TrainBearersModel", "rest", "[J", true)
  | 38 => ("TrainBearersModel", "broken", "Z", false)
  | 39 => ("TrainBearersModel", "value", "J", false)
  | 40 => ("TrainBearersModel", "sum", "J", false)
  | 41 => ("TrainBearersModel", "dips", "[I", true)
  | 42 => ("TrainBearersModel", "tiring", "[I", true)
  | 43 => ("TrainBearersModel", "costs", "[I", true)
  | 44 => ("TrainBearersModel", "least", "[I", true)
  | 45 => ("TrainBearersModel", "lifting", "[I", true)
  | 46 => ("TrainBearersModel", "barred", "[Z", true)
  | 47 => ("TrainBearersModel", "alike", "[I", true)
  | 48 => ("TrainBearersModel", "left", "[I", true)
  | 49 => ("TrainBearersModel", "acts", "[J", true)
  | 50 => ("TrainBearersModel", "nOrder", "[I", true)
  | 51 => ("TrainBearersModel", "done", "I", false)
  | 52 => ("TrainBearersModel", "latest", "I", false)
  | 53 => ("TrainBearersModel", "stopped", "I", false)
  | 54 => ("TrainBearersModel", "off", "Z", false)
  | 55 => ("TrainBearersModel", "state", "J", false)
  | 56 => ("TrainBearersModel", "drawn", "[I", true)
  | 57 => ("TrainBearersModel", "drawnGirls", "I", false)
  | _ => ("TrainBearersModel", "drawnYards", "I", false)
def tyX11 : Nat → FieldType := fun k => match k with
  | 0 => .int
  | 1 => .int
  | 2 => .array .int
  | 3 => .array .int
  | 4 => .array .int
  | 5 => .array .boolean
  | 6 => .array .int
  | 7 => .array .int
  | 8 => .int
  | 9 => .array .int
  | 10 => .array .int
  | 11 => .int
  | 12 => .array .int
  | 13 => .int
  | 14 => .int
  | 15 => .int
  | 16 => .int
  | 17 => .long
  | 18 => .int
  | 19 => .boolean
  | 20 => .boolean
  | 21 => .int
  | 22 => .array .int
  | 23 => .int
  | 24 => .array .int
  | 25 => .array .int
  | 26 => .int
  | 27 => .array .int
  | 28 => .array .int
  | 29 => .int
  | 30 => .int
  | 31 => .array .long
  | 32 => .array .long
  | 33 => .array .long
  | 34 => .int
  | 35 => .array .long
  | 36 => .array .long
  | 37 => .array .long
  | 38 => .boolean
  | 39 => .long
  | 40 => .long
  | 41 => .array .int
  | 42 => .array .int
  | 43 => .array .int
  | 44 => .array .int
  | 45 => .array .int
  | 46 => .array .boolean
  | 47 => .array .int
  | 48 => .array .int
  | 49 => .array .long
  | 50 => .array .int
  | 51 => .int
  | 52 => .int
  | 53 => .int
  | 54 => .boolean
  | 55 => .long
  | 56 => .array .int
  | 57 => .int
  | _ => .int
theorem nmX11 : ∀ a, a < 59 → ∀ b, b < 59 → a ≠ b → (TX11 a).2.1 ≠ (TX11 b).2.1 := by decide +kernel
theorem tyX11_ok : ∀ k, k < 59 → parseFieldDescriptor (TX11 k).2.2.1 = some (tyX11 k) := by decide +kernel
abbrev pm_cls : List vw_C := [(RX0, TX0, 6), (RX1, TX1, 6), (RX2, TX2, 1), (RX3, TX3, 8), (RX4, TX4, 2), (RX5, TX5, 3), (RX6, TX6, 1), (RX7, TX7, 10), (RX8, TX8, 17), (RX9, TX9, 1), (RX10, TX10, 16), (RX11, TX11, 59)]
def pm_tyL : List (Nat → FieldType) := [tyX0, tyX1, tyX2, tyX3, tyX4, tyX5, tyX6, tyX7, tyX8, tyX9, tyX10, tyX11]
def pm_ty (ci k : Nat) : FieldType := (pm_tyL.getD ci (fun _ => .int)) k
def pm_ownL : List String := ["TrainBearers$Bearing", "TrainBearers$Deeds", "TrainBearers$Guess", "TrainBearers$Reader", "TrainBearers$Rules", "TrainBearers$Steps", "TrainBearers$Sums", "TrainBearers$Text", "TrainBearers$Train", "TrainBearers$Ways", "TrainBearers", "TrainBearersModel", "TrainBearersLaw", "java/lang/Integer", "java/lang/Math", "java/lang/String", "java/lang/StringLatin1", "java/util/Arrays", "jdk/internal/util/Preconditions"]
def pm_own (o : Nat) : String := pm_ownL.getD o ""
/-- an instruction of a method: its place, itself, its length, what it is linked to -/
abbrev pm_I : Type := Nat × Instr × Nat × Nat × Nat × Value
/-- a method: name, bytes, locals, what it returns, its class, how many arguments (with the object), instructions -/
abbrev pm_M : Type := MethodName × ByteArray × Nat × Option FieldType × Nat × Nat × List pm_I
def pm_decB (b : ByteArray) (e : pm_I) : Bool := decide (decode b e.1 = .ok (e.2.1, e.2.2.1))
end
section
/-- TrainBearers$Bearing.<init>()V -/
def pm_c0 : List pm_I := [(0, .aload_n 0, 1, 0, 0, .null),
  (1, .invokespecial 3, 3, 4, 0, .null),
  (4, .aload_n 0, 1, 0, 0, .null),
  (5, .bipush 37, 2, 0, 0, .null),
  (7, .newarray .int, 2, 0, 0, .null),
  (9, .putfield 11, 3, 0, 0, .null),
  (12, .aload_n 0, 1, 0, 0, .null),
  (13, .sipush 296, 3, 0, 0, .null),
  (16, .newarray .int, 2, 0, 0, .null),
  (18, .putfield 15, 3, 0, 1, .null),
  (21, .aload_n 0, 1, 0, 0, .null),
  (22, .sipush 2304, 3, 0, 0, .null),
  (25, .newarray .int, 2, 0, 0, .null),
  (27, .putfield 18, 3, 0, 2, .null),
  (30, .aload_n 0, 1, 0, 0, .null),
  (31, .bipush 8, 2, 0, 0, .null),
  (33, .newarray .int, 2, 0, 0, .null),
  (35, .putfield 21, 3, 0, 3, .null),
  (38, .aload_n 0, 1, 0, 0, .null),
  (39, .bipush 8, 2, 0, 0, .null),
  (41, .newarray .int, 2, 0, 0, .null),
  (43, .putfield 24, 3, 0, 5, .null),
  (46, .iconst 0, 1, 0, 0, .null),
  (47, .istore_n 1, 1, 0, 0, .null),
  (48, .iconst 0, 1, 0, 0, .null),
  (49, .istore_n 2, 1, 0, 0, .null),
  (50, .iload_n 2, 1, 0, 0, .null),
  (51, .sipush 256, 3, 0, 0, .null),
  (54, .if_icmp .ge 33, 3, 87, 0, .null),
  (57, .iload_n 1, 1, 0, 0, .null),
  (58, .bipush 37, 2, 0, 0, .null),
  (60, .if_icmp .ge 27, 3, 87, 0, .null),
  (63, .iload_n 2, 1, 0, 0, .null),
  (64, .invokestatic 27, 3, 1, 257, .null),
  (67, .iconst 2, 1, 0, 0, .null),
  (68, .if_icmp .gt 13, 3, 81, 0, .null),
  (71, .aload_n 0, 1, 0, 0, .null),
  (72, .getfield 11, 3, 0, 0, .null),
  (75, .iload_n 1, 1, 0, 0, .null),
  (76, .iload_n 2, 1, 0, 0, .null),
  (77, .iastore, 1, 0, 0, .null),
  (78, .iinc 1 1, 3, 0, 0, .null),
  (81, .iinc 2 1, 3, 0, 0, .null),
  (84, .goto (-34), 3, 50, 0, .null),
  (87, .return_, 1, 0, 0, .null)]
set_option maxRecDepth 100000 in
theorem pm_d0 : pm_c0.all (pm_decB prog_2_method_1_code) = true := by decide +kernel
/-- TrainBearers$Bearing.leastBrought()I -/
def pm_c1 : List pm_I := [(0, .aload_n 0, 1, 0, 0, .null),
  (1, .getfield 18, 3, 0, 2, .null),
  (4, .aload_n 0, 1, 0, 0, .null),
  (5, .getfield 33, 3, 0, 4, .null),
  (8, .iaload, 1, 0, 0, .null),
  (9, .bipush 16, 2, 0, 0, .null),
  (11, .idiv, 1, 0, 0, .null),
  (12, .ireturn, 1, 0, 0, .null)]
set_option maxRecDepth 100000 in
theorem pm_d1 : pm_c1.all (pm_decB prog_2_method_2_code) = true := by decide +kernel
/-- TrainBearers$Bearing.fewestGirls()I -/
def pm_c2 : List pm_I := [(0, .aload_n 0, 1, 0, 0, .null),
  (1, .getfield 18, 3, 0, 2, .null),
  (4, .aload_n 0, 1, 0, 0, .null),
  (5, .getfield 33, 3, 0, 4, .null),
  (8, .iaload, 1, 0, 0, .null),
  (9, .bipush 16, 2, 0, 0, .null),
  (11, .irem, 1, 0, 0, .null),
  (12, .ireturn, 1, 0, 0, .null)]
set_option maxRecDepth 100000 in
theorem pm_d2 : pm_c2.all (pm_decB prog_2_method_3_code) = true := by decide +kernel
/-- TrainBearers$Bearing.solve(LTrainBearers$Train;LTrainBearers$Rules;)V -/
def pm_c3 : List pm_I := [(0, .aload_n 0, 1, 0, 0, .null),
  (1, .iconst 1, 1, 0, 0, .null),
  (2, .aload_n 1, 1, 0, 0, .null),
  (3, .getfield 37, 3, 8, 3, .null),
  (6, .ishl, 1, 0, 0, .null),
  (7, .iconst 1, 1, 0, 0, .null),
  (8, .isub, 1, 0, 0, .null),
  (9, .putfield 33, 3, 0, 4, .null),
  (12, .iconst 0, 1, 0, 0, .null),
  (13, .istore_n 3, 1, 0, 0, .null),
  (14, .iload_n 3, 1, 0, 0, .null),
  (15, .aload_n 0, 1, 0, 0, .null),
  (16, .getfield 33, 3, 0, 4, .null),
  (19, .if_icmp .gt 25, 3, 44, 0, .null),
  (22, .aload_n 0, 1, 0, 0, .null),
  (23, .getfield 18, 3, 0, 2, .null),
  (26, .aload_n 1, 1, 0, 0, .null),
  (27, .getfield 42, 3, 8, 0, .null),
  (30, .sipush 256, 3, 0, 0, .null),
  (33, .imul, 1, 0, 0, .null),
  (34, .iload_n 3, 1, 0, 0, .null),
  (35, .iadd, 1, 0, 0, .null),
  (36, .iconst 0, 1, 0, 0, .null),
  (37, .iastore, 1, 0, 0, .null),
  (38, .iinc 3 1, 3, 0, 0, .null),
  (41, .goto (-27), 3, 14, 0, .null),
  (44, .aload_n 1, 1, 0, 0, .null),
  (45, .getfield 42, 3, 8, 0, .null),
  (48, .iconst 1, 1, 0, 0, .null),
  (49, .isub, 1, 0, 0, .null),
  (50, .istore_n 3, 1, 0, 0, .null),
  (51, .iload_n 3, 1, 0, 0, .null),
  (52, .ifCond .lt 54, 3, 106, 0, .null),
  (55, .aload_n 0, 1, 0, 0, .null),
  (56, .aload_n 1, 1, 0, 0, .null),
  (57, .aload_n 2, 1, 0, 0, .null),
  (58, .iload_n 3, 1, 0, 0, .null),
  (59, .invokevirtual 45, 3, 0, 4, .null),
  (62, .iconst 0, 1, 0, 0, .null),
  (63, .istore 4, 2, 0, 0, .null),
  (65, .iload 4, 2, 0, 0, .null),
  (67, .aload_n 0, 1, 0, 0, .null),
  (68, .getfield 33, 3, 0, 4, .null),
  (71, .if_icmp .gt 29, 3, 100, 0, .null),
  (74, .aload_n 0, 1, 0, 0, .null),
  (75, .getfield 18, 3, 0, 2, .null),
  (78, .iload_n 3, 1, 0, 0, .null),
  (79, .sipush 256, 3, 0, 0, .null),
  (82, .imul, 1, 0, 0, .null),
  (83, .iload 4, 2, 0, 0, .null),
  (85, .iadd, 1, 0, 0, .null),
  (86, .aload_n 0, 1, 0, 0, .null),
  (87, .iload_n 3, 1, 0, 0, .null),
  (88, .iload 4, 2, 0, 0, .null),
  (90, .invokevirtual 49, 3, 0, 5, .null),
  (93, .iastore, 1, 0, 0, .null),
  (94, .iinc 4 1, 3, 0, 0, .null),
  (97, .goto (-32), 3, 65, 0, .null),
  (100, .iinc 3 (-1), 3, 0, 0, .null),
  (103, .goto (-52), 3, 51, 0, .null),
  (106, .aload_n 0, 1, 0, 0, .null),
  (107, .getfield 33, 3, 0, 4, .null),
  (110, .istore_n 3, 1, 0, 0, .null),
  (111, .iconst 0, 1, 0, 0, .null),
  (112, .istore 4, 2, 0, 0, .null),
  (114, .iload 4, 2, 0, 0, .null),
  (116, .aload_n 1, 1, 0, 0, .null),
  (117, .getfield 42, 3, 8, 0, .null),
  (120, .if_icmp .ge 35, 3, 155, 0, .null),
  (123, .aload_n 0, 1, 0, 0, .null),
  (124, .getfield 24, 3, 0, 5, .null),
  (127, .iload 4, 2, 0, 0, .null),
  (129, .aload_n 0, 1, 0, 0, .null),
  (130, .iload 4, 2, 0, 0, .null),
  (132, .iload_n 3, 1, 0, 0, .null),
  (133, .invokevirtual 53, 3, 0, 6, .null),
  (136, .iastore, 1, 0, 0, .null),
  (137, .iload_n 3, 1, 0, 0, .null),
  (138, .aload_n 0, 1, 0, 0, .null),
  (139, .getfield 24, 3, 0, 5, .null),
  (142, .iload 4, 2, 0, 0, .null),
  (144, .iaload, 1, 0, 0, .null),
  (145, .iconst (-1), 1, 0, 0, .null),
  (146, .ixor, 1, 0, 0, .null),
  (147, .iand, 1, 0, 0, .null),
  (148, .istore_n 3, 1, 0, 0, .null),
  (149, .iinc 4 1, 3, 0, 0, .null),
  (152, .goto (-38), 3, 114, 0, .null),
  (155, .return_, 1, 0, 0, .null)]
set_option maxRecDepth 100000 in
theorem pm_d3 : pm_c3.all (pm_decB prog_2_method_4_code) = true := by decide +kernel
/-- TrainBearers$Bearing.weigh(LTrainBearers$Train;LTrainBearers$Rules;I)V -/
def pm_c4 : List pm_I := [(0, .iconst 0, 1, 0, 0, .null),
  (1, .istore 4, 2, 0, 0, .null),
  (3, .iconst 0, 1, 0, 0, .null),
  (4, .istore 5, 2, 0, 0, .null),
  (6, .iload 5, 2, 0, 0, .null),
  (8, .aload_n 1, 1, 0, 0, .null),
  (9, .getfield 37, 3, 8, 3, .null),
  (12, .if_icmp .ge 44, 3, 56, 0, .null),
  (15, .aload_n 0, 1, 0, 0, .null),
  (16, .getfield 21, 3, 0, 3, .null),
  (19, .iload 5, 2, 0, 0, .null),
  (21, .aload_n 2, 1, 0, 0, .null),
  (22, .aload_n 1, 1, 0, 0, .null),
  (23, .iload 5, 2, 0, 0, .null),
  (25, .iload_n 3, 1, 0, 0, .null),
  (26, .invokevirtual 56, 3, 0, 44, .null),
  (29, .iastore, 1, 0, 0, .null),
  (30, .aload_n 2, 1, 0, 0, .null),
  (31, .aload_n 1, 1, 0, 0, .null),
  (32, .iload 5, 2, 0, 0, .null),
  (34, .iload_n 3, 1, 0, 0, .null),
  (35, .invokevirtual 62, 3, 0, 45, .null),
  (38, .ifCond .eq 12, 3, 50, 0, .null),
  (41, .iload 4, 2, 0, 0, .null),
  (43, .iconst 1, 1, 0, 0, .null),
  (44, .iload 5, 2, 0, 0, .null),
  (46, .ishl, 1, 0, 0, .null),
  (47, .ior, 1, 0, 0, .null),
  (48, .istore 4, 2, 0, 0, .null),
  (50, .iinc 5 1, 3, 0, 0, .null),
  (53, .goto (-47), 3, 6, 0, .null),
  (56, .iconst 0, 1, 0, 0, .null),
  (57, .istore 5, 2, 0, 0, .null),
  (59, .iload 5, 2, 0, 0, .null),
  (61, .bipush 37, 2, 0, 0, .null),
  (63, .if_icmp .ge 133, 3, 196, 0, .null),
  (66, .aload_n 0, 1, 0, 0, .null),
  (67, .getfield 11, 3, 0, 0, .null),
  (70, .iload 5, 2, 0, 0, .null),
  (72, .iaload, 1, 0, 0, .null),
  (73, .aload_n 0, 1, 0, 0, .null),
  (74, .getfield 33, 3, 0, 4, .null),
  (77, .if_icmp .gt 119, 3, 196, 0, .null),
  (80, .aload_n 1, 1, 0, 0, .null),
  (81, .getfield 66, 3, 8, 1, .null),
  (84, .iload_n 3, 1, 0, 0, .null),
  (85, .iaload, 1, 0, 0, .null),
  (86, .aload_n 1, 1, 0, 0, .null),
  (87, .getfield 69, 3, 8, 2, .null),
  (90, .iload_n 3, 1, 0, 0, .null),
  (91, .iaload, 1, 0, 0, .null),
  (92, .iadd, 1, 0, 0, .null),
  (93, .istore 6, 2, 0, 0, .null),
  (95, .iconst 0, 1, 0, 0, .null),
  (96, .istore 7, 2, 0, 0, .null),
  (98, .iload 7, 2, 0, 0, .null),
  (100, .aload_n 1, 1, 0, 0, .null),
  (101, .getfield 37, 3, 8, 3, .null),
  (104, .if_icmp .ge 34, 3, 138, 0, .null),
  (107, .iload 6, 2, 0, 0, .null),
  (109, .aload_n 0, 1, 0, 0, .null),
  (110, .getfield 11, 3, 0, 0, .null),
  (113, .iload 5, 2, 0, 0, .null),
  (115, .iaload, 1, 0, 0, .null),
  (116, .iload 7, 2, 0, 0, .null),
  (118, .ishr, 1, 0, 0, .null),
  (119, .iconst 1, 1, 0, 0, .null),
  (120, .iand, 1, 0, 0, .null),
  (121, .aload_n 0, 1, 0, 0, .null),
  (122, .getfield 21, 3, 0, 3, .null),
  (125, .iload 7, 2, 0, 0, .null),
  (127, .iaload, 1, 0, 0, .null),
  (128, .imul, 1, 0, 0, .null),
  (129, .isub, 1, 0, 0, .null),
  (130, .istore 6, 2, 0, 0, .null),
  (132, .iinc 7 1, 3, 0, 0, .null),
  (135, .goto (-37), 3, 98, 0, .null),
  (138, .aload_n 0, 1, 0, 0, .null),
  (139, .getfield 15, 3, 0, 1, .null),
  (142, .iload_n 3, 1, 0, 0, .null),
  (143, .bipush 37, 2, 0, 0, .null),
  (145, .imul, 1, 0, 0, .null),
  (146, .iload 5, 2, 0, 0, .null),
  (148, .iadd, 1, 0, 0, .null),
  (149, .aload_n 0, 1, 0, 0, .null),
  (150, .getfield 11, 3, 0, 0, .null),
  (153, .iload 5, 2, 0, 0, .null),
  (155, .iaload, 1, 0, 0, .null),
  (156, .iload 4, 2, 0, 0, .null),
  (158, .iand, 1, 0, 0, .null),
  (159, .ifCond .eq 8, 3, 167, 0, .null),
  (162, .ldc 72, 2, 0, 0, .int (1048576)),
  (164, .goto 25, 3, 189, 0, .null),
  (167, .aload_n 2, 1, 0, 0, .null),
  (168, .aload_n 1, 1, 0, 0, .null),
  (169, .iload_n 3, 1, 0, 0, .null),
  (170, .iload 6, 2, 0, 0, .null),
  (172, .invokevirtual 73, 3, 0, 47, .null),
  (175, .bipush 16, 2, 0, 0, .null),
  (177, .imul, 1, 0, 0, .null),
  (178, .aload_n 0, 1, 0, 0, .null),
  (179, .getfield 11, 3, 0, 0, .null),
  (182, .iload 5, 2, 0, 0, .null),
  (184, .iaload, 1, 0, 0, .null),
  (185, .invokestatic 27, 3, 1, 257, .null),
  (188, .iadd, 1, 0, 0, .null),
  (189, .iastore, 1, 0, 0, .null),
  (190, .iinc 5 1, 3, 0, 0, .null),
  (193, .goto (-134), 3, 59, 0, .null),
  (196, .return_, 1, 0, 0, .null)]
set_option maxRecDepth 100000 in
theorem pm_d4 : pm_c4.all (pm_decB prog_2_method_5_code) = true := by decide +kernel
/-- TrainBearers$Bearing.bestOf(II)I -/
def pm_c5 : List pm_I := [(0, .ldc 72, 2, 0, 0, .int (1048576)),
  (2, .istore_n 3, 1, 0, 0, .null),
  (3, .iconst 0, 1, 0, 0, .null),
  (4, .istore 4, 2, 0, 0, .null),
  (6, .iload 4, 2, 0, 0, .null),
  (8, .bipush 37, 2, 0, 0, .null),
  (10, .if_icmp .ge 47, 3, 57, 0, .null),
  (13, .aload_n 0, 1, 0, 0, .null),
  (14, .getfield 11, 3, 0, 0, .null),
  (17, .iload 4, 2, 0, 0, .null),
  (19, .iaload, 1, 0, 0, .null),
  (20, .iload_n 2, 1, 0, 0, .null),
  (21, .if_icmp .gt 36, 3, 57, 0, .null),
  (24, .aload_n 0, 1, 0, 0, .null),
  (25, .getfield 11, 3, 0, 0, .null),
  (28, .iload 4, 2, 0, 0, .null),
  (30, .iaload, 1, 0, 0, .null),
  (31, .iload_n 2, 1, 0, 0, .null),
  (32, .iconst (-1), 1, 0, 0, .null),
  (33, .ixor, 1, 0, 0, .null),
  (34, .iand, 1, 0, 0, .null),
  (35, .ifCond .ne 16, 3, 51, 0, .null),
  (38, .iload_n 3, 1, 0, 0, .null),
  (39, .aload_n 0, 1, 0, 0, .null),
  (40, .iload_n 1, 1, 0, 0, .null),
  (41, .iload_n 2, 1, 0, 0, .null),
  (42, .iload 4, 2, 0, 0, .null),
  (44, .invokevirtual 76, 3, 0, 7, .null),
  (47, .invokestatic 80, 3, 1, 259, .null),
  (50, .istore_n 3, 1, 0, 0, .null),
  (51, .iinc 4 1, 3, 0, 0, .null),
  (54, .goto (-48), 3, 6, 0, .null),
  (57, .iload_n 3, 1, 0, 0, .null),
  (58, .ireturn, 1, 0, 0, .null)]
set_option maxRecDepth 100000 in
theorem pm_d5 : pm_c5.all (pm_decB prog_2_method_6_code) = true := by decide +kernel
/-- TrainBearers$Bearing.firstBest(II)I -/
def pm_c6 : List pm_I := [(0, .iconst 0, 1, 0, 0, .null),
  (1, .istore_n 3, 1, 0, 0, .null),
  (2, .iload_n 3, 1, 0, 0, .null),
  (3, .bipush 37, 2, 0, 0, .null),
  (5, .if_icmp .ge 61, 3, 66, 0, .null),
  (8, .aload_n 0, 1, 0, 0, .null),
  (9, .getfield 11, 3, 0, 0, .null),
  (12, .iload_n 3, 1, 0, 0, .null),
  (13, .iaload, 1, 0, 0, .null),
  (14, .iload_n 2, 1, 0, 0, .null),
  (15, .if_icmp .gt 51, 3, 66, 0, .null),
  (18, .aload_n 0, 1, 0, 0, .null),
  (19, .getfield 11, 3, 0, 0, .null),
  (22, .iload_n 3, 1, 0, 0, .null),
  (23, .iaload, 1, 0, 0, .null),
  (24, .iload_n 2, 1, 0, 0, .null),
  (25, .iconst (-1), 1, 0, 0, .null),
  (26, .ixor, 1, 0, 0, .null),
  (27, .iand, 1, 0, 0, .null),
  (28, .ifCond .ne 32, 3, 60, 0, .null),
  (31, .aload_n 0, 1, 0, 0, .null),
  (32, .iload_n 1, 1, 0, 0, .null),
  (33, .iload_n 2, 1, 0, 0, .null),
  (34, .iload_n 3, 1, 0, 0, .null),
  (35, .invokevirtual 76, 3, 0, 7, .null),
  (38, .aload_n 0, 1, 0, 0, .null),
  (39, .getfield 18, 3, 0, 2, .null),
  (42, .iload_n 1, 1, 0, 0, .null),
  (43, .sipush 256, 3, 0, 0, .null),
  (46, .imul, 1, 0, 0, .null),
  (47, .iload_n 2, 1, 0, 0, .null),
  (48, .iadd, 1, 0, 0, .null),
  (49, .iaload, 1, 0, 0, .null),
  (50, .if_icmp .ne 10, 3, 60, 0, .null),
  (53, .aload_n 0, 1, 0, 0, .null),
  (54, .getfield 11, 3, 0, 0, .null),
  (57, .iload_n 3, 1, 0, 0, .null),
  (58, .iaload, 1, 0, 0, .null),
  (59, .ireturn, 1, 0, 0, .null),
  (60, .iinc 3 1, 3, 0, 0, .null),
  (63, .goto (-61), 3, 2, 0, .null),
  (66, .iconst 0, 1, 0, 0, .null),
  (67, .ireturn, 1, 0, 0, .null)]
set_option maxRecDepth 100000 in
theorem pm_d6 : pm_c6.all (pm_decB prog_2_method_7_code) = true := by decide +kernel
/-- TrainBearers$Bearing.worthWith(III)I -/
def pm_c7 : List pm_I := [(0, .aload_n 0, 1, 0, 0, .null),
  (1, .getfield 15, 3, 0, 1, .null),
  (4, .iload_n 1, 1, 0, 0, .null),
  (5, .bipush 37, 2, 0, 0, .null),
  (7, .imul, 1, 0, 0, .null),
  (8, .iload_n 3, 1, 0, 0, .null),
  (9, .iadd, 1, 0, 0, .null),
  (10, .iaload, 1, 0, 0, .null),
  (11, .aload_n 0, 1, 0, 0, .null),
  (12, .getfield 18, 3, 0, 2, .null),
  (15, .iload_n 1, 1, 0, 0, .null),
  (16, .iconst 1, 1, 0, 0, .null),
  (17, .iadd, 1, 0, 0, .null),
  (18, .sipush 256, 3, 0, 0, .null),
  (21, .imul, 1, 0, 0, .null),
  (22, .iload_n 2, 1, 0, 0, .null),
  (23, .aload_n 0, 1, 0, 0, .null),
  (24, .getfield 11, 3, 0, 0, .null),
  (27, .iload_n 3, 1, 0, 0, .null),
  (28, .iaload, 1, 0, 0, .null),
  (29, .iconst (-1), 1, 0, 0, .null),
  (30, .ixor, 1, 0, 0, .null),
  (31, .iand, 1, 0, 0, .null),
  (32, .iadd, 1, 0, 0, .null),
  (33, .iaload, 1, 0, 0, .null),
  (34, .iadd, 1, 0, 0, .null),
  (35, .ireturn, 1, 0, 0, .null)]
set_option maxRecDepth 100000 in
theorem pm_d7 : pm_c7.all (pm_decB prog_2_method_8_code) = true := by decide +kernel
/-- TrainBearers$Deeds.<init>()V -/
def pm_c8 : List pm_I := [(0, .aload_n 0, 1, 0, 0, .null),
  (1, .invokespecial 3, 3, 4, 0, .null),
  (4, .aload_n 0, 1, 0, 0, .null),
  (5, .new 9, 3, 4, 0, .null),
  (8, .dup, 1, 0, 0, .null),
  (9, .invokespecial 11, 3, 2, 43, .null),
  (12, .putfield 12, 3, 1, 0, .null),
  (15, .aload_n 0, 1, 0, 0, .null),
  (16, .new 18, 3, 6, 0, .null),
  (19, .dup, 1, 0, 0, .null),
  (20, .invokespecial 20, 3, 2, 57, .null),
  (23, .putfield 21, 3, 1, 1, .null),
  (26, .aload_n 0, 1, 0, 0, .null),
  (27, .bipush 21, 2, 0, 0, .null),
  (29, .newarray .int, 2, 0, 0, .null),
  (31, .putfield 25, 3, 1, 2, .null),
  (34, .aload_n 0, 1, 0, 0, .null),
  (35, .bipush 8, 2, 0, 0, .null),
  (37, .newarray .int, 2, 0, 0, .null),
  (39, .putfield 29, 3, 1, 3, .null),
  (42, .aload_n 0, 1, 0, 0, .null),
  (43, .bipush 8, 2, 0, 0, .null),
  (45, .newarray .int, 2, 0, 0, .null),
  (47, .putfield 32, 3, 1, 4, .null),
  (50, .aload_n 0, 1, 0, 0, .null),
  (51, .iconst (-1), 1, 0, 0, .null),
  (52, .putfield 35, 3, 1, 5, .null),
  (55, .return_, 1, 0, 0, .null)]
set_option maxRecDepth 100000 in
theorem pm_d8 : pm_c8.all (pm_decB prog_3_method_1_code) = true := by decide +kernel
/-- TrainBearers$Deeds.takeHold(LTrainBearers$Train;LTrainBearers$Steps;II)I -/
def pm_c9 : List pm_I := [(0, .aload_n 1, 1, 0, 0, .null),
  (1, .iload_n 3, 1, 0, 0, .null),
  (2, .invokevirtual 39, 3, 0, 70, .null),
  (5, .ifCond .eq 12, 3, 17, 0, .null),
  (8, .aload_n 1, 1, 0, 0, .null),
  (9, .iload 4, 2, 0, 0, .null),
  (11, .invokevirtual 45, 3, 0, 69, .null),
  (14, .ifCond .ne 6, 3, 20, 0, .null),
  (17, .bipush (-2), 2, 0, 0, .null),
  (19, .ireturn, 1, 0, 0, .null),
  (20, .aload_n 1, 1, 0, 0, .null),
  (21, .getfield 48, 3, 8, 6, .null),
  (24, .iload_n 3, 1, 0, 0, .null),
  (25, .iaload, 1, 0, 0, .null),
  (26, .iload 4, 2, 0, 0, .null),
  (28, .if_icmp .eq 30, 3, 58, 0, .null),
  (31, .aload_n 1, 1, 0, 0, .null),
  (32, .iload 4, 2, 0, 0, .null),
  (34, .invokevirtual 51, 3, 0, 73, .null),
  (37, .invokestatic 55, 3, 1, 257, .null),
  (40, .iconst 2, 1, 0, 0, .null),
  (41, .if_icmp .ge 17, 3, 58, 0, .null),
  (44, .aload_n 0, 1, 0, 0, .null),
  (45, .getfield 12, 3, 1, 0, .null),
  (48, .aload_n 1, 1, 0, 0, .null),
  (49, .iload_n 3, 1, 0, 0, .null),
  (50, .iload 4, 2, 0, 0, .null),
  (52, .invokevirtual 60, 3, 0, 45, .null),
  (55, .ifCond .eq 6, 3, 61, 0, .null),
  (58, .bipush (-3), 2, 0, 0, .null),
  (60, .ireturn, 1, 0, 0, .null),
  (61, .aload_n 2, 1, 0, 0, .null),
  (62, .aload_n 1, 1, 0, 0, .null),
  (63, .iconst 0, 1, 0, 0, .null),
  (64, .invokevirtual 64, 3, 0, 54, .null),
  (67, .aload_n 1, 1, 0, 0, .null),
  (68, .getfield 48, 3, 8, 6, .null),
  (71, .iload_n 3, 1, 0, 0, .null),
  (72, .iload 4, 2, 0, 0, .null),
  (74, .iastore, 1, 0, 0, .null),
  (75, .aload_n 0, 1, 0, 0, .null),
  (76, .getfield 12, 3, 1, 0, .null),
  (79, .aload_n 1, 1, 0, 0, .null),
  (80, .iload 4, 2, 0, 0, .null),
  (82, .invokevirtual 70, 3, 0, 48, .null),
  (85, .ireturn, 1, 0, 0, .null)]
set_option maxRecDepth 100000 in
theorem pm_d9 : pm_c9.all (pm_decB prog_3_method_2_code) = true := by decide +kernel
/-- TrainBearers$Deeds.letDrop(LTrainBearers$Train;LTrainBearers$Steps;I)I -/
def pm_c10 : List pm_I := [(0, .aload_n 1, 1, 0, 0, .null),
  (1, .iload_n 3, 1, 0, 0, .null),
  (2, .invokevirtual 39, 3, 0, 70, .null),
  (5, .ifCond .ne 6, 3, 11, 0, .null),
  (8, .bipush (-2), 2, 0, 0, .null),
  (10, .ireturn, 1, 0, 0, .null),
  (11, .aload_n 1, 1, 0, 0, .null),
  (12, .getfield 48, 3, 8, 6, .null),
  (15, .iload_n 3, 1, 0, 0, .null),
  (16, .iaload, 1, 0, 0, .null),
  (17, .istore 4, 2, 0, 0, .null),
  (19, .iload 4, 2, 0, 0, .null),
  (21, .iconst (-1), 1, 0, 0, .null),
  (22, .if_icmp .ne 6, 3, 28, 0, .null),
  (25, .bipush (-3), 2, 0, 0, .null),
  (27, .ireturn, 1, 0, 0, .null),
  (28, .aload_n 2, 1, 0, 0, .null),
  (29, .aload_n 1, 1, 0, 0, .null),
  (30, .iconst 1, 1, 0, 0, .null),
  (31, .invokevirtual 64, 3, 0, 54, .null),
  (34, .aload_n 1, 1, 0, 0, .null),
  (35, .getfield 48, 3, 8, 6, .null),
  (38, .iload_n 3, 1, 0, 0, .null),
  (39, .iconst (-1), 1, 0, 0, .null),
  (40, .iastore, 1, 0, 0, .null),
  (41, .iload 4, 2, 0, 0, .null),
  (43, .ireturn, 1, 0, 0, .null)]
set_option maxRecDepth 100000 in
theorem pm_d10 : pm_c10.all (pm_decB prog_3_method_3_code) = true := by decide +kernel
/-- TrainBearers$Deeds.walkTo(LTrainBearers$Train;LTrainBearers$Steps;I)I -/
def pm_c11 : List pm_I := [(0, .iload_n 3, 1, 0, 0, .null),
  (1, .invokestatic 74, 3, 3, 128, .null),
  (4, .ifCond .ne 5, 3, 9, 0, .null),
  (7, .iconst (-1), 1, 0, 0, .null),
  (8, .ireturn, 1, 0, 0, .null),
  (9, .aload_n 1, 1, 0, 0, .null),
  (10, .aload_n 1, 1, 0, 0, .null),
  (11, .getfield 77, 3, 8, 8, .null),
  (14, .iload_n 3, 1, 0, 0, .null),
  (15, .invokevirtual 80, 3, 0, 75, .null),
  (18, .istore 4, 2, 0, 0, .null),
  (20, .iload 4, 2, 0, 0, .null),
  (22, .iconst (-1), 1, 0, 0, .null),
  (23, .if_icmp .ne 6, 3, 29, 0, .null),
  (26, .bipush (-3), 2, 0, 0, .null),
  (28, .ireturn, 1, 0, 0, .null),
  (29, .aload_n 2, 1, 0, 0, .null),
  (30, .aload_n 1, 1, 0, 0, .null),
  (31, .iconst 2, 1, 0, 0, .null),
  (32, .invokevirtual 64, 3, 0, 54, .null),
  (35, .iconst 0, 1, 0, 0, .null),
  (36, .istore 5, 2, 0, 0, .null),
  (38, .iconst 0, 1, 0, 0, .null),
  (39, .istore 6, 2, 0, 0, .null),
  (41, .iload 6, 2, 0, 0, .null),
  (43, .aload_n 1, 1, 0, 0, .null),
  (44, .getfield 84, 3, 8, 0, .null),
  (47, .if_icmp .ge 48, 3, 95, 0, .null),
  (50, .aload_n 0, 1, 0, 0, .null),
  (51, .getfield 32, 3, 1, 4, .null),
  (54, .iload 6, 2, 0, 0, .null),
  (56, .aload_n 0, 1, 0, 0, .null),
  (57, .getfield 12, 3, 1, 0, .null),
  (60, .aload_n 1, 1, 0, 0, .null),
  (61, .iload 6, 2, 0, 0, .null),
  (63, .invokevirtual 70, 3, 0, 48, .null),
  (66, .iastore, 1, 0, 0, .null),
  (67, .iload 5, 2, 0, 0, .null),
  (69, .aload_n 0, 1, 0, 0, .null),
  (70, .getfield 12, 3, 1, 0, .null),
  (73, .aload_n 1, 1, 0, 0, .null),
  (74, .iload 6, 2, 0, 0, .null),
  (76, .aload_n 0, 1, 0, 0, .null),
  (77, .getfield 32, 3, 1, 4, .null),
  (80, .iload 6, 2, 0, 0, .null),
  (82, .iaload, 1, 0, 0, .null),
  (83, .invokevirtual 87, 3, 0, 47, .null),
  (86, .iadd, 1, 0, 0, .null),
  (87, .istore 5, 2, 0, 0, .null),
  (89, .iinc 6 1, 3, 0, 0, .null),
  (92, .goto (-51), 3, 41, 0, .null),
  (95, .iconst 0, 1, 0, 0, .null),
  (96, .istore 6, 2, 0, 0, .null),
  (98, .iload 6, 2, 0, 0, .null),
  (100, .aload_n 1, 1, 0, 0, .null),
  (101, .getfield 91, 3, 8, 3, .null),
  (104, .if_icmp .ge 49, 3, 153, 0, .null),
  (107, .aload_n 1, 1, 0, 0, .null),
  (108, .getfield 48, 3, 8, 6, .null),
  (111, .iload 6, 2, 0, 0, .null),
  (113, .iaload, 1, 0, 0, .null),
  (114, .istore 7, 2, 0, 0, .null),
  (116, .aload_n 0, 1, 0, 0, .null),
  (117, .getfield 29, 3, 1, 3, .null),
  (120, .iload 6, 2, 0, 0, .null),
  (122, .iload 7, 2, 0, 0, .null),
  (124, .iconst (-1), 1, 0, 0, .null),
  (125, .if_icmp .ne 7, 3, 132, 0, .null),
  (128, .iconst 0, 1, 0, 0, .null),
  (129, .goto 17, 3, 146, 0, .null),
  (132, .aload_n 0, 1, 0, 0, .null),
  (133, .getfield 12, 3, 1, 0, .null),
  (136, .aload_n 1, 1, 0, 0, .null),
  (137, .iload 6, 2, 0, 0, .null),
  (139, .iload 7, 2, 0, 0, .null),
  (141, .iload 4, 2, 0, 0, .null),
  (143, .invokevirtual 94, 3, 0, 46, .null),
  (146, .iastore, 1, 0, 0, .null),
  (147, .iinc 6 1, 3, 0, 0, .null),
  (150, .goto (-52), 3, 98, 0, .null),
  (153, .aload_n 0, 1, 0, 0, .null),
  (154, .aload_n 1, 1, 0, 0, .null),
  (155, .iload_n 3, 1, 0, 0, .null),
  (156, .iload 5, 2, 0, 0, .null),
  (158, .invokevirtual 98, 3, 0, 12, .null),
  (161, .iload 5, 2, 0, 0, .null),
  (163, .ireturn, 1, 0, 0, .null)]
set_option maxRecDepth 100000 in
theorem pm_d11 : pm_c11.all (pm_decB prog_3_method_4_code) = true := by decide +kernel
/-- TrainBearers$Deeds.goThere(LTrainBearers$Train;II)V -/
def pm_c12 : List pm_I := [(0, .iconst 0, 1, 0, 0, .null),
  (1, .istore 4, 2, 0, 0, .null),
  (3, .iload 4, 2, 0, 0, .null),
  (5, .aload_n 1, 1, 0, 0, .null),
  (6, .getfield 84, 3, 8, 0, .null),
  (9, .if_icmp .ge 40, 3, 49, 0, .null),
  (12, .aload_n 0, 1, 0, 0, .null),
  (13, .getfield 32, 3, 1, 4, .null),
  (16, .iload 4, 2, 0, 0, .null),
  (18, .iaload, 1, 0, 0, .null),
  (19, .ifCond .le 24, 3, 43, 0, .null),
  (22, .aload_n 1, 1, 0, 0, .null),
  (23, .getfield 102, 3, 8, 2, .null),
  (26, .iload 4, 2, 0, 0, .null),
  (28, .bipush 9, 2, 0, 0, .null),
  (30, .aload_n 1, 1, 0, 0, .null),
  (31, .getfield 102, 3, 8, 2, .null),
  (34, .iload 4, 2, 0, 0, .null),
  (36, .iaload, 1, 0, 0, .null),
  (37, .iconst 1, 1, 0, 0, .null),
  (38, .iadd, 1, 0, 0, .null),
  (39, .invokestatic 105, 3, 1, 259, .null),
  (42, .iastore, 1, 0, 0, .null),
  (43, .iinc 4 1, 3, 0, 0, .null),
  (46, .goto (-43), 3, 3, 0, .null),
  (49, .iconst 0, 1, 0, 0, .null),
  (50, .istore 4, 2, 0, 0, .null),
  (52, .iload 4, 2, 0, 0, .null),
  (54, .aload_n 1, 1, 0, 0, .null),
  (55, .getfield 91, 3, 8, 3, .null),
  (58, .if_icmp .ge 36, 3, 94, 0, .null),
  (61, .aload_n 1, 1, 0, 0, .null),
  (62, .getfield 110, 3, 8, 5, .null),
  (65, .iload 4, 2, 0, 0, .null),
  (67, .bipush 9, 2, 0, 0, .null),
  (69, .aload_n 1, 1, 0, 0, .null),
  (70, .getfield 110, 3, 8, 5, .null),
  (73, .iload 4, 2, 0, 0, .null),
  (75, .iaload, 1, 0, 0, .null),
  (76, .aload_n 0, 1, 0, 0, .null),
  (77, .getfield 29, 3, 1, 3, .null),
  (80, .iload 4, 2, 0, 0, .null),
  (82, .iaload, 1, 0, 0, .null),
  (83, .iadd, 1, 0, 0, .null),
  (84, .invokestatic 105, 3, 1, 259, .null),
  (87, .iastore, 1, 0, 0, .null),
  (88, .iinc 4 1, 3, 0, 0, .null),
  (91, .goto (-39), 3, 52, 0, .null),
  (94, .aload_n 1, 1, 0, 0, .null),
  (95, .sipush 9999, 3, 0, 0, .null),
  (98, .aload_n 1, 1, 0, 0, .null),
  (99, .getfield 113, 3, 8, 9, .null),
  (102, .iload_n 3, 1, 0, 0, .null),
  (103, .iadd, 1, 0, 0, .null),
  (104, .invokestatic 105, 3, 1, 259, .null),
  (107, .putfield 113, 3, 8, 9, .null),
  (110, .aload_n 1, 1, 0, 0, .null),
  (111, .iload_n 2, 1, 0, 0, .null),
  (112, .putfield 77, 3, 8, 8, .null),
  (115, .return_, 1, 0, 0, .null)]
set_option maxRecDepth 100000 in
theorem pm_d12 : pm_c12.all (pm_decB prog_3_method_5_code) = true := by decide +kernel
/-- TrainBearers$Deeds.restAll(LTrainBearers$Train;LTrainBearers$Steps;)I -/
def pm_c13 : List pm_I := [(0, .aload_n 1, 1, 0, 0, .null),
  (1, .getfield 116, 3, 8, 13, .null),
  (4, .iconst 0, 1, 0, 0, .null),
  (5, .iaload, 1, 0, 0, .null),
  (6, .sipush 999, 3, 0, 0, .null),
  (9, .if_icmp .lt 6, 3, 15, 0, .null),
  (12, .bipush (-3), 2, 0, 0, .null),
  (14, .ireturn, 1, 0, 0, .null),
  (15, .aload_n 2, 1, 0, 0, .null),
  (16, .aload_n 1, 1, 0, 0, .null),
  (17, .iconst 3, 1, 0, 0, .null),
  (18, .invokevirtual 64, 3, 0, 54, .null),
  (21, .iconst 0, 1, 0, 0, .null),
  (22, .istore_n 3, 1, 0, 0, .null),
  (23, .iload_n 3, 1, 0, 0, .null),
  (24, .aload_n 1, 1, 0, 0, .null),
  (25, .getfield 91, 3, 8, 3, .null),
  (28, .if_icmp .ge 27, 3, 55, 0, .null),
  (31, .aload_n 1, 1, 0, 0, .null),
  (32, .getfield 110, 3, 8, 5, .null),
  (35, .iload_n 3, 1, 0, 0, .null),
  (36, .iconst 0, 1, 0, 0, .null),
  (37, .aload_n 1, 1, 0, 0, .null),
  (38, .getfield 110, 3, 8, 5, .null),
  (41, .iload_n 3, 1, 0, 0, .null),
  (42, .iaload, 1, 0, 0, .null),
  (43, .iconst 1, 1, 0, 0, .null),
  (44, .isub, 1, 0, 0, .null),
  (45, .invokestatic 119, 3, 1, 258, .null),
  (48, .iastore, 1, 0, 0, .null),
  (49, .iinc 3 1, 3, 0, 0, .null),
  (52, .goto (-29), 3, 23, 0, .null),
  (55, .aload_n 1, 1, 0, 0, .null),
  (56, .getfield 116, 3, 8, 13, .null),
  (59, .iconst 0, 1, 0, 0, .null),
  (60, .dup2, 1, 0, 0, .null),
  (61, .iaload, 1, 0, 0, .null),
  (62, .iconst 1, 1, 0, 0, .null),
  (63, .iadd, 1, 0, 0, .null),
  (64, .iastore, 1, 0, 0, .null),
  (65, .aload_n 1, 1, 0, 0, .null),
  (66, .getfield 116, 3, 8, 13, .null),
  (69, .iconst 0, 1, 0, 0, .null),
  (70, .iaload, 1, 0, 0, .null),
  (71, .ireturn, 1, 0, 0, .null)]
set_option maxRecDepth 100000 in
theorem pm_d13 : pm_c13.all (pm_decB prog_3_method_6_code) = true := by decide +kernel
/-- TrainBearers$Deeds.runText(LTrainBearers$Text;LTrainBearers$Train;LTrainBearers$Steps;)I -/
def pm_c14 : List pm_I := [(0, .iconst 0, 1, 0, 0, .null),
  (1, .istore 4, 2, 0, 0, .null),
  (3, .iconst (-1), 1, 0, 0, .null),
  (4, .istore 5, 2, 0, 0, .null),
  (6, .iconst 0, 1, 0, 0, .null),
  (7, .istore 6, 2, 0, 0, .null),
  (9, .iload 6, 2, 0, 0, .null),
  (11, .aload_n 1, 1, 0, 0, .null),
  (12, .getfield 122, 3, 7, 0, .null),
  (15, .if_icmp .ge 275, 3, 290, 0, .null),
  (18, .iconst 0, 1, 0, 0, .null),
  (19, .istore 7, 2, 0, 0, .null),
  (21, .iload 7, 2, 0, 0, .null),
  (23, .aload_n 1, 1, 0, 0, .null),
  (24, .getfield 127, 3, 7, 5, .null),
  (27, .iload 6, 2, 0, 0, .null),
  (29, .iaload, 1, 0, 0, .null),
  (30, .if_icmp .ge 254, 3, 284, 0, .null),
  (33, .aload_n 0, 1, 0, 0, .null),
  (34, .aload_n 2, 1, 0, 0, .null),
  (35, .aload_n 1, 1, 0, 0, .null),
  (36, .getfield 130, 3, 7, 9, .null),
  (39, .iload 4, 2, 0, 0, .null),
  (41, .iload 5, 2, 0, 0, .null),
  (43, .invokevirtual 132, 3, 0, 15, .null),
  (46, .aload_n 1, 1, 0, 0, .null),
  (47, .getfield 136, 3, 7, 4, .null),
  (50, .iload 6, 2, 0, 0, .null),
  (52, .iaload, 1, 0, 0, .null),
  (53, .iconst (-1), 1, 0, 0, .null),
  (54, .if_icmp .eq 29, 3, 83, 0, .null),
  (57, .aload_n 0, 1, 0, 0, .null),
  (58, .getfield 21, 3, 1, 1, .null),
  (61, .aload_n 1, 1, 0, 0, .null),
  (62, .aload_n 1, 1, 0, 0, .null),
  (63, .getfield 136, 3, 7, 4, .null),
  (66, .iload 6, 2, 0, 0, .null),
  (68, .iaload, 1, 0, 0, .null),
  (69, .aload_n 0, 1, 0, 0, .null),
  (70, .getfield 25, 3, 1, 2, .null),
  (73, .invokevirtual 139, 3, 0, 58, .null),
  (76, .iconst 1, 1, 0, 0, .null),
  (77, .if_icmp .eq 6, 3, 83, 0, .null),
  (80, .goto 198, 3, 278, 0, .null),
  (83, .aload_n 1, 1, 0, 0, .null),
  (84, .getfield 143, 3, 7, 2, .null),
  (87, .iload 6, 2, 0, 0, .null),
  (89, .iaload, 1, 0, 0, .null),
  (90, .iconst (-1), 1, 0, 0, .null),
  (91, .if_icmp .ne 7, 3, 98, 0, .null),
  (94, .iconst 0, 1, 0, 0, .null),
  (95, .goto 22, 3, 117, 0, .null),
  (98, .aload_n 0, 1, 0, 0, .null),
  (99, .getfield 21, 3, 1, 1, .null),
  (102, .aload_n 1, 1, 0, 0, .null),
  (103, .aload_n 1, 1, 0, 0, .null),
  (104, .getfield 143, 3, 7, 2, .null),
  (107, .iload 6, 2, 0, 0, .null),
  (109, .iaload, 1, 0, 0, .null),
  (110, .aload_n 0, 1, 0, 0, .null),
  (111, .getfield 25, 3, 1, 2, .null),
  (114, .invokevirtual 139, 3, 0, 58, .null),
  (117, .istore 8, 2, 0, 0, .null),
  (119, .aload_n 1, 1, 0, 0, .null),
  (120, .getfield 146, 3, 7, 3, .null),
  (123, .iload 6, 2, 0, 0, .null),
  (125, .iaload, 1, 0, 0, .null),
  (126, .iconst (-1), 1, 0, 0, .null),
  (127, .if_icmp .ne 7, 3, 134, 0, .null),
  (130, .iconst 0, 1, 0, 0, .null),
  (131, .goto 22, 3, 153, 0, .null),
  (134, .aload_n 0, 1, 0, 0, .null),
  (135, .getfield 21, 3, 1, 1, .null),
  (138, .aload_n 1, 1, 0, 0, .null),
  (139, .aload_n 1, 1, 0, 0, .null),
  (140, .getfield 146, 3, 7, 3, .null),
  (143, .iload 6, 2, 0, 0, .null),
  (145, .iaload, 1, 0, 0, .null),
  (146, .aload_n 0, 1, 0, 0, .null),
  (147, .getfield 25, 3, 1, 2, .null),
  (150, .invokevirtual 139, 3, 0, 58, .null),
  (153, .istore 9, 2, 0, 0, .null),
  (155, .bipush (-3), 2, 0, 0, .null),
  (157, .istore 10, 2, 0, 0, .null),
  (159, .iload 8, 2, 0, 0, .null),
  (161, .ldc 149, 2, 0, 0, .int (-2000000000)),
  (163, .if_icmp .eq 98, 3, 261, 0, .null),
  (166, .iload 9, 2, 0, 0, .null),
  (168, .ldc 149, 2, 0, 0, .int (-2000000000)),
  (170, .if_icmp .eq 91, 3, 261, 0, .null),
  (173, .aload_n 1, 1, 0, 0, .null),
  (174, .getfield 150, 3, 7, 1, .null),
  (177, .iload 6, 2, 0, 0, .null),
  (179, .iaload, 1, 0, 0, .null),
  (180, .tableswitch 73 0 2 #[28, 43, 56], 28, 0, 0, .null),
  (208, .aload_n 0, 1, 0, 0, .null),
  (209, .aload_n 2, 1, 0, 0, .null),
  (210, .aload_n 3, 1, 0, 0, .null),
  (211, .iload 8, 2, 0, 0, .null),
  (213, .iload 9, 2, 0, 0, .null),
  (215, .invokevirtual 153, 3, 0, 9, .null),
  (218, .istore 10, 2, 0, 0, .null),
  (220, .goto 41, 3, 261, 0, .null),
  (223, .aload_n 0, 1, 0, 0, .null),
  (224, .aload_n 2, 1, 0, 0, .null),
  (225, .aload_n 3, 1, 0, 0, .null),
  (226, .iload 8, 2, 0, 0, .null),
  (228, .invokevirtual 157, 3, 0, 10, .null),
  (231, .istore 10, 2, 0, 0, .null),
  (233, .goto 28, 3, 261, 0, .null),
  (236, .aload_n 0, 1, 0, 0, .null),
  (237, .aload_n 2, 1, 0, 0, .null),
  (238, .aload_n 3, 1, 0, 0, .null),
  (239, .iload 8, 2, 0, 0, .null),
  (241, .invokevirtual 161, 3, 0, 11, .null),
  (244, .istore 10, 2, 0, 0, .null),
  (246, .iload 10, 2, 0, 0, .null),
  (248, .istore 5, 2, 0, 0, .null),
  (250, .goto 11, 3, 261, 0, .null),
  (253, .aload_n 0, 1, 0, 0, .null),
  (254, .aload_n 2, 1, 0, 0, .null),
  (255, .aload_n 3, 1, 0, 0, .null),
  (256, .invokevirtual 164, 3, 0, 13, .null),
  (259, .istore 10, 2, 0, 0, .null),
  (261, .iload 10, 2, 0, 0, .null),
  (263, .ifCond .ge 12, 3, 275, 0, .null),
  (266, .aload_n 0, 1, 0, 0, .null),
  (267, .iload 6, 2, 0, 0, .null),
  (269, .putfield 35, 3, 1, 5, .null),
  (272, .bipush (-3), 2, 0, 0, .null),
  (274, .ireturn, 1, 0, 0, .null),
  (275, .iinc 4 1, 3, 0, 0, .null),
  (278, .iinc 7 1, 3, 0, 0, .null),
  (281, .goto (-260), 3, 21, 0, .null),
  (284, .iinc 6 1, 3, 0, 0, .null),
  (287, .goto (-278), 3, 9, 0, .null),
  (290, .iload 4, 2, 0, 0, .null),
  (292, .ireturn, 1, 0, 0, .null)]
set_option maxRecDepth 100000 in
theorem pm_d14 : pm_c14.all (pm_decB prog_3_method_7_code) = true := by decide +kernel
/-- TrainBearers$Deeds.fillWords(LTrainBearers$Train;III)V -/
def pm_c15 : List pm_I := [(0, .aload_n 0, 1, 0, 0, .null),
  (1, .getfield 25, 3, 1, 2, .null),
  (4, .iconst 0, 1, 0, 0, .null),
  (5, .aload_n 1, 1, 0, 0, .null),
  (6, .getfield 116, 3, 8, 13, .null),
  (9, .iconst 0, 1, 0, 0, .null),
  (10, .iaload, 1, 0, 0, .null),
  (11, .iastore, 1, 0, 0, .null),
  (12, .aload_n 0, 1, 0, 0, .null),
  (13, .getfield 25, 3, 1, 2, .null),
  (16, .iconst 1, 1, 0, 0, .null),
  (17, .iload_n 3, 1, 0, 0, .null),
  (18, .iastore, 1, 0, 0, .null),
  (19, .aload_n 0, 1, 0, 0, .null),
  (20, .getfield 25, 3, 1, 2, .null),
  (23, .iconst 2, 1, 0, 0, .null),
  (24, .iload 4, 2, 0, 0, .null),
  (26, .iastore, 1, 0, 0, .null),
  (27, .aload_n 0, 1, 0, 0, .null),
  (28, .getfield 25, 3, 1, 2, .null),
  (31, .iconst 3, 1, 0, 0, .null),
  (32, .aload_n 1, 1, 0, 0, .null),
  (33, .getfield 113, 3, 8, 9, .null),
  (36, .iastore, 1, 0, 0, .null),
  (37, .aload_n 0, 1, 0, 0, .null),
  (38, .getfield 25, 3, 1, 2, .null),
  (41, .iconst 4, 1, 0, 0, .null),
  (42, .aload_n 1, 1, 0, 0, .null),
  (43, .getfield 77, 3, 8, 8, .null),
  (46, .iastore, 1, 0, 0, .null),
  (47, .iconst 0, 1, 0, 0, .null),
  (48, .istore 5, 2, 0, 0, .null),
  (50, .iload 5, 2, 0, 0, .null),
  (52, .bipush 8, 2, 0, 0, .null),
  (54, .if_icmp .ge 67, 3, 121, 0, .null),
  (57, .iload_n 2, 1, 0, 0, .null),
  (58, .iload 5, 2, 0, 0, .null),
  (60, .ishr, 1, 0, 0, .null),
  (61, .iconst 1, 1, 0, 0, .null),
  (62, .iand, 1, 0, 0, .null),
  (63, .ifCond .eq 22, 3, 85, 0, .null),
  (66, .aload_n 0, 1, 0, 0, .null),
  (67, .getfield 25, 3, 1, 2, .null),
  (70, .iconst 5, 1, 0, 0, .null),
  (71, .iload 5, 2, 0, 0, .null),
  (73, .iadd, 1, 0, 0, .null),
  (74, .aload_n 0, 1, 0, 0, .null),
  (75, .getfield 12, 3, 1, 0, .null),
  (78, .aload_n 1, 1, 0, 0, .null),
  (79, .iload 5, 2, 0, 0, .null),
  (81, .invokevirtual 70, 3, 0, 48, .null),
  (84, .iastore, 1, 0, 0, .null),
  (85, .aload_n 0, 1, 0, 0, .null),
  (86, .getfield 25, 3, 1, 2, .null),
  (89, .bipush 13, 2, 0, 0, .null),
  (91, .iload 5, 2, 0, 0, .null),
  (93, .iadd, 1, 0, 0, .null),
  (94, .aload_n 1, 1, 0, 0, .null),
  (95, .iload 5, 2, 0, 0, .null),
  (97, .invokevirtual 39, 3, 0, 70, .null),
  (100, .ifCond .eq 13, 3, 113, 0, .null),
  (103, .aload_n 1, 1, 0, 0, .null),
  (104, .getfield 110, 3, 8, 5, .null),
  (107, .iload 5, 2, 0, 0, .null),
  (109, .iaload, 1, 0, 0, .null),
  (110, .goto 4, 3, 114, 0, .null),
  (113, .iconst (-1), 1, 0, 0, .null),
  (114, .iastore, 1, 0, 0, .null),
  (115, .iinc 5 1, 3, 0, 0, .null),
  (118, .goto (-68), 3, 50, 0, .null),
  (121, .return_, 1, 0, 0, .null)]
set_option maxRecDepth 100000 in
theorem pm_d15 : pm_c15.all (pm_decB prog_3_method_8_code) = true := by decide +kernel
/-- TrainBearers$Deeds.drawGenerations(LTrainBearers$Train;LTrainBearers$Steps;II)V -/
def pm_c16 : List pm_I := [(0, .iload_n 3, 1, 0, 0, .null),
  (1, .istore 5, 2, 0, 0, .null),
  (3, .iconst 0, 1, 0, 0, .null),
  (4, .istore 6, 2, 0, 0, .null),
  (6, .iload 6, 2, 0, 0, .null),
  (8, .iload 4, 2, 0, 0, .null),
  (10, .if_icmp .ge 161, 3, 171, 0, .null),
  (13, .aload_n 1, 1, 0, 0, .null),
  (14, .getfield 116, 3, 8, 13, .null),
  (17, .iconst 0, 1, 0, 0, .null),
  (18, .iaload, 1, 0, 0, .null),
  (19, .sipush 999, 3, 0, 0, .null),
  (22, .if_icmp .ge 149, 3, 171, 0, .null),
  (25, .iload 5, 2, 0, 0, .null),
  (27, .invokestatic 168, 3, 1, 17, .null),
  (30, .istore 5, 2, 0, 0, .null),
  (32, .aload_n 1, 1, 0, 0, .null),
  (33, .getfield 91, 3, 8, 3, .null),
  (36, .ifCond .le 13, 3, 49, 0, .null),
  (39, .iload 5, 2, 0, 0, .null),
  (41, .aload_n 1, 1, 0, 0, .null),
  (42, .getfield 91, 3, 8, 3, .null),
  (45, .irem, 1, 0, 0, .null),
  (46, .goto 4, 3, 50, 0, .null),
  (49, .iconst (-1), 1, 0, 0, .null),
  (50, .istore 7, 2, 0, 0, .null),
  (52, .iload 5, 2, 0, 0, .null),
  (54, .invokestatic 168, 3, 1, 17, .null),
  (57, .istore 5, 2, 0, 0, .null),
  (59, .aload_n 1, 1, 0, 0, .null),
  (60, .getfield 84, 3, 8, 0, .null),
  (63, .ifCond .le 13, 3, 76, 0, .null),
  (66, .iload 5, 2, 0, 0, .null),
  (68, .aload_n 1, 1, 0, 0, .null),
  (69, .getfield 84, 3, 8, 0, .null),
  (72, .irem, 1, 0, 0, .null),
  (73, .goto 4, 3, 77, 0, .null),
  (76, .iconst (-1), 1, 0, 0, .null),
  (77, .istore 8, 2, 0, 0, .null),
  (79, .iload 5, 2, 0, 0, .null),
  (81, .invokestatic 168, 3, 1, 17, .null),
  (84, .istore 5, 2, 0, 0, .null),
  (86, .iload 5, 2, 0, 0, .null),
  (88, .bipush 6, 2, 0, 0, .null),
  (90, .irem, 1, 0, 0, .null),
  (91, .istore 9, 2, 0, 0, .null),
  (93, .iload 5, 2, 0, 0, .null),
  (95, .invokestatic 168, 3, 1, 17, .null),
  (98, .istore 5, 2, 0, 0, .null),
  (100, .iload 5, 2, 0, 0, .null),
  (102, .iconst 4, 1, 0, 0, .null),
  (103, .irem, 1, 0, 0, .null),
  (104, .istore 10, 2, 0, 0, .null),
  (106, .iload 10, 2, 0, 0, .null),
  (108, .ifCond .ne 17, 3, 125, 0, .null),
  (111, .aload_n 0, 1, 0, 0, .null),
  (112, .aload_n 1, 1, 0, 0, .null),
  (113, .aload_n 2, 1, 0, 0, .null),
  (114, .iload 7, 2, 0, 0, .null),
  (116, .iload 8, 2, 0, 0, .null),
  (118, .invokevirtual 153, 3, 0, 9, .null),
  (121, .pop, 1, 0, 0, .null),
  (122, .goto 36, 3, 158, 0, .null),
  (125, .iload 10, 2, 0, 0, .null),
  (127, .iconst 1, 1, 0, 0, .null),
  (128, .if_icmp .ne 15, 3, 143, 0, .null),
  (131, .aload_n 0, 1, 0, 0, .null),
  (132, .aload_n 1, 1, 0, 0, .null),
  (133, .aload_n 2, 1, 0, 0, .null),
  (134, .iload 7, 2, 0, 0, .null),
  (136, .invokevirtual 157, 3, 0, 10, .null),
  (139, .pop, 1, 0, 0, .null),
  (140, .goto 18, 3, 158, 0, .null),
  (143, .iload 10, 2, 0, 0, .null),
  (145, .iconst 2, 1, 0, 0, .null),
  (146, .if_icmp .ne 12, 3, 158, 0, .null),
  (149, .aload_n 0, 1, 0, 0, .null),
  (150, .aload_n 1, 1, 0, 0, .null),
  (151, .aload_n 2, 1, 0, 0, .null),
  (152, .iload 9, 2, 0, 0, .null),
  (154, .invokevirtual 161, 3, 0, 11, .null),
  (157, .pop, 1, 0, 0, .null),
  (158, .aload_n 0, 1, 0, 0, .null),
  (159, .aload_n 1, 1, 0, 0, .null),
  (160, .aload_n 2, 1, 0, 0, .null),
  (161, .invokevirtual 164, 3, 0, 13, .null),
  (164, .pop, 1, 0, 0, .null),
  (165, .iinc 6 1, 3, 0, 0, .null),
  (168, .goto (-162), 3, 6, 0, .null),
  (171, .return_, 1, 0, 0, .null)]
set_option maxRecDepth 100000 in
theorem pm_d16 : pm_c16.all (pm_decB prog_3_method_9_code) = true := by decide +kernel
/-- TrainBearers$Deeds.drawAfter(I)I -/
def pm_c17 : List pm_I := [(0, .iload_n 0, 1, 0, 0, .null),
  (1, .sipush 1103, 3, 0, 0, .null),
  (4, .imul, 1, 0, 0, .null),
  (5, .sipush 12345, 3, 0, 0, .null),
  (8, .iadd, 1, 0, 0, .null),
  (9, .ldc 171, 2, 0, 0, .int (1000003)),
  (11, .irem, 1, 0, 0, .null),
  (12, .ireturn, 1, 0, 0, .null)]
set_option maxRecDepth 100000 in
theorem pm_d17 : pm_c17.all (pm_decB prog_3_method_10_code) = true := by decide +kernel
/-- TrainBearers$Guess.<init>()V -/
def pm_c18 : List pm_I := [(0, .aload_n 0, 1, 0, 0, .null),
  (1, .invokespecial 3, 3, 4, 0, .null),
  (4, .aload_n 0, 1, 0, 0, .null),
  (5, .bipush 64, 2, 0, 0, .null),
  (7, .newarray .int, 2, 0, 0, .null),
  (9, .putfield 9, 3, 2, 0, .null),
  (12, .return_, 1, 0, 0, .null)]
set_option maxRecDepth 100000 in
theorem pm_d18 : pm_c18.all (pm_decB prog_4_method_1_code) = true := by decide +kernel
/-- TrainBearers$Guess.suspects(LTrainBearers$Train;LTrainBearers$Rules;)I -/
def pm_c19 : List pm_I := [(0, .iconst 0, 1, 0, 0, .null),
  (1, .istore_n 3, 1, 0, 0, .null),
  (2, .iconst 0, 1, 0, 0, .null),
  (3, .istore 4, 2, 0, 0, .null),
  (5, .iload 4, 2, 0, 0, .null),
  (7, .aload_n 1, 1, 0, 0, .null),
  (8, .getfield 15, 3, 8, 3, .null),
  (11, .if_icmp .ge 100, 3, 111, 0, .null),
  (14, .aload_n 1, 1, 0, 0, .null),
  (15, .getfield 21, 3, 8, 6, .null),
  (18, .iload 4, 2, 0, 0, .null),
  (20, .iaload, 1, 0, 0, .null),
  (21, .istore 5, 2, 0, 0, .null),
  (23, .iload 5, 2, 0, 0, .null),
  (25, .iconst (-1), 1, 0, 0, .null),
  (26, .if_icmp .eq 79, 3, 105, 0, .null),
  (29, .aload_n 1, 1, 0, 0, .null),
  (30, .getfield 21, 3, 8, 6, .null),
  (33, .iload 4, 2, 0, 0, .null),
  (35, .iconst (-1), 1, 0, 0, .null),
  (36, .iastore, 1, 0, 0, .null),
  (37, .iconst 0, 1, 0, 0, .null),
  (38, .istore 6, 2, 0, 0, .null),
  (40, .iload 6, 2, 0, 0, .null),
  (42, .aload_n 1, 1, 0, 0, .null),
  (43, .getfield 24, 3, 8, 0, .null),
  (46, .if_icmp .ge 29, 3, 75, 0, .null),
  (49, .aload_n 0, 1, 0, 0, .null),
  (50, .getfield 9, 3, 2, 0, .null),
  (53, .iload 4, 2, 0, 0, .null),
  (55, .bipush 8, 2, 0, 0, .null),
  (57, .imul, 1, 0, 0, .null),
  (58, .iload 6, 2, 0, 0, .null),
  (60, .iadd, 1, 0, 0, .null),
  (61, .aload_n 2, 1, 0, 0, .null),
  (62, .aload_n 1, 1, 0, 0, .null),
  (63, .iload 6, 2, 0, 0, .null),
  (65, .invokevirtual 27, 3, 0, 48, .null),
  (68, .iastore, 1, 0, 0, .null),
  (69, .iinc 6 1, 3, 0, 0, .null),
  (72, .goto (-32), 3, 40, 0, .null),
  (75, .aload_n 1, 1, 0, 0, .null),
  (76, .getfield 21, 3, 8, 6, .null),
  (79, .iload 4, 2, 0, 0, .null),
  (81, .iload 5, 2, 0, 0, .null),
  (83, .iastore, 1, 0, 0, .null),
  (84, .iload_n 3, 1, 0, 0, .null),
  (85, .aload_n 0, 1, 0, 0, .null),
  (86, .aload_n 1, 1, 0, 0, .null),
  (87, .iload 4, 2, 0, 0, .null),
  (89, .invokevirtual 33, 3, 0, 20, .null),
  (92, .ifCond .eq 10, 3, 102, 0, .null),
  (95, .iconst 1, 1, 0, 0, .null),
  (96, .iload 4, 2, 0, 0, .null),
  (98, .ishl, 1, 0, 0, .null),
  (99, .goto 4, 3, 103, 0, .null),
  (102, .iconst 0, 1, 0, 0, .null),
  (103, .ior, 1, 0, 0, .null),
  (104, .istore_n 3, 1, 0, 0, .null),
  (105, .iinc 4 1, 3, 0, 0, .null),
  (108, .goto (-103), 3, 5, 0, .null),
  (111, .iload_n 3, 1, 0, 0, .null),
  (112, .ireturn, 1, 0, 0, .null)]
set_option maxRecDepth 100000 in
theorem pm_d19 : pm_c19.all (pm_decB prog_4_method_2_code) = true := by decide +kernel
/-- TrainBearers$Guess.isAsSeen(LTrainBearers$Train;I)Z -/
def pm_c20 : List pm_I := [(0, .iconst 0, 1, 0, 0, .null),
  (1, .istore_n 3, 1, 0, 0, .null),
  (2, .iload_n 3, 1, 0, 0, .null),
  (3, .aload_n 1, 1, 0, 0, .null),
  (4, .getfield 37, 3, 8, 10, .null),
  (7, .if_icmp .ge 36, 3, 43, 0, .null),
  (10, .aload_n 0, 1, 0, 0, .null),
  (11, .getfield 9, 3, 2, 0, .null),
  (14, .iload_n 2, 1, 0, 0, .null),
  (15, .bipush 8, 2, 0, 0, .null),
  (17, .imul, 1, 0, 0, .null),
  (18, .aload_n 1, 1, 0, 0, .null),
  (19, .getfield 40, 3, 8, 11, .null),
  (22, .iload_n 3, 1, 0, 0, .null),
  (23, .iaload, 1, 0, 0, .null),
  (24, .iadd, 1, 0, 0, .null),
  (25, .iaload, 1, 0, 0, .null),
  (26, .aload_n 1, 1, 0, 0, .null),
  (27, .getfield 43, 3, 8, 12, .null),
  (30, .iload_n 3, 1, 0, 0, .null),
  (31, .iaload, 1, 0, 0, .null),
  (32, .if_icmp .eq 5, 3, 37, 0, .null),
  (35, .iconst 0, 1, 0, 0, .null),
  (36, .ireturn, 1, 0, 0, .null),
  (37, .iinc 3 1, 3, 0, 0, .null),
  (40, .goto (-38), 3, 2, 0, .null),
  (43, .iconst 1, 1, 0, 0, .null),
  (44, .ireturn, 1, 0, 0, .null)]
set_option maxRecDepth 100000 in
theorem pm_d20 : pm_c20.all (pm_decB prog_4_method_3_code) = true := by decide +kernel
/-- TrainBearers$Guess.tellingYard(II)I -/
def pm_c21 : List pm_I := [(0, .iload_n 1, 1, 0, 0, .null),
  (1, .ifCond .ne 5, 3, 6, 0, .null),
  (4, .iconst (-1), 1, 0, 0, .null),
  (5, .ireturn, 1, 0, 0, .null),
  (6, .iconst (-1), 1, 0, 0, .null),
  (7, .istore_n 3, 1, 0, 0, .null),
  (8, .bipush 9, 2, 0, 0, .null),
  (10, .istore 4, 2, 0, 0, .null),
  (12, .iconst 0, 1, 0, 0, .null),
  (13, .istore 5, 2, 0, 0, .null),
  (15, .iload 5, 2, 0, 0, .null),
  (17, .iload_n 2, 1, 0, 0, .null),
  (18, .if_icmp .ge 39, 3, 57, 0, .null),
  (21, .iload 5, 2, 0, 0, .null),
  (23, .bipush 8, 2, 0, 0, .null),
  (25, .if_icmp .ge 32, 3, 57, 0, .null),
  (28, .aload_n 0, 1, 0, 0, .null),
  (29, .iload_n 1, 1, 0, 0, .null),
  (30, .iload 5, 2, 0, 0, .null),
  (32, .invokevirtual 46, 3, 0, 22, .null),
  (35, .istore 6, 2, 0, 0, .null),
  (37, .iload 6, 2, 0, 0, .null),
  (39, .iload 4, 2, 0, 0, .null),
  (41, .if_icmp .ge 10, 3, 51, 0, .null),
  (44, .iload 6, 2, 0, 0, .null),
  (46, .istore 4, 2, 0, 0, .null),
  (48, .iload 5, 2, 0, 0, .null),
  (50, .istore_n 3, 1, 0, 0, .null),
  (51, .iinc 5 1, 3, 0, 0, .null),
  (54, .goto (-39), 3, 15, 0, .null),
  (57, .iload_n 3, 1, 0, 0, .null),
  (58, .ireturn, 1, 0, 0, .null)]
set_option maxRecDepth 100000 in
theorem pm_d21 : pm_c21.all (pm_decB prog_4_method_4_code) = true := by decide +kernel
/-- TrainBearers$Guess.mostAlike(II)I -/
def pm_c22 : List pm_I := [(0, .iconst 0, 1, 0, 0, .null),
  (1, .istore_n 3, 1, 0, 0, .null),
  (2, .iconst 0, 1, 0, 0, .null),
  (3, .istore 4, 2, 0, 0, .null),
  (5, .iload 4, 2, 0, 0, .null),
  (7, .bipush 8, 2, 0, 0, .null),
  (9, .if_icmp .ge 95, 3, 104, 0, .null),
  (12, .iconst 0, 1, 0, 0, .null),
  (13, .istore 5, 2, 0, 0, .null),
  (15, .iconst 0, 1, 0, 0, .null),
  (16, .istore 6, 2, 0, 0, .null),
  (18, .iload 6, 2, 0, 0, .null),
  (20, .bipush 8, 2, 0, 0, .null),
  (22, .if_icmp .ge 69, 3, 91, 0, .null),
  (25, .iload_n 1, 1, 0, 0, .null),
  (26, .iload 4, 2, 0, 0, .null),
  (28, .ishr, 1, 0, 0, .null),
  (29, .iconst 1, 1, 0, 0, .null),
  (30, .iand, 1, 0, 0, .null),
  (31, .ifCond .eq 16, 3, 47, 0, .null),
  (34, .iload_n 1, 1, 0, 0, .null),
  (35, .iload 6, 2, 0, 0, .null),
  (37, .ishr, 1, 0, 0, .null),
  (38, .iconst 1, 1, 0, 0, .null),
  (39, .iand, 1, 0, 0, .null),
  (40, .ifCond .eq 7, 3, 47, 0, .null),
  (43, .iconst 1, 1, 0, 0, .null),
  (44, .goto 4, 3, 48, 0, .null),
  (47, .iconst 0, 1, 0, 0, .null),
  (48, .istore 7, 2, 0, 0, .null),
  (50, .iload 7, 2, 0, 0, .null),
  (52, .ifCond .eq 33, 3, 85, 0, .null),
  (55, .aload_n 0, 1, 0, 0, .null),
  (56, .getfield 9, 3, 2, 0, .null),
  (59, .iload 4, 2, 0, 0, .null),
  (61, .bipush 8, 2, 0, 0, .null),
  (63, .imul, 1, 0, 0, .null),
  (64, .iload_n 2, 1, 0, 0, .null),
  (65, .iadd, 1, 0, 0, .null),
  (66, .iaload, 1, 0, 0, .null),
  (67, .aload_n 0, 1, 0, 0, .null),
  (68, .getfield 9, 3, 2, 0, .null),
  (71, .iload 6, 2, 0, 0, .null),
  (73, .bipush 8, 2, 0, 0, .null),
  (75, .imul, 1, 0, 0, .null),
  (76, .iload_n 2, 1, 0, 0, .null),
  (77, .iadd, 1, 0, 0, .null),
  (78, .iaload, 1, 0, 0, .null),
  (79, .if_icmp .ne 6, 3, 85, 0, .null),
  (82, .iinc 5 1, 3, 0, 0, .null),
  (85, .iinc 6 1, 3, 0, 0, .null),
  (88, .goto (-70), 3, 18, 0, .null),
  (91, .iload_n 3, 1, 0, 0, .null),
  (92, .iload 5, 2, 0, 0, .null),
  (94, .invokestatic 50, 3, 1, 258, .null),
  (97, .istore_n 3, 1, 0, 0, .null),
  (98, .iinc 4 1, 3, 0, 0, .null),
  (101, .goto (-96), 3, 5, 0, .null),
  (104, .iload_n 3, 1, 0, 0, .null),
  (105, .ireturn, 1, 0, 0, .null)]
set_option maxRecDepth 100000 in
theorem pm_d22 : pm_c22.all (pm_decB prog_4_method_5_code) = true := by decide +kernel
/-- TrainBearers$Reader.<init>()V -/
def pm_c23 : List pm_I := [(0, .aload_n 0, 1, 0, 0, .null),
  (1, .invokespecial 3, 3, 4, 0, .null),
  (4, .aload_n 0, 1, 0, 0, .null),
  (5, .sipush 400, 3, 0, 0, .null),
  (8, .newarray .int, 2, 0, 0, .null),
  (10, .putfield 9, 3, 3, 0, .null),
  (13, .aload_n 0, 1, 0, 0, .null),
  (14, .iconst (-1), 1, 0, 0, .null),
  (15, .putfield 15, 3, 3, 2, .null),
  (18, .aload_n 0, 1, 0, 0, .null),
  (19, .new 19, 3, 7, 0, .null),
  (22, .dup, 1, 0, 0, .null),
  (23, .invokespecial 21, 3, 2, 60, .null),
  (26, .putfield 22, 3, 3, 7, .null),
  (29, .return_, 1, 0, 0, .null)]
set_option maxRecDepth 100000 in
theorem pm_d23 : pm_c23.all (pm_decB prog_5_method_1_code) = true := by decide +kernel
/-- TrainBearers$Reader.append(I)V -/
def pm_c24 : List pm_I := [(0, .bipush 24, 2, 0, 0, .null),
  (2, .istore_n 2, 1, 0, 0, .null),
  (3, .iload_n 2, 1, 0, 0, .null),
  (4, .ifCond .lt 45, 3, 49, 0, .null),
  (7, .aload_n 0, 1, 0, 0, .null),
  (8, .getfield 26, 3, 3, 1, .null),
  (11, .sipush 400, 3, 0, 0, .null),
  (14, .if_icmp .ge 35, 3, 49, 0, .null),
  (17, .aload_n 0, 1, 0, 0, .null),
  (18, .getfield 9, 3, 3, 0, .null),
  (21, .aload_n 0, 1, 0, 0, .null),
  (22, .getfield 26, 3, 3, 1, .null),
  (25, .iload_n 1, 1, 0, 0, .null),
  (26, .iload_n 2, 1, 0, 0, .null),
  (27, .ishr, 1, 0, 0, .null),
  (28, .sipush 255, 3, 0, 0, .null),
  (31, .iand, 1, 0, 0, .null),
  (32, .iastore, 1, 0, 0, .null),
  (33, .aload_n 0, 1, 0, 0, .null),
  (34, .dup, 1, 0, 0, .null),
  (35, .getfield 26, 3, 3, 1, .null),
  (38, .iconst 1, 1, 0, 0, .null),
  (39, .iadd, 1, 0, 0, .null),
  (40, .putfield 26, 3, 3, 1, .null),
  (43, .iinc 2 (-8), 3, 0, 0, .null),
  (46, .goto (-43), 3, 3, 0, .null),
  (49, .return_, 1, 0, 0, .null)]
set_option maxRecDepth 100000 in
theorem pm_d24 : pm_c24.all (pm_decB prog_5_method_2_code) = true := by decide +kernel
/-- TrainBearers$Reader.readText(Z)Z -/
def pm_c25 : List pm_I := [(0, .aload_n 0, 1, 0, 0, .null),
  (1, .getfield 22, 3, 3, 7, .null),
  (4, .invokevirtual 29, 3, 0, 62, .null),
  (7, .aload_n 0, 1, 0, 0, .null),
  (8, .iload_n 1, 1, 0, 0, .null),
  (9, .putfield 32, 3, 3, 6, .null),
  (12, .aload_n 0, 1, 0, 0, .null),
  (13, .iconst 0, 1, 0, 0, .null),
  (14, .putfield 36, 3, 3, 5, .null),
  (17, .aload_n 0, 1, 0, 0, .null),
  (18, .iconst 0, 1, 0, 0, .null),
  (19, .putfield 39, 3, 3, 4, .null),
  (22, .aload_n 0, 1, 0, 0, .null),
  (23, .invokevirtual 42, 3, 0, 38, .null),
  (26, .iconst 1, 1, 0, 0, .null),
  (27, .istore_n 2, 1, 0, 0, .null),
  (28, .iconst 0, 1, 0, 0, .null),
  (29, .istore_n 3, 1, 0, 0, .null),
  (30, .iconst 0, 1, 0, 0, .null),
  (31, .istore 4, 2, 0, 0, .null),
  (33, .iload 4, 2, 0, 0, .null),
  (35, .bipush 12, 2, 0, 0, .null),
  (37, .if_icmp .ge 104, 3, 141, 0, .null),
  (40, .iload_n 2, 1, 0, 0, .null),
  (41, .ifCond .eq 100, 3, 141, 0, .null),
  (44, .iload_n 3, 1, 0, 0, .null),
  (45, .ifCond .ne 96, 3, 141, 0, .null),
  (48, .aload_n 0, 1, 0, 0, .null),
  (49, .getfield 32, 3, 3, 6, .null),
  (52, .ifCond .eq 15, 3, 67, 0, .null),
  (55, .aload_n 0, 1, 0, 0, .null),
  (56, .iload 4, 2, 0, 0, .null),
  (58, .invokevirtual 45, 3, 0, 26, .null),
  (61, .ifCond .eq 28, 3, 89, 0, .null),
  (64, .goto 12, 3, 76, 0, .null),
  (67, .aload_n 0, 1, 0, 0, .null),
  (68, .iload 4, 2, 0, 0, .null),
  (70, .invokevirtual 49, 3, 0, 27, .null),
  (73, .ifCond .eq 16, 3, 89, 0, .null),
  (76, .aload_n 0, 1, 0, 0, .null),
  (77, .iload 4, 2, 0, 0, .null),
  (79, .invokevirtual 52, 3, 0, 31, .null),
  (82, .ifCond .eq 7, 3, 89, 0, .null),
  (85, .iconst 1, 1, 0, 0, .null),
  (86, .goto 4, 3, 90, 0, .null),
  (89, .iconst 0, 1, 0, 0, .null),
  (90, .istore_n 2, 1, 0, 0, .null),
  (91, .iload_n 2, 1, 0, 0, .null),
  (92, .ifCond .eq 18, 3, 110, 0, .null),
  (95, .aload_n 0, 1, 0, 0, .null),
  (96, .getfield 55, 3, 3, 3, .null),
  (99, .aload_n 0, 1, 0, 0, .null),
  (100, .getfield 26, 3, 3, 1, .null),
  (103, .if_icmp .lt 7, 3, 110, 0, .null),
  (106, .iconst 1, 1, 0, 0, .null),
  (107, .goto 4, 3, 111, 0, .null),
  (110, .iconst 0, 1, 0, 0, .null),
  (111, .istore_n 3, 1, 0, 0, .null),
  (112, .iload_n 2, 1, 0, 0, .null),
  (113, .ifCond .eq 20, 3, 133, 0, .null),
  (116, .iload_n 3, 1, 0, 0, .null),
  (117, .ifCond .ne 12, 3, 129, 0, .null),
  (120, .aload_n 0, 1, 0, 0, .null),
  (121, .ldc 58, 2, 2, 0, .retAddr 22),
  (123, .invokevirtual 60, 3, 0, 39, .null),
  (126, .ifCond .eq 7, 3, 133, 0, .null),
  (129, .iconst 1, 1, 0, 0, .null),
  (130, .goto 4, 3, 134, 0, .null),
  (133, .iconst 0, 1, 0, 0, .null),
  (134, .istore_n 2, 1, 0, 0, .null),
  (135, .iinc 4 1, 3, 0, 0, .null),
  (138, .goto (-105), 3, 33, 0, .null),
  (141, .aload_n 0, 1, 0, 0, .null),
  (142, .iload_n 3, 1, 0, 0, .null),
  (143, .ifCond .eq 7, 3, 150, 0, .null),
  (146, .iconst (-1), 1, 0, 0, .null),
  (147, .goto 7, 3, 154, 0, .null),
  (150, .aload_n 0, 1, 0, 0, .null),
  (151, .getfield 55, 3, 3, 3, .null),
  (154, .putfield 15, 3, 3, 2, .null),
  (157, .iload_n 3, 1, 0, 0, .null),
  (158, .ireturn, 1, 0, 0, .null)]
set_option maxRecDepth 100000 in
theorem pm_d25 : pm_c25.all (pm_decB prog_5_method_3_code) = true := by decide +kernel
/-- TrainBearers$Reader.lawClause(I)Z -/
def pm_c26 : List pm_I := [(0, .aload_n 0, 1, 0, 0, .null),
  (1, .ldc 64, 2, 2, 0, .retAddr 0),
  (3, .invokevirtual 66, 3, 0, 41, .null),
  (6, .istore_n 2, 1, 0, 0, .null),
  (7, .iload_n 2, 1, 0, 0, .null),
  (8, .iconst (-1), 1, 0, 0, .null),
  (9, .if_icmp .ne 5, 3, 14, 0, .null),
  (12, .iconst 0, 1, 0, 0, .null),
  (13, .ireturn, 1, 0, 0, .null),
  (14, .aload_n 0, 1, 0, 0, .null),
  (15, .getfield 22, 3, 3, 7, .null),
  (18, .iload_n 2, 1, 0, 0, .null),
  (19, .invokevirtual 70, 3, 0, 66, .null),
  (22, .aload_n 0, 1, 0, 0, .null),
  (23, .invokevirtual 42, 3, 0, 38, .null),
  (26, .iload_n 2, 1, 0, 0, .null),
  (27, .iconst 3, 1, 0, 0, .null),
  (28, .if_icmp .eq 11, 3, 39, 0, .null),
  (31, .aload_n 0, 1, 0, 0, .null),
  (32, .iload_n 1, 1, 0, 0, .null),
  (33, .invokevirtual 74, 3, 0, 28, .null),
  (36, .ifCond .eq 7, 3, 43, 0, .null),
  (39, .iconst 1, 1, 0, 0, .null),
  (40, .goto 4, 3, 44, 0, .null),
  (43, .iconst 0, 1, 0, 0, .null),
  (44, .ireturn, 1, 0, 0, .null)]
set_option maxRecDepth 100000 in
theorem pm_d26 : pm_c26.all (pm_decB prog_5_method_4_code) = true := by decide +kernel
/-- TrainBearers$Reader.orderClause(I)Z -/
def pm_c27 : List pm_I := [(0, .aload_n 0, 1, 0, 0, .null),
  (1, .ldc 77, 2, 2, 0, .retAddr 18),
  (3, .invokevirtual 66, 3, 0, 41, .null),
  (6, .istore_n 2, 1, 0, 0, .null),
  (7, .iload_n 2, 1, 0, 0, .null),
  (8, .iconst (-1), 1, 0, 0, .null),
  (9, .if_icmp .ne 5, 3, 14, 0, .null),
  (12, .iconst 0, 1, 0, 0, .null),
  (13, .ireturn, 1, 0, 0, .null),
  (14, .aload_n 0, 1, 0, 0, .null),
  (15, .getfield 22, 3, 3, 7, .null),
  (18, .iload_n 2, 1, 0, 0, .null),
  (19, .invokevirtual 70, 3, 0, 66, .null),
  (22, .aload_n 0, 1, 0, 0, .null),
  (23, .invokevirtual 42, 3, 0, 38, .null),
  (26, .iload_n 2, 1, 0, 0, .null),
  (27, .iconst 3, 1, 0, 0, .null),
  (28, .if_icmp .eq 13, 3, 41, 0, .null),
  (31, .aload_n 0, 1, 0, 0, .null),
  (32, .iload_n 1, 1, 0, 0, .null),
  (33, .invokevirtual 74, 3, 0, 28, .null),
  (36, .ifCond .ne 5, 3, 41, 0, .null),
  (39, .iconst 0, 1, 0, 0, .null),
  (40, .ireturn, 1, 0, 0, .null),
  (41, .iload_n 2, 1, 0, 0, .null),
  (42, .ifCond .ne 11, 3, 53, 0, .null),
  (45, .aload_n 0, 1, 0, 0, .null),
  (46, .iload_n 1, 1, 0, 0, .null),
  (47, .invokevirtual 79, 3, 0, 29, .null),
  (50, .ifCond .eq 15, 3, 65, 0, .null),
  (53, .aload_n 0, 1, 0, 0, .null),
  (54, .iload_n 1, 1, 0, 0, .null),
  (55, .invokevirtual 82, 3, 0, 30, .null),
  (58, .ifCond .eq 7, 3, 65, 0, .null),
  (61, .iconst 1, 1, 0, 0, .null),
  (62, .goto 4, 3, 66, 0, .null),
  (65, .iconst 0, 1, 0, 0, .null),
  (66, .ireturn, 1, 0, 0, .null)]
set_option maxRecDepth 100000 in
theorem pm_d27 : pm_c27.all (pm_decB prog_5_method_5_code) = true := by decide +kernel
/-- TrainBearers$Reader.firstSum(I)Z -/
def pm_c28 : List pm_I := [(0, .aload_n 0, 1, 0, 0, .null),
  (1, .getfield 22, 3, 3, 7, .null),
  (4, .getfield 85, 3, 7, 2, .null),
  (7, .iload_n 1, 1, 0, 0, .null),
  (8, .aload_n 0, 1, 0, 0, .null),
  (9, .getfield 22, 3, 3, 7, .null),
  (12, .getfield 88, 3, 7, 6, .null),
  (15, .iastore, 1, 0, 0, .null),
  (16, .aload_n 0, 1, 0, 0, .null),
  (17, .iconst 2, 1, 0, 0, .null),
  (18, .iconst 0, 1, 0, 0, .null),
  (19, .invokevirtual 91, 3, 0, 32, .null),
  (22, .istore_n 2, 1, 0, 0, .null),
  (23, .aload_n 0, 1, 0, 0, .null),
  (24, .getfield 22, 3, 3, 7, .null),
  (27, .iconst 0, 1, 0, 0, .null),
  (28, .iconst 0, 1, 0, 0, .null),
  (29, .invokevirtual 95, 3, 0, 63, .null),
  (32, .iload_n 2, 1, 0, 0, .null),
  (33, .ireturn, 1, 0, 0, .null)]
set_option maxRecDepth 100000 in
theorem pm_d28 : pm_c28.all (pm_decB prog_5_method_6_code) = true := by decide +kernel
/-- TrainBearers$Reader.secondSum(I)Z -/
def pm_c29 : List pm_I := [(0, .aload_n 0, 1, 0, 0, .null),
  (1, .getfield 22, 3, 3, 7, .null),
  (4, .getfield 99, 3, 7, 3, .null),
  (7, .iload_n 1, 1, 0, 0, .null),
  (8, .aload_n 0, 1, 0, 0, .null),
  (9, .getfield 22, 3, 3, 7, .null),
  (12, .getfield 88, 3, 7, 6, .null),
  (15, .iastore, 1, 0, 0, .null),
  (16, .aload_n 0, 1, 0, 0, .null),
  (17, .ldc 102, 2, 2, 0, .retAddr 19),
  (19, .invokevirtual 60, 3, 0, 39, .null),
  (22, .ifCond .eq 16, 3, 38, 0, .null),
  (25, .aload_n 0, 1, 0, 0, .null),
  (26, .iconst 2, 1, 0, 0, .null),
  (27, .iconst 0, 1, 0, 0, .null),
  (28, .invokevirtual 91, 3, 0, 32, .null),
  (31, .ifCond .eq 7, 3, 38, 0, .null),
  (34, .iconst 1, 1, 0, 0, .null),
  (35, .goto 4, 3, 39, 0, .null),
  (38, .iconst 0, 1, 0, 0, .null),
  (39, .istore_n 2, 1, 0, 0, .null),
  (40, .aload_n 0, 1, 0, 0, .null),
  (41, .getfield 22, 3, 3, 7, .null),
  (44, .iconst 0, 1, 0, 0, .null),
  (45, .iconst 0, 1, 0, 0, .null),
  (46, .invokevirtual 95, 3, 0, 63, .null),
  (49, .iload_n 2, 1, 0, 0, .null),
  (50, .ireturn, 1, 0, 0, .null)]
set_option maxRecDepth 100000 in
theorem pm_d29 : pm_c29.all (pm_decB prog_5_method_7_code) = true := by decide +kernel
/-- TrainBearers$Reader.repetition(I)Z -/
def pm_c30 : List pm_I := [(0, .aload_n 0, 1, 0, 0, .null),
  (1, .ldc 104, 2, 2, 0, .retAddr 20),
  (3, .invokevirtual 60, 3, 0, 39, .null),
  (6, .ifCond .ne 5, 3, 11, 0, .null),
  (9, .iconst 1, 1, 0, 0, .null),
  (10, .ireturn, 1, 0, 0, .null),
  (11, .aload_n 0, 1, 0, 0, .null),
  (12, .invokevirtual 106, 3, 0, 42, .null),
  (15, .istore_n 2, 1, 0, 0, .null),
  (16, .iload_n 2, 1, 0, 0, .null),
  (17, .iconst 1, 1, 0, 0, .null),
  (18, .if_icmp .lt 9, 3, 27, 0, .null),
  (21, .iload_n 2, 1, 0, 0, .null),
  (22, .bipush 20, 2, 0, 0, .null),
  (24, .if_icmp .le 5, 3, 29, 0, .null),
  (27, .iconst 0, 1, 0, 0, .null),
  (28, .ireturn, 1, 0, 0, .null),
  (29, .aload_n 0, 1, 0, 0, .null),
  (30, .getfield 22, 3, 3, 7, .null),
  (33, .getfield 110, 3, 7, 5, .null),
  (36, .iload_n 1, 1, 0, 0, .null),
  (37, .iload_n 2, 1, 0, 0, .null),
  (38, .iastore, 1, 0, 0, .null),
  (39, .aload_n 0, 1, 0, 0, .null),
  (40, .invokevirtual 42, 3, 0, 38, .null),
  (43, .iconst 1, 1, 0, 0, .null),
  (44, .ireturn, 1, 0, 0, .null)]
set_option maxRecDepth 100000 in
theorem pm_d30 : pm_c30.all (pm_decB prog_5_method_8_code) = true := by decide +kernel
/-- TrainBearers$Reader.condition(I)Z -/
def pm_c31 : List pm_I := [(0, .aload_n 0, 1, 0, 0, .null),
  (1, .ldc 112, 2, 2, 0, .retAddr 21),
  (3, .invokevirtual 60, 3, 0, 39, .null),
  (6, .ifCond .ne 5, 3, 11, 0, .null),
  (9, .iconst 1, 1, 0, 0, .null),
  (10, .ireturn, 1, 0, 0, .null),
  (11, .aload_n 0, 1, 0, 0, .null),
  (12, .getfield 22, 3, 3, 7, .null),
  (15, .getfield 114, 3, 7, 4, .null),
  (18, .iload_n 1, 1, 0, 0, .null),
  (19, .aload_n 0, 1, 0, 0, .null),
  (20, .getfield 22, 3, 3, 7, .null),
  (23, .getfield 88, 3, 7, 6, .null),
  (26, .iastore, 1, 0, 0, .null),
  (27, .aload_n 0, 1, 0, 0, .null),
  (28, .iconst 0, 1, 0, 0, .null),
  (29, .iconst 0, 1, 0, 0, .null),
  (30, .invokevirtual 91, 3, 0, 32, .null),
  (33, .istore_n 2, 1, 0, 0, .null),
  (34, .aload_n 0, 1, 0, 0, .null),
  (35, .getfield 22, 3, 3, 7, .null),
  (38, .iconst 0, 1, 0, 0, .null),
  (39, .iconst 0, 1, 0, 0, .null),
  (40, .invokevirtual 95, 3, 0, 63, .null),
  (43, .iload_n 2, 1, 0, 0, .null),
  (44, .ireturn, 1, 0, 0, .null)]
set_option maxRecDepth 100000 in
theorem pm_d31 : pm_c31.all (pm_decB prog_5_method_9_code) = true := by decide +kernel
/-- TrainBearers$Reader.chain(II)Z -/
def pm_c32 : List pm_I := [(0, .iload_n 1, 1, 0, 0, .null),
  (1, .ifCond .eq 8, 3, 9, 0, .null),
  (4, .iload_n 1, 1, 0, 0, .null),
  (5, .iconst 1, 1, 0, 0, .null),
  (6, .if_icmp .ne 7, 3, 13, 0, .null),
  (9, .iconst 1, 1, 0, 0, .null),
  (10, .goto 4, 3, 14, 0, .null),
  (13, .iconst 0, 1, 0, 0, .null),
  (14, .istore_n 3, 1, 0, 0, .null),
  (15, .iconst (-1), 1, 0, 0, .null),
  (16, .istore 4, 2, 0, 0, .null),
  (18, .iconst (-1), 1, 0, 0, .null),
  (19, .istore 5, 2, 0, 0, .null),
  (21, .iconst 0, 1, 0, 0, .null),
  (22, .istore 6, 2, 0, 0, .null),
  (24, .iload 6, 2, 0, 0, .null),
  (26, .sipush 400, 3, 0, 0, .null),
  (29, .if_icmp .ge 125, 3, 154, 0, .null),
  (32, .iload_n 1, 1, 0, 0, .null),
  (33, .iconst 1, 1, 0, 0, .null),
  (34, .if_icmp .ne 11, 3, 45, 0, .null),
  (37, .aload_n 0, 1, 0, 0, .null),
  (38, .iload_n 2, 1, 0, 0, .null),
  (39, .invokevirtual 117, 3, 0, 34, .null),
  (42, .goto 24, 3, 66, 0, .null),
  (45, .iload_n 1, 1, 0, 0, .null),
  (46, .iconst 3, 1, 0, 0, .null),
  (47, .if_icmp .ne 11, 3, 58, 0, .null),
  (50, .aload_n 0, 1, 0, 0, .null),
  (51, .iload_n 2, 1, 0, 0, .null),
  (52, .invokevirtual 120, 3, 0, 35, .null),
  (55, .goto 11, 3, 66, 0, .null),
  (58, .aload_n 0, 1, 0, 0, .null),
  (59, .iload_n 1, 1, 0, 0, .null),
  (60, .iconst 1, 1, 0, 0, .null),
  (61, .iadd, 1, 0, 0, .null),
  (62, .iload_n 2, 1, 0, 0, .null),
  (63, .invokevirtual 91, 3, 0, 32, .null),
  (66, .istore 7, 2, 0, 0, .null),
  (68, .iload_n 3, 1, 0, 0, .null),
  (69, .ifCond .eq 15, 3, 84, 0, .null),
  (72, .aload_n 0, 1, 0, 0, .null),
  (73, .getfield 22, 3, 3, 7, .null),
  (76, .iload 5, 2, 0, 0, .null),
  (78, .invokevirtual 123, 3, 0, 65, .null),
  (81, .goto 19, 3, 100, 0, .null),
  (84, .iload 4, 2, 0, 0, .null),
  (86, .iconst (-1), 1, 0, 0, .null),
  (87, .if_icmp .eq 13, 3, 100, 0, .null),
  (90, .aload_n 0, 1, 0, 0, .null),
  (91, .getfield 22, 3, 3, 7, .null),
  (94, .iload 4, 2, 0, 0, .null),
  (96, .iconst 0, 1, 0, 0, .null),
  (97, .invokevirtual 95, 3, 0, 63, .null),
  (100, .aload_n 0, 1, 0, 0, .null),
  (101, .iload_n 1, 1, 0, 0, .null),
  (102, .invokevirtual 126, 3, 0, 33, .null),
  (105, .istore 4, 2, 0, 0, .null),
  (107, .iload 7, 2, 0, 0, .null),
  (109, .ifCond .eq 9, 3, 118, 0, .null),
  (112, .iload 4, 2, 0, 0, .null),
  (114, .iconst (-1), 1, 0, 0, .null),
  (115, .if_icmp .ne 6, 3, 121, 0, .null),
  (118, .iload 7, 2, 0, 0, .null),
  (120, .ireturn, 1, 0, 0, .null),
  (121, .aload_n 0, 1, 0, 0, .null),
  (122, .getfield 22, 3, 3, 7, .null),
  (125, .getfield 88, 3, 7, 6, .null),
  (128, .istore 5, 2, 0, 0, .null),
  (130, .iload_n 3, 1, 0, 0, .null),
  (131, .ifCond .eq 13, 3, 144, 0, .null),
  (134, .aload_n 0, 1, 0, 0, .null),
  (135, .getfield 22, 3, 3, 7, .null),
  (138, .iload 4, 2, 0, 0, .null),
  (140, .iconst 0, 1, 0, 0, .null),
  (141, .invokevirtual 95, 3, 0, 63, .null),
  (144, .aload_n 0, 1, 0, 0, .null),
  (145, .invokevirtual 42, 3, 0, 38, .null),
  (148, .iinc 6 1, 3, 0, 0, .null),
  (151, .goto (-127), 3, 24, 0, .null),
  (154, .iconst 0, 1, 0, 0, .null),
  (155, .ireturn, 1, 0, 0, .null)]
set_option maxRecDepth 100000 in
theorem pm_d32 : pm_c32.all (pm_decB prog_5_method_10_code) = true := by decide +kernel
/-- TrainBearers$Reader.operatorHere(I)I -/
def pm_c33 : List pm_I := [(0, .iload_n 1, 1, 0, 0, .null),
  (1, .tableswitch 87 0 2 #[27, 42, 57], 27, 0, 0, .null),
  (28, .aload_n 0, 1, 0, 0, .null),
  (29, .ldc 130, 2, 2, 0, .retAddr 11),
  (31, .invokevirtual 132, 3, 0, 40, .null),
  (34, .ifCond .eq 7, 3, 41, 0, .null),
  (37, .iconst 5, 1, 0, 0, .null),
  (38, .goto 4, 3, 42, 0, .null),
  (41, .iconst (-1), 1, 0, 0, .null),
  (42, .ireturn, 1, 0, 0, .null),
  (43, .aload_n 0, 1, 0, 0, .null),
  (44, .ldc 135, 2, 2, 0, .retAddr 12),
  (46, .invokevirtual 132, 3, 0, 40, .null),
  (49, .ifCond .eq 7, 3, 56, 0, .null),
  (52, .iconst 4, 1, 0, 0, .null),
  (53, .goto 4, 3, 57, 0, .null),
  (56, .iconst (-1), 1, 0, 0, .null),
  (57, .ireturn, 1, 0, 0, .null),
  (58, .aload_n 0, 1, 0, 0, .null),
  (59, .ldc 137, 2, 2, 0, .retAddr 13),
  (61, .invokevirtual 132, 3, 0, 40, .null),
  (64, .ifCond .eq 8, 3, 72, 0, .null),
  (67, .bipush 6, 2, 0, 0, .null),
  (69, .goto 18, 3, 87, 0, .null),
  (72, .aload_n 0, 1, 0, 0, .null),
  (73, .ldc 139, 2, 2, 0, .retAddr 14),
  (75, .invokevirtual 132, 3, 0, 40, .null),
  (78, .ifCond .eq 8, 3, 86, 0, .null),
  (81, .bipush 7, 2, 0, 0, .null),
  (83, .goto 4, 3, 87, 0, .null),
  (86, .iconst (-1), 1, 0, 0, .null),
  (87, .ireturn, 1, 0, 0, .null),
  (88, .aload_n 0, 1, 0, 0, .null),
  (89, .ldc 141, 2, 2, 0, .retAddr 15),
  (91, .invokevirtual 132, 3, 0, 40, .null),
  (94, .ifCond .eq 8, 3, 102, 0, .null),
  (97, .bipush 8, 2, 0, 0, .null),
  (99, .goto 32, 3, 131, 0, .null),
  (102, .aload_n 0, 1, 0, 0, .null),
  (103, .ldc 143, 2, 2, 0, .retAddr 16),
  (105, .invokevirtual 132, 3, 0, 40, .null),
  (108, .ifCond .eq 8, 3, 116, 0, .null),
  (111, .bipush 9, 2, 0, 0, .null),
  (113, .goto 18, 3, 131, 0, .null),
  (116, .aload_n 0, 1, 0, 0, .null),
  (117, .ldc 145, 2, 2, 0, .retAddr 17),
  (119, .invokevirtual 132, 3, 0, 40, .null),
  (122, .ifCond .eq 8, 3, 130, 0, .null),
  (125, .bipush 10, 2, 0, 0, .null),
  (127, .goto 4, 3, 131, 0, .null),
  (130, .iconst (-1), 1, 0, 0, .null),
  (131, .ireturn, 1, 0, 0, .null)]
set_option maxRecDepth 100000 in
theorem pm_d33 : pm_c33.all (pm_decB prog_5_method_11_code) = true := by decide +kernel
/-- TrainBearers$Reader.plain(I)Z -/
def pm_c34 : List pm_I := [(0, .iconst 0, 1, 0, 0, .null),
  (1, .istore_n 2, 1, 0, 0, .null),
  (2, .iconst 0, 1, 0, 0, .null),
  (3, .istore_n 3, 1, 0, 0, .null),
  (4, .iload_n 3, 1, 0, 0, .null),
  (5, .sipush 400, 3, 0, 0, .null),
  (8, .if_icmp .ge 28, 3, 36, 0, .null),
  (11, .aload_n 0, 1, 0, 0, .null),
  (12, .ldc 147, 2, 2, 0, .retAddr 1),
  (14, .invokevirtual 60, 3, 0, 39, .null),
  (17, .ifCond .eq 19, 3, 36, 0, .null),
  (20, .iload_n 2, 1, 0, 0, .null),
  (21, .ifCond .ne 7, 3, 28, 0, .null),
  (24, .iconst 1, 1, 0, 0, .null),
  (25, .goto 4, 3, 29, 0, .null),
  (28, .iconst 0, 1, 0, 0, .null),
  (29, .istore_n 2, 1, 0, 0, .null),
  (30, .iinc 3 1, 3, 0, 0, .null),
  (33, .goto (-29), 3, 4, 0, .null),
  (36, .aload_n 0, 1, 0, 0, .null),
  (37, .ldc 149, 2, 2, 0, .retAddr 2),
  (39, .invokevirtual 132, 3, 0, 40, .null),
  (42, .ifCond .eq 40, 3, 82, 0, .null),
  (45, .aload_n 0, 1, 0, 0, .null),
  (46, .iload_n 1, 1, 0, 0, .null),
  (47, .invokevirtual 151, 3, 0, 36, .null),
  (50, .ifCond .eq 27, 3, 77, 0, .null),
  (53, .aload_n 0, 1, 0, 0, .null),
  (54, .iconst 0, 1, 0, 0, .null),
  (55, .iload_n 1, 1, 0, 0, .null),
  (56, .iconst 1, 1, 0, 0, .null),
  (57, .iadd, 1, 0, 0, .null),
  (58, .invokevirtual 91, 3, 0, 32, .null),
  (61, .ifCond .eq 16, 3, 77, 0, .null),
  (64, .aload_n 0, 1, 0, 0, .null),
  (65, .ldc 154, 2, 2, 0, .retAddr 3),
  (67, .invokevirtual 60, 3, 0, 39, .null),
  (70, .ifCond .eq 7, 3, 77, 0, .null),
  (73, .iconst 1, 1, 0, 0, .null),
  (74, .goto 4, 3, 78, 0, .null),
  (77, .iconst 0, 1, 0, 0, .null),
  (78, .istore_n 3, 1, 0, 0, .null),
  (79, .goto 98, 3, 177, 0, .null),
  (82, .aload_n 0, 1, 0, 0, .null),
  (83, .iconst 2, 1, 0, 0, .null),
  (84, .iload_n 1, 1, 0, 0, .null),
  (85, .invokevirtual 91, 3, 0, 32, .null),
  (88, .istore_n 3, 1, 0, 0, .null),
  (89, .aload_n 0, 1, 0, 0, .null),
  (90, .ldc 156, 2, 2, 0, .retAddr 4),
  (92, .invokevirtual 132, 3, 0, 40, .null),
  (95, .ifCond .eq 8, 3, 103, 0, .null),
  (98, .bipush 11, 2, 0, 0, .null),
  (100, .goto 19, 3, 119, 0, .null),
  (103, .aload_n 0, 1, 0, 0, .null),
  (104, .ldc 158, 2, 2, 0, .retAddr 5),
  (106, .invokevirtual 132, 3, 0, 40, .null),
  (109, .ifCond .eq 8, 3, 117, 0, .null),
  (112, .bipush 12, 2, 0, 0, .null),
  (114, .goto 5, 3, 119, 0, .null),
  (117, .bipush 13, 2, 0, 0, .null),
  (119, .istore 4, 2, 0, 0, .null),
  (121, .iload_n 3, 1, 0, 0, .null),
  (122, .ifCond .eq 43, 3, 165, 0, .null),
  (125, .aload_n 0, 1, 0, 0, .null),
  (126, .ldc 156, 2, 2, 0, .retAddr 4),
  (128, .invokevirtual 60, 3, 0, 39, .null),
  (131, .ifCond .ne 21, 3, 152, 0, .null),
  (134, .aload_n 0, 1, 0, 0, .null),
  (135, .ldc 158, 2, 2, 0, .retAddr 5),
  (137, .invokevirtual 60, 3, 0, 39, .null),
  (140, .ifCond .ne 12, 3, 152, 0, .null),
  (143, .aload_n 0, 1, 0, 0, .null),
  (144, .ldc 160, 2, 2, 0, .retAddr 6),
  (146, .invokevirtual 60, 3, 0, 39, .null),
  (149, .ifCond .eq 16, 3, 165, 0, .null),
  (152, .aload_n 0, 1, 0, 0, .null),
  (153, .iconst 2, 1, 0, 0, .null),
  (154, .iload_n 1, 1, 0, 0, .null),
  (155, .invokevirtual 91, 3, 0, 32, .null),
  (158, .ifCond .eq 7, 3, 165, 0, .null),
  (161, .iconst 1, 1, 0, 0, .null),
  (162, .goto 4, 3, 166, 0, .null),
  (165, .iconst 0, 1, 0, 0, .null),
  (166, .istore_n 3, 1, 0, 0, .null),
  (167, .aload_n 0, 1, 0, 0, .null),
  (168, .getfield 22, 3, 3, 7, .null),
  (171, .iload 4, 2, 0, 0, .null),
  (173, .iconst 0, 1, 0, 0, .null),
  (174, .invokevirtual 95, 3, 0, 63, .null),
  (177, .iload_n 2, 1, 0, 0, .null),
  (178, .ifCond .eq 12, 3, 190, 0, .null),
  (181, .aload_n 0, 1, 0, 0, .null),
  (182, .getfield 22, 3, 3, 7, .null),
  (185, .iconst 3, 1, 0, 0, .null),
  (186, .iconst 0, 1, 0, 0, .null),
  (187, .invokevirtual 95, 3, 0, 63, .null),
  (190, .iload_n 3, 1, 0, 0, .null),
  (191, .ireturn, 1, 0, 0, .null)]
set_option maxRecDepth 100000 in
theorem pm_d34 : pm_c34.all (pm_decB prog_5_method_12_code) = true := by decide +kernel
/-- TrainBearers$Reader.part(I)Z -/
def pm_c35 : List pm_I := [(0, .aload_n 0, 1, 0, 0, .null),
  (1, .ldc 162, 2, 2, 0, .retAddr 7),
  (3, .invokevirtual 132, 3, 0, 40, .null),
  (6, .ifCond .eq 37, 3, 43, 0, .null),
  (9, .aload_n 0, 1, 0, 0, .null),
  (10, .iload_n 1, 1, 0, 0, .null),
  (11, .invokevirtual 151, 3, 0, 36, .null),
  (14, .ifCond .eq 27, 3, 41, 0, .null),
  (17, .aload_n 0, 1, 0, 0, .null),
  (18, .iconst 2, 1, 0, 0, .null),
  (19, .iload_n 1, 1, 0, 0, .null),
  (20, .iconst 1, 1, 0, 0, .null),
  (21, .iadd, 1, 0, 0, .null),
  (22, .invokevirtual 91, 3, 0, 32, .null),
  (25, .ifCond .eq 16, 3, 41, 0, .null),
  (28, .aload_n 0, 1, 0, 0, .null),
  (29, .ldc 164, 2, 2, 0, .retAddr 8),
  (31, .invokevirtual 60, 3, 0, 39, .null),
  (34, .ifCond .eq 7, 3, 41, 0, .null),
  (37, .iconst 1, 1, 0, 0, .null),
  (38, .goto 4, 3, 42, 0, .null),
  (41, .iconst 0, 1, 0, 0, .null),
  (42, .ireturn, 1, 0, 0, .null),
  (43, .aload_n 0, 1, 0, 0, .null),
  (44, .invokevirtual 166, 3, 0, 37, .null),
  (47, .ireturn, 1, 0, 0, .null)]
set_option maxRecDepth 100000 in
theorem pm_d35 : pm_c35.all (pm_decB prog_5_method_13_code) = true := by decide +kernel
/-- TrainBearers$Reader.open(I)Z -/
def pm_c36 : List pm_I := [(0, .iload_n 1, 1, 0, 0, .null),
  (1, .bipush 8, 2, 0, 0, .null),
  (3, .if_icmp .lt 5, 3, 8, 0, .null),
  (6, .iconst 0, 1, 0, 0, .null),
  (7, .ireturn, 1, 0, 0, .null),
  (8, .aload_n 0, 1, 0, 0, .null),
  (9, .invokevirtual 42, 3, 0, 38, .null),
  (12, .iconst 1, 1, 0, 0, .null),
  (13, .ireturn, 1, 0, 0, .null)]
set_option maxRecDepth 100000 in
theorem pm_d36 : pm_c36.all (pm_decB prog_5_method_14_code) = true := by decide +kernel
/-- TrainBearers$Reader.numberOrWord()Z -/
def pm_c37 : List pm_I := [(0, .aload_n 0, 1, 0, 0, .null),
  (1, .invokevirtual 106, 3, 0, 42, .null),
  (4, .istore_n 1, 1, 0, 0, .null),
  (5, .aload_n 0, 1, 0, 0, .null),
  (6, .aload_n 0, 1, 0, 0, .null),
  (7, .getfield 32, 3, 3, 6, .null),
  (10, .ifCond .eq 8, 3, 18, 0, .null),
  (13, .ldc 170, 2, 2, 0, .retAddr 9),
  (15, .goto 5, 3, 20, 0, .null),
  (18, .ldc 172, 2, 2, 0, .retAddr 10),
  (20, .invokevirtual 66, 3, 0, 41, .null),
  (23, .istore_n 2, 1, 0, 0, .null),
  (24, .iload_n 1, 1, 0, 0, .null),
  (25, .iconst (-1), 1, 0, 0, .null),
  (26, .if_icmp .ne 8, 3, 34, 0, .null),
  (29, .iload_n 2, 1, 0, 0, .null),
  (30, .iconst (-1), 1, 0, 0, .null),
  (31, .if_icmp .eq 19, 3, 50, 0, .null),
  (34, .iload_n 1, 1, 0, 0, .null),
  (35, .sipush 1000, 3, 0, 0, .null),
  (38, .if_icmp .gt 12, 3, 50, 0, .null),
  (41, .aload_n 0, 1, 0, 0, .null),
  (42, .getfield 36, 3, 3, 5, .null),
  (45, .bipush 50, 2, 0, 0, .null),
  (47, .if_icmp .lt 5, 3, 52, 0, .null),
  (50, .iconst 0, 1, 0, 0, .null),
  (51, .ireturn, 1, 0, 0, .null),
  (52, .aload_n 0, 1, 0, 0, .null),
  (53, .dup, 1, 0, 0, .null),
  (54, .getfield 36, 3, 3, 5, .null),
  (57, .iconst 1, 1, 0, 0, .null),
  (58, .iadd, 1, 0, 0, .null),
  (59, .putfield 36, 3, 3, 5, .null),
  (62, .aload_n 0, 1, 0, 0, .null),
  (63, .invokevirtual 42, 3, 0, 38, .null),
  (66, .iload_n 1, 1, 0, 0, .null),
  (67, .iconst (-1), 1, 0, 0, .null),
  (68, .if_icmp .eq 15, 3, 83, 0, .null),
  (71, .aload_n 0, 1, 0, 0, .null),
  (72, .getfield 22, 3, 3, 7, .null),
  (75, .iconst 1, 1, 0, 0, .null),
  (76, .iload_n 1, 1, 0, 0, .null),
  (77, .invokevirtual 95, 3, 0, 63, .null),
  (80, .goto 66, 3, 146, 0, .null),
  (83, .aload_n 0, 1, 0, 0, .null),
  (84, .getfield 32, 3, 3, 6, .null),
  (87, .ifCond .ne 8, 3, 95, 0, .null),
  (90, .iload_n 2, 1, 0, 0, .null),
  (91, .iconst 5, 1, 0, 0, .null),
  (92, .if_icmp .ge 15, 3, 107, 0, .null),
  (95, .aload_n 0, 1, 0, 0, .null),
  (96, .getfield 22, 3, 3, 7, .null),
  (99, .iconst 2, 1, 0, 0, .null),
  (100, .iload_n 2, 1, 0, 0, .null),
  (101, .invokevirtual 95, 3, 0, 63, .null),
  (104, .goto 42, 3, 146, 0, .null),
  (107, .aload_n 0, 1, 0, 0, .null),
  (108, .invokevirtual 106, 3, 0, 42, .null),
  (111, .istore_n 3, 1, 0, 0, .null),
  (112, .iload_n 3, 1, 0, 0, .null),
  (113, .ifCond .lt 9, 3, 122, 0, .null),
  (116, .iload_n 3, 1, 0, 0, .null),
  (117, .bipush 8, 2, 0, 0, .null),
  (119, .if_icmp .lt 5, 3, 124, 0, .null),
  (122, .iconst 0, 1, 0, 0, .null),
  (123, .ireturn, 1, 0, 0, .null),
  (124, .aload_n 0, 1, 0, 0, .null),
  (125, .getfield 22, 3, 3, 7, .null),
  (128, .iload_n 2, 1, 0, 0, .null),
  (129, .iconst 5, 1, 0, 0, .null),
  (130, .if_icmp .ne 7, 3, 137, 0, .null),
  (133, .iconst 1, 1, 0, 0, .null),
  (134, .goto 4, 3, 138, 0, .null),
  (137, .iconst 0, 1, 0, 0, .null),
  (138, .iload_n 3, 1, 0, 0, .null),
  (139, .invokevirtual 174, 3, 0, 64, .null),
  (142, .aload_n 0, 1, 0, 0, .null),
  (143, .invokevirtual 42, 3, 0, 38, .null),
  (146, .iconst 1, 1, 0, 0, .null),
  (147, .ireturn, 1, 0, 0, .null)]
set_option maxRecDepth 100000 in
theorem pm_d37 : pm_c37.all (pm_decB prog_5_method_15_code) = true := by decide +kernel
/-- TrainBearers$Reader.advance()V -/
def pm_c38 : List pm_I := [(0, .aload_n 0, 1, 0, 0, .null),
  (1, .aload_n 0, 1, 0, 0, .null),
  (2, .getfield 39, 3, 3, 4, .null),
  (5, .putfield 55, 3, 3, 3, .null),
  (8, .aload_n 0, 1, 0, 0, .null),
  (9, .getfield 55, 3, 3, 3, .null),
  (12, .aload_n 0, 1, 0, 0, .null),
  (13, .getfield 26, 3, 3, 1, .null),
  (16, .if_icmp .ge 30, 3, 46, 0, .null),
  (19, .aload_n 0, 1, 0, 0, .null),
  (20, .getfield 9, 3, 3, 0, .null),
  (23, .aload_n 0, 1, 0, 0, .null),
  (24, .getfield 55, 3, 3, 3, .null),
  (27, .iaload, 1, 0, 0, .null),
  (28, .bipush 32, 2, 0, 0, .null),
  (30, .if_icmp .ne 16, 3, 46, 0, .null),
  (33, .aload_n 0, 1, 0, 0, .null),
  (34, .dup, 1, 0, 0, .null),
  (35, .getfield 55, 3, 3, 3, .null),
  (38, .iconst 1, 1, 0, 0, .null),
  (39, .iadd, 1, 0, 0, .null),
  (40, .putfield 55, 3, 3, 3, .null),
  (43, .goto (-35), 3, 8, 0, .null),
  (46, .aload_n 0, 1, 0, 0, .null),
  (47, .aload_n 0, 1, 0, 0, .null),
  (48, .getfield 55, 3, 3, 3, .null),
  (51, .putfield 39, 3, 3, 4, .null),
  (54, .aload_n 0, 1, 0, 0, .null),
  (55, .getfield 39, 3, 3, 4, .null),
  (58, .aload_n 0, 1, 0, 0, .null),
  (59, .getfield 26, 3, 3, 1, .null),
  (62, .if_icmp .ge 44, 3, 106, 0, .null),
  (65, .aload_n 0, 1, 0, 0, .null),
  (66, .getfield 9, 3, 3, 0, .null),
  (69, .aload_n 0, 1, 0, 0, .null),
  (70, .getfield 39, 3, 3, 4, .null),
  (73, .iaload, 1, 0, 0, .null),
  (74, .bipush 97, 2, 0, 0, .null),
  (76, .if_icmp .lt 30, 3, 106, 0, .null),
  (79, .aload_n 0, 1, 0, 0, .null),
  (80, .getfield 9, 3, 3, 0, .null),
  (83, .aload_n 0, 1, 0, 0, .null),
  (84, .getfield 39, 3, 3, 4, .null),
  (87, .iaload, 1, 0, 0, .null),
  (88, .bipush 122, 2, 0, 0, .null),
  (90, .if_icmp .gt 16, 3, 106, 0, .null),
  (93, .aload_n 0, 1, 0, 0, .null),
  (94, .dup, 1, 0, 0, .null),
  (95, .getfield 39, 3, 3, 4, .null),
  (98, .iconst 1, 1, 0, 0, .null),
  (99, .iadd, 1, 0, 0, .null),
  (100, .putfield 39, 3, 3, 4, .null),
  (103, .goto (-49), 3, 54, 0, .null),
  (106, .aload_n 0, 1, 0, 0, .null),
  (107, .getfield 39, 3, 3, 4, .null),
  (110, .aload_n 0, 1, 0, 0, .null),
  (111, .getfield 55, 3, 3, 3, .null),
  (114, .if_icmp .le 4, 3, 118, 0, .null),
  (117, .return_, 1, 0, 0, .null),
  (118, .aload_n 0, 1, 0, 0, .null),
  (119, .getfield 39, 3, 3, 4, .null),
  (122, .aload_n 0, 1, 0, 0, .null),
  (123, .getfield 26, 3, 3, 1, .null),
  (126, .if_icmp .ge 44, 3, 170, 0, .null),
  (129, .aload_n 0, 1, 0, 0, .null),
  (130, .getfield 9, 3, 3, 0, .null),
  (133, .aload_n 0, 1, 0, 0, .null),
  (134, .getfield 39, 3, 3, 4, .null),
  (137, .iaload, 1, 0, 0, .null),
  (138, .bipush 48, 2, 0, 0, .null),
  (140, .if_icmp .lt 30, 3, 170, 0, .null),
  (143, .aload_n 0, 1, 0, 0, .null),
  (144, .getfield 9, 3, 3, 0, .null),
  (147, .aload_n 0, 1, 0, 0, .null),
  (148, .getfield 39, 3, 3, 4, .null),
  (151, .iaload, 1, 0, 0, .null),
  (152, .bipush 57, 2, 0, 0, .null),
  (154, .if_icmp .gt 16, 3, 170, 0, .null),
  (157, .aload_n 0, 1, 0, 0, .null),
  (158, .dup, 1, 0, 0, .null),
  (159, .getfield 39, 3, 3, 4, .null),
  (162, .iconst 1, 1, 0, 0, .null),
  (163, .iadd, 1, 0, 0, .null),
  (164, .putfield 39, 3, 3, 4, .null),
  (167, .goto (-49), 3, 118, 0, .null),
  (170, .aload_n 0, 1, 0, 0, .null),
  (171, .getfield 39, 3, 3, 4, .null),
  (174, .aload_n 0, 1, 0, 0, .null),
  (175, .getfield 55, 3, 3, 3, .null),
  (178, .if_icmp .ne 24, 3, 202, 0, .null),
  (181, .aload_n 0, 1, 0, 0, .null),
  (182, .getfield 55, 3, 3, 3, .null),
  (185, .aload_n 0, 1, 0, 0, .null),
  (186, .getfield 26, 3, 3, 1, .null),
  (189, .if_icmp .ge 13, 3, 202, 0, .null),
  (192, .aload_n 0, 1, 0, 0, .null),
  (193, .dup, 1, 0, 0, .null),
  (194, .getfield 39, 3, 3, 4, .null),
  (197, .iconst 1, 1, 0, 0, .null),
  (198, .iadd, 1, 0, 0, .null),
  (199, .putfield 39, 3, 3, 4, .null),
  (202, .return_, 1, 0, 0, .null)]
set_option maxRecDepth 100000 in
theorem pm_d38 : pm_c38.all (pm_decB prog_5_method_16_code) = true := by decide +kernel
/-- TrainBearers$Reader.pass(Ljava/lang/String;)Z -/
def pm_c39 : List pm_I := [(0, .aload_n 0, 1, 0, 0, .null),
  (1, .aload_n 1, 1, 0, 0, .null),
  (2, .invokevirtual 132, 3, 0, 40, .null),
  (5, .ifCond .ne 5, 3, 10, 0, .null),
  (8, .iconst 0, 1, 0, 0, .null),
  (9, .ireturn, 1, 0, 0, .null),
  (10, .aload_n 0, 1, 0, 0, .null),
  (11, .invokevirtual 42, 3, 0, 38, .null),
  (14, .iconst 1, 1, 0, 0, .null),
  (15, .ireturn, 1, 0, 0, .null)]
set_option maxRecDepth 100000 in
theorem pm_d39 : pm_c39.all (pm_decB prog_5_method_17_code) = true := by decide +kernel
/-- TrainBearers$Reader.isHere(Ljava/lang/String;)Z -/
def pm_c40 : List pm_I := [(0, .aload_n 0, 1, 0, 0, .null),
  (1, .getfield 39, 3, 3, 4, .null),
  (4, .aload_n 0, 1, 0, 0, .null),
  (5, .getfield 55, 3, 3, 3, .null),
  (8, .isub, 1, 0, 0, .null),
  (9, .aload_n 1, 1, 0, 0, .null),
  (10, .invokevirtual 178, 3, 7, 260, .null),
  (13, .if_icmp .eq 5, 3, 18, 0, .null),
  (16, .iconst 0, 1, 0, 0, .null),
  (17, .ireturn, 1, 0, 0, .null),
  (18, .iconst 0, 1, 0, 0, .null),
  (19, .istore_n 2, 1, 0, 0, .null),
  (20, .iload_n 2, 1, 0, 0, .null),
  (21, .aload_n 1, 1, 0, 0, .null),
  (22, .invokevirtual 178, 3, 7, 260, .null),
  (25, .if_icmp .ge 30, 3, 55, 0, .null),
  (28, .aload_n 0, 1, 0, 0, .null),
  (29, .getfield 9, 3, 3, 0, .null),
  (32, .aload_n 0, 1, 0, 0, .null),
  (33, .getfield 55, 3, 3, 3, .null),
  (36, .iload_n 2, 1, 0, 0, .null),
  (37, .iadd, 1, 0, 0, .null),
  (38, .iaload, 1, 0, 0, .null),
  (39, .aload_n 1, 1, 0, 0, .null),
  (40, .iload_n 2, 1, 0, 0, .null),
  (41, .invokevirtual 182, 3, 7, 261, .null),
  (44, .if_icmp .eq 5, 3, 49, 0, .null),
  (47, .iconst 0, 1, 0, 0, .null),
  (48, .ireturn, 1, 0, 0, .null),
  (49, .iinc 2 1, 3, 0, 0, .null),
  (52, .goto (-32), 3, 20, 0, .null),
  (55, .iconst 1, 1, 0, 0, .null),
  (56, .ireturn, 1, 0, 0, .null)]
set_option maxRecDepth 100000 in
theorem pm_d40 : pm_c40.all (pm_decB prog_5_method_18_code) = true := by decide +kernel
/-- TrainBearers$Reader.wordHere(Ljava/lang/String;)I -/
def pm_c41 : List pm_I := [(0, .iconst 0, 1, 0, 0, .null),
  (1, .istore_n 2, 1, 0, 0, .null),
  (2, .iconst 0, 1, 0, 0, .null),
  (3, .istore_n 3, 1, 0, 0, .null),
  (4, .iconst 1, 1, 0, 0, .null),
  (5, .istore 4, 2, 0, 0, .null),
  (7, .iconst 0, 1, 0, 0, .null),
  (8, .istore 5, 2, 0, 0, .null),
  (10, .iload 5, 2, 0, 0, .null),
  (12, .aload_n 1, 1, 0, 0, .null),
  (13, .invokevirtual 178, 3, 7, 260, .null),
  (16, .if_icmp .ge 99, 3, 115, 0, .null),
  (19, .aload_n 1, 1, 0, 0, .null),
  (20, .iload 5, 2, 0, 0, .null),
  (22, .invokevirtual 182, 3, 7, 261, .null),
  (25, .istore 6, 2, 0, 0, .null),
  (27, .iload 6, 2, 0, 0, .null),
  (29, .bipush 32, 2, 0, 0, .null),
  (31, .if_icmp .eq 50, 3, 81, 0, .null),
  (34, .iload 4, 2, 0, 0, .null),
  (36, .ifCond .eq 36, 3, 72, 0, .null),
  (39, .aload_n 0, 1, 0, 0, .null),
  (40, .getfield 55, 3, 3, 3, .null),
  (43, .iload_n 3, 1, 0, 0, .null),
  (44, .iadd, 1, 0, 0, .null),
  (45, .aload_n 0, 1, 0, 0, .null),
  (46, .getfield 39, 3, 3, 4, .null),
  (49, .if_icmp .ge 23, 3, 72, 0, .null),
  (52, .aload_n 0, 1, 0, 0, .null),
  (53, .getfield 9, 3, 3, 0, .null),
  (56, .aload_n 0, 1, 0, 0, .null),
  (57, .getfield 55, 3, 3, 3, .null),
  (60, .iload_n 3, 1, 0, 0, .null),
  (61, .iadd, 1, 0, 0, .null),
  (62, .iaload, 1, 0, 0, .null),
  (63, .iload 6, 2, 0, 0, .null),
  (65, .if_icmp .ne 7, 3, 72, 0, .null),
  (68, .iconst 1, 1, 0, 0, .null),
  (69, .goto 4, 3, 73, 0, .null),
  (72, .iconst 0, 1, 0, 0, .null),
  (73, .istore 4, 2, 0, 0, .null),
  (75, .iinc 3 1, 3, 0, 0, .null),
  (78, .goto 31, 3, 109, 0, .null),
  (81, .iload 4, 2, 0, 0, .null),
  (83, .ifCond .eq 18, 3, 101, 0, .null),
  (86, .iload_n 3, 1, 0, 0, .null),
  (87, .aload_n 0, 1, 0, 0, .null),
  (88, .getfield 39, 3, 3, 4, .null),
  (91, .aload_n 0, 1, 0, 0, .null),
  (92, .getfield 55, 3, 3, 3, .null),
  (95, .isub, 1, 0, 0, .null),
  (96, .if_icmp .ne 5, 3, 101, 0, .null),
  (99, .iload_n 2, 1, 0, 0, .null),
  (100, .ireturn, 1, 0, 0, .null),
  (101, .iinc 2 1, 3, 0, 0, .null),
  (104, .iconst 0, 1, 0, 0, .null),
  (105, .istore_n 3, 1, 0, 0, .null),
  (106, .iconst 1, 1, 0, 0, .null),
  (107, .istore 4, 2, 0, 0, .null),
  (109, .iinc 5 1, 3, 0, 0, .null),
  (112, .goto (-102), 3, 10, 0, .null),
  (115, .iconst (-1), 1, 0, 0, .null),
  (116, .ireturn, 1, 0, 0, .null)]
set_option maxRecDepth 100000 in
theorem pm_d41 : pm_c41.all (pm_decB prog_5_method_19_code) = true := by decide +kernel
/-- TrainBearers$Reader.numberHere()I -/
def pm_c42 : List pm_I := [(0, .aload_n 0, 1, 0, 0, .null),
  (1, .getfield 55, 3, 3, 3, .null),
  (4, .aload_n 0, 1, 0, 0, .null),
  (5, .getfield 39, 3, 3, 4, .null),
  (8, .if_icmp .ge 31, 3, 39, 0, .null),
  (11, .aload_n 0, 1, 0, 0, .null),
  (12, .getfield 9, 3, 3, 0, .null),
  (15, .aload_n 0, 1, 0, 0, .null),
  (16, .getfield 55, 3, 3, 3, .null),
  (19, .iaload, 1, 0, 0, .null),
  (20, .bipush 48, 2, 0, 0, .null),
  (22, .if_icmp .lt 17, 3, 39, 0, .null),
  (25, .aload_n 0, 1, 0, 0, .null),
  (26, .getfield 9, 3, 3, 0, .null),
  (29, .aload_n 0, 1, 0, 0, .null),
  (30, .getfield 55, 3, 3, 3, .null),
  (33, .iaload, 1, 0, 0, .null),
  (34, .bipush 57, 2, 0, 0, .null),
  (36, .if_icmp .le 5, 3, 41, 0, .null),
  (39, .iconst (-1), 1, 0, 0, .null),
  (40, .ireturn, 1, 0, 0, .null),
  (41, .iconst 0, 1, 0, 0, .null),
  (42, .istore_n 1, 1, 0, 0, .null),
  (43, .aload_n 0, 1, 0, 0, .null),
  (44, .getfield 55, 3, 3, 3, .null),
  (47, .istore_n 2, 1, 0, 0, .null),
  (48, .iload_n 2, 1, 0, 0, .null),
  (49, .aload_n 0, 1, 0, 0, .null),
  (50, .getfield 39, 3, 3, 4, .null),
  (53, .if_icmp .ge 31, 3, 84, 0, .null),
  (56, .iload_n 1, 1, 0, 0, .null),
  (57, .sipush 1000, 3, 0, 0, .null),
  (60, .if_icmp .gt 24, 3, 84, 0, .null),
  (63, .iload_n 1, 1, 0, 0, .null),
  (64, .bipush 10, 2, 0, 0, .null),
  (66, .imul, 1, 0, 0, .null),
  (67, .aload_n 0, 1, 0, 0, .null),
  (68, .getfield 9, 3, 3, 0, .null),
  (71, .iload_n 2, 1, 0, 0, .null),
  (72, .iaload, 1, 0, 0, .null),
  (73, .iadd, 1, 0, 0, .null),
  (74, .bipush 48, 2, 0, 0, .null),
  (76, .isub, 1, 0, 0, .null),
  (77, .istore_n 1, 1, 0, 0, .null),
  (78, .iinc 2 1, 3, 0, 0, .null),
  (81, .goto (-33), 3, 48, 0, .null),
  (84, .iload_n 1, 1, 0, 0, .null),
  (85, .ireturn, 1, 0, 0, .null)]
set_option maxRecDepth 100000 in
theorem pm_d42 : pm_c42.all (pm_decB prog_5_method_20_code) = true := by decide +kernel
/-- TrainBearers$Rules.<init>()V -/
def pm_c43 : List pm_I := [(0, .aload_n 0, 1, 0, 0, .null),
  (1, .invokespecial 3, 3, 4, 0, .null),
  (4, .aload_n 0, 1, 0, 0, .null),
  (5, .new 9, 3, 6, 0, .null),
  (8, .dup, 1, 0, 0, .null),
  (9, .invokespecial 11, 3, 2, 57, .null),
  (12, .putfield 12, 3, 4, 0, .null),
  (15, .aload_n 0, 1, 0, 0, .null),
  (16, .bipush 10, 2, 0, 0, .null),
  (18, .newarray .int, 2, 0, 0, .null),
  (20, .putfield 18, 3, 4, 1, .null),
  (23, .return_, 1, 0, 0, .null)]
set_option maxRecDepth 100000 in
theorem pm_d43 : pm_c43.all (pm_decB prog_6_method_1_code) = true := by decide +kernel
/-- TrainBearers$Rules.lifts(LTrainBearers$Train;II)I -/
def pm_c44 : List pm_I := [(0, .aload_n 0, 1, 0, 0, .null),
  (1, .aload_n 1, 1, 0, 0, .null),
  (2, .iload_n 2, 1, 0, 0, .null),
  (3, .iload_n 3, 1, 0, 0, .null),
  (4, .iconst (-1), 1, 0, 0, .null),
  (5, .iconst (-1), 1, 0, 0, .null),
  (6, .invokevirtual 22, 3, 0, 50, .null),
  (9, .aload_n 0, 1, 0, 0, .null),
  (10, .aload_n 1, 1, 0, 0, .null),
  (11, .iconst 0, 1, 0, 0, .null),
  (12, .invokevirtual 26, 3, 0, 51, .null),
  (15, .istore 4, 2, 0, 0, .null),
  (17, .iload 4, 2, 0, 0, .null),
  (19, .ldc 30, 2, 0, 0, .int (-2000000000)),
  (21, .if_icmp .eq 11, 3, 32, 0, .null),
  (24, .iload 4, 2, 0, 0, .null),
  (26, .bipush 20, 2, 0, 0, .null),
  (28, .invokestatic 31, 3, 3, 130, .null),
  (31, .ireturn, 1, 0, 0, .null),
  (32, .aload_n 1, 1, 0, 0, .null),
  (33, .iload_n 2, 1, 0, 0, .null),
  (34, .invokevirtual 35, 3, 0, 70, .null),
  (37, .ifCond .eq 23, 3, 60, 0, .null),
  (40, .iconst 0, 1, 0, 0, .null),
  (41, .aload_n 1, 1, 0, 0, .null),
  (42, .getfield 41, 3, 8, 4, .null),
  (45, .iload_n 2, 1, 0, 0, .null),
  (46, .iaload, 1, 0, 0, .null),
  (47, .aload_n 1, 1, 0, 0, .null),
  (48, .getfield 44, 3, 8, 5, .null),
  (51, .iload_n 2, 1, 0, 0, .null),
  (52, .iaload, 1, 0, 0, .null),
  (53, .isub, 1, 0, 0, .null),
  (54, .invokestatic 47, 3, 1, 258, .null),
  (57, .goto 4, 3, 61, 0, .null),
  (60, .iconst 0, 1, 0, 0, .null),
  (61, .ireturn, 1, 0, 0, .null)]
set_option maxRecDepth 100000 in
theorem pm_d44 : pm_c44.all (pm_decB prog_6_method_2_code) = true := by decide +kernel
/-- TrainBearers$Rules.bars(LTrainBearers$Train;II)Z -/
def pm_c45 : List pm_I := [(0, .aload_n 0, 1, 0, 0, .null),
  (1, .aload_n 1, 1, 0, 0, .null),
  (2, .iload_n 2, 1, 0, 0, .null),
  (3, .iload_n 3, 1, 0, 0, .null),
  (4, .iconst (-1), 1, 0, 0, .null),
  (5, .iconst (-1), 1, 0, 0, .null),
  (6, .invokevirtual 22, 3, 0, 50, .null),
  (9, .aload_n 0, 1, 0, 0, .null),
  (10, .aload_n 1, 1, 0, 0, .null),
  (11, .iconst 3, 1, 0, 0, .null),
  (12, .invokevirtual 26, 3, 0, 51, .null),
  (15, .ldc 30, 2, 0, 0, .int (-2000000000)),
  (17, .if_icmp .eq 7, 3, 24, 0, .null),
  (20, .iconst 1, 1, 0, 0, .null),
  (21, .goto 4, 3, 25, 0, .null),
  (24, .iconst 0, 1, 0, 0, .null),
  (25, .ireturn, 1, 0, 0, .null)]
set_option maxRecDepth 100000 in
theorem pm_d45 : pm_c45.all (pm_decB prog_6_method_3_code) = true := by decide +kernel
/-- TrainBearers$Rules.tires(LTrainBearers$Train;III)I -/
def pm_c46 : List pm_I := [(0, .aload_n 0, 1, 0, 0, .null),
  (1, .aload_n 1, 1, 0, 0, .null),
  (2, .iload_n 2, 1, 0, 0, .null),
  (3, .iload_n 3, 1, 0, 0, .null),
  (4, .iconst (-1), 1, 0, 0, .null),
  (5, .iload 4, 2, 0, 0, .null),
  (7, .invokevirtual 22, 3, 0, 50, .null),
  (10, .aload_n 0, 1, 0, 0, .null),
  (11, .aload_n 1, 1, 0, 0, .null),
  (12, .iconst 1, 1, 0, 0, .null),
  (13, .invokevirtual 26, 3, 0, 51, .null),
  (16, .istore 5, 2, 0, 0, .null),
  (18, .iload 5, 2, 0, 0, .null),
  (20, .ldc 30, 2, 0, 0, .int (-2000000000)),
  (22, .if_icmp .ne 10, 3, 32, 0, .null),
  (25, .iload 4, 2, 0, 0, .null),
  (27, .iconst 1, 1, 0, 0, .null),
  (28, .iadd, 1, 0, 0, .null),
  (29, .goto 5, 3, 34, 0, .null),
  (32, .iload 5, 2, 0, 0, .null),
  (34, .bipush 9, 2, 0, 0, .null),
  (36, .invokestatic 31, 3, 3, 130, .null),
  (39, .ireturn, 1, 0, 0, .null)]
set_option maxRecDepth 100000 in
theorem pm_d46 : pm_c46.all (pm_decB prog_6_method_4_code) = true := by decide +kernel
/-- TrainBearers$Rules.brings(LTrainBearers$Train;II)I -/
def pm_c47 : List pm_I := [(0, .iload_n 3, 1, 0, 0, .null),
  (1, .ifCond .gt 5, 3, 6, 0, .null),
  (4, .iconst 0, 1, 0, 0, .null),
  (5, .ireturn, 1, 0, 0, .null),
  (6, .aload_n 0, 1, 0, 0, .null),
  (7, .aload_n 1, 1, 0, 0, .null),
  (8, .iconst (-1), 1, 0, 0, .null),
  (9, .iload_n 2, 1, 0, 0, .null),
  (10, .iload_n 3, 1, 0, 0, .null),
  (11, .iconst (-1), 1, 0, 0, .null),
  (12, .invokevirtual 22, 3, 0, 50, .null),
  (15, .aload_n 0, 1, 0, 0, .null),
  (16, .aload_n 1, 1, 0, 0, .null),
  (17, .iconst 2, 1, 0, 0, .null),
  (18, .invokevirtual 26, 3, 0, 51, .null),
  (21, .istore 4, 2, 0, 0, .null),
  (23, .iload 4, 2, 0, 0, .null),
  (25, .ldc 30, 2, 0, 0, .int (-2000000000)),
  (27, .if_icmp .ne 7, 3, 34, 0, .null),
  (30, .iload_n 3, 1, 0, 0, .null),
  (31, .goto 5, 3, 36, 0, .null),
  (34, .iload 4, 2, 0, 0, .null),
  (36, .bipush 99, 2, 0, 0, .null),
  (38, .invokestatic 31, 3, 3, 130, .null),
  (41, .ireturn, 1, 0, 0, .null)]
set_option maxRecDepth 100000 in
theorem pm_d47 : pm_c47.all (pm_decB prog_6_method_5_code) = true := by decide +kernel
/-- TrainBearers$Rules.dip(LTrainBearers$Train;I)I -/
def pm_c48 : List pm_I := [(0, .aload_n 1, 1, 0, 0, .null),
  (1, .iload_n 2, 1, 0, 0, .null),
  (2, .invokevirtual 52, 3, 0, 69, .null),
  (5, .ifCond .ne 5, 3, 10, 0, .null),
  (8, .iconst (-1), 1, 0, 0, .null),
  (9, .ireturn, 1, 0, 0, .null),
  (10, .aload_n 1, 1, 0, 0, .null),
  (11, .getfield 55, 3, 8, 1, .null),
  (14, .iload_n 2, 1, 0, 0, .null),
  (15, .iaload, 1, 0, 0, .null),
  (16, .aload_n 1, 1, 0, 0, .null),
  (17, .getfield 58, 3, 8, 2, .null),
  (20, .iload_n 2, 1, 0, 0, .null),
  (21, .iaload, 1, 0, 0, .null),
  (22, .iadd, 1, 0, 0, .null),
  (23, .istore_n 3, 1, 0, 0, .null),
  (24, .iconst 0, 1, 0, 0, .null),
  (25, .istore 4, 2, 0, 0, .null),
  (27, .iload 4, 2, 0, 0, .null),
  (29, .aload_n 1, 1, 0, 0, .null),
  (30, .getfield 61, 3, 8, 3, .null),
  (33, .if_icmp .ge 31, 3, 64, 0, .null),
  (36, .aload_n 1, 1, 0, 0, .null),
  (37, .getfield 65, 3, 8, 6, .null),
  (40, .iload 4, 2, 0, 0, .null),
  (42, .iaload, 1, 0, 0, .null),
  (43, .iload_n 2, 1, 0, 0, .null),
  (44, .if_icmp .ne 14, 3, 58, 0, .null),
  (47, .iload_n 3, 1, 0, 0, .null),
  (48, .aload_n 0, 1, 0, 0, .null),
  (49, .aload_n 1, 1, 0, 0, .null),
  (50, .iload 4, 2, 0, 0, .null),
  (52, .iload_n 2, 1, 0, 0, .null),
  (53, .invokevirtual 68, 3, 0, 44, .null),
  (56, .isub, 1, 0, 0, .null),
  (57, .istore_n 3, 1, 0, 0, .null),
  (58, .iinc 4 1, 3, 0, 0, .null),
  (61, .goto (-34), 3, 27, 0, .null),
  (64, .iconst 0, 1, 0, 0, .null),
  (65, .iload_n 3, 1, 0, 0, .null),
  (66, .invokestatic 47, 3, 1, 258, .null),
  (69, .ireturn, 1, 0, 0, .null)]
set_option maxRecDepth 100000 in
theorem pm_d48 : pm_c48.all (pm_decB prog_6_method_6_code) = true := by decide +kernel
/-- TrainBearers$Rules.together(LTrainBearers$Train;)I -/
def pm_c49 : List pm_I := [(0, .iconst 0, 1, 0, 0, .null),
  (1, .istore_n 2, 1, 0, 0, .null),
  (2, .iconst 0, 1, 0, 0, .null),
  (3, .istore_n 3, 1, 0, 0, .null),
  (4, .iload_n 3, 1, 0, 0, .null),
  (5, .aload_n 1, 1, 0, 0, .null),
  (6, .getfield 72, 3, 8, 0, .null),
  (9, .if_icmp .ge 24, 3, 33, 0, .null),
  (12, .iload_n 2, 1, 0, 0, .null),
  (13, .aload_n 0, 1, 0, 0, .null),
  (14, .aload_n 1, 1, 0, 0, .null),
  (15, .iload_n 3, 1, 0, 0, .null),
  (16, .aload_n 0, 1, 0, 0, .null),
  (17, .aload_n 1, 1, 0, 0, .null),
  (18, .iload_n 3, 1, 0, 0, .null),
  (19, .invokevirtual 75, 3, 0, 48, .null),
  (22, .invokevirtual 78, 3, 0, 47, .null),
  (25, .iadd, 1, 0, 0, .null),
  (26, .istore_n 2, 1, 0, 0, .null),
  (27, .iinc 3 1, 3, 0, 0, .null),
  (30, .goto (-26), 3, 4, 0, .null),
  (33, .iload_n 2, 1, 0, 0, .null),
  (34, .ireturn, 1, 0, 0, .null)]
set_option maxRecDepth 100000 in
theorem pm_d49 : pm_c49.all (pm_decB prog_6_method_7_code) = true := by decide +kernel
/-- TrainBearers$Rules.fillWords(LTrainBearers$Train;IIII)V -/
def pm_c50 : List pm_I := [(0, .aload_n 1, 1, 0, 0, .null),
  (1, .iload_n 2, 1, 0, 0, .null),
  (2, .invokevirtual 35, 3, 0, 70, .null),
  (5, .istore 6, 2, 0, 0, .null),
  (7, .aload_n 1, 1, 0, 0, .null),
  (8, .iload_n 3, 1, 0, 0, .null),
  (9, .invokevirtual 52, 3, 0, 69, .null),
  (12, .istore 7, 2, 0, 0, .null),
  (14, .aload_n 0, 1, 0, 0, .null),
  (15, .getfield 18, 3, 4, 1, .null),
  (18, .iconst 0, 1, 0, 0, .null),
  (19, .iload_n 2, 1, 0, 0, .null),
  (20, .iastore, 1, 0, 0, .null),
  (21, .aload_n 0, 1, 0, 0, .null),
  (22, .getfield 18, 3, 4, 1, .null),
  (25, .iconst 1, 1, 0, 0, .null),
  (26, .iload 6, 2, 0, 0, .null),
  (28, .ifCond .eq 12, 3, 40, 0, .null),
  (31, .aload_n 1, 1, 0, 0, .null),
  (32, .getfield 41, 3, 8, 4, .null),
  (35, .iload_n 2, 1, 0, 0, .null),
  (36, .iaload, 1, 0, 0, .null),
  (37, .goto 4, 3, 41, 0, .null),
  (40, .iconst (-1), 1, 0, 0, .null),
  (41, .iastore, 1, 0, 0, .null),
  (42, .aload_n 0, 1, 0, 0, .null),
  (43, .getfield 18, 3, 4, 1, .null),
  (46, .iconst 2, 1, 0, 0, .null),
  (47, .iload 6, 2, 0, 0, .null),
  (49, .ifCond .eq 12, 3, 61, 0, .null),
  (52, .aload_n 1, 1, 0, 0, .null),
  (53, .getfield 44, 3, 8, 5, .null),
  (56, .iload_n 2, 1, 0, 0, .null),
  (57, .iaload, 1, 0, 0, .null),
  (58, .goto 4, 3, 62, 0, .null),
  (61, .iconst (-1), 1, 0, 0, .null),
  (62, .iastore, 1, 0, 0, .null),
  (63, .aload_n 0, 1, 0, 0, .null),
  (64, .getfield 18, 3, 4, 1, .null),
  (67, .iconst 3, 1, 0, 0, .null),
  (68, .iload_n 3, 1, 0, 0, .null),
  (69, .iastore, 1, 0, 0, .null),
  (70, .aload_n 0, 1, 0, 0, .null),
  (71, .getfield 18, 3, 4, 1, .null),
  (74, .iconst 4, 1, 0, 0, .null),
  (75, .iload 7, 2, 0, 0, .null),
  (77, .ifCond .eq 12, 3, 89, 0, .null),
  (80, .aload_n 1, 1, 0, 0, .null),
  (81, .getfield 55, 3, 8, 1, .null),
  (84, .iload_n 3, 1, 0, 0, .null),
  (85, .iaload, 1, 0, 0, .null),
  (86, .goto 4, 3, 90, 0, .null),
  (89, .iconst (-1), 1, 0, 0, .null),
  (90, .iastore, 1, 0, 0, .null),
  (91, .aload_n 0, 1, 0, 0, .null),
  (92, .getfield 18, 3, 4, 1, .null),
  (95, .iconst 5, 1, 0, 0, .null),
  (96, .iload 7, 2, 0, 0, .null),
  (98, .ifCond .eq 12, 3, 110, 0, .null),
  (101, .aload_n 1, 1, 0, 0, .null),
  (102, .getfield 58, 3, 8, 2, .null),
  (105, .iload_n 3, 1, 0, 0, .null),
  (106, .iaload, 1, 0, 0, .null),
  (107, .goto 4, 3, 111, 0, .null),
  (110, .iconst (-1), 1, 0, 0, .null),
  (111, .iastore, 1, 0, 0, .null),
  (112, .aload_n 0, 1, 0, 0, .null),
  (113, .getfield 18, 3, 4, 1, .null),
  (116, .bipush 6, 2, 0, 0, .null),
  (118, .iload 4, 2, 0, 0, .null),
  (120, .iastore, 1, 0, 0, .null),
  (121, .aload_n 0, 1, 0, 0, .null),
  (122, .getfield 18, 3, 4, 1, .null),
  (125, .bipush 7, 2, 0, 0, .null),
  (127, .iload 5, 2, 0, 0, .null),
  (129, .iastore, 1, 0, 0, .null),
  (130, .aload_n 0, 1, 0, 0, .null),
  (131, .getfield 18, 3, 4, 1, .null),
  (134, .bipush 8, 2, 0, 0, .null),
  (136, .aload_n 1, 1, 0, 0, .null),
  (137, .getfield 81, 3, 8, 13, .null),
  (140, .iconst 0, 1, 0, 0, .null),
  (141, .iaload, 1, 0, 0, .null),
  (142, .iastore, 1, 0, 0, .null),
  (143, .aload_n 0, 1, 0, 0, .null),
  (144, .getfield 18, 3, 4, 1, .null),
  (147, .bipush 9, 2, 0, 0, .null),
  (149, .aload_n 1, 1, 0, 0, .null),
  (150, .getfield 81, 3, 8, 13, .null),
  (153, .iconst 2, 1, 0, 0, .null),
  (154, .iaload, 1, 0, 0, .null),
  (155, .iastore, 1, 0, 0, .null),
  (156, .return_, 1, 0, 0, .null)]
set_option maxRecDepth 100000 in
theorem pm_d50 : pm_c50.all (pm_decB prog_6_method_8_code) = true := by decide +kernel
/-- TrainBearers$Rules.tell(LTrainBearers$Train;I)I -/
def pm_c51 : List pm_I := [(0, .aload_n 1, 1, 0, 0, .null),
  (1, .invokevirtual 84, 3, 0, 72, .null),
  (4, .astore_n 3, 1, 0, 0, .null),
  (5, .aload_n 3, 1, 0, 0, .null),
  (6, .ifnonnull 6, 3, 12, 0, .null),
  (9, .ldc 30, 2, 0, 0, .int (-2000000000)),
  (11, .ireturn, 1, 0, 0, .null),
  (12, .aload_n 3, 1, 0, 0, .null),
  (13, .getfield 88, 3, 7, 0, .null),
  (16, .iconst 1, 1, 0, 0, .null),
  (17, .isub, 1, 0, 0, .null),
  (18, .istore 4, 2, 0, 0, .null),
  (20, .iload 4, 2, 0, 0, .null),
  (22, .ifCond .lt 94, 3, 116, 0, .null),
  (25, .aload_n 3, 1, 0, 0, .null),
  (26, .getfield 93, 3, 7, 1, .null),
  (29, .iload 4, 2, 0, 0, .null),
  (31, .iaload, 1, 0, 0, .null),
  (32, .iload_n 2, 1, 0, 0, .null),
  (33, .if_icmp .ne 77, 3, 110, 0, .null),
  (36, .aload_n 3, 1, 0, 0, .null),
  (37, .getfield 96, 3, 7, 4, .null),
  (40, .iload 4, 2, 0, 0, .null),
  (42, .iaload, 1, 0, 0, .null),
  (43, .iconst (-1), 1, 0, 0, .null),
  (44, .if_icmp .eq 26, 3, 70, 0, .null),
  (47, .aload_n 0, 1, 0, 0, .null),
  (48, .getfield 12, 3, 4, 0, .null),
  (51, .aload_n 3, 1, 0, 0, .null),
  (52, .aload_n 3, 1, 0, 0, .null),
  (53, .getfield 96, 3, 7, 4, .null),
  (56, .iload 4, 2, 0, 0, .null),
  (58, .iaload, 1, 0, 0, .null),
  (59, .aload_n 0, 1, 0, 0, .null),
  (60, .getfield 18, 3, 4, 1, .null),
  (63, .invokevirtual 99, 3, 0, 58, .null),
  (66, .iconst 1, 1, 0, 0, .null),
  (67, .if_icmp .ne 43, 3, 110, 0, .null),
  (70, .iload_n 2, 1, 0, 0, .null),
  (71, .iconst 3, 1, 0, 0, .null),
  (72, .if_icmp .ne 7, 3, 79, 0, .null),
  (75, .iconst 1, 1, 0, 0, .null),
  (76, .goto 22, 3, 98, 0, .null),
  (79, .aload_n 0, 1, 0, 0, .null),
  (80, .getfield 12, 3, 4, 0, .null),
  (83, .aload_n 3, 1, 0, 0, .null),
  (84, .aload_n 3, 1, 0, 0, .null),
  (85, .getfield 103, 3, 7, 2, .null),
  (88, .iload 4, 2, 0, 0, .null),
  (90, .iaload, 1, 0, 0, .null),
  (91, .aload_n 0, 1, 0, 0, .null),
  (92, .getfield 18, 3, 4, 1, .null),
  (95, .invokevirtual 99, 3, 0, 58, .null),
  (98, .istore 5, 2, 0, 0, .null),
  (100, .iload 5, 2, 0, 0, .null),
  (102, .ldc 30, 2, 0, 0, .int (-2000000000)),
  (104, .if_icmp .eq 6, 3, 110, 0, .null),
  (107, .iload 5, 2, 0, 0, .null),
  (109, .ireturn, 1, 0, 0, .null),
  (110, .iinc 4 (-1), 3, 0, 0, .null),
  (113, .goto (-93), 3, 20, 0, .null),
  (116, .ldc 30, 2, 0, 0, .int (-2000000000)),
  (118, .ireturn, 1, 0, 0, .null)]
set_option maxRecDepth 100000 in
theorem pm_d51 : pm_c51.all (pm_decB prog_6_method_9_code) = true := by decide +kernel
/-- TrainBearers$Steps.<init>()V -/
def pm_c52 : List pm_I := [(0, .aload_n 0, 1, 0, 0, .null),
  (1, .invokespecial 5, 3, 4, 0, .null),
  (4, .aload_n 0, 1, 0, 0, .null),
  (5, .sipush 448, 3, 0, 0, .null),
  (8, .newarray .int, 2, 0, 0, .null),
  (10, .putfield 11, 3, 5, 0, .null),
  (13, .return_, 1, 0, 0, .null)]
set_option maxRecDepth 100000 in
theorem pm_d52 : pm_c52.all (pm_decB prog_7_method_1_code) = true := by decide +kernel
/-- TrainBearers$Steps.clear()V -/
def pm_c53 : List pm_I := [(0, .aload_n 0, 1, 0, 0, .null),
  (1, .iconst 0, 1, 0, 0, .null),
  (2, .putfield 15, 3, 5, 2, .null),
  (5, .return_, 1, 0, 0, .null)]
set_option maxRecDepth 100000 in
theorem pm_d53 : pm_c53.all (pm_decB prog_7_method_2_code) = true := by decide +kernel
/-- TrainBearers$Steps.keep(LTrainBearers$Train;I)V -/
def pm_c54 : List pm_I := [(0, .aload_n 0, 1, 0, 0, .null),
  (1, .getfield 19, 3, 5, 1, .null),
  (4, .aload_n 0, 1, 0, 0, .null),
  (5, .getfield 15, 3, 5, 2, .null),
  (8, .iadd, 1, 0, 0, .null),
  (9, .bipush 16, 2, 0, 0, .null),
  (11, .irem, 1, 0, 0, .null),
  (12, .bipush 28, 2, 0, 0, .null),
  (14, .imul, 1, 0, 0, .null),
  (15, .istore_n 3, 1, 0, 0, .null),
  (16, .aload_n 1, 1, 0, 0, .null),
  (17, .getfield 22, 3, 8, 2, .null),
  (20, .iconst 0, 1, 0, 0, .null),
  (21, .aload_n 0, 1, 0, 0, .null),
  (22, .getfield 11, 3, 5, 0, .null),
  (25, .iload_n 3, 1, 0, 0, .null),
  (26, .iconst 0, 1, 0, 0, .null),
  (27, .iadd, 1, 0, 0, .null),
  (28, .bipush 8, 2, 0, 0, .null),
  (30, .invokestatic 27, 3, 5, 0, .null),
  (33, .aload_n 1, 1, 0, 0, .null),
  (34, .getfield 33, 3, 8, 5, .null),
  (37, .iconst 0, 1, 0, 0, .null),
  (38, .aload_n 0, 1, 0, 0, .null),
  (39, .getfield 11, 3, 5, 0, .null),
  (42, .iload_n 3, 1, 0, 0, .null),
  (43, .bipush 8, 2, 0, 0, .null),
  (45, .iadd, 1, 0, 0, .null),
  (46, .bipush 8, 2, 0, 0, .null),
  (48, .invokestatic 27, 3, 5, 0, .null),
  (51, .aload_n 1, 1, 0, 0, .null),
  (52, .getfield 36, 3, 8, 6, .null),
  (55, .iconst 0, 1, 0, 0, .null),
  (56, .aload_n 0, 1, 0, 0, .null),
  (57, .getfield 11, 3, 5, 0, .null),
  (60, .iload_n 3, 1, 0, 0, .null),
  (61, .bipush 16, 2, 0, 0, .null),
  (63, .iadd, 1, 0, 0, .null),
  (64, .bipush 8, 2, 0, 0, .null),
  (66, .invokestatic 27, 3, 5, 0, .null),
  (69, .aload_n 0, 1, 0, 0, .null),
  (70, .getfield 11, 3, 5, 0, .null),
  (73, .iload_n 3, 1, 0, 0, .null),
  (74, .bipush 24, 2, 0, 0, .null),
  (76, .iadd, 1, 0, 0, .null),
  (77, .aload_n 1, 1, 0, 0, .null),
  (78, .getfield 39, 3, 8, 8, .null),
  (81, .iastore, 1, 0, 0, .null),
  (82, .aload_n 0, 1, 0, 0, .null),
  (83, .getfield 11, 3, 5, 0, .null),
  (86, .iload_n 3, 1, 0, 0, .null),
  (87, .bipush 25, 2, 0, 0, .null),
  (89, .iadd, 1, 0, 0, .null),
  (90, .aload_n 1, 1, 0, 0, .null),
  (91, .getfield 42, 3, 8, 9, .null),
  (94, .iastore, 1, 0, 0, .null),
  (95, .aload_n 0, 1, 0, 0, .null),
  (96, .getfield 11, 3, 5, 0, .null),
  (99, .iload_n 3, 1, 0, 0, .null),
  (100, .bipush 26, 2, 0, 0, .null),
  (102, .iadd, 1, 0, 0, .null),
  (103, .aload_n 1, 1, 0, 0, .null),
  (104, .getfield 45, 3, 8, 13, .null),
  (107, .iconst 0, 1, 0, 0, .null),
  (108, .iaload, 1, 0, 0, .null),
  (109, .iastore, 1, 0, 0, .null),
  (110, .aload_n 0, 1, 0, 0, .null),
  (111, .getfield 11, 3, 5, 0, .null),
  (114, .iload_n 3, 1, 0, 0, .null),
  (115, .bipush 27, 2, 0, 0, .null),
  (117, .iadd, 1, 0, 0, .null),
  (118, .iload_n 2, 1, 0, 0, .null),
  (119, .iastore, 1, 0, 0, .null),
  (120, .aload_n 0, 1, 0, 0, .null),
  (121, .getfield 15, 3, 5, 2, .null),
  (124, .bipush 16, 2, 0, 0, .null),
  (126, .if_icmp .ge 16, 3, 142, 0, .null),
  (129, .aload_n 0, 1, 0, 0, .null),
  (130, .dup, 1, 0, 0, .null),
  (131, .getfield 15, 3, 5, 2, .null),
  (134, .iconst 1, 1, 0, 0, .null),
  (135, .iadd, 1, 0, 0, .null),
  (136, .putfield 15, 3, 5, 2, .null),
  (139, .goto 16, 3, 155, 0, .null),
  (142, .aload_n 0, 1, 0, 0, .null),
  (143, .aload_n 0, 1, 0, 0, .null),
  (144, .getfield 19, 3, 5, 1, .null),
  (147, .iconst 1, 1, 0, 0, .null),
  (148, .iadd, 1, 0, 0, .null),
  (149, .bipush 16, 2, 0, 0, .null),
  (151, .irem, 1, 0, 0, .null),
  (152, .putfield 19, 3, 5, 1, .null),
  (155, .return_, 1, 0, 0, .null)]
set_option maxRecDepth 100000 in
theorem pm_d54 : pm_c54.all (pm_decB prog_7_method_3_code) = true := by decide +kernel
end
section
/-- TrainBearers$Steps.takeBack(LTrainBearers$Train;)I -/
def pm_c55 : List pm_I := [(0, .aload_n 0, 1, 0, 0, .null),
  (1, .getfield 15, 3, 5, 2, .null),
  (4, .ifCond .ne 6, 3, 10, 0, .null),
  (7, .bipush (-3), 2, 0, 0, .null),
  (9, .ireturn, 1, 0, 0, .null),
  (10, .aload_n 0, 1, 0, 0, .null),
  (11, .dup, 1, 0, 0, .null),
  (12, .getfield 15, 3, 5, 2, .null),
  (15, .iconst 1, 1, 0, 0, .null),
  (16, .isub, 1, 0, 0, .null),
  (17, .putfield 15, 3, 5, 2, .null),
  (20, .aload_n 0, 1, 0, 0, .null),
  (21, .getfield 19, 3, 5, 1, .null),
  (24, .aload_n 0, 1, 0, 0, .null),
  (25, .getfield 15, 3, 5, 2, .null),
  (28, .iadd, 1, 0, 0, .null),
  (29, .bipush 16, 2, 0, 0, .null),
  (31, .irem, 1, 0, 0, .null),
  (32, .bipush 28, 2, 0, 0, .null),
  (34, .imul, 1, 0, 0, .null),
  (35, .istore_n 2, 1, 0, 0, .null),
  (36, .aload_n 0, 1, 0, 0, .null),
  (37, .getfield 11, 3, 5, 0, .null),
  (40, .iload_n 2, 1, 0, 0, .null),
  (41, .iconst 0, 1, 0, 0, .null),
  (42, .iadd, 1, 0, 0, .null),
  (43, .aload_n 1, 1, 0, 0, .null),
  (44, .getfield 22, 3, 8, 2, .null),
  (47, .iconst 0, 1, 0, 0, .null),
  (48, .bipush 8, 2, 0, 0, .null),
  (50, .invokestatic 27, 3, 5, 0, .null),
  (53, .aload_n 0, 1, 0, 0, .null),
  (54, .getfield 11, 3, 5, 0, .null),
  (57, .iload_n 2, 1, 0, 0, .null),
  (58, .bipush 8, 2, 0, 0, .null),
  (60, .iadd, 1, 0, 0, .null),
  (61, .aload_n 1, 1, 0, 0, .null),
  (62, .getfield 33, 3, 8, 5, .null),
  (65, .iconst 0, 1, 0, 0, .null),
  (66, .bipush 8, 2, 0, 0, .null),
  (68, .invokestatic 27, 3, 5, 0, .null),
  (71, .aload_n 0, 1, 0, 0, .null),
  (72, .getfield 11, 3, 5, 0, .null),
  (75, .iload_n 2, 1, 0, 0, .null),
  (76, .bipush 16, 2, 0, 0, .null),
  (78, .iadd, 1, 0, 0, .null),
  (79, .aload_n 1, 1, 0, 0, .null),
  (80, .getfield 36, 3, 8, 6, .null),
  (83, .iconst 0, 1, 0, 0, .null),
  (84, .bipush 8, 2, 0, 0, .null),
  (86, .invokestatic 27, 3, 5, 0, .null),
  (89, .aload_n 1, 1, 0, 0, .null),
  (90, .aload_n 0, 1, 0, 0, .null),
  (91, .getfield 11, 3, 5, 0, .null),
  (94, .iload_n 2, 1, 0, 0, .null),
  (95, .bipush 24, 2, 0, 0, .null),
  (97, .iadd, 1, 0, 0, .null),
  (98, .iaload, 1, 0, 0, .null),
  (99, .putfield 39, 3, 8, 8, .null),
  (102, .aload_n 1, 1, 0, 0, .null),
  (103, .aload_n 0, 1, 0, 0, .null),
  (104, .getfield 11, 3, 5, 0, .null),
  (107, .iload_n 2, 1, 0, 0, .null),
  (108, .bipush 25, 2, 0, 0, .null),
  (110, .iadd, 1, 0, 0, .null),
  (111, .iaload, 1, 0, 0, .null),
  (112, .putfield 42, 3, 8, 9, .null),
  (115, .aload_n 1, 1, 0, 0, .null),
  (116, .getfield 45, 3, 8, 13, .null),
  (119, .iconst 0, 1, 0, 0, .null),
  (120, .aload_n 0, 1, 0, 0, .null),
  (121, .getfield 11, 3, 5, 0, .null),
  (124, .iload_n 2, 1, 0, 0, .null),
  (125, .bipush 26, 2, 0, 0, .null),
  (127, .iadd, 1, 0, 0, .null),
  (128, .iaload, 1, 0, 0, .null),
  (129, .iastore, 1, 0, 0, .null),
  (130, .aload_n 0, 1, 0, 0, .null),
  (131, .getfield 11, 3, 5, 0, .null),
  (134, .iload_n 2, 1, 0, 0, .null),
  (135, .bipush 27, 2, 0, 0, .null),
  (137, .iadd, 1, 0, 0, .null),
  (138, .iaload, 1, 0, 0, .null),
  (139, .ireturn, 1, 0, 0, .null)]
set_option maxRecDepth 100000 in
theorem pm_d55 : pm_c55.all (pm_decB prog_7_method_4_code) = true := by decide +kernel
/-- TrainBearers$Steps.copyFrom(LTrainBearers$Steps;)V -/
def pm_c56 : List pm_I := [(0, .aload_n 0, 1, 0, 0, .null),
  (1, .aload_n 1, 1, 0, 0, .null),
  (2, .getfield 19, 3, 5, 1, .null),
  (5, .putfield 19, 3, 5, 1, .null),
  (8, .aload_n 0, 1, 0, 0, .null),
  (9, .aload_n 1, 1, 0, 0, .null),
  (10, .getfield 15, 3, 5, 2, .null),
  (13, .putfield 15, 3, 5, 2, .null),
  (16, .aload_n 1, 1, 0, 0, .null),
  (17, .getfield 11, 3, 5, 0, .null),
  (20, .iconst 0, 1, 0, 0, .null),
  (21, .aload_n 0, 1, 0, 0, .null),
  (22, .getfield 11, 3, 5, 0, .null),
  (25, .iconst 0, 1, 0, 0, .null),
  (26, .aload_n 0, 1, 0, 0, .null),
  (27, .getfield 11, 3, 5, 0, .null),
  (30, .arraylength, 1, 0, 0, .null),
  (31, .invokestatic 27, 3, 5, 0, .null),
  (34, .return_, 1, 0, 0, .null)]
set_option maxRecDepth 100000 in
theorem pm_d56 : pm_c56.all (pm_decB prog_7_method_5_code) = true := by decide +kernel
/-- TrainBearers$Sums.<init>()V -/
def pm_c57 : List pm_I := [(0, .aload_n 0, 1, 0, 0, .null),
  (1, .invokespecial 3, 3, 4, 0, .null),
  (4, .aload_n 0, 1, 0, 0, .null),
  (5, .bipush 51, 2, 0, 0, .null),
  (7, .newarray .long, 2, 0, 0, .null),
  (9, .putfield 9, 3, 6, 0, .null),
  (12, .return_, 1, 0, 0, .null)]
set_option maxRecDepth 100000 in
theorem pm_d57 : pm_c57.all (pm_decB prog_8_method_1_code) = true := by decide +kernel
/-- TrainBearers$Sums.ask(LTrainBearers$Text;I[I)I -/
def pm_c58 : List pm_I := [(0, .iconst 0, 1, 0, 0, .null),
  (1, .istore 4, 2, 0, 0, .null),
  (3, .iconst 0, 1, 0, 0, .null),
  (4, .iload_n 2, 1, 0, 0, .null),
  (5, .invokestatic 15, 3, 1, 258, .null),
  (8, .istore 5, 2, 0, 0, .null),
  (10, .iload 5, 2, 0, 0, .null),
  (12, .aload_n 1, 1, 0, 0, .null),
  (13, .getfield 21, 3, 7, 6, .null),
  (16, .if_icmp .ge 284, 3, 300, 0, .null),
  (19, .aload_n 1, 1, 0, 0, .null),
  (20, .getfield 27, 3, 7, 7, .null),
  (23, .iload 5, 2, 0, 0, .null),
  (25, .iaload, 1, 0, 0, .null),
  (26, .ifCond .eq 274, 3, 300, 0, .null),
  (29, .aload_n 1, 1, 0, 0, .null),
  (30, .getfield 27, 3, 7, 7, .null),
  (33, .iload 5, 2, 0, 0, .null),
  (35, .iaload, 1, 0, 0, .null),
  (36, .istore 6, 2, 0, 0, .null),
  (38, .aload_n 1, 1, 0, 0, .null),
  (39, .getfield 31, 3, 7, 8, .null),
  (42, .iload 5, 2, 0, 0, .null),
  (44, .iaload, 1, 0, 0, .null),
  (45, .istore 7, 2, 0, 0, .null),
  (47, .iload 6, 2, 0, 0, .null),
  (49, .iconst 1, 1, 0, 0, .null),
  (50, .if_icmp .eq 9, 3, 59, 0, .null),
  (53, .iload 6, 2, 0, 0, .null),
  (55, .iconst 2, 1, 0, 0, .null),
  (56, .if_icmp .ne 76, 3, 132, 0, .null),
  (59, .iload 7, 2, 0, 0, .null),
  (61, .ifCond .lt 14, 3, 75, 0, .null),
  (64, .iload 7, 2, 0, 0, .null),
  (66, .aload_n 3, 1, 0, 0, .null),
  (67, .arraylength, 1, 0, 0, .null),
  (68, .if_icmp .ge 7, 3, 75, 0, .null),
  (71, .iconst 1, 1, 0, 0, .null),
  (72, .goto 4, 3, 76, 0, .null),
  (75, .iconst 0, 1, 0, 0, .null),
  (76, .istore 8, 2, 0, 0, .null),
  (78, .iload 4, 2, 0, 0, .null),
  (80, .aload_n 0, 1, 0, 0, .null),
  (81, .getfield 9, 3, 6, 0, .null),
  (84, .arraylength, 1, 0, 0, .null),
  (85, .if_icmp .ge 14, 3, 99, 0, .null),
  (88, .iload 6, 2, 0, 0, .null),
  (90, .iconst 2, 1, 0, 0, .null),
  (91, .if_icmp .ne 11, 3, 102, 0, .null),
  (94, .iload 8, 2, 0, 0, .null),
  (96, .ifCond .ne 6, 3, 102, 0, .null),
  (99, .ldc 34, 2, 0, 0, .int (-2000000000)),
  (101, .ireturn, 1, 0, 0, .null),
  (102, .aload_n 0, 1, 0, 0, .null),
  (103, .getfield 9, 3, 6, 0, .null),
  (106, .iload 4, 2, 0, 0, .null),
  (108, .iload 6, 2, 0, 0, .null),
  (110, .iconst 1, 1, 0, 0, .null),
  (111, .if_icmp .ne 9, 3, 120, 0, .null),
  (114, .iload 7, 2, 0, 0, .null),
  (116, .i2l, 1, 0, 0, .null),
  (117, .goto 8, 3, 125, 0, .null),
  (120, .aload_n 3, 1, 0, 0, .null),
  (121, .iload 7, 2, 0, 0, .null),
  (123, .iaload, 1, 0, 0, .null),
  (124, .i2l, 1, 0, 0, .null),
  (125, .lastore, 1, 0, 0, .null),
  (126, .iinc 4 1, 3, 0, 0, .null),
  (129, .goto 165, 3, 294, 0, .null),
  (132, .iload 6, 2, 0, 0, .null),
  (134, .iconst 3, 1, 0, 0, .null),
  (135, .if_icmp .ne 31, 3, 166, 0, .null),
  (138, .iload 4, 2, 0, 0, .null),
  (140, .ifCond .le 26, 3, 166, 0, .null),
  (143, .aload_n 0, 1, 0, 0, .null),
  (144, .getfield 9, 3, 6, 0, .null),
  (147, .iload 4, 2, 0, 0, .null),
  (149, .iconst 1, 1, 0, 0, .null),
  (150, .isub, 1, 0, 0, .null),
  (151, .lconst 1, 1, 0, 0, .null),
  (152, .aload_n 0, 1, 0, 0, .null),
  (153, .getfield 9, 3, 6, 0, .null),
  (156, .iload 4, 2, 0, 0, .null),
  (158, .iconst 1, 1, 0, 0, .null),
  (159, .isub, 1, 0, 0, .null),
  (160, .laload, 1, 0, 0, .null),
  (161, .lsub, 1, 0, 0, .null),
  (162, .lastore, 1, 0, 0, .null),
  (163, .goto 131, 3, 294, 0, .null),
  (166, .iload 6, 2, 0, 0, .null),
  (168, .iconst 4, 1, 0, 0, .null),
  (169, .if_icmp .eq 9, 3, 178, 0, .null),
  (172, .iload 6, 2, 0, 0, .null),
  (174, .iconst 5, 1, 0, 0, .null),
  (175, .if_icmp .ne 53, 3, 228, 0, .null),
  (178, .iload 4, 2, 0, 0, .null),
  (180, .ifCond .le 48, 3, 228, 0, .null),
  (183, .aload_n 0, 1, 0, 0, .null),
  (184, .getfield 9, 3, 6, 0, .null),
  (187, .iload 4, 2, 0, 0, .null),
  (189, .iconst 1, 1, 0, 0, .null),
  (190, .isub, 1, 0, 0, .null),
  (191, .laload, 1, 0, 0, .null),
  (192, .iload 6, 2, 0, 0, .null),
  (194, .iconst 5, 1, 0, 0, .null),
  (195, .if_icmp .ne 7, 3, 202, 0, .null),
  (198, .iconst 1, 1, 0, 0, .null),
  (199, .goto 4, 3, 203, 0, .null),
  (202, .iconst 0, 1, 0, 0, .null),
  (203, .i2l, 1, 0, 0, .null),
  (204, .lcmp, 1, 0, 0, .null),
  (205, .ifCond .ne 17, 3, 222, 0, .null),
  (208, .iload 5, 2, 0, 0, .null),
  (210, .iload 7, 2, 0, 0, .null),
  (212, .iconst 1, 1, 0, 0, .null),
  (213, .isub, 1, 0, 0, .null),
  (214, .invokestatic 15, 3, 1, 258, .null),
  (217, .istore 5, 2, 0, 0, .null),
  (219, .goto 75, 3, 294, 0, .null),
  (222, .iinc 4 (-1), 3, 0, 0, .null),
  (225, .goto 69, 3, 294, 0, .null),
  (228, .iload 4, 2, 0, 0, .null),
  (230, .iconst 1, 1, 0, 0, .null),
  (231, .if_icmp .le 63, 3, 294, 0, .null),
  (234, .iload 6, 2, 0, 0, .null),
  (236, .aload_n 0, 1, 0, 0, .null),
  (237, .getfield 9, 3, 6, 0, .null),
  (240, .iload 4, 2, 0, 0, .null),
  (242, .iconst 2, 1, 0, 0, .null),
  (243, .isub, 1, 0, 0, .null),
  (244, .laload, 1, 0, 0, .null),
  (245, .aload_n 0, 1, 0, 0, .null),
  (246, .getfield 9, 3, 6, 0, .null),
  (249, .iload 4, 2, 0, 0, .null),
  (251, .iconst 1, 1, 0, 0, .null),
  (252, .isub, 1, 0, 0, .null),
  (253, .laload, 1, 0, 0, .null),
  (254, .invokestatic 35, 3, 1, 59, .null),
  (257, .lstore 8, 2, 0, 0, .null),
  (259, .lload 8, 2, 0, 0, .null),
  (261, .ldc2_w 39, 3, 1, 0, .long (1000000000)),
  (264, .lcmp, 1, 0, 0, .null),
  (265, .ifCond .gt 12, 3, 277, 0, .null),
  (268, .lload 8, 2, 0, 0, .null),
  (270, .ldc2_w 41, 3, 1, 0, .long (-1000000000)),
  (273, .lcmp, 1, 0, 0, .null),
  (274, .ifCond .ge 6, 3, 280, 0, .null),
  (277, .ldc 34, 2, 0, 0, .int (-2000000000)),
  (279, .ireturn, 1, 0, 0, .null),
  (280, .iinc 4 (-1), 3, 0, 0, .null),
  (283, .aload_n 0, 1, 0, 0, .null),
  (284, .getfield 9, 3, 6, 0, .null),
  (287, .iload 4, 2, 0, 0, .null),
  (289, .iconst 1, 1, 0, 0, .null),
  (290, .isub, 1, 0, 0, .null),
  (291, .lload 8, 2, 0, 0, .null),
  (293, .lastore, 1, 0, 0, .null),
  (294, .iinc 5 1, 3, 0, 0, .null),
  (297, .goto (-287), 3, 10, 0, .null),
  (300, .iload 4, 2, 0, 0, .null),
  (302, .ifCond .le 16, 3, 318, 0, .null),
  (305, .aload_n 0, 1, 0, 0, .null),
  (306, .getfield 9, 3, 6, 0, .null),
  (309, .iload 4, 2, 0, 0, .null),
  (311, .iconst 1, 1, 0, 0, .null),
  (312, .isub, 1, 0, 0, .null),
  (313, .laload, 1, 0, 0, .null),
  (314, .l2i, 1, 0, 0, .null),
  (315, .goto 5, 3, 320, 0, .null),
  (318, .ldc 34, 2, 0, 0, .int (-2000000000)),
  (320, .ireturn, 1, 0, 0, .null)]
set_option maxRecDepth 100000 in
theorem pm_d58 : pm_c58.all (pm_decB prog_8_method_2_code) = true := by decide +kernel
/-- TrainBearers$Sums.combined(IJJ)J -/
def pm_c59 : List pm_I := [(0, .iload_n 0, 1, 0, 0, .null),
  (1, .tableswitch 111 6 12 #[43, 47, 51, 55, 71, 87, 99], 43, 0, 0, .null),
  (44, .lload_n 1, 1, 0, 0, .null),
  (45, .lload_n 3, 1, 0, 0, .null),
  (46, .ladd, 1, 0, 0, .null),
  (47, .lreturn, 1, 0, 0, .null),
  (48, .lload_n 1, 1, 0, 0, .null),
  (49, .lload_n 3, 1, 0, 0, .null),
  (50, .lsub, 1, 0, 0, .null),
  (51, .lreturn, 1, 0, 0, .null),
  (52, .lload_n 1, 1, 0, 0, .null),
  (53, .lload_n 3, 1, 0, 0, .null),
  (54, .lmul, 1, 0, 0, .null),
  (55, .lreturn, 1, 0, 0, .null),
  (56, .lload_n 3, 1, 0, 0, .null),
  (57, .lconst 0, 1, 0, 0, .null),
  (58, .lcmp, 1, 0, 0, .null),
  (59, .ifCond .ne 9, 3, 68, 0, .null),
  (62, .ldc2_w 43, 3, 1, 0, .long (1000000001)),
  (65, .goto 6, 3, 71, 0, .null),
  (68, .lload_n 1, 1, 0, 0, .null),
  (69, .lload_n 3, 1, 0, 0, .null),
  (70, .ldiv, 1, 0, 0, .null),
  (71, .lreturn, 1, 0, 0, .null),
  (72, .lload_n 3, 1, 0, 0, .null),
  (73, .lconst 0, 1, 0, 0, .null),
  (74, .lcmp, 1, 0, 0, .null),
  (75, .ifCond .ne 9, 3, 84, 0, .null),
  (78, .ldc2_w 43, 3, 1, 0, .long (1000000001)),
  (81, .goto 6, 3, 87, 0, .null),
  (84, .lload_n 1, 1, 0, 0, .null),
  (85, .lload_n 3, 1, 0, 0, .null),
  (86, .lrem, 1, 0, 0, .null),
  (87, .lreturn, 1, 0, 0, .null),
  (88, .lload_n 1, 1, 0, 0, .null),
  (89, .lload_n 3, 1, 0, 0, .null),
  (90, .lcmp, 1, 0, 0, .null),
  (91, .ifCond .ge 7, 3, 98, 0, .null),
  (94, .lconst 1, 1, 0, 0, .null),
  (95, .goto 4, 3, 99, 0, .null),
  (98, .lconst 0, 1, 0, 0, .null),
  (99, .lreturn, 1, 0, 0, .null),
  (100, .lload_n 1, 1, 0, 0, .null),
  (101, .lload_n 3, 1, 0, 0, .null),
  (102, .lcmp, 1, 0, 0, .null),
  (103, .ifCond .le 7, 3, 110, 0, .null),
  (106, .lconst 1, 1, 0, 0, .null),
  (107, .goto 4, 3, 111, 0, .null),
  (110, .lconst 0, 1, 0, 0, .null),
  (111, .lreturn, 1, 0, 0, .null),
  (112, .lload_n 1, 1, 0, 0, .null),
  (113, .lload_n 3, 1, 0, 0, .null),
  (114, .lcmp, 1, 0, 0, .null),
  (115, .ifCond .ne 7, 3, 122, 0, .null),
  (118, .lconst 1, 1, 0, 0, .null),
  (119, .goto 4, 3, 123, 0, .null),
  (122, .lconst 0, 1, 0, 0, .null),
  (123, .lreturn, 1, 0, 0, .null)]
set_option maxRecDepth 100000 in
theorem pm_d59 : pm_c59.all (pm_decB prog_8_method_3_code) = true := by decide +kernel
/-- TrainBearers$Text.<init>()V -/
def pm_c60 : List pm_I := [(0, .aload_n 0, 1, 0, 0, .null),
  (1, .invokespecial 3, 3, 4, 0, .null),
  (4, .aload_n 0, 1, 0, 0, .null),
  (5, .bipush 12, 2, 0, 0, .null),
  (7, .newarray .int, 2, 0, 0, .null),
  (9, .putfield 9, 3, 7, 1, .null),
  (12, .aload_n 0, 1, 0, 0, .null),
  (13, .bipush 12, 2, 0, 0, .null),
  (15, .newarray .int, 2, 0, 0, .null),
  (17, .putfield 15, 3, 7, 2, .null),
  (20, .aload_n 0, 1, 0, 0, .null),
  (21, .bipush 12, 2, 0, 0, .null),
  (23, .newarray .int, 2, 0, 0, .null),
  (25, .putfield 18, 3, 7, 3, .null),
  (28, .aload_n 0, 1, 0, 0, .null),
  (29, .bipush 12, 2, 0, 0, .null),
  (31, .newarray .int, 2, 0, 0, .null),
  (33, .putfield 21, 3, 7, 4, .null),
  (36, .aload_n 0, 1, 0, 0, .null),
  (37, .bipush 12, 2, 0, 0, .null),
  (39, .newarray .int, 2, 0, 0, .null),
  (41, .putfield 24, 3, 7, 5, .null),
  (44, .aload_n 0, 1, 0, 0, .null),
  (45, .sipush 400, 3, 0, 0, .null),
  (48, .newarray .int, 2, 0, 0, .null),
  (50, .putfield 27, 3, 7, 7, .null),
  (53, .aload_n 0, 1, 0, 0, .null),
  (54, .sipush 400, 3, 0, 0, .null),
  (57, .newarray .int, 2, 0, 0, .null),
  (59, .putfield 30, 3, 7, 8, .null),
  (62, .return_, 1, 0, 0, .null)]
set_option maxRecDepth 100000 in
theorem pm_d60 : pm_c60.all (pm_decB prog_9_method_1_code) = true := by decide +kernel
/-- TrainBearers$Text.<init>(LTrainBearers$Text;)V -/
def pm_c61 : List pm_I := [(0, .aload_n 0, 1, 0, 0, .null),
  (1, .invokespecial 3, 3, 4, 0, .null),
  (4, .aload_n 0, 1, 0, 0, .null),
  (5, .aload_n 1, 1, 0, 0, .null),
  (6, .getfield 33, 3, 7, 0, .null),
  (9, .putfield 33, 3, 7, 0, .null),
  (12, .aload_n 0, 1, 0, 0, .null),
  (13, .aload_n 1, 1, 0, 0, .null),
  (14, .getfield 9, 3, 7, 1, .null),
  (17, .aload_n 0, 1, 0, 0, .null),
  (18, .getfield 33, 3, 7, 0, .null),
  (21, .invokestatic 37, 3, 1, 267, .null),
  (24, .putfield 9, 3, 7, 1, .null),
  (27, .aload_n 0, 1, 0, 0, .null),
  (28, .aload_n 1, 1, 0, 0, .null),
  (29, .getfield 15, 3, 7, 2, .null),
  (32, .aload_n 0, 1, 0, 0, .null),
  (33, .getfield 33, 3, 7, 0, .null),
  (36, .invokestatic 37, 3, 1, 267, .null),
  (39, .putfield 15, 3, 7, 2, .null),
  (42, .aload_n 0, 1, 0, 0, .null),
  (43, .aload_n 1, 1, 0, 0, .null),
  (44, .getfield 18, 3, 7, 3, .null),
  (47, .aload_n 0, 1, 0, 0, .null),
  (48, .getfield 33, 3, 7, 0, .null),
  (51, .invokestatic 37, 3, 1, 267, .null),
  (54, .putfield 18, 3, 7, 3, .null),
  (57, .aload_n 0, 1, 0, 0, .null),
  (58, .aload_n 1, 1, 0, 0, .null),
  (59, .getfield 21, 3, 7, 4, .null),
  (62, .aload_n 0, 1, 0, 0, .null),
  (63, .getfield 33, 3, 7, 0, .null),
  (66, .invokestatic 37, 3, 1, 267, .null),
  (69, .putfield 21, 3, 7, 4, .null),
  (72, .aload_n 0, 1, 0, 0, .null),
  (73, .aload_n 1, 1, 0, 0, .null),
  (74, .getfield 24, 3, 7, 5, .null),
  (77, .aload_n 0, 1, 0, 0, .null),
  (78, .getfield 33, 3, 7, 0, .null),
  (81, .invokestatic 37, 3, 1, 267, .null),
  (84, .putfield 24, 3, 7, 5, .null),
  (87, .aload_n 0, 1, 0, 0, .null),
  (88, .aload_n 1, 1, 0, 0, .null),
  (89, .getfield 43, 3, 7, 6, .null),
  (92, .putfield 43, 3, 7, 6, .null),
  (95, .aload_n 0, 1, 0, 0, .null),
  (96, .aload_n 1, 1, 0, 0, .null),
  (97, .getfield 27, 3, 7, 7, .null),
  (100, .aload_n 0, 1, 0, 0, .null),
  (101, .getfield 43, 3, 7, 6, .null),
  (104, .invokestatic 37, 3, 1, 267, .null),
  (107, .putfield 27, 3, 7, 7, .null),
  (110, .aload_n 0, 1, 0, 0, .null),
  (111, .aload_n 1, 1, 0, 0, .null),
  (112, .getfield 30, 3, 7, 8, .null),
  (115, .aload_n 0, 1, 0, 0, .null),
  (116, .getfield 43, 3, 7, 6, .null),
  (119, .invokestatic 37, 3, 1, 267, .null),
  (122, .putfield 30, 3, 7, 8, .null),
  (125, .aload_n 0, 1, 0, 0, .null),
  (126, .aload_n 1, 1, 0, 0, .null),
  (127, .getfield 46, 3, 7, 9, .null),
  (130, .putfield 46, 3, 7, 9, .null),
  (133, .return_, 1, 0, 0, .null)]
set_option maxRecDepth 100000 in
theorem pm_d61 : pm_c61.all (pm_decB prog_9_method_2_code) = true := by decide +kernel
/-- TrainBearers$Text.clear()V -/
def pm_c62 : List pm_I := [(0, .aload_n 0, 1, 0, 0, .null),
  (1, .iconst 0, 1, 0, 0, .null),
  (2, .putfield 33, 3, 7, 0, .null),
  (5, .aload_n 0, 1, 0, 0, .null),
  (6, .iconst 0, 1, 0, 0, .null),
  (7, .putfield 43, 3, 7, 6, .null),
  (10, .aload_n 0, 1, 0, 0, .null),
  (11, .iconst 0, 1, 0, 0, .null),
  (12, .putfield 46, 3, 7, 9, .null),
  (15, .return_, 1, 0, 0, .null)]
set_option maxRecDepth 100000 in
theorem pm_d62 : pm_c62.all (pm_decB prog_9_method_3_code) = true := by decide +kernel
/-- TrainBearers$Text.emit(II)V -/
def pm_c63 : List pm_I := [(0, .aload_n 0, 1, 0, 0, .null),
  (1, .getfield 43, 3, 7, 6, .null),
  (4, .aload_n 0, 1, 0, 0, .null),
  (5, .getfield 27, 3, 7, 7, .null),
  (8, .arraylength, 1, 0, 0, .null),
  (9, .if_icmp .ge 33, 3, 42, 0, .null),
  (12, .aload_n 0, 1, 0, 0, .null),
  (13, .getfield 27, 3, 7, 7, .null),
  (16, .aload_n 0, 1, 0, 0, .null),
  (17, .getfield 43, 3, 7, 6, .null),
  (20, .iload_n 1, 1, 0, 0, .null),
  (21, .iastore, 1, 0, 0, .null),
  (22, .aload_n 0, 1, 0, 0, .null),
  (23, .getfield 30, 3, 7, 8, .null),
  (26, .aload_n 0, 1, 0, 0, .null),
  (27, .getfield 43, 3, 7, 6, .null),
  (30, .iload_n 2, 1, 0, 0, .null),
  (31, .iastore, 1, 0, 0, .null),
  (32, .aload_n 0, 1, 0, 0, .null),
  (33, .dup, 1, 0, 0, .null),
  (34, .getfield 43, 3, 7, 6, .null),
  (37, .iconst 1, 1, 0, 0, .null),
  (38, .iadd, 1, 0, 0, .null),
  (39, .putfield 43, 3, 7, 6, .null),
  (42, .return_, 1, 0, 0, .null)]
set_option maxRecDepth 100000 in
theorem pm_d63 : pm_c63.all (pm_decB prog_9_method_4_code) = true := by decide +kernel
/-- TrainBearers$Text.emitOf(ZI)V -/
def pm_c64 : List pm_I := [(0, .iload_n 1, 1, 0, 0, .null),
  (1, .ifCond .eq 15, 3, 16, 0, .null),
  (4, .aload_n 0, 1, 0, 0, .null),
  (5, .dup, 1, 0, 0, .null),
  (6, .getfield 46, 3, 7, 9, .null),
  (9, .iconst 1, 1, 0, 0, .null),
  (10, .iload_n 2, 1, 0, 0, .null),
  (11, .ishl, 1, 0, 0, .null),
  (12, .ior, 1, 0, 0, .null),
  (13, .putfield 46, 3, 7, 9, .null),
  (16, .aload_n 0, 1, 0, 0, .null),
  (17, .iconst 2, 1, 0, 0, .null),
  (18, .iload_n 1, 1, 0, 0, .null),
  (19, .ifCond .eq 7, 3, 26, 0, .null),
  (22, .iconst 5, 1, 0, 0, .null),
  (23, .goto 5, 3, 28, 0, .null),
  (26, .bipush 13, 2, 0, 0, .null),
  (28, .iload_n 2, 1, 0, 0, .null),
  (29, .iadd, 1, 0, 0, .null),
  (30, .invokevirtual 49, 3, 0, 63, .null),
  (33, .return_, 1, 0, 0, .null)]
set_option maxRecDepth 100000 in
theorem pm_d64 : pm_c64.all (pm_decB prog_9_method_5_code) = true := by decide +kernel
/-- TrainBearers$Text.aim(I)V -/
def pm_c65 : List pm_I := [(0, .iload_n 1, 1, 0, 0, .null),
  (1, .ifCond .lt 21, 3, 22, 0, .null),
  (4, .iload_n 1, 1, 0, 0, .null),
  (5, .aload_n 0, 1, 0, 0, .null),
  (6, .getfield 43, 3, 7, 6, .null),
  (9, .if_icmp .ge 13, 3, 22, 0, .null),
  (12, .aload_n 0, 1, 0, 0, .null),
  (13, .getfield 30, 3, 7, 8, .null),
  (16, .iload_n 1, 1, 0, 0, .null),
  (17, .aload_n 0, 1, 0, 0, .null),
  (18, .getfield 43, 3, 7, 6, .null),
  (21, .iastore, 1, 0, 0, .null),
  (22, .return_, 1, 0, 0, .null)]
set_option maxRecDepth 100000 in
theorem pm_d65 : pm_c65.all (pm_decB prog_9_method_6_code) = true := by decide +kernel
/-- TrainBearers$Text.addClause(I)V -/
def pm_c66 : List pm_I := [(0, .aload_n 0, 1, 0, 0, .null),
  (1, .getfield 33, 3, 7, 0, .null),
  (4, .bipush 12, 2, 0, 0, .null),
  (6, .if_icmp .ge 63, 3, 69, 0, .null),
  (9, .aload_n 0, 1, 0, 0, .null),
  (10, .getfield 9, 3, 7, 1, .null),
  (13, .aload_n 0, 1, 0, 0, .null),
  (14, .getfield 33, 3, 7, 0, .null),
  (17, .iload_n 1, 1, 0, 0, .null),
  (18, .iastore, 1, 0, 0, .null),
  (19, .aload_n 0, 1, 0, 0, .null),
  (20, .getfield 15, 3, 7, 2, .null),
  (23, .aload_n 0, 1, 0, 0, .null),
  (24, .getfield 33, 3, 7, 0, .null),
  (27, .iconst (-1), 1, 0, 0, .null),
  (28, .iastore, 1, 0, 0, .null),
  (29, .aload_n 0, 1, 0, 0, .null),
  (30, .getfield 18, 3, 7, 3, .null),
  (33, .aload_n 0, 1, 0, 0, .null),
  (34, .getfield 33, 3, 7, 0, .null),
  (37, .iconst (-1), 1, 0, 0, .null),
  (38, .iastore, 1, 0, 0, .null),
  (39, .aload_n 0, 1, 0, 0, .null),
  (40, .getfield 21, 3, 7, 4, .null),
  (43, .aload_n 0, 1, 0, 0, .null),
  (44, .getfield 33, 3, 7, 0, .null),
  (47, .iconst (-1), 1, 0, 0, .null),
  (48, .iastore, 1, 0, 0, .null),
  (49, .aload_n 0, 1, 0, 0, .null),
  (50, .getfield 24, 3, 7, 5, .null),
  (53, .aload_n 0, 1, 0, 0, .null),
  (54, .getfield 33, 3, 7, 0, .null),
  (57, .iconst 1, 1, 0, 0, .null),
  (58, .iastore, 1, 0, 0, .null),
  (59, .aload_n 0, 1, 0, 0, .null),
  (60, .dup, 1, 0, 0, .null),
  (61, .getfield 33, 3, 7, 0, .null),
  (64, .iconst 1, 1, 0, 0, .null),
  (65, .iadd, 1, 0, 0, .null),
  (66, .putfield 33, 3, 7, 0, .null),
  (69, .return_, 1, 0, 0, .null)]
set_option maxRecDepth 100000 in
theorem pm_d66 : pm_c66.all (pm_decB prog_9_method_7_code) = true := by decide +kernel
/-- TrainBearers$Train.<init>()V -/
def pm_c67 : List pm_I := [(0, .aload_n 0, 1, 0, 0, .null),
  (1, .invokespecial 3, 3, 4, 0, .null),
  (4, .aload_n 0, 1, 0, 0, .null),
  (5, .bipush 8, 2, 0, 0, .null),
  (7, .newarray .int, 2, 0, 0, .null),
  (9, .putfield 9, 3, 8, 1, .null),
  (12, .aload_n 0, 1, 0, 0, .null),
  (13, .bipush 8, 2, 0, 0, .null),
  (15, .newarray .int, 2, 0, 0, .null),
  (17, .putfield 15, 3, 8, 2, .null),
  (20, .aload_n 0, 1, 0, 0, .null),
  (21, .bipush 8, 2, 0, 0, .null),
  (23, .newarray .int, 2, 0, 0, .null),
  (25, .putfield 18, 3, 8, 4, .null),
  (28, .aload_n 0, 1, 0, 0, .null),
  (29, .bipush 8, 2, 0, 0, .null),
  (31, .newarray .int, 2, 0, 0, .null),
  (33, .putfield 21, 3, 8, 5, .null),
  (36, .aload_n 0, 1, 0, 0, .null),
  (37, .bipush 8, 2, 0, 0, .null),
  (39, .newarray .int, 2, 0, 0, .null),
  (41, .putfield 24, 3, 8, 6, .null),
  (44, .aload_n 0, 1, 0, 0, .null),
  (45, .bipush 36, 2, 0, 0, .null),
  (47, .newarray .int, 2, 0, 0, .null),
  (49, .putfield 27, 3, 8, 7, .null),
  (52, .aload_n 0, 1, 0, 0, .null),
  (53, .bipush 6, 2, 0, 0, .null),
  (55, .newarray .int, 2, 0, 0, .null),
  (57, .putfield 30, 3, 8, 11, .null),
  (60, .aload_n 0, 1, 0, 0, .null),
  (61, .bipush 6, 2, 0, 0, .null),
  (63, .newarray .int, 2, 0, 0, .null),
  (65, .putfield 33, 3, 8, 12, .null),
  (68, .aload_n 0, 1, 0, 0, .null),
  (69, .iconst 3, 1, 0, 0, .null),
  (70, .newarray .int, 2, 0, 0, .null),
  (72, .dup, 1, 0, 0, .null),
  (73, .iconst 0, 1, 0, 0, .null),
  (74, .iconst 0, 1, 0, 0, .null),
  (75, .iastore, 1, 0, 0, .null),
  (76, .dup, 1, 0, 0, .null),
  (77, .iconst 1, 1, 0, 0, .null),
  (78, .iconst 1, 1, 0, 0, .null),
  (79, .iastore, 1, 0, 0, .null),
  (80, .dup, 1, 0, 0, .null),
  (81, .iconst 2, 1, 0, 0, .null),
  (82, .iconst 0, 1, 0, 0, .null),
  (83, .iastore, 1, 0, 0, .null),
  (84, .putfield 36, 3, 8, 13, .null),
  (87, .aload_n 0, 1, 0, 0, .null),
  (88, .bipush 6, 2, 0, 0, .null),
  (90, .anewarray 39, 3, 3, 0, .null),
  (93, .putfield 41, 3, 8, 15, .null),
  (96, .aload_n 0, 1, 0, 0, .null),
  (97, .iconst (-1), 1, 0, 0, .null),
  (98, .putfield 45, 3, 8, 16, .null),
  (101, .aload_n 0, 1, 0, 0, .null),
  (102, .getfield 24, 3, 8, 6, .null),
  (105, .iconst (-1), 1, 0, 0, .null),
  (106, .invokestatic 49, 3, 1, 266, .null),
  (109, .aload_n 0, 1, 0, 0, .null),
  (110, .getfield 27, 3, 8, 7, .null),
  (113, .iconst (-1), 1, 0, 0, .null),
  (114, .invokestatic 49, 3, 1, 266, .null),
  (117, .return_, 1, 0, 0, .null)]
set_option maxRecDepth 100000 in
theorem pm_d67 : pm_c67.all (pm_decB prog_10_method_1_code) = true := by decide +kernel
/-- TrainBearers$Train.copyFrom(LTrainBearers$Train;)V -/
def pm_c68 : List pm_I := [(0, .aload_n 0, 1, 0, 0, .null),
  (1, .aload_n 1, 1, 0, 0, .null),
  (2, .getfield 55, 3, 8, 0, .null),
  (5, .putfield 55, 3, 8, 0, .null),
  (8, .aload_n 0, 1, 0, 0, .null),
  (9, .aload_n 1, 1, 0, 0, .null),
  (10, .getfield 58, 3, 8, 3, .null),
  (13, .putfield 58, 3, 8, 3, .null),
  (16, .aload_n 0, 1, 0, 0, .null),
  (17, .aload_n 1, 1, 0, 0, .null),
  (18, .getfield 61, 3, 8, 8, .null),
  (21, .putfield 61, 3, 8, 8, .null),
  (24, .aload_n 0, 1, 0, 0, .null),
  (25, .aload_n 1, 1, 0, 0, .null),
  (26, .getfield 64, 3, 8, 9, .null),
  (29, .putfield 64, 3, 8, 9, .null),
  (32, .aload_n 0, 1, 0, 0, .null),
  (33, .aload_n 1, 1, 0, 0, .null),
  (34, .getfield 67, 3, 8, 10, .null),
  (37, .putfield 67, 3, 8, 10, .null),
  (40, .aload_n 0, 1, 0, 0, .null),
  (41, .aload_n 1, 1, 0, 0, .null),
  (42, .getfield 70, 3, 8, 14, .null),
  (45, .putfield 70, 3, 8, 14, .null),
  (48, .aload_n 0, 1, 0, 0, .null),
  (49, .aload_n 1, 1, 0, 0, .null),
  (50, .getfield 45, 3, 8, 16, .null),
  (53, .putfield 45, 3, 8, 16, .null),
  (56, .aload_n 1, 1, 0, 0, .null),
  (57, .getfield 9, 3, 8, 1, .null),
  (60, .iconst 0, 1, 0, 0, .null),
  (61, .aload_n 0, 1, 0, 0, .null),
  (62, .getfield 9, 3, 8, 1, .null),
  (65, .iconst 0, 1, 0, 0, .null),
  (66, .bipush 8, 2, 0, 0, .null),
  (68, .invokestatic 73, 3, 5, 0, .null),
  (71, .aload_n 1, 1, 0, 0, .null),
  (72, .getfield 15, 3, 8, 2, .null),
  (75, .iconst 0, 1, 0, 0, .null),
  (76, .aload_n 0, 1, 0, 0, .null),
  (77, .getfield 15, 3, 8, 2, .null),
  (80, .iconst 0, 1, 0, 0, .null),
  (81, .bipush 8, 2, 0, 0, .null),
  (83, .invokestatic 73, 3, 5, 0, .null),
  (86, .aload_n 1, 1, 0, 0, .null),
  (87, .getfield 18, 3, 8, 4, .null),
  (90, .iconst 0, 1, 0, 0, .null),
  (91, .aload_n 0, 1, 0, 0, .null),
  (92, .getfield 18, 3, 8, 4, .null),
  (95, .iconst 0, 1, 0, 0, .null),
  (96, .bipush 8, 2, 0, 0, .null),
  (98, .invokestatic 73, 3, 5, 0, .null),
  (101, .aload_n 1, 1, 0, 0, .null),
  (102, .getfield 21, 3, 8, 5, .null),
  (105, .iconst 0, 1, 0, 0, .null),
  (106, .aload_n 0, 1, 0, 0, .null),
  (107, .getfield 21, 3, 8, 5, .null),
  (110, .iconst 0, 1, 0, 0, .null),
  (111, .bipush 8, 2, 0, 0, .null),
  (113, .invokestatic 73, 3, 5, 0, .null),
  (116, .aload_n 1, 1, 0, 0, .null),
  (117, .getfield 24, 3, 8, 6, .null),
  (120, .iconst 0, 1, 0, 0, .null),
  (121, .aload_n 0, 1, 0, 0, .null),
  (122, .getfield 24, 3, 8, 6, .null),
  (125, .iconst 0, 1, 0, 0, .null),
  (126, .bipush 8, 2, 0, 0, .null),
  (128, .invokestatic 73, 3, 5, 0, .null),
  (131, .aload_n 1, 1, 0, 0, .null),
  (132, .getfield 27, 3, 8, 7, .null),
  (135, .iconst 0, 1, 0, 0, .null),
  (136, .aload_n 0, 1, 0, 0, .null),
  (137, .getfield 27, 3, 8, 7, .null),
  (140, .iconst 0, 1, 0, 0, .null),
  (141, .bipush 36, 2, 0, 0, .null),
  (143, .invokestatic 73, 3, 5, 0, .null),
  (146, .aload_n 1, 1, 0, 0, .null),
  (147, .getfield 30, 3, 8, 11, .null),
  (150, .iconst 0, 1, 0, 0, .null),
  (151, .aload_n 0, 1, 0, 0, .null),
  (152, .getfield 30, 3, 8, 11, .null),
  (155, .iconst 0, 1, 0, 0, .null),
  (156, .bipush 6, 2, 0, 0, .null),
  (158, .invokestatic 73, 3, 5, 0, .null),
  (161, .aload_n 1, 1, 0, 0, .null),
  (162, .getfield 33, 3, 8, 12, .null),
  (165, .iconst 0, 1, 0, 0, .null),
  (166, .aload_n 0, 1, 0, 0, .null),
  (167, .getfield 33, 3, 8, 12, .null),
  (170, .iconst 0, 1, 0, 0, .null),
  (171, .bipush 6, 2, 0, 0, .null),
  (173, .invokestatic 73, 3, 5, 0, .null),
  (176, .aload_n 1, 1, 0, 0, .null),
  (177, .getfield 36, 3, 8, 13, .null),
  (180, .iconst 0, 1, 0, 0, .null),
  (181, .aload_n 0, 1, 0, 0, .null),
  (182, .getfield 36, 3, 8, 13, .null),
  (185, .iconst 0, 1, 0, 0, .null),
  (186, .aload_n 0, 1, 0, 0, .null),
  (187, .getfield 36, 3, 8, 13, .null),
  (190, .arraylength, 1, 0, 0, .null),
  (191, .invokestatic 73, 3, 5, 0, .null),
  (194, .iconst 0, 1, 0, 0, .null),
  (195, .istore_n 2, 1, 0, 0, .null),
  (196, .iload_n 2, 1, 0, 0, .null),
  (197, .bipush 6, 2, 0, 0, .null),
  (199, .if_icmp .ge 21, 3, 220, 0, .null),
  (202, .aload_n 0, 1, 0, 0, .null),
  (203, .getfield 41, 3, 8, 15, .null),
  (206, .iload_n 2, 1, 0, 0, .null),
  (207, .aload_n 1, 1, 0, 0, .null),
  (208, .getfield 41, 3, 8, 15, .null),
  (211, .iload_n 2, 1, 0, 0, .null),
  (212, .aaload, 1, 0, 0, .null),
  (213, .aastore, 1, 0, 0, .null),
  (214, .iinc 2 1, 3, 0, 0, .null),
  (217, .goto (-21), 3, 196, 0, .null),
  (220, .return_, 1, 0, 0, .null)]
set_option maxRecDepth 100000 in
theorem pm_d68 : pm_c68.all (pm_decB prog_10_method_2_code) = true := by decide +kernel
/-- TrainBearers$Train.hasYard(I)Z -/
def pm_c69 : List pm_I := [(0, .iload_n 1, 1, 0, 0, .null),
  (1, .ifCond .lt 15, 3, 16, 0, .null),
  (4, .iload_n 1, 1, 0, 0, .null),
  (5, .aload_n 0, 1, 0, 0, .null),
  (6, .getfield 55, 3, 8, 0, .null),
  (9, .if_icmp .ge 7, 3, 16, 0, .null),
  (12, .iconst 1, 1, 0, 0, .null),
  (13, .goto 4, 3, 17, 0, .null),
  (16, .iconst 0, 1, 0, 0, .null),
  (17, .ireturn, 1, 0, 0, .null)]
set_option maxRecDepth 100000 in
theorem pm_d69 : pm_c69.all (pm_decB prog_10_method_3_code) = true := by decide +kernel
/-- TrainBearers$Train.hasGirl(I)Z -/
def pm_c70 : List pm_I := [(0, .iload_n 1, 1, 0, 0, .null),
  (1, .ifCond .lt 15, 3, 16, 0, .null),
  (4, .iload_n 1, 1, 0, 0, .null),
  (5, .aload_n 0, 1, 0, 0, .null),
  (6, .getfield 58, 3, 8, 3, .null),
  (9, .if_icmp .ge 7, 3, 16, 0, .null),
  (12, .iconst 1, 1, 0, 0, .null),
  (13, .goto 4, 3, 17, 0, .null),
  (16, .iconst 0, 1, 0, 0, .null),
  (17, .ireturn, 1, 0, 0, .null)]
set_option maxRecDepth 100000 in
theorem pm_d70 : pm_c70.all (pm_decB prog_10_method_4_code) = true := by decide +kernel
/-- TrainBearers$Train.hasLaw(I)Z -/
def pm_c71 : List pm_I := [(0, .iload_n 1, 1, 0, 0, .null),
  (1, .ifCond .lt 15, 3, 16, 0, .null),
  (4, .iload_n 1, 1, 0, 0, .null),
  (5, .aload_n 0, 1, 0, 0, .null),
  (6, .getfield 70, 3, 8, 14, .null),
  (9, .if_icmp .ge 7, 3, 16, 0, .null),
  (12, .iconst 1, 1, 0, 0, .null),
  (13, .goto 4, 3, 17, 0, .null),
  (16, .iconst 0, 1, 0, 0, .null),
  (17, .ireturn, 1, 0, 0, .null)]
set_option maxRecDepth 100000 in
theorem pm_d71 : pm_c71.all (pm_decB prog_10_method_5_code) = true := by decide +kernel
/-- TrainBearers$Train.lawInForce()LTrainBearers$Text; -/
def pm_c72 : List pm_I := [(0, .aload_n 0, 1, 0, 0, .null),
  (1, .aload_n 0, 1, 0, 0, .null),
  (2, .getfield 45, 3, 8, 16, .null),
  (5, .invokevirtual 79, 3, 0, 71, .null),
  (8, .ifCond .eq 15, 3, 23, 0, .null),
  (11, .aload_n 0, 1, 0, 0, .null),
  (12, .getfield 41, 3, 8, 15, .null),
  (15, .aload_n 0, 1, 0, 0, .null),
  (16, .getfield 45, 3, 8, 16, .null),
  (19, .aaload, 1, 0, 0, .null),
  (20, .goto 4, 3, 24, 0, .null),
  (23, .aconst_null, 1, 0, 0, .null),
  (24, .areturn, 1, 0, 0, .null)]
set_option maxRecDepth 100000 in
theorem pm_d72 : pm_c72.all (pm_decB prog_10_method_6_code) = true := by decide +kernel
/-- TrainBearers$Train.holders(I)I -/
def pm_c73 : List pm_I := [(0, .iconst 0, 1, 0, 0, .null),
  (1, .istore_n 2, 1, 0, 0, .null),
  (2, .iconst 0, 1, 0, 0, .null),
  (3, .istore_n 3, 1, 0, 0, .null),
  (4, .iload_n 3, 1, 0, 0, .null),
  (5, .aload_n 0, 1, 0, 0, .null),
  (6, .getfield 58, 3, 8, 3, .null),
  (9, .if_icmp .ge 25, 3, 34, 0, .null),
  (12, .aload_n 0, 1, 0, 0, .null),
  (13, .getfield 24, 3, 8, 6, .null),
  (16, .iload_n 3, 1, 0, 0, .null),
  (17, .iaload, 1, 0, 0, .null),
  (18, .iload_n 1, 1, 0, 0, .null),
  (19, .if_icmp .ne 9, 3, 28, 0, .null),
  (22, .iload_n 2, 1, 0, 0, .null),
  (23, .iconst 1, 1, 0, 0, .null),
  (24, .iload_n 3, 1, 0, 0, .null),
  (25, .ishl, 1, 0, 0, .null),
  (26, .ior, 1, 0, 0, .null),
  (27, .istore_n 2, 1, 0, 0, .null),
  (28, .iinc 3 1, 3, 0, 0, .null),
  (31, .goto (-27), 3, 4, 0, .null),
  (34, .iload_n 2, 1, 0, 0, .null),
  (35, .ireturn, 1, 0, 0, .null)]
set_option maxRecDepth 100000 in
theorem pm_d73 : pm_c73.all (pm_decB prog_10_method_7_code) = true := by decide +kernel
/-- TrainBearers$Train.busyGirls()I -/
def pm_c74 : List pm_I := [(0, .iconst 0, 1, 0, 0, .null),
  (1, .istore_n 1, 1, 0, 0, .null),
  (2, .iconst 0, 1, 0, 0, .null),
  (3, .istore_n 2, 1, 0, 0, .null),
  (4, .iload_n 2, 1, 0, 0, .null),
  (5, .aload_n 0, 1, 0, 0, .null),
  (6, .getfield 58, 3, 8, 3, .null),
  (9, .if_icmp .ge 22, 3, 31, 0, .null),
  (12, .aload_n 0, 1, 0, 0, .null),
  (13, .getfield 24, 3, 8, 6, .null),
  (16, .iload_n 2, 1, 0, 0, .null),
  (17, .iaload, 1, 0, 0, .null),
  (18, .iconst (-1), 1, 0, 0, .null),
  (19, .if_icmp .eq 6, 3, 25, 0, .null),
  (22, .iinc 1 1, 3, 0, 0, .null),
  (25, .iinc 2 1, 3, 0, 0, .null),
  (28, .goto (-24), 3, 4, 0, .null),
  (31, .iload_n 1, 1, 0, 0, .null),
  (32, .ireturn, 1, 0, 0, .null)]
set_option maxRecDepth 100000 in
theorem pm_d74 : pm_c74.all (pm_decB prog_10_method_8_code) = true := by decide +kernel
/-- TrainBearers$Train.stilesBetween(II)I -/
def pm_c75 : List pm_I := [(0, .iload_n 1, 1, 0, 0, .null),
  (1, .invokestatic 83, 3, 3, 128, .null),
  (4, .ifCond .eq 24, 3, 28, 0, .null),
  (7, .iload_n 2, 1, 0, 0, .null),
  (8, .invokestatic 83, 3, 3, 128, .null),
  (11, .ifCond .eq 17, 3, 28, 0, .null),
  (14, .aload_n 0, 1, 0, 0, .null),
  (15, .getfield 27, 3, 8, 7, .null),
  (18, .iload_n 1, 1, 0, 0, .null),
  (19, .bipush 6, 2, 0, 0, .null),
  (21, .imul, 1, 0, 0, .null),
  (22, .iload_n 2, 1, 0, 0, .null),
  (23, .iadd, 1, 0, 0, .null),
  (24, .iaload, 1, 0, 0, .null),
  (25, .goto 4, 3, 29, 0, .null),
  (28, .iconst (-1), 1, 0, 0, .null),
  (29, .ireturn, 1, 0, 0, .null)]
set_option maxRecDepth 100000 in
theorem pm_d75 : pm_c75.all (pm_decB prog_10_method_9_code) = true := by decide +kernel
/-- TrainBearers$Train.layLane(III)V -/
def pm_c76 : List pm_I := [(0, .iload_n 1, 1, 0, 0, .null),
  (1, .invokestatic 83, 3, 3, 128, .null),
  (4, .ifCond .eq 34, 3, 38, 0, .null),
  (7, .iload_n 2, 1, 0, 0, .null),
  (8, .invokestatic 83, 3, 3, 128, .null),
  (11, .ifCond .eq 27, 3, 38, 0, .null),
  (14, .aload_n 0, 1, 0, 0, .null),
  (15, .getfield 27, 3, 8, 7, .null),
  (18, .iload_n 1, 1, 0, 0, .null),
  (19, .bipush 6, 2, 0, 0, .null),
  (21, .imul, 1, 0, 0, .null),
  (22, .iload_n 2, 1, 0, 0, .null),
  (23, .iadd, 1, 0, 0, .null),
  (24, .iload_n 3, 1, 0, 0, .null),
  (25, .iastore, 1, 0, 0, .null),
  (26, .aload_n 0, 1, 0, 0, .null),
  (27, .getfield 27, 3, 8, 7, .null),
  (30, .iload_n 2, 1, 0, 0, .null),
  (31, .bipush 6, 2, 0, 0, .null),
  (33, .imul, 1, 0, 0, .null),
  (34, .iload_n 1, 1, 0, 0, .null),
  (35, .iadd, 1, 0, 0, .null),
  (36, .iload_n 3, 1, 0, 0, .null),
  (37, .iastore, 1, 0, 0, .null),
  (38, .return_, 1, 0, 0, .null)]
set_option maxRecDepth 100000 in
theorem pm_d76 : pm_c76.all (pm_decB prog_10_method_10_code) = true := by decide +kernel
/-- TrainBearers$Ways.<init>()V -/
def pm_c77 : List pm_I := [(0, .aload_n 0, 1, 0, 0, .null),
  (1, .invokespecial 3, 3, 4, 0, .null),
  (4, .aload_n 0, 1, 0, 0, .null),
  (5, .bipush 6, 2, 0, 0, .null),
  (7, .newarray .int, 2, 0, 0, .null),
  (9, .putfield 9, 3, 9, 0, .null),
  (12, .return_, 1, 0, 0, .null)]
set_option maxRecDepth 100000 in
theorem pm_d77 : pm_c77.all (pm_decB prog_11_method_1_code) = true := by decide +kernel
/-- TrainBearers$Ways.measure(LTrainBearers$Train;I)Z -/
def pm_c78 : List pm_I := [(0, .iload_n 2, 1, 0, 0, .null),
  (1, .invokestatic 15, 3, 3, 128, .null),
  (4, .ifCond .ne 5, 3, 9, 0, .null),
  (7, .iconst 0, 1, 0, 0, .null),
  (8, .ireturn, 1, 0, 0, .null),
  (9, .aload_n 0, 1, 0, 0, .null),
  (10, .getfield 9, 3, 9, 0, .null),
  (13, .ldc 19, 2, 0, 0, .int (1048576)),
  (15, .invokestatic 20, 3, 1, 266, .null),
  (18, .aload_n 0, 1, 0, 0, .null),
  (19, .getfield 9, 3, 9, 0, .null),
  (22, .iload_n 2, 1, 0, 0, .null),
  (23, .iconst 0, 1, 0, 0, .null),
  (24, .iastore, 1, 0, 0, .null),
  (25, .iconst 1, 1, 0, 0, .null),
  (26, .istore_n 3, 1, 0, 0, .null),
  (27, .iload_n 3, 1, 0, 0, .null),
  (28, .bipush 6, 2, 0, 0, .null),
  (30, .if_icmp .ge 67, 3, 97, 0, .null),
  (33, .iconst 0, 1, 0, 0, .null),
  (34, .istore 4, 2, 0, 0, .null),
  (36, .iload 4, 2, 0, 0, .null),
  (38, .bipush 6, 2, 0, 0, .null),
  (40, .if_icmp .ge 51, 3, 91, 0, .null),
  (43, .iconst 0, 1, 0, 0, .null),
  (44, .istore 5, 2, 0, 0, .null),
  (46, .iload 5, 2, 0, 0, .null),
  (48, .bipush 6, 2, 0, 0, .null),
  (50, .if_icmp .ge 35, 3, 85, 0, .null),
  (53, .aload_n 0, 1, 0, 0, .null),
  (54, .getfield 9, 3, 9, 0, .null),
  (57, .iload 4, 2, 0, 0, .null),
  (59, .aload_n 0, 1, 0, 0, .null),
  (60, .getfield 9, 3, 9, 0, .null),
  (63, .iload 4, 2, 0, 0, .null),
  (65, .iaload, 1, 0, 0, .null),
  (66, .aload_n 0, 1, 0, 0, .null),
  (67, .aload_n 1, 1, 0, 0, .null),
  (68, .iload 4, 2, 0, 0, .null),
  (70, .iload 5, 2, 0, 0, .null),
  (72, .invokevirtual 26, 3, 0, 81, .null),
  (75, .invokestatic 30, 3, 1, 259, .null),
  (78, .iastore, 1, 0, 0, .null),
  (79, .iinc 5 1, 3, 0, 0, .null),
  (82, .goto (-36), 3, 46, 0, .null),
  (85, .iinc 4 1, 3, 0, 0, .null),
  (88, .goto (-52), 3, 36, 0, .null),
  (91, .iinc 3 1, 3, 0, 0, .null),
  (94, .goto (-67), 3, 27, 0, .null),
  (97, .aload_n 0, 1, 0, 0, .null),
  (98, .getfield 9, 3, 9, 0, .null),
  (101, .aload_n 1, 1, 0, 0, .null),
  (102, .getfield 36, 3, 8, 8, .null),
  (105, .iaload, 1, 0, 0, .null),
  (106, .ldc 19, 2, 0, 0, .int (1048576)),
  (108, .if_icmp .ge 7, 3, 115, 0, .null),
  (111, .iconst 1, 1, 0, 0, .null),
  (112, .goto 4, 3, 116, 0, .null),
  (115, .iconst 0, 1, 0, 0, .null),
  (116, .ireturn, 1, 0, 0, .null)]
set_option maxRecDepth 100000 in
theorem pm_d78 : pm_c78.all (pm_decB prog_11_method_2_code) = true := by decide +kernel
/-- TrainBearers$Ways.stilesFrom(I)I -/
def pm_c79 : List pm_I := [(0, .iload_n 1, 1, 0, 0, .null),
  (1, .invokestatic 15, 3, 3, 128, .null),
  (4, .ifCond .eq 15, 3, 19, 0, .null),
  (7, .aload_n 0, 1, 0, 0, .null),
  (8, .getfield 9, 3, 9, 0, .null),
  (11, .iload_n 1, 1, 0, 0, .null),
  (12, .iaload, 1, 0, 0, .null),
  (13, .bipush 16, 2, 0, 0, .null),
  (15, .idiv, 1, 0, 0, .null),
  (16, .goto 4, 3, 20, 0, .null),
  (19, .iconst (-1), 1, 0, 0, .null),
  (20, .ireturn, 1, 0, 0, .null)]
set_option maxRecDepth 100000 in
theorem pm_d79 : pm_c79.all (pm_decB prog_11_method_3_code) = true := by decide +kernel
/-- TrainBearers$Ways.nextPlace(LTrainBearers$Train;I)I -/
def pm_c80 : List pm_I := [(0, .iload_n 2, 1, 0, 0, .null),
  (1, .invokestatic 15, 3, 3, 128, .null),
  (4, .ifCond .eq 14, 3, 18, 0, .null),
  (7, .aload_n 0, 1, 0, 0, .null),
  (8, .getfield 9, 3, 9, 0, .null),
  (11, .iload_n 2, 1, 0, 0, .null),
  (12, .iaload, 1, 0, 0, .null),
  (13, .ldc 19, 2, 0, 0, .int (1048576)),
  (15, .if_icmp .lt 5, 3, 20, 0, .null),
  (18, .iconst (-1), 1, 0, 0, .null),
  (19, .ireturn, 1, 0, 0, .null),
  (20, .iconst 0, 1, 0, 0, .null),
  (21, .istore_n 3, 1, 0, 0, .null),
  (22, .iload_n 3, 1, 0, 0, .null),
  (23, .bipush 6, 2, 0, 0, .null),
  (25, .if_icmp .ge 27, 3, 52, 0, .null),
  (28, .aload_n 0, 1, 0, 0, .null),
  (29, .aload_n 1, 1, 0, 0, .null),
  (30, .iload_n 2, 1, 0, 0, .null),
  (31, .iload_n 3, 1, 0, 0, .null),
  (32, .invokevirtual 26, 3, 0, 81, .null),
  (35, .aload_n 0, 1, 0, 0, .null),
  (36, .getfield 9, 3, 9, 0, .null),
  (39, .iload_n 2, 1, 0, 0, .null),
  (40, .iaload, 1, 0, 0, .null),
  (41, .if_icmp .ne 5, 3, 46, 0, .null),
  (44, .iload_n 3, 1, 0, 0, .null),
  (45, .ireturn, 1, 0, 0, .null),
  (46, .iinc 3 1, 3, 0, 0, .null),
  (49, .goto (-27), 3, 22, 0, .null),
  (52, .iconst (-1), 1, 0, 0, .null),
  (53, .ireturn, 1, 0, 0, .null)]
set_option maxRecDepth 100000 in
theorem pm_d80 : pm_c80.all (pm_decB prog_11_method_4_code) = true := by decide +kernel
/-- TrainBearers$Ways.costBy(LTrainBearers$Train;II)I -/
def pm_c81 : List pm_I := [(0, .aload_n 1, 1, 0, 0, .null),
  (1, .iload_n 2, 1, 0, 0, .null),
  (2, .iload_n 3, 1, 0, 0, .null),
  (3, .invokevirtual 42, 3, 0, 75, .null),
  (6, .istore 4, 2, 0, 0, .null),
  (8, .iload 4, 2, 0, 0, .null),
  (10, .iconst (-1), 1, 0, 0, .null),
  (11, .if_icmp .ne 8, 3, 19, 0, .null),
  (14, .ldc 19, 2, 0, 0, .int (1048576)),
  (16, .goto 22, 3, 38, 0, .null),
  (19, .ldc 19, 2, 0, 0, .int (1048576)),
  (21, .aload_n 0, 1, 0, 0, .null),
  (22, .getfield 9, 3, 9, 0, .null),
  (25, .iload_n 3, 1, 0, 0, .null),
  (26, .iaload, 1, 0, 0, .null),
  (27, .iload 4, 2, 0, 0, .null),
  (29, .bipush 16, 2, 0, 0, .null),
  (31, .imul, 1, 0, 0, .null),
  (32, .iadd, 1, 0, 0, .null),
  (33, .iconst 1, 1, 0, 0, .null),
  (34, .iadd, 1, 0, 0, .null),
  (35, .invokestatic 30, 3, 1, 259, .null),
  (38, .ireturn, 1, 0, 0, .null)]
set_option maxRecDepth 100000 in
theorem pm_d81 : pm_c81.all (pm_decB prog_11_method_5_code) = true := by decide +kernel
/-- TrainBearers.<init>()V -/
def pm_c82 : List pm_I := [(0, .aload_n 0, 1, 0, 0, .null),
  (1, .invokespecial 3, 3, 4, 0, .null),
  (4, .aload_n 0, 1, 0, 0, .null),
  (5, .new 9, 3, 8, 0, .null),
  (8, .dup, 1, 0, 0, .null),
  (9, .invokespecial 11, 3, 2, 67, .null),
  (12, .putfield 12, 3, 10, 0, .null),
  (15, .aload_n 0, 1, 0, 0, .null),
  (16, .new 9, 3, 8, 0, .null),
  (19, .dup, 1, 0, 0, .null),
  (20, .invokespecial 11, 3, 2, 67, .null),
  (23, .putfield 16, 3, 10, 1, .null),
  (26, .aload_n 0, 1, 0, 0, .null),
  (27, .new 9, 3, 8, 0, .null),
  (30, .dup, 1, 0, 0, .null),
  (31, .invokespecial 11, 3, 2, 67, .null),
  (34, .putfield 19, 3, 10, 2, .null),
  (37, .aload_n 0, 1, 0, 0, .null),
  (38, .iconst 2, 1, 0, 0, .null),
  (39, .anewarray 9, 3, 4, 0, .null),
  (42, .dup, 1, 0, 0, .null),
  (43, .iconst 0, 1, 0, 0, .null),
  (44, .new 9, 3, 8, 0, .null),
  (47, .dup, 1, 0, 0, .null),
  (48, .invokespecial 11, 3, 2, 67, .null),
  (51, .aastore, 1, 0, 0, .null),
  (52, .dup, 1, 0, 0, .null),
  (53, .iconst 1, 1, 0, 0, .null),
  (54, .new 9, 3, 8, 0, .null),
  (57, .dup, 1, 0, 0, .null),
  (58, .invokespecial 11, 3, 2, 67, .null),
  (61, .aastore, 1, 0, 0, .null),
  (62, .putfield 22, 3, 10, 3, .null),
  (65, .aload_n 0, 1, 0, 0, .null),
  (66, .iconst 2, 1, 0, 0, .null),
  (67, .newarray .boolean, 2, 0, 0, .null),
  (69, .putfield 26, 3, 10, 4, .null),
  (72, .aload_n 0, 1, 0, 0, .null),
  (73, .new 30, 3, 5, 0, .null),
  (76, .dup, 1, 0, 0, .null),
  (77, .invokespecial 32, 3, 2, 52, .null),
  (80, .putfield 33, 3, 10, 5, .null),
  (83, .aload_n 0, 1, 0, 0, .null),
  (84, .new 30, 3, 5, 0, .null),
  (87, .dup, 1, 0, 0, .null),
  (88, .invokespecial 32, 3, 2, 52, .null),
  (91, .putfield 37, 3, 10, 6, .null),
  (94, .aload_n 0, 1, 0, 0, .null),
  (95, .new 40, 3, 3, 0, .null),
  (98, .dup, 1, 0, 0, .null),
  (99, .invokespecial 42, 3, 2, 23, .null),
  (102, .putfield 43, 3, 10, 7, .null),
  (105, .aload_n 0, 1, 0, 0, .null),
  (106, .new 47, 3, 4, 0, .null),
  (109, .dup, 1, 0, 0, .null),
  (110, .invokespecial 49, 3, 2, 43, .null),
  (113, .putfield 50, 3, 10, 8, .null),
  (116, .aload_n 0, 1, 0, 0, .null),
  (117, .new 54, 3, 1, 0, .null),
  (120, .dup, 1, 0, 0, .null),
  (121, .invokespecial 56, 3, 2, 8, .null),
  (124, .putfield 57, 3, 10, 9, .null),
  (127, .aload_n 0, 1, 0, 0, .null),
  (128, .new 61, 3, 0, 0, .null),
  (131, .dup, 1, 0, 0, .null),
  (132, .invokespecial 63, 3, 2, 0, .null),
  (135, .putfield 64, 3, 10, 10, .null),
  (138, .aload_n 0, 1, 0, 0, .null),
  (139, .new 68, 3, 2, 0, .null),
  (142, .dup, 1, 0, 0, .null),
  (143, .invokespecial 70, 3, 2, 18, .null),
  (146, .putfield 71, 3, 10, 11, .null),
  (149, .aload_n 0, 1, 0, 0, .null),
  (150, .new 75, 3, 9, 0, .null),
  (153, .dup, 1, 0, 0, .null),
  (154, .invokespecial 77, 3, 2, 77, .null),
  (157, .putfield 78, 3, 10, 12, .null),
  (160, .aload_n 0, 1, 0, 0, .null),
  (161, .bipush 7, 2, 0, 0, .null),
  (163, .newarray .int, 2, 0, 0, .null),
  (165, .putfield 82, 3, 10, 13, .null),
  (168, .return_, 1, 0, 0, .null)]
set_option maxRecDepth 100000 in
theorem pm_d82 : pm_c82.all (pm_decB prog_1_method_1_code) = true := by decide +kernel
/-- TrainBearers.yard(I)I -/
def pm_c83 : List pm_I := [(0, .iload_n 1, 1, 0, 0, .null),
  (1, .iconst 1, 1, 0, 0, .null),
  (2, .if_icmp .lt 9, 3, 11, 0, .null),
  (5, .iload_n 1, 1, 0, 0, .null),
  (6, .bipush 20, 2, 0, 0, .null),
  (8, .if_icmp .le 9, 3, 17, 0, .null),
  (11, .aload_n 0, 1, 0, 0, .null),
  (12, .iconst (-1), 1, 0, 0, .null),
  (13, .invokevirtual 86, 3, 0, 125, .null),
  (16, .ireturn, 1, 0, 0, .null),
  (17, .aload_n 0, 1, 0, 0, .null),
  (18, .getfield 12, 3, 10, 0, .null),
  (21, .getfield 90, 3, 8, 0, .null),
  (24, .bipush 8, 2, 0, 0, .null),
  (26, .if_icmp .lt 10, 3, 36, 0, .null),
  (29, .aload_n 0, 1, 0, 0, .null),
  (30, .bipush (-5), 2, 0, 0, .null),
  (32, .invokevirtual 86, 3, 0, 125, .null),
  (35, .ireturn, 1, 0, 0, .null),
  (36, .aload_n 0, 1, 0, 0, .null),
  (37, .getfield 12, 3, 10, 0, .null),
  (40, .getfield 94, 3, 8, 1, .null),
  (43, .aload_n 0, 1, 0, 0, .null),
  (44, .getfield 12, 3, 10, 0, .null),
  (47, .getfield 90, 3, 8, 0, .null),
  (50, .iload_n 1, 1, 0, 0, .null),
  (51, .iastore, 1, 0, 0, .null),
  (52, .aload_n 0, 1, 0, 0, .null),
  (53, .getfield 12, 3, 10, 0, .null),
  (56, .getfield 97, 3, 8, 2, .null),
  (59, .aload_n 0, 1, 0, 0, .null),
  (60, .getfield 12, 3, 10, 0, .null),
  (63, .getfield 90, 3, 8, 0, .null),
  (66, .iconst 0, 1, 0, 0, .null),
  (67, .iastore, 1, 0, 0, .null),
  (68, .aload_n 0, 1, 0, 0, .null),
  (69, .getfield 12, 3, 10, 0, .null),
  (72, .dup, 1, 0, 0, .null),
  (73, .getfield 90, 3, 8, 0, .null),
  (76, .iconst 1, 1, 0, 0, .null),
  (77, .iadd, 1, 0, 0, .null),
  (78, .putfield 90, 3, 8, 0, .null),
  (81, .aload_n 0, 1, 0, 0, .null),
  (82, .getfield 33, 3, 10, 5, .null),
  (85, .invokevirtual 100, 3, 0, 53, .null),
  (88, .aload_n 0, 1, 0, 0, .null),
  (89, .aload_n 0, 1, 0, 0, .null),
  (90, .getfield 12, 3, 10, 0, .null),
  (93, .getfield 90, 3, 8, 0, .null),
  (96, .iconst 1, 1, 0, 0, .null),
  (97, .isub, 1, 0, 0, .null),
  (98, .invokevirtual 103, 3, 0, 126, .null),
  (101, .ireturn, 1, 0, 0, .null)]
set_option maxRecDepth 100000 in
theorem pm_d83 : pm_c83.all (pm_decB prog_1_method_2_code) = true := by decide +kernel
/-- TrainBearers.at(II)I -/
def pm_c84 : List pm_I := [(0, .aload_n 0, 1, 0, 0, .null),
  (1, .getfield 12, 3, 10, 0, .null),
  (4, .iload_n 1, 1, 0, 0, .null),
  (5, .invokevirtual 106, 3, 0, 69, .null),
  (8, .ifCond .ne 5, 3, 13, 0, .null),
  (11, .iconst (-1), 1, 0, 0, .null),
  (12, .ireturn, 1, 0, 0, .null),
  (13, .iload_n 2, 1, 0, 0, .null),
  (14, .tableswitch 101 0 4 #[34, 44, 54, 63, 76], 34, 0, 0, .null),
  (48, .aload_n 0, 1, 0, 0, .null),
  (49, .getfield 12, 3, 10, 0, .null),
  (52, .getfield 94, 3, 8, 1, .null),
  (55, .iload_n 1, 1, 0, 0, .null),
  (56, .iaload, 1, 0, 0, .null),
  (57, .ireturn, 1, 0, 0, .null),
  (58, .aload_n 0, 1, 0, 0, .null),
  (59, .getfield 12, 3, 10, 0, .null),
  (62, .getfield 97, 3, 8, 2, .null),
  (65, .iload_n 1, 1, 0, 0, .null),
  (66, .iaload, 1, 0, 0, .null),
  (67, .ireturn, 1, 0, 0, .null),
  (68, .aload_n 0, 1, 0, 0, .null),
  (69, .getfield 12, 3, 10, 0, .null),
  (72, .iload_n 1, 1, 0, 0, .null),
  (73, .invokevirtual 110, 3, 0, 73, .null),
  (76, .ireturn, 1, 0, 0, .null),
  (77, .aload_n 0, 1, 0, 0, .null),
  (78, .getfield 50, 3, 10, 8, .null),
  (81, .aload_n 0, 1, 0, 0, .null),
  (82, .getfield 12, 3, 10, 0, .null),
  (85, .iload_n 1, 1, 0, 0, .null),
  (86, .invokevirtual 113, 3, 0, 48, .null),
  (89, .ireturn, 1, 0, 0, .null),
  (90, .aload_n 0, 1, 0, 0, .null),
  (91, .getfield 50, 3, 10, 8, .null),
  (94, .aload_n 0, 1, 0, 0, .null),
  (95, .getfield 12, 3, 10, 0, .null),
  (98, .iload_n 1, 1, 0, 0, .null),
  (99, .aload_n 0, 1, 0, 0, .null),
  (100, .getfield 50, 3, 10, 8, .null),
  (103, .aload_n 0, 1, 0, 0, .null),
  (104, .getfield 12, 3, 10, 0, .null),
  (107, .iload_n 1, 1, 0, 0, .null),
  (108, .invokevirtual 113, 3, 0, 48, .null),
  (111, .invokevirtual 117, 3, 0, 47, .null),
  (114, .ireturn, 1, 0, 0, .null),
  (115, .iconst (-1), 1, 0, 0, .null),
  (116, .ireturn, 1, 0, 0, .null)]
set_option maxRecDepth 100000 in
theorem pm_d84 : pm_c84.all (pm_decB prog_1_method_3_code) = true := by decide +kernel
/-- TrainBearers.girl(I)I -/
def pm_c85 : List pm_I := [(0, .iload_n 1, 1, 0, 0, .null),
  (1, .ifCond .lt 9, 3, 10, 0, .null),
  (4, .iload_n 1, 1, 0, 0, .null),
  (5, .bipush 9, 2, 0, 0, .null),
  (7, .if_icmp .le 9, 3, 16, 0, .null),
  (10, .aload_n 0, 1, 0, 0, .null),
  (11, .iconst (-1), 1, 0, 0, .null),
  (12, .invokevirtual 86, 3, 0, 125, .null),
  (15, .ireturn, 1, 0, 0, .null),
  (16, .aload_n 0, 1, 0, 0, .null),
  (17, .getfield 12, 3, 10, 0, .null),
  (20, .getfield 121, 3, 8, 3, .null),
  (23, .bipush 8, 2, 0, 0, .null),
  (25, .if_icmp .lt 10, 3, 35, 0, .null),
  (28, .aload_n 0, 1, 0, 0, .null),
  (29, .bipush (-5), 2, 0, 0, .null),
  (31, .invokevirtual 86, 3, 0, 125, .null),
  (34, .ireturn, 1, 0, 0, .null),
  (35, .aload_n 0, 1, 0, 0, .null),
  (36, .getfield 12, 3, 10, 0, .null),
  (39, .getfield 124, 3, 8, 4, .null),
  (42, .aload_n 0, 1, 0, 0, .null),
  (43, .getfield 12, 3, 10, 0, .null),
  (46, .getfield 121, 3, 8, 3, .null),
  (49, .iload_n 1, 1, 0, 0, .null),
  (50, .iastore, 1, 0, 0, .null),
  (51, .aload_n 0, 1, 0, 0, .null),
  (52, .getfield 12, 3, 10, 0, .null),
  (55, .getfield 127, 3, 8, 5, .null),
  (58, .aload_n 0, 1, 0, 0, .null),
  (59, .getfield 12, 3, 10, 0, .null),
  (62, .getfield 121, 3, 8, 3, .null),
  (65, .iconst 0, 1, 0, 0, .null),
  (66, .iastore, 1, 0, 0, .null),
  (67, .aload_n 0, 1, 0, 0, .null),
  (68, .getfield 12, 3, 10, 0, .null),
  (71, .getfield 130, 3, 8, 6, .null),
  (74, .aload_n 0, 1, 0, 0, .null),
  (75, .getfield 12, 3, 10, 0, .null),
  (78, .getfield 121, 3, 8, 3, .null),
  (81, .iconst (-1), 1, 0, 0, .null),
  (82, .iastore, 1, 0, 0, .null),
  (83, .aload_n 0, 1, 0, 0, .null),
  (84, .getfield 12, 3, 10, 0, .null),
  (87, .dup, 1, 0, 0, .null),
  (88, .getfield 121, 3, 8, 3, .null),
  (91, .iconst 1, 1, 0, 0, .null),
  (92, .iadd, 1, 0, 0, .null),
  (93, .putfield 121, 3, 8, 3, .null),
  (96, .aload_n 0, 1, 0, 0, .null),
  (97, .getfield 33, 3, 10, 5, .null),
  (100, .invokevirtual 100, 3, 0, 53, .null),
  (103, .aload_n 0, 1, 0, 0, .null),
  (104, .aload_n 0, 1, 0, 0, .null),
  (105, .getfield 12, 3, 10, 0, .null),
  (108, .getfield 121, 3, 8, 3, .null),
  (111, .iconst 1, 1, 0, 0, .null),
  (112, .isub, 1, 0, 0, .null),
  (113, .invokevirtual 103, 3, 0, 126, .null),
  (116, .ireturn, 1, 0, 0, .null)]
set_option maxRecDepth 100000 in
theorem pm_d85 : pm_c85.all (pm_decB prog_1_method_4_code) = true := by decide +kernel
/-- TrainBearers.of(II)I -/
def pm_c86 : List pm_I := [(0, .aload_n 0, 1, 0, 0, .null),
  (1, .getfield 12, 3, 10, 0, .null),
  (4, .iload_n 1, 1, 0, 0, .null),
  (5, .invokevirtual 133, 3, 0, 70, .null),
  (8, .ifCond .ne 5, 3, 13, 0, .null),
  (11, .iconst (-1), 1, 0, 0, .null),
  (12, .ireturn, 1, 0, 0, .null),
  (13, .iload_n 2, 1, 0, 0, .null),
  (14, .tableswitch 56 0 2 #[26, 36, 46], 26, 0, 0, .null),
  (40, .aload_n 0, 1, 0, 0, .null),
  (41, .getfield 12, 3, 10, 0, .null),
  (44, .getfield 124, 3, 8, 4, .null),
  (47, .iload_n 1, 1, 0, 0, .null),
  (48, .iaload, 1, 0, 0, .null),
  (49, .ireturn, 1, 0, 0, .null),
  (50, .aload_n 0, 1, 0, 0, .null),
  (51, .getfield 12, 3, 10, 0, .null),
  (54, .getfield 127, 3, 8, 5, .null),
  (57, .iload_n 1, 1, 0, 0, .null),
  (58, .iaload, 1, 0, 0, .null),
  (59, .ireturn, 1, 0, 0, .null),
  (60, .aload_n 0, 1, 0, 0, .null),
  (61, .getfield 12, 3, 10, 0, .null),
  (64, .getfield 130, 3, 8, 6, .null),
  (67, .iload_n 1, 1, 0, 0, .null),
  (68, .iaload, 1, 0, 0, .null),
  (69, .ireturn, 1, 0, 0, .null),
  (70, .iconst (-1), 1, 0, 0, .null),
  (71, .ireturn, 1, 0, 0, .null)]
set_option maxRecDepth 100000 in
theorem pm_d86 : pm_c86.all (pm_decB prog_1_method_5_code) = true := by decide +kernel
/-- TrainBearers.asks(III)I -/
def pm_c87 : List pm_I := [(0, .aload_n 0, 1, 0, 0, .null),
  (1, .getfield 12, 3, 10, 0, .null),
  (4, .iload_n 1, 1, 0, 0, .null),
  (5, .invokevirtual 133, 3, 0, 70, .null),
  (8, .ifCond .eq 14, 3, 22, 0, .null),
  (11, .aload_n 0, 1, 0, 0, .null),
  (12, .getfield 12, 3, 10, 0, .null),
  (15, .iload_n 2, 1, 0, 0, .null),
  (16, .invokevirtual 106, 3, 0, 69, .null),
  (19, .ifCond .ne 5, 3, 24, 0, .null),
  (22, .iconst (-1), 1, 0, 0, .null),
  (23, .ireturn, 1, 0, 0, .null),
  (24, .iload_n 3, 1, 0, 0, .null),
  (25, .ifCond .ne 17, 3, 42, 0, .null),
  (28, .aload_n 0, 1, 0, 0, .null),
  (29, .getfield 50, 3, 10, 8, .null),
  (32, .aload_n 0, 1, 0, 0, .null),
  (33, .getfield 12, 3, 10, 0, .null),
  (36, .iload_n 1, 1, 0, 0, .null),
  (37, .iload_n 2, 1, 0, 0, .null),
  (38, .invokevirtual 136, 3, 0, 44, .null),
  (41, .ireturn, 1, 0, 0, .null),
  (42, .iload_n 3, 1, 0, 0, .null),
  (43, .iconst 1, 1, 0, 0, .null),
  (44, .if_icmp .ne 25, 3, 69, 0, .null),
  (47, .aload_n 0, 1, 0, 0, .null),
  (48, .getfield 50, 3, 10, 8, .null),
  (51, .aload_n 0, 1, 0, 0, .null),
  (52, .getfield 12, 3, 10, 0, .null),
  (55, .iload_n 1, 1, 0, 0, .null),
  (56, .iload_n 2, 1, 0, 0, .null),
  (57, .invokevirtual 139, 3, 0, 45, .null),
  (60, .ifCond .eq 7, 3, 67, 0, .null),
  (63, .iconst 1, 1, 0, 0, .null),
  (64, .goto 4, 3, 68, 0, .null),
  (67, .iconst 0, 1, 0, 0, .null),
  (68, .ireturn, 1, 0, 0, .null),
  (69, .iconst (-1), 1, 0, 0, .null),
  (70, .ireturn, 1, 0, 0, .null)]
set_option maxRecDepth 100000 in
theorem pm_d87 : pm_c87.all (pm_decB prog_1_method_6_code) = true := by decide +kernel
/-- TrainBearers.lane(III)I -/
def pm_c88 : List pm_I := [(0, .iload_n 1, 1, 0, 0, .null),
  (1, .iload_n 2, 1, 0, 0, .null),
  (2, .iload_n 3, 1, 0, 0, .null),
  (3, .invokestatic 143, 3, 1, 129, .null),
  (6, .ifCond .ne 9, 3, 15, 0, .null),
  (9, .aload_n 0, 1, 0, 0, .null),
  (10, .iconst (-1), 1, 0, 0, .null),
  (11, .invokevirtual 86, 3, 0, 125, .null),
  (14, .ireturn, 1, 0, 0, .null),
  (15, .aload_n 0, 1, 0, 0, .null),
  (16, .getfield 12, 3, 10, 0, .null),
  (19, .iload_n 1, 1, 0, 0, .null),
  (20, .iload_n 2, 1, 0, 0, .null),
  (21, .invokevirtual 147, 3, 0, 75, .null),
  (24, .istore 4, 2, 0, 0, .null),
  (26, .aload_n 0, 1, 0, 0, .null),
  (27, .getfield 12, 3, 10, 0, .null),
  (30, .iload_n 1, 1, 0, 0, .null),
  (31, .iload_n 2, 1, 0, 0, .null),
  (32, .iload_n 3, 1, 0, 0, .null),
  (33, .invokevirtual 151, 3, 0, 76, .null),
  (36, .aload_n 0, 1, 0, 0, .null),
  (37, .iload 4, 2, 0, 0, .null),
  (39, .invokevirtual 103, 3, 0, 126, .null),
  (42, .ireturn, 1, 0, 0, .null)]
set_option maxRecDepth 100000 in
theorem pm_d88 : pm_c88.all (pm_decB prog_1_method_7_code) = true := by decide +kernel
/-- TrainBearers.stiles(II)I -/
def pm_c89 : List pm_I := [(0, .aload_n 0, 1, 0, 0, .null),
  (1, .getfield 12, 3, 10, 0, .null),
  (4, .iload_n 1, 1, 0, 0, .null),
  (5, .iload_n 2, 1, 0, 0, .null),
  (6, .invokevirtual 147, 3, 0, 75, .null),
  (9, .ireturn, 1, 0, 0, .null)]
set_option maxRecDepth 100000 in
theorem pm_d89 : pm_c89.all (pm_decB prog_1_method_8_code) = true := by decide +kernel
/-- TrainBearers.terms(II)I -/
def pm_c90 : List pm_I := [(0, .iload_n 1, 1, 0, 0, .null),
  (1, .ifCond .lt 24, 3, 25, 0, .null),
  (4, .iload_n 1, 1, 0, 0, .null),
  (5, .getstatic 155, 3, 0, 0, .retAddr 201),
  (8, .arraylength, 1, 0, 0, .null),
  (9, .if_icmp .ge 16, 3, 25, 0, .null),
  (12, .iload_n 2, 1, 0, 0, .null),
  (13, .ifCond .lt 12, 3, 25, 0, .null),
  (16, .iload_n 2, 1, 0, 0, .null),
  (17, .getstatic 155, 3, 0, 0, .retAddr 201),
  (20, .iload_n 1, 1, 0, 0, .null),
  (21, .iaload, 1, 0, 0, .null),
  (22, .if_icmp .le 9, 3, 31, 0, .null),
  (25, .aload_n 0, 1, 0, 0, .null),
  (26, .iconst (-1), 1, 0, 0, .null),
  (27, .invokevirtual 86, 3, 0, 125, .null),
  (30, .ireturn, 1, 0, 0, .null),
  (31, .aload_n 0, 1, 0, 0, .null),
  (32, .getfield 12, 3, 10, 0, .null),
  (35, .getfield 158, 3, 8, 13, .null),
  (38, .iload_n 1, 1, 0, 0, .null),
  (39, .iaload, 1, 0, 0, .null),
  (40, .istore_n 3, 1, 0, 0, .null),
  (41, .aload_n 0, 1, 0, 0, .null),
  (42, .getfield 12, 3, 10, 0, .null),
  (45, .getfield 158, 3, 8, 13, .null),
  (48, .iload_n 1, 1, 0, 0, .null),
  (49, .iload_n 2, 1, 0, 0, .null),
  (50, .iastore, 1, 0, 0, .null),
  (51, .aload_n 0, 1, 0, 0, .null),
  (52, .getfield 33, 3, 10, 5, .null),
  (55, .invokevirtual 100, 3, 0, 53, .null),
  (58, .aload_n 0, 1, 0, 0, .null),
  (59, .iload_n 3, 1, 0, 0, .null),
  (60, .invokevirtual 103, 3, 0, 126, .null),
  (63, .ireturn, 1, 0, 0, .null)]
set_option maxRecDepth 100000 in
theorem pm_d90 : pm_c90.all (pm_decB prog_1_method_9_code) = true := by decide +kernel
/-- TrainBearers.feed(IIIII)I -/
def pm_c91 : List pm_I := [(0, .aload_n 0, 1, 0, 0, .null),
  (1, .getfield 43, 3, 10, 7, .null),
  (4, .getfield 161, 3, 3, 1, .null),
  (7, .sipush 380, 3, 0, 0, .null),
  (10, .if_icmp .le 5, 3, 15, 0, .null),
  (13, .iconst (-1), 1, 0, 0, .null),
  (14, .ireturn, 1, 0, 0, .null),
  (15, .aload_n 0, 1, 0, 0, .null),
  (16, .getfield 43, 3, 10, 7, .null),
  (19, .iload_n 1, 1, 0, 0, .null),
  (20, .invokevirtual 164, 3, 0, 24, .null),
  (23, .aload_n 0, 1, 0, 0, .null),
  (24, .getfield 43, 3, 10, 7, .null),
  (27, .iload_n 2, 1, 0, 0, .null),
  (28, .invokevirtual 164, 3, 0, 24, .null),
  (31, .aload_n 0, 1, 0, 0, .null),
  (32, .getfield 43, 3, 10, 7, .null),
  (35, .iload_n 3, 1, 0, 0, .null),
  (36, .invokevirtual 164, 3, 0, 24, .null),
  (39, .aload_n 0, 1, 0, 0, .null),
  (40, .getfield 43, 3, 10, 7, .null),
  (43, .iload 4, 2, 0, 0, .null),
  (45, .invokevirtual 164, 3, 0, 24, .null),
  (48, .aload_n 0, 1, 0, 0, .null),
  (49, .getfield 43, 3, 10, 7, .null),
  (52, .iload 5, 2, 0, 0, .null),
  (54, .invokevirtual 164, 3, 0, 24, .null),
  (57, .aload_n 0, 1, 0, 0, .null),
  (58, .getfield 43, 3, 10, 7, .null),
  (61, .getfield 161, 3, 3, 1, .null),
  (64, .ireturn, 1, 0, 0, .null)]
set_option maxRecDepth 100000 in
theorem pm_d91 : pm_c91.all (pm_decB prog_1_method_10_code) = true := by decide +kernel
/-- TrainBearers.end(I)I -/
def pm_c92 : List pm_I := [(0, .iload_n 1, 1, 0, 0, .null),
  (1, .ifCond .lt 14, 3, 15, 0, .null),
  (4, .iload_n 1, 1, 0, 0, .null),
  (5, .aload_n 0, 1, 0, 0, .null),
  (6, .getfield 43, 3, 10, 7, .null),
  (9, .getfield 161, 3, 3, 1, .null),
  (12, .if_icmp .le 5, 3, 17, 0, .null),
  (15, .iconst (-1), 1, 0, 0, .null),
  (16, .ireturn, 1, 0, 0, .null),
  (17, .aload_n 0, 1, 0, 0, .null),
  (18, .getfield 43, 3, 10, 7, .null),
  (21, .iload_n 1, 1, 0, 0, .null),
  (22, .putfield 161, 3, 3, 1, .null),
  (25, .iload_n 1, 1, 0, 0, .null),
  (26, .ireturn, 1, 0, 0, .null)]
set_option maxRecDepth 100000 in
theorem pm_d92 : pm_c92.all (pm_decB prog_1_method_11_code) = true := by decide +kernel
/-- TrainBearers.row()I -/
def pm_c93 : List pm_I := [(0, .aload_n 0, 1, 0, 0, .null),
  (1, .getfield 43, 3, 10, 7, .null),
  (4, .getfield 161, 3, 3, 1, .null),
  (7, .ifCond .ne 10, 3, 17, 0, .null),
  (10, .aload_n 0, 1, 0, 0, .null),
  (11, .bipush (-6), 2, 0, 0, .null),
  (13, .invokevirtual 86, 3, 0, 125, .null),
  (16, .ireturn, 1, 0, 0, .null),
  (17, .iconst 0, 1, 0, 0, .null),
  (18, .istore_n 1, 1, 0, 0, .null),
  (19, .aload_n 0, 1, 0, 0, .null),
  (20, .iconst 0, 1, 0, 0, .null),
  (21, .putfield 168, 3, 10, 15, .null),
  (24, .iconst 0, 1, 0, 0, .null),
  (25, .istore_n 2, 1, 0, 0, .null),
  (26, .iload_n 2, 1, 0, 0, .null),
  (27, .aload_n 0, 1, 0, 0, .null),
  (28, .getfield 43, 3, 10, 7, .null),
  (31, .getfield 161, 3, 3, 1, .null),
  (34, .if_icmp .ge 33, 3, 67, 0, .null),
  (37, .aload_n 0, 1, 0, 0, .null),
  (38, .iload_n 2, 1, 0, 0, .null),
  (39, .invokevirtual 171, 3, 0, 131, .null),
  (42, .ifCond .eq 9, 3, 51, 0, .null),
  (45, .iinc 1 1, 3, 0, 0, .null),
  (48, .goto 13, 3, 61, 0, .null),
  (51, .aload_n 0, 1, 0, 0, .null),
  (52, .dup, 1, 0, 0, .null),
  (53, .getfield 168, 3, 10, 15, .null),
  (56, .iconst 1, 1, 0, 0, .null),
  (57, .iadd, 1, 0, 0, .null),
  (58, .putfield 168, 3, 10, 15, .null),
  (61, .iinc 2 3, 3, 0, 0, .null),
  (64, .goto (-38), 3, 26, 0, .null),
  (67, .aload_n 0, 1, 0, 0, .null),
  (68, .getfield 43, 3, 10, 7, .null),
  (71, .iconst 0, 1, 0, 0, .null),
  (72, .putfield 161, 3, 3, 1, .null),
  (75, .aload_n 0, 1, 0, 0, .null),
  (76, .iload_n 1, 1, 0, 0, .null),
  (77, .invokevirtual 103, 3, 0, 126, .null),
  (80, .ireturn, 1, 0, 0, .null)]
set_option maxRecDepth 100000 in
theorem pm_d93 : pm_c93.all (pm_decB prog_1_method_12_code) = true := by decide +kernel
/-- TrainBearers.puddles()I -/
def pm_c94 : List pm_I := [(0, .aload_n 0, 1, 0, 0, .null),
  (1, .getfield 168, 3, 10, 15, .null),
  (4, .ireturn, 1, 0, 0, .null)]
set_option maxRecDepth 100000 in
theorem pm_d94 : pm_c94.all (pm_decB prog_1_method_13_code) = true := by decide +kernel
/-- TrainBearers.law()I -/
def pm_c95 : List pm_I := [(0, .aload_n 0, 1, 0, 0, .null),
  (1, .getfield 12, 3, 10, 0, .null),
  (4, .getfield 174, 3, 8, 14, .null),
  (7, .bipush 6, 2, 0, 0, .null),
  (9, .if_icmp .lt 18, 3, 27, 0, .null),
  (12, .aload_n 0, 1, 0, 0, .null),
  (13, .getfield 43, 3, 10, 7, .null),
  (16, .iconst 0, 1, 0, 0, .null),
  (17, .putfield 161, 3, 3, 1, .null),
  (20, .aload_n 0, 1, 0, 0, .null),
  (21, .bipush (-5), 2, 0, 0, .null),
  (23, .invokevirtual 86, 3, 0, 125, .null),
  (26, .ireturn, 1, 0, 0, .null),
  (27, .aload_n 0, 1, 0, 0, .null),
  (28, .getfield 43, 3, 10, 7, .null),
  (31, .iconst 1, 1, 0, 0, .null),
  (32, .invokevirtual 177, 3, 0, 25, .null),
  (35, .istore_n 1, 1, 0, 0, .null),
  (36, .aload_n 0, 1, 0, 0, .null),
  (37, .getfield 43, 3, 10, 7, .null),
  (40, .iconst 0, 1, 0, 0, .null),
  (41, .putfield 161, 3, 3, 1, .null),
  (44, .iload_n 1, 1, 0, 0, .null),
  (45, .ifCond .ne 10, 3, 55, 0, .null),
  (48, .aload_n 0, 1, 0, 0, .null),
  (49, .bipush (-6), 2, 0, 0, .null),
  (51, .invokevirtual 86, 3, 0, 125, .null),
  (54, .ireturn, 1, 0, 0, .null),
  (55, .aload_n 0, 1, 0, 0, .null),
  (56, .getfield 12, 3, 10, 0, .null),
  (59, .getfield 181, 3, 8, 15, .null),
  (62, .aload_n 0, 1, 0, 0, .null),
  (63, .getfield 12, 3, 10, 0, .null),
  (66, .getfield 174, 3, 8, 14, .null),
  (69, .new 185, 3, 7, 0, .null),
  (72, .dup, 1, 0, 0, .null),
  (73, .aload_n 0, 1, 0, 0, .null),
  (74, .getfield 43, 3, 10, 7, .null),
  (77, .getfield 187, 3, 3, 7, .null),
  (80, .invokespecial 191, 3, 2, 61, .null),
  (83, .aastore, 1, 0, 0, .null),
  (84, .aload_n 0, 1, 0, 0, .null),
  (85, .getfield 12, 3, 10, 0, .null),
  (88, .dup, 1, 0, 0, .null),
  (89, .getfield 174, 3, 8, 14, .null),
  (92, .iconst 1, 1, 0, 0, .null),
  (93, .iadd, 1, 0, 0, .null),
  (94, .putfield 174, 3, 8, 14, .null),
  (97, .aload_n 0, 1, 0, 0, .null),
  (98, .aload_n 0, 1, 0, 0, .null),
  (99, .getfield 12, 3, 10, 0, .null),
  (102, .getfield 174, 3, 8, 14, .null),
  (105, .iconst 1, 1, 0, 0, .null),
  (106, .isub, 1, 0, 0, .null),
  (107, .invokevirtual 103, 3, 0, 126, .null),
  (110, .ireturn, 1, 0, 0, .null)]
set_option maxRecDepth 100000 in
theorem pm_d95 : pm_c95.all (pm_decB prog_1_method_14_code) = true := by decide +kernel
/-- TrainBearers.orders()I -/
def pm_c96 : List pm_I := [(0, .aload_n 0, 1, 0, 0, .null),
  (1, .getfield 57, 3, 10, 9, .null),
  (4, .iconst (-1), 1, 0, 0, .null),
  (5, .putfield 194, 3, 1, 5, .null),
  (8, .aload_n 0, 1, 0, 0, .null),
  (9, .getfield 43, 3, 10, 7, .null),
  (12, .iconst 0, 1, 0, 0, .null),
  (13, .invokevirtual 177, 3, 0, 25, .null),
  (16, .istore_n 1, 1, 0, 0, .null),
  (17, .aload_n 0, 1, 0, 0, .null),
  (18, .getfield 43, 3, 10, 7, .null),
  (21, .iconst 0, 1, 0, 0, .null),
  (22, .putfield 161, 3, 3, 1, .null),
  (25, .iload_n 1, 1, 0, 0, .null),
  (26, .ifCond .ne 10, 3, 36, 0, .null),
  (29, .aload_n 0, 1, 0, 0, .null),
  (30, .bipush (-6), 2, 0, 0, .null),
  (32, .invokevirtual 86, 3, 0, 125, .null),
  (35, .ireturn, 1, 0, 0, .null),
  (36, .aload_n 0, 1, 0, 0, .null),
  (37, .getfield 16, 3, 10, 1, .null),
  (40, .aload_n 0, 1, 0, 0, .null),
  (41, .getfield 12, 3, 10, 0, .null),
  (44, .invokevirtual 197, 3, 0, 68, .null),
  (47, .aload_n 0, 1, 0, 0, .null),
  (48, .getfield 37, 3, 10, 6, .null),
  (51, .aload_n 0, 1, 0, 0, .null),
  (52, .getfield 33, 3, 10, 5, .null),
  (55, .invokevirtual 201, 3, 0, 56, .null),
  (58, .aload_n 0, 1, 0, 0, .null),
  (59, .getfield 57, 3, 10, 9, .null),
  (62, .aload_n 0, 1, 0, 0, .null),
  (63, .getfield 43, 3, 10, 7, .null),
  (66, .getfield 187, 3, 3, 7, .null),
  (69, .aload_n 0, 1, 0, 0, .null),
  (70, .getfield 16, 3, 10, 1, .null),
  (73, .aload_n 0, 1, 0, 0, .null),
  (74, .getfield 37, 3, 10, 6, .null),
  (77, .invokevirtual 204, 3, 0, 14, .null),
  (80, .istore_n 2, 1, 0, 0, .null),
  (81, .iload_n 2, 1, 0, 0, .null),
  (82, .ifCond .ge 9, 3, 91, 0, .null),
  (85, .aload_n 0, 1, 0, 0, .null),
  (86, .iload_n 2, 1, 0, 0, .null),
  (87, .invokevirtual 86, 3, 0, 125, .null),
  (90, .ireturn, 1, 0, 0, .null),
  (91, .aload_n 0, 1, 0, 0, .null),
  (92, .invokevirtual 208, 3, 0, 132, .null),
  (95, .aload_n 0, 1, 0, 0, .null),
  (96, .iload_n 2, 1, 0, 0, .null),
  (97, .invokevirtual 103, 3, 0, 126, .null),
  (100, .ireturn, 1, 0, 0, .null)]
set_option maxRecDepth 100000 in
theorem pm_d96 : pm_c96.all (pm_decB prog_1_method_15_code) = true := by decide +kernel
/-- TrainBearers.fault()I -/
def pm_c97 : List pm_I := [(0, .aload_n 0, 1, 0, 0, .null),
  (1, .getfield 43, 3, 10, 7, .null),
  (4, .getfield 211, 3, 3, 2, .null),
  (7, .ireturn, 1, 0, 0, .null)]
set_option maxRecDepth 100000 in
theorem pm_d97 : pm_c97.all (pm_decB prog_1_method_16_code) = true := by decide +kernel
/-- TrainBearers.stopped()I -/
def pm_c98 : List pm_I := [(0, .aload_n 0, 1, 0, 0, .null),
  (1, .getfield 57, 3, 10, 9, .null),
  (4, .getfield 194, 3, 1, 5, .null),
  (7, .ireturn, 1, 0, 0, .null)]
set_option maxRecDepth 100000 in
theorem pm_d98 : pm_c98.all (pm_decB prog_1_method_17_code) = true := by decide +kernel
/-- TrainBearers.force(I)I -/
def pm_c99 : List pm_I := [(0, .iload_n 1, 1, 0, 0, .null),
  (1, .iconst (-1), 1, 0, 0, .null),
  (2, .if_icmp .eq 21, 3, 23, 0, .null),
  (5, .aload_n 0, 1, 0, 0, .null),
  (6, .getfield 12, 3, 10, 0, .null),
  (9, .iload_n 1, 1, 0, 0, .null),
  (10, .invokevirtual 214, 3, 0, 71, .null),
  (13, .ifCond .ne 10, 3, 23, 0, .null),
  (16, .aload_n 0, 1, 0, 0, .null),
  (17, .bipush (-2), 2, 0, 0, .null),
  (19, .invokevirtual 86, 3, 0, 125, .null),
  (22, .ireturn, 1, 0, 0, .null),
  (23, .aload_n 0, 1, 0, 0, .null),
  (24, .getfield 12, 3, 10, 0, .null),
  (27, .getfield 217, 3, 8, 16, .null),
  (30, .istore_n 2, 1, 0, 0, .null),
  (31, .aload_n 0, 1, 0, 0, .null),
  (32, .getfield 12, 3, 10, 0, .null),
  (35, .iload_n 1, 1, 0, 0, .null),
  (36, .putfield 217, 3, 8, 16, .null),
  (39, .aload_n 0, 1, 0, 0, .null),
  (40, .iload_n 2, 1, 0, 0, .null),
  (41, .invokevirtual 103, 3, 0, 126, .null),
  (44, .ireturn, 1, 0, 0, .null)]
set_option maxRecDepth 100000 in
theorem pm_d99 : pm_c99.all (pm_decB prog_1_method_18_code) = true := by decide +kernel
/-- TrainBearers.hold(II)I -/
def pm_c100 : List pm_I := [(0, .aload_n 0, 1, 0, 0, .null),
  (1, .aload_n 0, 1, 0, 0, .null),
  (2, .getfield 57, 3, 10, 9, .null),
  (5, .aload_n 0, 1, 0, 0, .null),
  (6, .getfield 12, 3, 10, 0, .null),
  (9, .aload_n 0, 1, 0, 0, .null),
  (10, .getfield 33, 3, 10, 5, .null),
  (13, .iload_n 1, 1, 0, 0, .null),
  (14, .iload_n 2, 1, 0, 0, .null),
  (15, .invokevirtual 220, 3, 0, 9, .null),
  (18, .invokevirtual 224, 3, 0, 127, .null),
  (21, .ireturn, 1, 0, 0, .null)]
set_option maxRecDepth 100000 in
theorem pm_d100 : pm_c100.all (pm_decB prog_1_method_19_code) = true := by decide +kernel
/-- TrainBearers.drop(I)I -/
def pm_c101 : List pm_I := [(0, .aload_n 0, 1, 0, 0, .null),
  (1, .aload_n 0, 1, 0, 0, .null),
  (2, .getfield 57, 3, 10, 9, .null),
  (5, .aload_n 0, 1, 0, 0, .null),
  (6, .getfield 12, 3, 10, 0, .null),
  (9, .aload_n 0, 1, 0, 0, .null),
  (10, .getfield 33, 3, 10, 5, .null),
  (13, .iload_n 1, 1, 0, 0, .null),
  (14, .invokevirtual 227, 3, 0, 10, .null),
  (17, .invokevirtual 224, 3, 0, 127, .null),
  (20, .ireturn, 1, 0, 0, .null)]
set_option maxRecDepth 100000 in
theorem pm_d101 : pm_c101.all (pm_decB prog_1_method_20_code) = true := by decide +kernel
/-- TrainBearers.walk(I)I -/
def pm_c102 : List pm_I := [(0, .aload_n 0, 1, 0, 0, .null),
  (1, .aload_n 0, 1, 0, 0, .null),
  (2, .getfield 57, 3, 10, 9, .null),
  (5, .aload_n 0, 1, 0, 0, .null),
  (6, .getfield 12, 3, 10, 0, .null),
  (9, .aload_n 0, 1, 0, 0, .null),
  (10, .getfield 33, 3, 10, 5, .null),
  (13, .iload_n 1, 1, 0, 0, .null),
  (14, .invokevirtual 231, 3, 0, 11, .null),
  (17, .invokevirtual 224, 3, 0, 127, .null),
  (20, .ireturn, 1, 0, 0, .null)]
set_option maxRecDepth 100000 in
theorem pm_d102 : pm_c102.all (pm_decB prog_1_method_21_code) = true := by decide +kernel
/-- TrainBearers.rest()I -/
def pm_c103 : List pm_I := [(0, .aload_n 0, 1, 0, 0, .null),
  (1, .aload_n 0, 1, 0, 0, .null),
  (2, .getfield 57, 3, 10, 9, .null),
  (5, .aload_n 0, 1, 0, 0, .null),
  (6, .getfield 12, 3, 10, 0, .null),
  (9, .aload_n 0, 1, 0, 0, .null),
  (10, .getfield 33, 3, 10, 5, .null),
  (13, .invokevirtual 234, 3, 0, 13, .null),
  (16, .invokevirtual 224, 3, 0, 127, .null),
  (19, .ireturn, 1, 0, 0, .null)]
set_option maxRecDepth 100000 in
theorem pm_d103 : pm_c103.all (pm_decB prog_1_method_22_code) = true := by decide +kernel
/-- TrainBearers.undo()I -/
def pm_c104 : List pm_I := [(0, .aload_n 0, 1, 0, 0, .null),
  (1, .aload_n 0, 1, 0, 0, .null),
  (2, .getfield 33, 3, 10, 5, .null),
  (5, .aload_n 0, 1, 0, 0, .null),
  (6, .getfield 12, 3, 10, 0, .null),
  (9, .invokevirtual 238, 3, 0, 55, .null),
  (12, .invokevirtual 224, 3, 0, 127, .null),
  (15, .ireturn, 1, 0, 0, .null)]
set_option maxRecDepth 100000 in
theorem pm_d104 : pm_c104.all (pm_decB prog_1_method_23_code) = true := by decide +kernel
/-- TrainBearers.borne(I)I -/
def pm_c105 : List pm_I := [(0, .iload_n 1, 1, 0, 0, .null),
  (1, .ifCond .lt 16, 3, 17, 0, .null),
  (4, .iload_n 1, 1, 0, 0, .null),
  (5, .iconst 2, 1, 0, 0, .null),
  (6, .isub, 1, 0, 0, .null),
  (7, .aload_n 0, 1, 0, 0, .null),
  (8, .getfield 12, 3, 10, 0, .null),
  (11, .getfield 90, 3, 8, 0, .null),
  (14, .if_icmp .lt 5, 3, 19, 0, .null),
  (17, .iconst (-1), 1, 0, 0, .null),
  (18, .ireturn, 1, 0, 0, .null),
  (19, .aload_n 0, 1, 0, 0, .null),
  (20, .getfield 64, 3, 10, 10, .null),
  (23, .aload_n 0, 1, 0, 0, .null),
  (24, .getfield 12, 3, 10, 0, .null),
  (27, .aload_n 0, 1, 0, 0, .null),
  (28, .getfield 50, 3, 10, 8, .null),
  (31, .invokevirtual 242, 3, 0, 3, .null),
  (34, .iload_n 1, 1, 0, 0, .null),
  (35, .ifCond .ne 11, 3, 46, 0, .null),
  (38, .aload_n 0, 1, 0, 0, .null),
  (39, .getfield 64, 3, 10, 10, .null),
  (42, .invokevirtual 246, 3, 0, 1, .null),
  (45, .ireturn, 1, 0, 0, .null),
  (46, .iload_n 1, 1, 0, 0, .null),
  (47, .iconst 1, 1, 0, 0, .null),
  (48, .if_icmp .ne 13, 3, 61, 0, .null),
  (51, .aload_n 0, 1, 0, 0, .null),
  (52, .getfield 64, 3, 10, 10, .null),
  (55, .invokevirtual 250, 3, 0, 2, .null),
  (58, .goto 14, 3, 72, 0, .null),
  (61, .aload_n 0, 1, 0, 0, .null),
  (62, .getfield 64, 3, 10, 10, .null),
  (65, .getfield 253, 3, 0, 5, .null),
  (68, .iload_n 1, 1, 0, 0, .null),
  (69, .iconst 2, 1, 0, 0, .null),
  (70, .isub, 1, 0, 0, .null),
  (71, .iaload, 1, 0, 0, .null),
  (72, .ireturn, 1, 0, 0, .null)]
set_option maxRecDepth 100000 in
theorem pm_d105 : pm_c105.all (pm_decB prog_1_method_24_code) = true := by decide +kernel
/-- TrainBearers.exchanged(I)I -/
def pm_c106 : List pm_I := [(0, .iload_n 1, 1, 0, 0, .null),
  (1, .ifCond .eq 10, 3, 11, 0, .null),
  (4, .iload_n 1, 1, 0, 0, .null),
  (5, .iconst 1, 1, 0, 0, .null),
  (6, .if_icmp .eq 5, 3, 11, 0, .null),
  (9, .iconst (-1), 1, 0, 0, .null),
  (10, .ireturn, 1, 0, 0, .null),
  (11, .aload_n 0, 1, 0, 0, .null),
  (12, .invokevirtual 256, 3, 0, 133, .null),
  (15, .istore_n 2, 1, 0, 0, .null),
  (16, .iload_n 2, 1, 0, 0, .null),
  (17, .iconst (-1), 1, 0, 0, .null),
  (18, .if_icmp .ne 5, 3, 23, 0, .null),
  (21, .iconst (-1), 1, 0, 0, .null),
  (22, .ireturn, 1, 0, 0, .null),
  (23, .iload_n 1, 1, 0, 0, .null),
  (24, .ifCond .ne 10, 3, 34, 0, .null),
  (27, .iload_n 2, 1, 0, 0, .null),
  (28, .bipush 100, 2, 0, 0, .null),
  (30, .irem, 1, 0, 0, .null),
  (31, .goto 7, 3, 38, 0, .null),
  (34, .iload_n 2, 1, 0, 0, .null),
  (35, .bipush 100, 2, 0, 0, .null),
  (37, .idiv, 1, 0, 0, .null),
  (38, .ireturn, 1, 0, 0, .null)]
set_option maxRecDepth 100000 in
theorem pm_d106 : pm_c106.all (pm_decB prog_1_method_25_code) = true := by decide +kernel
/-- TrainBearers.seen(II)I -/
def pm_c107 : List pm_I := [(0, .iload_n 2, 1, 0, 0, .null),
  (1, .ifCond .lt 9, 3, 10, 0, .null),
  (4, .iload_n 2, 1, 0, 0, .null),
  (5, .bipush 40, 2, 0, 0, .null),
  (7, .if_icmp .le 9, 3, 16, 0, .null),
  (10, .aload_n 0, 1, 0, 0, .null),
  (11, .iconst (-1), 1, 0, 0, .null),
  (12, .invokevirtual 86, 3, 0, 125, .null),
  (15, .ireturn, 1, 0, 0, .null),
  (16, .aload_n 0, 1, 0, 0, .null),
  (17, .getfield 12, 3, 10, 0, .null),
  (20, .iload_n 1, 1, 0, 0, .null),
  (21, .invokevirtual 106, 3, 0, 69, .null),
  (24, .ifCond .ne 10, 3, 34, 0, .null),
  (27, .aload_n 0, 1, 0, 0, .null),
  (28, .bipush (-2), 2, 0, 0, .null),
  (30, .invokevirtual 86, 3, 0, 125, .null),
  (33, .ireturn, 1, 0, 0, .null),
  (34, .aload_n 0, 1, 0, 0, .null),
  (35, .getfield 12, 3, 10, 0, .null),
  (38, .getfield 259, 3, 8, 10, .null),
  (41, .bipush 6, 2, 0, 0, .null),
  (43, .if_icmp .lt 10, 3, 53, 0, .null),
  (46, .aload_n 0, 1, 0, 0, .null),
  (47, .bipush (-5), 2, 0, 0, .null),
  (49, .invokevirtual 86, 3, 0, 125, .null),
  (52, .ireturn, 1, 0, 0, .null),
  (53, .aload_n 0, 1, 0, 0, .null),
  (54, .getfield 12, 3, 10, 0, .null),
  (57, .getfield 262, 3, 8, 11, .null),
  (60, .aload_n 0, 1, 0, 0, .null),
  (61, .getfield 12, 3, 10, 0, .null),
  (64, .getfield 259, 3, 8, 10, .null),
  (67, .iload_n 1, 1, 0, 0, .null),
  (68, .iastore, 1, 0, 0, .null),
  (69, .aload_n 0, 1, 0, 0, .null),
  (70, .getfield 12, 3, 10, 0, .null),
  (73, .getfield 265, 3, 8, 12, .null),
  (76, .aload_n 0, 1, 0, 0, .null),
  (77, .getfield 12, 3, 10, 0, .null),
  (80, .getfield 259, 3, 8, 10, .null),
  (83, .iload_n 2, 1, 0, 0, .null),
  (84, .iastore, 1, 0, 0, .null),
  (85, .aload_n 0, 1, 0, 0, .null),
  (86, .getfield 12, 3, 10, 0, .null),
  (89, .dup, 1, 0, 0, .null),
  (90, .getfield 259, 3, 8, 10, .null),
  (93, .iconst 1, 1, 0, 0, .null),
  (94, .iadd, 1, 0, 0, .null),
  (95, .putfield 259, 3, 8, 10, .null),
  (98, .aload_n 0, 1, 0, 0, .null),
  (99, .aload_n 0, 1, 0, 0, .null),
  (100, .getfield 12, 3, 10, 0, .null),
  (103, .getfield 259, 3, 8, 10, .null),
  (106, .invokevirtual 103, 3, 0, 126, .null),
  (109, .ireturn, 1, 0, 0, .null)]
set_option maxRecDepth 100000 in
theorem pm_d107 : pm_c107.all (pm_decB prog_1_method_26_code) = true := by decide +kernel
/-- TrainBearers.forget()I -/
def pm_c108 : List pm_I := [(0, .aload_n 0, 1, 0, 0, .null),
  (1, .getfield 12, 3, 10, 0, .null),
  (4, .getfield 259, 3, 8, 10, .null),
  (7, .istore_n 1, 1, 0, 0, .null),
  (8, .aload_n 0, 1, 0, 0, .null),
  (9, .getfield 12, 3, 10, 0, .null),
  (12, .iconst 0, 1, 0, 0, .null),
  (13, .putfield 259, 3, 8, 10, .null),
  (16, .iload_n 1, 1, 0, 0, .null),
  (17, .ireturn, 1, 0, 0, .null)]
set_option maxRecDepth 100000 in
theorem pm_d108 : pm_c108.all (pm_decB prog_1_method_27_code) = true := by decide +kernel
/-- TrainBearers.letGo()I -/
def pm_c109 : List pm_I := [(0, .aload_n 0, 1, 0, 0, .null),
  (1, .getfield 16, 3, 10, 1, .null),
  (4, .aload_n 0, 1, 0, 0, .null),
  (5, .getfield 12, 3, 10, 0, .null),
  (8, .invokevirtual 197, 3, 0, 68, .null),
  (11, .aload_n 0, 1, 0, 0, .null),
  (12, .getfield 71, 3, 10, 11, .null),
  (15, .aload_n 0, 1, 0, 0, .null),
  (16, .getfield 16, 3, 10, 1, .null),
  (19, .aload_n 0, 1, 0, 0, .null),
  (20, .getfield 50, 3, 10, 8, .null),
  (23, .invokevirtual 268, 3, 0, 19, .null),
  (26, .ireturn, 1, 0, 0, .null)]
set_option maxRecDepth 100000 in
theorem pm_d109 : pm_c109.all (pm_decB prog_1_method_28_code) = true := by decide +kernel
/-- TrainBearers.look(I)I -/
def pm_c110 : List pm_I := [(0, .iload_n 1, 1, 0, 0, .null),
  (1, .ifCond .eq 10, 3, 11, 0, .null),
  (4, .iload_n 1, 1, 0, 0, .null),
  (5, .iconst 1, 1, 0, 0, .null),
  (6, .if_icmp .eq 5, 3, 11, 0, .null),
  (9, .iconst (-1), 1, 0, 0, .null),
  (10, .ireturn, 1, 0, 0, .null),
  (11, .aload_n 0, 1, 0, 0, .null),
  (12, .getfield 16, 3, 10, 1, .null),
  (15, .aload_n 0, 1, 0, 0, .null),
  (16, .getfield 12, 3, 10, 0, .null),
  (19, .invokevirtual 197, 3, 0, 68, .null),
  (22, .aload_n 0, 1, 0, 0, .null),
  (23, .getfield 71, 3, 10, 11, .null),
  (26, .aload_n 0, 1, 0, 0, .null),
  (27, .getfield 16, 3, 10, 1, .null),
  (30, .aload_n 0, 1, 0, 0, .null),
  (31, .getfield 50, 3, 10, 8, .null),
  (34, .invokevirtual 268, 3, 0, 19, .null),
  (37, .istore_n 2, 1, 0, 0, .null),
  (38, .aload_n 0, 1, 0, 0, .null),
  (39, .getfield 71, 3, 10, 11, .null),
  (42, .iload_n 2, 1, 0, 0, .null),
  (43, .aload_n 0, 1, 0, 0, .null),
  (44, .getfield 12, 3, 10, 0, .null),
  (47, .getfield 90, 3, 8, 0, .null),
  (50, .invokevirtual 272, 3, 0, 21, .null),
  (53, .istore_n 3, 1, 0, 0, .null),
  (54, .iload_n 3, 1, 0, 0, .null),
  (55, .iconst (-1), 1, 0, 0, .null),
  (56, .if_icmp .ne 5, 3, 61, 0, .null),
  (59, .iconst (-1), 1, 0, 0, .null),
  (60, .ireturn, 1, 0, 0, .null),
  (61, .iload_n 1, 1, 0, 0, .null),
  (62, .ifCond .ne 7, 3, 69, 0, .null),
  (65, .iload_n 3, 1, 0, 0, .null),
  (66, .goto 12, 3, 78, 0, .null),
  (69, .aload_n 0, 1, 0, 0, .null),
  (70, .getfield 71, 3, 10, 11, .null),
  (73, .iload_n 2, 1, 0, 0, .null),
  (74, .iload_n 3, 1, 0, 0, .null),
  (75, .invokevirtual 275, 3, 0, 22, .null),
  (78, .ireturn, 1, 0, 0, .null)]
set_option maxRecDepth 100000 in
theorem pm_d110 : pm_c110.all (pm_decB prog_1_method_29_code) = true := by decide +kernel
/-- TrainBearers.way(II)I -/
def pm_c111 : List pm_I := [(0, .iload_n 2, 1, 0, 0, .null),
  (1, .iconst (-1), 1, 0, 0, .null),
  (2, .if_icmp .lt 18, 3, 20, 0, .null),
  (5, .aload_n 0, 1, 0, 0, .null),
  (6, .getfield 78, 3, 10, 12, .null),
  (9, .aload_n 0, 1, 0, 0, .null),
  (10, .getfield 12, 3, 10, 0, .null),
  (13, .iload_n 1, 1, 0, 0, .null),
  (14, .invokevirtual 278, 3, 0, 78, .null),
  (17, .ifCond .ne 5, 3, 22, 0, .null),
  (20, .iconst (-1), 1, 0, 0, .null),
  (21, .ireturn, 1, 0, 0, .null),
  (22, .iload_n 2, 1, 0, 0, .null),
  (23, .iconst (-1), 1, 0, 0, .null),
  (24, .if_icmp .ne 18, 3, 42, 0, .null),
  (27, .aload_n 0, 1, 0, 0, .null),
  (28, .getfield 78, 3, 10, 12, .null),
  (31, .aload_n 0, 1, 0, 0, .null),
  (32, .getfield 12, 3, 10, 0, .null),
  (35, .getfield 282, 3, 8, 8, .null),
  (38, .invokevirtual 285, 3, 0, 79, .null),
  (41, .ireturn, 1, 0, 0, .null),
  (42, .aload_n 0, 1, 0, 0, .null),
  (43, .getfield 12, 3, 10, 0, .null),
  (46, .getfield 282, 3, 8, 8, .null),
  (49, .istore_n 3, 1, 0, 0, .null),
  (50, .iconst 0, 1, 0, 0, .null),
  (51, .istore 4, 2, 0, 0, .null),
  (53, .iload 4, 2, 0, 0, .null),
  (55, .bipush 6, 2, 0, 0, .null),
  (57, .if_icmp .ge 28, 3, 85, 0, .null),
  (60, .iload 4, 2, 0, 0, .null),
  (62, .iload_n 2, 1, 0, 0, .null),
  (63, .if_icmp .gt 22, 3, 85, 0, .null),
  (66, .aload_n 0, 1, 0, 0, .null),
  (67, .getfield 78, 3, 10, 12, .null),
  (70, .aload_n 0, 1, 0, 0, .null),
  (71, .getfield 12, 3, 10, 0, .null),
  (74, .iload_n 3, 1, 0, 0, .null),
  (75, .invokevirtual 288, 3, 0, 80, .null),
  (78, .istore_n 3, 1, 0, 0, .null),
  (79, .iinc 4 1, 3, 0, 0, .null),
  (82, .goto (-29), 3, 53, 0, .null),
  (85, .iload_n 2, 1, 0, 0, .null),
  (86, .bipush 6, 2, 0, 0, .null),
  (88, .if_icmp .ge 7, 3, 95, 0, .null),
  (91, .iload_n 3, 1, 0, 0, .null),
  (92, .goto 4, 3, 96, 0, .null),
  (95, .iconst (-1), 1, 0, 0, .null),
  (96, .ireturn, 1, 0, 0, .null)]
set_option maxRecDepth 100000 in
theorem pm_d111 : pm_c111.all (pm_decB prog_1_method_30_code) = true := by decide +kernel
/-- TrainBearers.brought(I)I -/
def pm_c112 : List pm_I := [(0, .aload_n 0, 1, 0, 0, .null),
  (1, .getfield 78, 3, 10, 12, .null),
  (4, .aload_n 0, 1, 0, 0, .null),
  (5, .getfield 12, 3, 10, 0, .null),
  (8, .iload_n 1, 1, 0, 0, .null),
  (9, .invokevirtual 278, 3, 0, 78, .null),
  (12, .ifCond .ne 5, 3, 17, 0, .null),
  (15, .iconst (-1), 1, 0, 0, .null),
  (16, .ireturn, 1, 0, 0, .null),
  (17, .aload_n 0, 1, 0, 0, .null),
  (18, .getfield 16, 3, 10, 1, .null),
  (21, .aload_n 0, 1, 0, 0, .null),
  (22, .getfield 12, 3, 10, 0, .null),
  (25, .invokevirtual 197, 3, 0, 68, .null),
  (28, .iconst 0, 1, 0, 0, .null),
  (29, .istore_n 2, 1, 0, 0, .null),
  (30, .iload_n 2, 1, 0, 0, .null),
  (31, .bipush 6, 2, 0, 0, .null),
  (33, .if_icmp .ge 54, 3, 87, 0, .null),
  (36, .aload_n 0, 1, 0, 0, .null),
  (37, .getfield 16, 3, 10, 1, .null),
  (40, .getfield 282, 3, 8, 8, .null),
  (43, .iload_n 1, 1, 0, 0, .null),
  (44, .if_icmp .eq 43, 3, 87, 0, .null),
  (47, .aload_n 0, 1, 0, 0, .null),
  (48, .getfield 57, 3, 10, 9, .null),
  (51, .aload_n 0, 1, 0, 0, .null),
  (52, .getfield 16, 3, 10, 1, .null),
  (55, .aload_n 0, 1, 0, 0, .null),
  (56, .getfield 37, 3, 10, 6, .null),
  (59, .aload_n 0, 1, 0, 0, .null),
  (60, .getfield 78, 3, 10, 12, .null),
  (63, .aload_n 0, 1, 0, 0, .null),
  (64, .getfield 16, 3, 10, 1, .null),
  (67, .aload_n 0, 1, 0, 0, .null),
  (68, .getfield 16, 3, 10, 1, .null),
  (71, .getfield 282, 3, 8, 8, .null),
  (74, .invokevirtual 288, 3, 0, 80, .null),
  (77, .invokevirtual 231, 3, 0, 11, .null),
  (80, .pop, 1, 0, 0, .null),
  (81, .iinc 2 1, 3, 0, 0, .null),
  (84, .goto (-54), 3, 30, 0, .null),
  (87, .aload_n 0, 1, 0, 0, .null),
  (88, .getfield 16, 3, 10, 1, .null),
  (91, .getfield 291, 3, 8, 9, .null),
  (94, .aload_n 0, 1, 0, 0, .null),
  (95, .getfield 12, 3, 10, 0, .null),
  (98, .getfield 291, 3, 8, 9, .null),
  (101, .isub, 1, 0, 0, .null),
  (102, .ireturn, 1, 0, 0, .null)]
set_option maxRecDepth 100000 in
theorem pm_d112 : pm_c112.all (pm_decB prog_1_method_31_code) = true := by decide +kernel
/-- TrainBearers.folds(II)I -/
def pm_c113 : List pm_I := [(0, .iload_n 1, 1, 0, 0, .null),
  (1, .iconst 1, 1, 0, 0, .null),
  (2, .if_icmp .lt 25, 3, 27, 0, .null),
  (5, .iload_n 1, 1, 0, 0, .null),
  (6, .bipush 60, 2, 0, 0, .null),
  (8, .if_icmp .gt 19, 3, 27, 0, .null),
  (11, .iload_n 2, 1, 0, 0, .null),
  (12, .iconst (-1), 1, 0, 0, .null),
  (13, .if_icmp .eq 16, 3, 29, 0, .null),
  (16, .aload_n 0, 1, 0, 0, .null),
  (17, .getfield 12, 3, 10, 0, .null),
  (20, .iload_n 2, 1, 0, 0, .null),
  (21, .invokevirtual 106, 3, 0, 69, .null),
  (24, .ifCond .ne 5, 3, 29, 0, .null),
  (27, .iconst (-1), 1, 0, 0, .null),
  (28, .ireturn, 1, 0, 0, .null),
  (29, .iconst 0, 1, 0, 0, .null),
  (30, .istore_n 3, 1, 0, 0, .null),
  (31, .iconst 0, 1, 0, 0, .null),
  (32, .istore 4, 2, 0, 0, .null),
  (34, .iconst (-1), 1, 0, 0, .null),
  (35, .istore 5, 2, 0, 0, .null),
  (37, .iconst 0, 1, 0, 0, .null),
  (38, .istore 6, 2, 0, 0, .null),
  (40, .iload 6, 2, 0, 0, .null),
  (42, .aload_n 0, 1, 0, 0, .null),
  (43, .getfield 12, 3, 10, 0, .null),
  (46, .getfield 90, 3, 8, 0, .null),
  (49, .if_icmp .ge 71, 3, 120, 0, .null),
  (52, .aload_n 0, 1, 0, 0, .null),
  (53, .getfield 12, 3, 10, 0, .null),
  (56, .getfield 94, 3, 8, 1, .null),
  (59, .iload 6, 2, 0, 0, .null),
  (61, .iaload, 1, 0, 0, .null),
  (62, .aload_n 0, 1, 0, 0, .null),
  (63, .getfield 12, 3, 10, 0, .null),
  (66, .getfield 97, 3, 8, 2, .null),
  (69, .iload 6, 2, 0, 0, .null),
  (71, .iaload, 1, 0, 0, .null),
  (72, .iadd, 1, 0, 0, .null),
  (73, .istore 7, 2, 0, 0, .null),
  (75, .iload 7, 2, 0, 0, .null),
  (77, .iload_n 1, 1, 0, 0, .null),
  (78, .if_icmp .le 5, 3, 83, 0, .null),
  (81, .iconst (-1), 1, 0, 0, .null),
  (82, .ireturn, 1, 0, 0, .null),
  (83, .iload 7, 2, 0, 0, .null),
  (85, .iload 4, 2, 0, 0, .null),
  (87, .if_icmp .le 9, 3, 96, 0, .null),
  (90, .iinc 3 1, 3, 0, 0, .null),
  (93, .iload_n 1, 1, 0, 0, .null),
  (94, .istore 4, 2, 0, 0, .null),
  (96, .iload 4, 2, 0, 0, .null),
  (98, .iload 7, 2, 0, 0, .null),
  (100, .isub, 1, 0, 0, .null),
  (101, .istore 4, 2, 0, 0, .null),
  (103, .iload 6, 2, 0, 0, .null),
  (105, .iload_n 2, 1, 0, 0, .null),
  (106, .if_icmp .ne 8, 3, 114, 0, .null),
  (109, .iload_n 3, 1, 0, 0, .null),
  (110, .iconst 1, 1, 0, 0, .null),
  (111, .isub, 1, 0, 0, .null),
  (112, .istore 5, 2, 0, 0, .null),
  (114, .iinc 6 1, 3, 0, 0, .null),
  (117, .goto (-77), 3, 40, 0, .null),
  (120, .iload_n 2, 1, 0, 0, .null),
  (121, .iconst (-1), 1, 0, 0, .null),
  (122, .if_icmp .ne 7, 3, 129, 0, .null),
  (125, .iload_n 3, 1, 0, 0, .null),
  (126, .goto 5, 3, 131, 0, .null),
  (129, .iload 5, 2, 0, 0, .null),
  (131, .ireturn, 1, 0, 0, .null)]
set_option maxRecDepth 100000 in
theorem pm_d113 : pm_c113.all (pm_decB prog_1_method_32_code) = true := by decide +kernel
/-- TrainBearers.resting(I)I -/
def pm_c114 : List pm_I := [(0, .aload_n 0, 1, 0, 0, .null),
  (1, .getfield 12, 3, 10, 0, .null),
  (4, .aload_n 0, 1, 0, 0, .null),
  (5, .getfield 12, 3, 10, 0, .null),
  (8, .getfield 282, 3, 8, 8, .null),
  (11, .iload_n 1, 1, 0, 0, .null),
  (12, .invokevirtual 147, 3, 0, 75, .null),
  (15, .iconst (-1), 1, 0, 0, .null),
  (16, .if_icmp .ne 5, 3, 21, 0, .null),
  (19, .iconst (-1), 1, 0, 0, .null),
  (20, .ireturn, 1, 0, 0, .null),
  (21, .aload_n 0, 1, 0, 0, .null),
  (22, .getfield 16, 3, 10, 1, .null),
  (25, .aload_n 0, 1, 0, 0, .null),
  (26, .getfield 12, 3, 10, 0, .null),
  (29, .invokevirtual 197, 3, 0, 68, .null),
  (32, .iconst 0, 1, 0, 0, .null),
  (33, .istore_n 2, 1, 0, 0, .null),
  (34, .iload_n 2, 1, 0, 0, .null),
  (35, .bipush 20, 2, 0, 0, .null),
  (37, .if_icmp .gt 45, 3, 82, 0, .null),
  (40, .aload_n 0, 1, 0, 0, .null),
  (41, .getfield 50, 3, 10, 8, .null),
  (44, .aload_n 0, 1, 0, 0, .null),
  (45, .getfield 16, 3, 10, 1, .null),
  (48, .invokevirtual 294, 3, 0, 49, .null),
  (51, .ifCond .ne 5, 3, 56, 0, .null),
  (54, .iload_n 2, 1, 0, 0, .null),
  (55, .ireturn, 1, 0, 0, .null),
  (56, .aload_n 0, 1, 0, 0, .null),
  (57, .getfield 57, 3, 10, 9, .null),
  (60, .aload_n 0, 1, 0, 0, .null),
  (61, .getfield 16, 3, 10, 1, .null),
  (64, .aload_n 0, 1, 0, 0, .null),
  (65, .getfield 37, 3, 10, 6, .null),
  (68, .invokevirtual 234, 3, 0, 13, .null),
  (71, .ifCond .ge 5, 3, 76, 0, .null),
  (74, .iconst (-1), 1, 0, 0, .null),
  (75, .ireturn, 1, 0, 0, .null),
  (76, .iinc 2 1, 3, 0, 0, .null),
  (79, .goto (-45), 3, 34, 0, .null),
  (82, .iconst (-1), 1, 0, 0, .null),
  (83, .ireturn, 1, 0, 0, .null)]
set_option maxRecDepth 100000 in
theorem pm_d114 : pm_c114.all (pm_decB prog_1_method_33_code) = true := by decide +kernel
/-- TrainBearers.far()I -/
def pm_c115 : List pm_I := [(0, .aload_n 0, 1, 0, 0, .null),
  (1, .getfield 50, 3, 10, 8, .null),
  (4, .aload_n 0, 1, 0, 0, .null),
  (5, .getfield 12, 3, 10, 0, .null),
  (8, .invokevirtual 294, 3, 0, 49, .null),
  (11, .ifCond .eq 5, 3, 16, 0, .null),
  (14, .iconst 0, 1, 0, 0, .null),
  (15, .ireturn, 1, 0, 0, .null),
  (16, .iconst 0, 1, 0, 0, .null),
  (17, .istore_n 1, 1, 0, 0, .null),
  (18, .iconst 0, 1, 0, 0, .null),
  (19, .istore_n 2, 1, 0, 0, .null),
  (20, .iload_n 2, 1, 0, 0, .null),
  (21, .bipush 6, 2, 0, 0, .null),
  (23, .if_icmp .ge 34, 3, 57, 0, .null),
  (26, .aload_n 0, 1, 0, 0, .null),
  (27, .getfield 12, 3, 10, 0, .null),
  (30, .aload_n 0, 1, 0, 0, .null),
  (31, .getfield 12, 3, 10, 0, .null),
  (34, .getfield 282, 3, 8, 8, .null),
  (37, .iload_n 2, 1, 0, 0, .null),
  (38, .invokevirtual 147, 3, 0, 75, .null),
  (41, .iconst (-1), 1, 0, 0, .null),
  (42, .if_icmp .eq 9, 3, 51, 0, .null),
  (45, .iload_n 1, 1, 0, 0, .null),
  (46, .iconst 1, 1, 0, 0, .null),
  (47, .iload_n 2, 1, 0, 0, .null),
  (48, .ishl, 1, 0, 0, .null),
  (49, .ior, 1, 0, 0, .null),
  (50, .istore_n 1, 1, 0, 0, .null),
  (51, .iinc 2 1, 3, 0, 0, .null),
  (54, .goto (-34), 3, 20, 0, .null),
  (57, .iload_n 1, 1, 0, 0, .null),
  (58, .ireturn, 1, 0, 0, .null)]
set_option maxRecDepth 100000 in
theorem pm_d115 : pm_c115.all (pm_decB prog_1_method_34_code) = true := by decide +kernel
/-- TrainBearers.steady()J -/
def pm_c116 : List pm_I := [(0, .ldc2_w 297, 3, 1, 0, .long (1000000000000)),
  (3, .lstore_n 1, 1, 0, 0, .null),
  (4, .iconst 0, 1, 0, 0, .null),
  (5, .istore_n 3, 1, 0, 0, .null),
  (6, .iload_n 3, 1, 0, 0, .null),
  (7, .aload_n 0, 1, 0, 0, .null),
  (8, .getfield 12, 3, 10, 0, .null),
  (11, .getfield 121, 3, 8, 3, .null),
  (14, .if_icmp .ge 59, 3, 73, 0, .null),
  (17, .aload_n 0, 1, 0, 0, .null),
  (18, .getfield 12, 3, 10, 0, .null),
  (21, .getfield 130, 3, 8, 6, .null),
  (24, .iload_n 3, 1, 0, 0, .null),
  (25, .iaload, 1, 0, 0, .null),
  (26, .iconst (-1), 1, 0, 0, .null),
  (27, .if_icmp .eq 40, 3, 67, 0, .null),
  (30, .bipush 10, 2, 0, 0, .null),
  (32, .aload_n 0, 1, 0, 0, .null),
  (33, .getfield 12, 3, 10, 0, .null),
  (36, .getfield 158, 3, 8, 13, .null),
  (39, .iconst 1, 1, 0, 0, .null),
  (40, .iaload, 1, 0, 0, .null),
  (41, .aload_n 0, 1, 0, 0, .null),
  (42, .getfield 12, 3, 10, 0, .null),
  (45, .getfield 127, 3, 8, 5, .null),
  (48, .iload_n 3, 1, 0, 0, .null),
  (49, .iaload, 1, 0, 0, .null),
  (50, .imul, 1, 0, 0, .null),
  (51, .bipush 9, 2, 0, 0, .null),
  (53, .idiv, 1, 0, 0, .null),
  (54, .isub, 1, 0, 0, .null),
  (55, .istore 4, 2, 0, 0, .null),
  (57, .lload_n 1, 1, 0, 0, .null),
  (58, .iload 4, 2, 0, 0, .null),
  (60, .i2l, 1, 0, 0, .null),
  (61, .lmul, 1, 0, 0, .null),
  (62, .ldc2_w 299, 3, 1, 0, .long (10)),
  (65, .ldiv, 1, 0, 0, .null),
  (66, .lstore_n 1, 1, 0, 0, .null),
  (67, .iinc 3 1, 3, 0, 0, .null),
  (70, .goto (-64), 3, 6, 0, .null),
  (73, .lload_n 1, 1, 0, 0, .null),
  (74, .lreturn, 1, 0, 0, .null)]
set_option maxRecDepth 100000 in
theorem pm_d116 : pm_c116.all (pm_decB prog_1_method_35_code) = true := by decide +kernel
/-- TrainBearers.compare(I)I -/
def pm_c117 : List pm_I := [(0, .iload_n 1, 1, 0, 0, .null),
  (1, .iconst (-1), 1, 0, 0, .null),
  (2, .if_icmp .eq 16, 3, 18, 0, .null),
  (5, .aload_n 0, 1, 0, 0, .null),
  (6, .getfield 12, 3, 10, 0, .null),
  (9, .iload_n 1, 1, 0, 0, .null),
  (10, .invokevirtual 214, 3, 0, 71, .null),
  (13, .ifCond .ne 5, 3, 18, 0, .null),
  (16, .iconst (-1), 1, 0, 0, .null),
  (17, .ireturn, 1, 0, 0, .null),
  (18, .aload_n 0, 1, 0, 0, .null),
  (19, .getfield 16, 3, 10, 1, .null),
  (22, .aload_n 0, 1, 0, 0, .null),
  (23, .getfield 12, 3, 10, 0, .null),
  (26, .invokevirtual 197, 3, 0, 68, .null),
  (29, .aload_n 0, 1, 0, 0, .null),
  (30, .getfield 16, 3, 10, 1, .null),
  (33, .iload_n 1, 1, 0, 0, .null),
  (34, .putfield 217, 3, 8, 16, .null),
  (37, .aload_n 0, 1, 0, 0, .null),
  (38, .getfield 50, 3, 10, 8, .null),
  (41, .aload_n 0, 1, 0, 0, .null),
  (42, .getfield 16, 3, 10, 1, .null),
  (45, .invokevirtual 294, 3, 0, 49, .null),
  (48, .ireturn, 1, 0, 0, .null)]
set_option maxRecDepth 100000 in
theorem pm_d117 : pm_c117.all (pm_decB prog_1_method_36_code) = true := by decide +kernel
/-- TrainBearers.generations(II)I -/
def pm_c118 : List pm_I := [(0, .iload_n 1, 1, 0, 0, .null),
  (1, .ifCond .lt 21, 3, 22, 0, .null),
  (4, .iload_n 1, 1, 0, 0, .null),
  (5, .ldc_w 301, 3, 0, 0, .int (1000000)),
  (8, .if_icmp .gt 14, 3, 22, 0, .null),
  (11, .iload_n 2, 1, 0, 0, .null),
  (12, .iconst 1, 1, 0, 0, .null),
  (13, .if_icmp .lt 9, 3, 22, 0, .null),
  (16, .iload_n 2, 1, 0, 0, .null),
  (17, .bipush 60, 2, 0, 0, .null),
  (19, .if_icmp .le 9, 3, 28, 0, .null),
  (22, .aload_n 0, 1, 0, 0, .null),
  (23, .iconst (-1), 1, 0, 0, .null),
  (24, .invokevirtual 86, 3, 0, 125, .null),
  (27, .ireturn, 1, 0, 0, .null),
  (28, .aload_n 0, 1, 0, 0, .null),
  (29, .getfield 12, 3, 10, 0, .null),
  (32, .getfield 121, 3, 8, 3, .null),
  (35, .ifCond .eq 13, 3, 48, 0, .null),
  (38, .aload_n 0, 1, 0, 0, .null),
  (39, .getfield 12, 3, 10, 0, .null),
  (42, .getfield 90, 3, 8, 0, .null),
  (45, .ifCond .ne 10, 3, 55, 0, .null),
  (48, .aload_n 0, 1, 0, 0, .null),
  (49, .bipush (-3), 2, 0, 0, .null),
  (51, .invokevirtual 86, 3, 0, 125, .null),
  (54, .ireturn, 1, 0, 0, .null),
  (55, .aload_n 0, 1, 0, 0, .null),
  (56, .getfield 16, 3, 10, 1, .null),
  (59, .aload_n 0, 1, 0, 0, .null),
  (60, .getfield 12, 3, 10, 0, .null),
  (63, .invokevirtual 197, 3, 0, 68, .null),
  (66, .aload_n 0, 1, 0, 0, .null),
  (67, .getfield 57, 3, 10, 9, .null),
  (70, .aload_n 0, 1, 0, 0, .null),
  (71, .getfield 16, 3, 10, 1, .null),
  (74, .aload_n 0, 1, 0, 0, .null),
  (75, .getfield 37, 3, 10, 6, .null),
  (78, .iload_n 1, 1, 0, 0, .null),
  (79, .iload_n 2, 1, 0, 0, .null),
  (80, .invokevirtual 302, 3, 0, 16, .null),
  (83, .aload_n 0, 1, 0, 0, .null),
  (84, .getfield 19, 3, 10, 2, .null),
  (87, .aload_n 0, 1, 0, 0, .null),
  (88, .getfield 16, 3, 10, 1, .null),
  (91, .invokevirtual 197, 3, 0, 68, .null),
  (94, .aload_n 0, 1, 0, 0, .null),
  (95, .aload_n 0, 1, 0, 0, .null),
  (96, .getfield 16, 3, 10, 1, .null),
  (99, .getfield 291, 3, 8, 9, .null),
  (102, .aload_n 0, 1, 0, 0, .null),
  (103, .getfield 12, 3, 10, 0, .null),
  (106, .getfield 291, 3, 8, 9, .null),
  (109, .isub, 1, 0, 0, .null),
  (110, .invokevirtual 103, 3, 0, 126, .null),
  (113, .ireturn, 1, 0, 0, .null)]
set_option maxRecDepth 100000 in
theorem pm_d118 : pm_c118.all (pm_decB prog_1_method_37_code) = true := by decide +kernel
/-- TrainBearers.drawn(II)I -/
def pm_c119 : List pm_I := [(0, .iload_n 2, 1, 0, 0, .null),
  (1, .ifCond .ne 24, 3, 25, 0, .null),
  (4, .aload_n 0, 1, 0, 0, .null),
  (5, .getfield 19, 3, 10, 2, .null),
  (8, .iload_n 1, 1, 0, 0, .null),
  (9, .invokevirtual 133, 3, 0, 70, .null),
  (12, .ifCond .eq 13, 3, 25, 0, .null),
  (15, .aload_n 0, 1, 0, 0, .null),
  (16, .getfield 19, 3, 10, 2, .null),
  (19, .getfield 127, 3, 8, 5, .null),
  (22, .iload_n 1, 1, 0, 0, .null),
  (23, .iaload, 1, 0, 0, .null),
  (24, .ireturn, 1, 0, 0, .null),
  (25, .iload_n 2, 1, 0, 0, .null),
  (26, .iconst 1, 1, 0, 0, .null),
  (27, .if_icmp .ne 24, 3, 51, 0, .null),
  (30, .aload_n 0, 1, 0, 0, .null),
  (31, .getfield 19, 3, 10, 2, .null),
  (34, .iload_n 1, 1, 0, 0, .null),
  (35, .invokevirtual 133, 3, 0, 70, .null),
  (38, .ifCond .eq 13, 3, 51, 0, .null),
  (41, .aload_n 0, 1, 0, 0, .null),
  (42, .getfield 19, 3, 10, 2, .null),
  (45, .getfield 130, 3, 8, 6, .null),
  (48, .iload_n 1, 1, 0, 0, .null),
  (49, .iaload, 1, 0, 0, .null),
  (50, .ireturn, 1, 0, 0, .null),
  (51, .iload_n 2, 1, 0, 0, .null),
  (52, .iconst 2, 1, 0, 0, .null),
  (53, .if_icmp .ne 24, 3, 77, 0, .null),
  (56, .aload_n 0, 1, 0, 0, .null),
  (57, .getfield 19, 3, 10, 2, .null),
  (60, .iload_n 1, 1, 0, 0, .null),
  (61, .invokevirtual 106, 3, 0, 69, .null),
  (64, .ifCond .eq 13, 3, 77, 0, .null),
  (67, .aload_n 0, 1, 0, 0, .null),
  (68, .getfield 19, 3, 10, 2, .null),
  (71, .getfield 97, 3, 8, 2, .null),
  (74, .iload_n 1, 1, 0, 0, .null),
  (75, .iaload, 1, 0, 0, .null),
  (76, .ireturn, 1, 0, 0, .null),
  (77, .iconst (-1), 1, 0, 0, .null),
  (78, .ireturn, 1, 0, 0, .null)]
set_option maxRecDepth 100000 in
theorem pm_d119 : pm_c119.all (pm_decB prog_1_method_38_code) = true := by decide +kernel
/-- TrainBearers.image(I)I -/
def pm_c120 : List pm_I := [(0, .iload_n 1, 1, 0, 0, .null),
  (1, .ifCond .lt 8, 3, 9, 0, .null),
  (4, .iload_n 1, 1, 0, 0, .null),
  (5, .iconst 2, 1, 0, 0, .null),
  (6, .if_icmp .lt 9, 3, 15, 0, .null),
  (9, .aload_n 0, 1, 0, 0, .null),
  (10, .iconst (-1), 1, 0, 0, .null),
  (11, .invokevirtual 86, 3, 0, 125, .null),
  (14, .ireturn, 1, 0, 0, .null),
  (15, .aload_n 0, 1, 0, 0, .null),
  (16, .getfield 22, 3, 10, 3, .null),
  (19, .iload_n 1, 1, 0, 0, .null),
  (20, .aaload, 1, 0, 0, .null),
  (21, .aload_n 0, 1, 0, 0, .null),
  (22, .getfield 12, 3, 10, 0, .null),
  (25, .invokevirtual 197, 3, 0, 68, .null),
  (28, .aload_n 0, 1, 0, 0, .null),
  (29, .getfield 26, 3, 10, 4, .null),
  (32, .iload_n 1, 1, 0, 0, .null),
  (33, .iconst 1, 1, 0, 0, .null),
  (34, .bastore, 1, 0, 0, .null),
  (35, .aload_n 0, 1, 0, 0, .null),
  (36, .iconst 0, 1, 0, 0, .null),
  (37, .invokevirtual 103, 3, 0, 126, .null),
  (40, .ireturn, 1, 0, 0, .null)]
set_option maxRecDepth 100000 in
theorem pm_d120 : pm_c120.all (pm_decB prog_1_method_39_code) = true := by decide +kernel
/-- TrainBearers.back(I)I -/
def pm_c121 : List pm_I := [(0, .iload_n 1, 1, 0, 0, .null),
  (1, .ifCond .lt 8, 3, 9, 0, .null),
  (4, .iload_n 1, 1, 0, 0, .null),
  (5, .iconst 2, 1, 0, 0, .null),
  (6, .if_icmp .lt 9, 3, 15, 0, .null),
  (9, .aload_n 0, 1, 0, 0, .null),
  (10, .iconst (-1), 1, 0, 0, .null),
  (11, .invokevirtual 86, 3, 0, 125, .null),
  (14, .ireturn, 1, 0, 0, .null),
  (15, .aload_n 0, 1, 0, 0, .null),
  (16, .getfield 26, 3, 10, 4, .null),
  (19, .iload_n 1, 1, 0, 0, .null),
  (20, .baload, 1, 0, 0, .null),
  (21, .ifCond .ne 10, 3, 31, 0, .null),
  (24, .aload_n 0, 1, 0, 0, .null),
  (25, .bipush (-2), 2, 0, 0, .null),
  (27, .invokevirtual 86, 3, 0, 125, .null),
  (30, .ireturn, 1, 0, 0, .null),
  (31, .aload_n 0, 1, 0, 0, .null),
  (32, .getfield 12, 3, 10, 0, .null),
  (35, .aload_n 0, 1, 0, 0, .null),
  (36, .getfield 22, 3, 10, 3, .null),
  (39, .iload_n 1, 1, 0, 0, .null),
  (40, .aaload, 1, 0, 0, .null),
  (41, .invokevirtual 197, 3, 0, 68, .null),
  (44, .aload_n 0, 1, 0, 0, .null),
  (45, .getfield 33, 3, 10, 5, .null),
  (48, .invokevirtual 100, 3, 0, 53, .null),
  (51, .aload_n 0, 1, 0, 0, .null),
  (52, .iconst 0, 1, 0, 0, .null),
  (53, .invokevirtual 103, 3, 0, 126, .null),
  (56, .ireturn, 1, 0, 0, .null)]
set_option maxRecDepth 100000 in
theorem pm_d121 : pm_c121.all (pm_decB prog_1_method_40_code) = true := by decide +kernel
/-- TrainBearers.count(I)I -/
def pm_c122 : List pm_I := [(0, .iload_n 1, 1, 0, 0, .null),
  (1, .tableswitch 155 0 14 #[75, 83, 91, 99, 107, 115, 123, 131, 139, 155, 155, 155, 155, 155, 147], 75, 0, 0, .null),
  (76, .aload_n 0, 1, 0, 0, .null),
  (77, .getfield 12, 3, 10, 0, .null),
  (80, .getfield 90, 3, 8, 0, .null),
  (83, .ireturn, 1, 0, 0, .null),
  (84, .aload_n 0, 1, 0, 0, .null),
  (85, .getfield 12, 3, 10, 0, .null),
  (88, .getfield 121, 3, 8, 3, .null),
  (91, .ireturn, 1, 0, 0, .null),
  (92, .aload_n 0, 1, 0, 0, .null),
  (93, .getfield 12, 3, 10, 0, .null),
  (96, .invokevirtual 306, 3, 0, 74, .null),
  (99, .ireturn, 1, 0, 0, .null),
  (100, .aload_n 0, 1, 0, 0, .null),
  (101, .getfield 12, 3, 10, 0, .null),
  (104, .getfield 291, 3, 8, 9, .null),
  (107, .ireturn, 1, 0, 0, .null),
  (108, .aload_n 0, 1, 0, 0, .null),
  (109, .getfield 12, 3, 10, 0, .null),
  (112, .getfield 282, 3, 8, 8, .null),
  (115, .ireturn, 1, 0, 0, .null),
  (116, .aload_n 0, 1, 0, 0, .null),
  (117, .getfield 12, 3, 10, 0, .null),
  (120, .getfield 259, 3, 8, 10, .null),
  (123, .ireturn, 1, 0, 0, .null),
  (124, .aload_n 0, 1, 0, 0, .null),
  (125, .getfield 12, 3, 10, 0, .null),
  (128, .getfield 174, 3, 8, 14, .null),
  (131, .ireturn, 1, 0, 0, .null),
  (132, .aload_n 0, 1, 0, 0, .null),
  (133, .getfield 33, 3, 10, 5, .null),
  (136, .getfield 309, 3, 5, 2, .null),
  (139, .ireturn, 1, 0, 0, .null),
  (140, .aload_n 0, 1, 0, 0, .null),
  (141, .getfield 43, 3, 10, 7, .null),
  (144, .getfield 161, 3, 3, 1, .null),
  (147, .ireturn, 1, 0, 0, .null),
  (148, .aload_n 0, 1, 0, 0, .null),
  (149, .getfield 12, 3, 10, 0, .null),
  (152, .getfield 217, 3, 8, 16, .null),
  (155, .ireturn, 1, 0, 0, .null),
  (156, .aload_n 0, 1, 0, 0, .null),
  (157, .iload_n 1, 1, 0, 0, .null),
  (158, .invokevirtual 310, 3, 0, 124, .null),
  (161, .ireturn, 1, 0, 0, .null)]
set_option maxRecDepth 100000 in
theorem pm_d122 : pm_c122.all (pm_decB prog_1_method_41_code) = true := by decide +kernel
/-- TrainBearers.status()I -/
def pm_c123 : List pm_I := [(0, .aload_n 0, 1, 0, 0, .null),
  (1, .getfield 313, 3, 10, 14, .null),
  (4, .ireturn, 1, 0, 0, .null)]
set_option maxRecDepth 100000 in
theorem pm_d123 : pm_c123.all (pm_decB prog_1_method_42_code) = true := by decide +kernel
/-- TrainBearers.countRefusedOrTerm(I)I -/
def pm_c124 : List pm_I := [(0, .iload_n 1, 1, 0, 0, .null),
  (1, .tableswitch 117 9 17 #[51, 58, 65, 72, 79, 117, 87, 97, 107], 51, 0, 0, .null),
  (52, .aload_n 0, 1, 0, 0, .null),
  (53, .getfield 82, 3, 10, 13, .null),
  (56, .iconst 1, 1, 0, 0, .null),
  (57, .iaload, 1, 0, 0, .null),
  (58, .ireturn, 1, 0, 0, .null),
  (59, .aload_n 0, 1, 0, 0, .null),
  (60, .getfield 82, 3, 10, 13, .null),
  (63, .iconst 2, 1, 0, 0, .null),
  (64, .iaload, 1, 0, 0, .null),
  (65, .ireturn, 1, 0, 0, .null),
  (66, .aload_n 0, 1, 0, 0, .null),
  (67, .getfield 82, 3, 10, 13, .null),
  (70, .iconst 3, 1, 0, 0, .null),
  (71, .iaload, 1, 0, 0, .null),
  (72, .ireturn, 1, 0, 0, .null),
  (73, .aload_n 0, 1, 0, 0, .null),
  (74, .getfield 82, 3, 10, 13, .null),
  (77, .iconst 5, 1, 0, 0, .null),
  (78, .iaload, 1, 0, 0, .null),
  (79, .ireturn, 1, 0, 0, .null),
  (80, .aload_n 0, 1, 0, 0, .null),
  (81, .getfield 82, 3, 10, 13, .null),
  (84, .bipush 6, 2, 0, 0, .null),
  (86, .iaload, 1, 0, 0, .null),
  (87, .ireturn, 1, 0, 0, .null),
  (88, .aload_n 0, 1, 0, 0, .null),
  (89, .getfield 12, 3, 10, 0, .null),
  (92, .getfield 158, 3, 8, 13, .null),
  (95, .iconst 0, 1, 0, 0, .null),
  (96, .iaload, 1, 0, 0, .null),
  (97, .ireturn, 1, 0, 0, .null),
  (98, .aload_n 0, 1, 0, 0, .null),
  (99, .getfield 12, 3, 10, 0, .null),
  (102, .getfield 158, 3, 8, 13, .null),
  (105, .iconst 1, 1, 0, 0, .null),
  (106, .iaload, 1, 0, 0, .null),
  (107, .ireturn, 1, 0, 0, .null),
  (108, .aload_n 0, 1, 0, 0, .null),
  (109, .getfield 12, 3, 10, 0, .null),
  (112, .getfield 158, 3, 8, 13, .null),
  (115, .iconst 2, 1, 0, 0, .null),
  (116, .iaload, 1, 0, 0, .null),
  (117, .ireturn, 1, 0, 0, .null),
  (118, .iconst (-1), 1, 0, 0, .null),
  (119, .ireturn, 1, 0, 0, .null)]
set_option maxRecDepth 100000 in
theorem pm_d124 : pm_c124.all (pm_decB prog_1_method_43_code) = true := by decide +kernel
end
section
/-- TrainBearers.refuse(I)I -/
def pm_c125 : List pm_I := [(0, .aload_n 0, 1, 0, 0, .null),
  (1, .iload_n 1, 1, 0, 0, .null),
  (2, .putfield 313, 3, 10, 14, .null),
  (5, .iload_n 1, 1, 0, 0, .null),
  (6, .ifCond .ge 24, 3, 30, 0, .null),
  (9, .iload_n 1, 1, 0, 0, .null),
  (10, .aload_n 0, 1, 0, 0, .null),
  (11, .getfield 82, 3, 10, 13, .null),
  (14, .arraylength, 1, 0, 0, .null),
  (15, .ineg, 1, 0, 0, .null),
  (16, .if_icmp .le 14, 3, 30, 0, .null),
  (19, .aload_n 0, 1, 0, 0, .null),
  (20, .getfield 82, 3, 10, 13, .null),
  (23, .iload_n 1, 1, 0, 0, .null),
  (24, .ineg, 1, 0, 0, .null),
  (25, .dup2, 1, 0, 0, .null),
  (26, .iaload, 1, 0, 0, .null),
  (27, .iconst 1, 1, 0, 0, .null),
  (28, .iadd, 1, 0, 0, .null),
  (29, .iastore, 1, 0, 0, .null),
  (30, .iload_n 1, 1, 0, 0, .null),
  (31, .ireturn, 1, 0, 0, .null)]
set_option maxRecDepth 100000 in
theorem pm_d125 : pm_c125.all (pm_decB prog_1_method_44_code) = true := by decide +kernel
/-- TrainBearers.accept(I)I -/
def pm_c126 : List pm_I := [(0, .aload_n 0, 1, 0, 0, .null),
  (1, .iconst 0, 1, 0, 0, .null),
  (2, .putfield 313, 3, 10, 14, .null),
  (5, .iload_n 1, 1, 0, 0, .null),
  (6, .ireturn, 1, 0, 0, .null)]
set_option maxRecDepth 100000 in
theorem pm_d126 : pm_c126.all (pm_decB prog_1_method_45_code) = true := by decide +kernel
/-- TrainBearers.settle(I)I -/
def pm_c127 : List pm_I := [(0, .iload_n 1, 1, 0, 0, .null),
  (1, .ifCond .ge 11, 3, 12, 0, .null),
  (4, .aload_n 0, 1, 0, 0, .null),
  (5, .iload_n 1, 1, 0, 0, .null),
  (6, .invokevirtual 86, 3, 0, 125, .null),
  (9, .goto 8, 3, 17, 0, .null),
  (12, .aload_n 0, 1, 0, 0, .null),
  (13, .iload_n 1, 1, 0, 0, .null),
  (14, .invokevirtual 103, 3, 0, 126, .null),
  (17, .ireturn, 1, 0, 0, .null)]
set_option maxRecDepth 100000 in
theorem pm_d127 : pm_c127.all (pm_decB prog_1_method_46_code) = true := by decide +kernel
/-- TrainBearers.isPlace(I)Z -/
def pm_c128 : List pm_I := [(0, .iload_n 0, 1, 0, 0, .null),
  (1, .ifCond .lt 13, 3, 14, 0, .null),
  (4, .iload_n 0, 1, 0, 0, .null),
  (5, .bipush 6, 2, 0, 0, .null),
  (7, .if_icmp .ge 7, 3, 14, 0, .null),
  (10, .iconst 1, 1, 0, 0, .null),
  (11, .goto 4, 3, 15, 0, .null),
  (14, .iconst 0, 1, 0, 0, .null),
  (15, .ireturn, 1, 0, 0, .null)]
set_option maxRecDepth 100000 in
theorem pm_d128 : pm_c128.all (pm_decB prog_1_method_47_code) = true := by decide +kernel
/-- TrainBearers.canBeLane(III)Z -/
def pm_c129 : List pm_I := [(0, .iload_n 0, 1, 0, 0, .null),
  (1, .invokestatic 316, 3, 1, 128, .null),
  (4, .ifCond .eq 30, 3, 34, 0, .null),
  (7, .iload_n 1, 1, 0, 0, .null),
  (8, .invokestatic 316, 3, 1, 128, .null),
  (11, .ifCond .eq 23, 3, 34, 0, .null),
  (14, .iload_n 0, 1, 0, 0, .null),
  (15, .iload_n 1, 1, 0, 0, .null),
  (16, .if_icmp .eq 18, 3, 34, 0, .null),
  (19, .iload_n 2, 1, 0, 0, .null),
  (20, .iconst (-1), 1, 0, 0, .null),
  (21, .if_icmp .lt 13, 3, 34, 0, .null),
  (24, .iload_n 2, 1, 0, 0, .null),
  (25, .bipush 9, 2, 0, 0, .null),
  (27, .if_icmp .gt 7, 3, 34, 0, .null),
  (30, .iconst 1, 1, 0, 0, .null),
  (31, .goto 4, 3, 35, 0, .null),
  (34, .iconst 0, 1, 0, 0, .null),
  (35, .ireturn, 1, 0, 0, .null)]
set_option maxRecDepth 100000 in
theorem pm_d129 : pm_c129.all (pm_decB prog_1_method_48_code) = true := by decide +kernel
/-- TrainBearers.within(II)I -/
def pm_c130 : List pm_I := [(0, .iconst 0, 1, 0, 0, .null),
  (1, .iload_n 1, 1, 0, 0, .null),
  (2, .iload_n 0, 1, 0, 0, .null),
  (3, .invokestatic 319, 3, 1, 259, .null),
  (6, .invokestatic 324, 3, 1, 258, .null),
  (9, .ireturn, 1, 0, 0, .null)]
set_option maxRecDepth 100000 in
theorem pm_d130 : pm_c130.all (pm_decB prog_1_method_49_code) = true := by decide +kernel
/-- TrainBearers.layTold(I)Z -/
def pm_c131 : List pm_I := [(0, .iload_n 1, 1, 0, 0, .null),
  (1, .iconst 2, 1, 0, 0, .null),
  (2, .iadd, 1, 0, 0, .null),
  (3, .aload_n 0, 1, 0, 0, .null),
  (4, .getfield 43, 3, 10, 7, .null),
  (7, .getfield 161, 3, 3, 1, .null),
  (10, .if_icmp .lt 5, 3, 15, 0, .null),
  (13, .iconst 0, 1, 0, 0, .null),
  (14, .ireturn, 1, 0, 0, .null),
  (15, .aload_n 0, 1, 0, 0, .null),
  (16, .getfield 43, 3, 10, 7, .null),
  (19, .getfield 327, 3, 3, 0, .null),
  (22, .iload_n 1, 1, 0, 0, .null),
  (23, .iconst 2, 1, 0, 0, .null),
  (24, .iadd, 1, 0, 0, .null),
  (25, .iaload, 1, 0, 0, .null),
  (26, .sipush 255, 3, 0, 0, .null),
  (29, .if_icmp .ne 7, 3, 36, 0, .null),
  (32, .iconst (-1), 1, 0, 0, .null),
  (33, .goto 14, 3, 47, 0, .null),
  (36, .aload_n 0, 1, 0, 0, .null),
  (37, .getfield 43, 3, 10, 7, .null),
  (40, .getfield 327, 3, 3, 0, .null),
  (43, .iload_n 1, 1, 0, 0, .null),
  (44, .iconst 2, 1, 0, 0, .null),
  (45, .iadd, 1, 0, 0, .null),
  (46, .iaload, 1, 0, 0, .null),
  (47, .istore_n 2, 1, 0, 0, .null),
  (48, .aload_n 0, 1, 0, 0, .null),
  (49, .getfield 43, 3, 10, 7, .null),
  (52, .getfield 327, 3, 3, 0, .null),
  (55, .iload_n 1, 1, 0, 0, .null),
  (56, .iaload, 1, 0, 0, .null),
  (57, .aload_n 0, 1, 0, 0, .null),
  (58, .getfield 43, 3, 10, 7, .null),
  (61, .getfield 327, 3, 3, 0, .null),
  (64, .iload_n 1, 1, 0, 0, .null),
  (65, .iconst 1, 1, 0, 0, .null),
  (66, .iadd, 1, 0, 0, .null),
  (67, .iaload, 1, 0, 0, .null),
  (68, .iload_n 2, 1, 0, 0, .null),
  (69, .invokestatic 143, 3, 1, 129, .null),
  (72, .ifCond .ne 5, 3, 77, 0, .null),
  (75, .iconst 0, 1, 0, 0, .null),
  (76, .ireturn, 1, 0, 0, .null),
  (77, .aload_n 0, 1, 0, 0, .null),
  (78, .getfield 12, 3, 10, 0, .null),
  (81, .aload_n 0, 1, 0, 0, .null),
  (82, .getfield 43, 3, 10, 7, .null),
  (85, .getfield 327, 3, 3, 0, .null),
  (88, .iload_n 1, 1, 0, 0, .null),
  (89, .iaload, 1, 0, 0, .null),
  (90, .aload_n 0, 1, 0, 0, .null),
  (91, .getfield 43, 3, 10, 7, .null),
  (94, .getfield 327, 3, 3, 0, .null),
  (97, .iload_n 1, 1, 0, 0, .null),
  (98, .iconst 1, 1, 0, 0, .null),
  (99, .iadd, 1, 0, 0, .null),
  (100, .iaload, 1, 0, 0, .null),
  (101, .iload_n 2, 1, 0, 0, .null),
  (102, .invokevirtual 151, 3, 0, 76, .null),
  (105, .iconst 1, 1, 0, 0, .null),
  (106, .ireturn, 1, 0, 0, .null)]
set_option maxRecDepth 100000 in
theorem pm_d131 : pm_c131.all (pm_decB prog_1_method_50_code) = true := by decide +kernel
/-- TrainBearers.takePaper()V -/
def pm_c132 : List pm_I := [(0, .aload_n 0, 1, 0, 0, .null),
  (1, .getfield 12, 3, 10, 0, .null),
  (4, .astore_n 1, 1, 0, 0, .null),
  (5, .aload_n 0, 1, 0, 0, .null),
  (6, .aload_n 0, 1, 0, 0, .null),
  (7, .getfield 16, 3, 10, 1, .null),
  (10, .putfield 12, 3, 10, 0, .null),
  (13, .aload_n 0, 1, 0, 0, .null),
  (14, .aload_n 1, 1, 0, 0, .null),
  (15, .putfield 16, 3, 10, 1, .null),
  (18, .aload_n 0, 1, 0, 0, .null),
  (19, .getfield 33, 3, 10, 5, .null),
  (22, .astore_n 2, 1, 0, 0, .null),
  (23, .aload_n 0, 1, 0, 0, .null),
  (24, .aload_n 0, 1, 0, 0, .null),
  (25, .getfield 37, 3, 10, 6, .null),
  (28, .putfield 33, 3, 10, 5, .null),
  (31, .aload_n 0, 1, 0, 0, .null),
  (32, .aload_n 2, 1, 0, 0, .null),
  (33, .putfield 37, 3, 10, 6, .null),
  (36, .return_, 1, 0, 0, .null)]
set_option maxRecDepth 100000 in
theorem pm_d132 : pm_c132.all (pm_decB prog_1_method_51_code) = true := by decide +kernel
/-- TrainBearers.bestExchange()I -/
def pm_c133 : List pm_I := [(0, .aload_n 0, 1, 0, 0, .null),
  (1, .getfield 16, 3, 10, 1, .null),
  (4, .aload_n 0, 1, 0, 0, .null),
  (5, .getfield 12, 3, 10, 0, .null),
  (8, .invokevirtual 197, 3, 0, 68, .null),
  (11, .aload_n 0, 1, 0, 0, .null),
  (12, .getfield 50, 3, 10, 8, .null),
  (15, .aload_n 0, 1, 0, 0, .null),
  (16, .getfield 12, 3, 10, 0, .null),
  (19, .invokevirtual 294, 3, 0, 49, .null),
  (22, .bipush 100, 2, 0, 0, .null),
  (24, .imul, 1, 0, 0, .null),
  (25, .istore_n 1, 1, 0, 0, .null),
  (26, .iload_n 1, 1, 0, 0, .null),
  (27, .istore_n 2, 1, 0, 0, .null),
  (28, .iconst 0, 1, 0, 0, .null),
  (29, .istore_n 3, 1, 0, 0, .null),
  (30, .iload_n 3, 1, 0, 0, .null),
  (31, .aload_n 0, 1, 0, 0, .null),
  (32, .getfield 12, 3, 10, 0, .null),
  (35, .getfield 121, 3, 8, 3, .null),
  (38, .if_icmp .ge 193, 3, 231, 0, .null),
  (41, .iload_n 3, 1, 0, 0, .null),
  (42, .iconst 1, 1, 0, 0, .null),
  (43, .iadd, 1, 0, 0, .null),
  (44, .istore 4, 2, 0, 0, .null),
  (46, .iload 4, 2, 0, 0, .null),
  (48, .aload_n 0, 1, 0, 0, .null),
  (49, .getfield 12, 3, 10, 0, .null),
  (52, .getfield 121, 3, 8, 3, .null),
  (55, .if_icmp .ge 170, 3, 225, 0, .null),
  (58, .aload_n 0, 1, 0, 0, .null),
  (59, .getfield 12, 3, 10, 0, .null),
  (62, .getfield 130, 3, 8, 6, .null),
  (65, .iload_n 3, 1, 0, 0, .null),
  (66, .iaload, 1, 0, 0, .null),
  (67, .aload_n 0, 1, 0, 0, .null),
  (68, .getfield 12, 3, 10, 0, .null),
  (71, .getfield 130, 3, 8, 6, .null),
  (74, .iload 4, 2, 0, 0, .null),
  (76, .iaload, 1, 0, 0, .null),
  (77, .if_icmp .eq 142, 3, 219, 0, .null),
  (80, .aload_n 0, 1, 0, 0, .null),
  (81, .iload_n 3, 1, 0, 0, .null),
  (82, .aload_n 0, 1, 0, 0, .null),
  (83, .getfield 12, 3, 10, 0, .null),
  (86, .getfield 130, 3, 8, 6, .null),
  (89, .iload 4, 2, 0, 0, .null),
  (91, .iaload, 1, 0, 0, .null),
  (92, .invokevirtual 330, 3, 0, 134, .null),
  (95, .ifCond .eq 124, 3, 219, 0, .null),
  (98, .aload_n 0, 1, 0, 0, .null),
  (99, .iload 4, 2, 0, 0, .null),
  (101, .aload_n 0, 1, 0, 0, .null),
  (102, .getfield 12, 3, 10, 0, .null),
  (105, .getfield 130, 3, 8, 6, .null),
  (108, .iload_n 3, 1, 0, 0, .null),
  (109, .iaload, 1, 0, 0, .null),
  (110, .invokevirtual 330, 3, 0, 134, .null),
  (113, .ifCond .eq 106, 3, 219, 0, .null),
  (116, .aload_n 0, 1, 0, 0, .null),
  (117, .getfield 16, 3, 10, 1, .null),
  (120, .getfield 130, 3, 8, 6, .null),
  (123, .iload_n 3, 1, 0, 0, .null),
  (124, .aload_n 0, 1, 0, 0, .null),
  (125, .getfield 12, 3, 10, 0, .null),
  (128, .getfield 130, 3, 8, 6, .null),
  (131, .iload 4, 2, 0, 0, .null),
  (133, .iaload, 1, 0, 0, .null),
  (134, .iastore, 1, 0, 0, .null),
  (135, .aload_n 0, 1, 0, 0, .null),
  (136, .getfield 16, 3, 10, 1, .null),
  (139, .getfield 130, 3, 8, 6, .null),
  (142, .iload 4, 2, 0, 0, .null),
  (144, .aload_n 0, 1, 0, 0, .null),
  (145, .getfield 12, 3, 10, 0, .null),
  (148, .getfield 130, 3, 8, 6, .null),
  (151, .iload_n 3, 1, 0, 0, .null),
  (152, .iaload, 1, 0, 0, .null),
  (153, .iastore, 1, 0, 0, .null),
  (154, .iload_n 2, 1, 0, 0, .null),
  (155, .aload_n 0, 1, 0, 0, .null),
  (156, .getfield 50, 3, 10, 8, .null),
  (159, .aload_n 0, 1, 0, 0, .null),
  (160, .getfield 16, 3, 10, 1, .null),
  (163, .invokevirtual 294, 3, 0, 49, .null),
  (166, .bipush 100, 2, 0, 0, .null),
  (168, .imul, 1, 0, 0, .null),
  (169, .bipush 10, 2, 0, 0, .null),
  (171, .iload_n 3, 1, 0, 0, .null),
  (172, .imul, 1, 0, 0, .null),
  (173, .iadd, 1, 0, 0, .null),
  (174, .iload 4, 2, 0, 0, .null),
  (176, .iadd, 1, 0, 0, .null),
  (177, .invokestatic 319, 3, 1, 259, .null),
  (180, .istore_n 2, 1, 0, 0, .null),
  (181, .aload_n 0, 1, 0, 0, .null),
  (182, .getfield 16, 3, 10, 1, .null),
  (185, .getfield 130, 3, 8, 6, .null),
  (188, .iload_n 3, 1, 0, 0, .null),
  (189, .aload_n 0, 1, 0, 0, .null),
  (190, .getfield 12, 3, 10, 0, .null),
  (193, .getfield 130, 3, 8, 6, .null),
  (196, .iload_n 3, 1, 0, 0, .null),
  (197, .iaload, 1, 0, 0, .null),
  (198, .iastore, 1, 0, 0, .null),
  (199, .aload_n 0, 1, 0, 0, .null),
  (200, .getfield 16, 3, 10, 1, .null),
  (203, .getfield 130, 3, 8, 6, .null),
  (206, .iload 4, 2, 0, 0, .null),
  (208, .aload_n 0, 1, 0, 0, .null),
  (209, .getfield 12, 3, 10, 0, .null),
  (212, .getfield 130, 3, 8, 6, .null),
  (215, .iload 4, 2, 0, 0, .null),
  (217, .iaload, 1, 0, 0, .null),
  (218, .iastore, 1, 0, 0, .null),
  (219, .iinc 4 1, 3, 0, 0, .null),
  (222, .goto (-176), 3, 46, 0, .null),
  (225, .iinc 3 1, 3, 0, 0, .null),
  (228, .goto (-198), 3, 30, 0, .null),
  (231, .iload_n 2, 1, 0, 0, .null),
  (232, .iload_n 1, 1, 0, 0, .null),
  (233, .if_icmp .ge 7, 3, 240, 0, .null),
  (236, .iload_n 2, 1, 0, 0, .null),
  (237, .goto 4, 3, 241, 0, .null),
  (240, .iconst (-1), 1, 0, 0, .null),
  (241, .ireturn, 1, 0, 0, .null)]
set_option maxRecDepth 100000 in
theorem pm_d133 : pm_c133.all (pm_decB prog_1_method_52_code) = true := by decide +kernel
/-- TrainBearers.mayTake(II)Z -/
def pm_c134 : List pm_I := [(0, .iload_n 2, 1, 0, 0, .null),
  (1, .iconst (-1), 1, 0, 0, .null),
  (2, .if_icmp .eq 19, 3, 21, 0, .null),
  (5, .aload_n 0, 1, 0, 0, .null),
  (6, .getfield 50, 3, 10, 8, .null),
  (9, .aload_n 0, 1, 0, 0, .null),
  (10, .getfield 12, 3, 10, 0, .null),
  (13, .iload_n 1, 1, 0, 0, .null),
  (14, .iload_n 2, 1, 0, 0, .null),
  (15, .invokevirtual 139, 3, 0, 45, .null),
  (18, .ifCond .ne 7, 3, 25, 0, .null),
  (21, .iconst 1, 1, 0, 0, .null),
  (22, .goto 4, 3, 26, 0, .null),
  (25, .iconst 0, 1, 0, 0, .null),
  (26, .ireturn, 1, 0, 0, .null)]
set_option maxRecDepth 100000 in
theorem pm_d134 : pm_c134.all (pm_decB prog_1_method_53_code) = true := by decide +kernel
/-- TrainBearersModel.<init>()V -/
def pm_c135 : List pm_I := [(0, .aload_n 0, 1, 0, 0, .null),
  (1, .invokespecial 1, 3, 4, 0, .null),
  (4, .aload_n 0, 1, 0, 0, .null),
  (5, .bipush 7, 2, 0, 0, .null),
  (7, .newarray .int, 2, 0, 0, .null),
  (9, .putfield 7, 3, 11, 2, .null),
  (12, .aload_n 0, 1, 0, 0, .null),
  (13, .sipush 5498, 3, 0, 0, .null),
  (16, .newarray .int, 2, 0, 0, .null),
  (18, .putfield 13, 3, 11, 3, .null),
  (21, .aload_n 0, 1, 0, 0, .null),
  (22, .sipush 10996, 3, 0, 0, .null),
  (25, .newarray .int, 2, 0, 0, .null),
  (27, .putfield 16, 3, 11, 4, .null),
  (30, .aload_n 0, 1, 0, 0, .null),
  (31, .iconst 2, 1, 0, 0, .null),
  (32, .newarray .boolean, 2, 0, 0, .null),
  (34, .putfield 19, 3, 11, 5, .null),
  (37, .aload_n 0, 1, 0, 0, .null),
  (38, .sipush 522, 3, 0, 0, .null),
  (41, .newarray .int, 2, 0, 0, .null),
  (43, .putfield 23, 3, 11, 6, .null),
  (46, .aload_n 0, 1, 0, 0, .null),
  (47, .bipush 16, 2, 0, 0, .null),
  (49, .newarray .int, 2, 0, 0, .null),
  (51, .putfield 26, 3, 11, 7, .null),
  (54, .aload_n 0, 1, 0, 0, .null),
  (55, .sipush 464, 3, 0, 0, .null),
  (58, .newarray .int, 2, 0, 0, .null),
  (60, .putfield 29, 3, 11, 9, .null),
  (63, .aload_n 0, 1, 0, 0, .null),
  (64, .bipush 16, 2, 0, 0, .null),
  (66, .newarray .int, 2, 0, 0, .null),
  (68, .putfield 32, 3, 11, 10, .null),
  (71, .aload_n 0, 1, 0, 0, .null),
  (72, .sipush 400, 3, 0, 0, .null),
  (75, .newarray .int, 2, 0, 0, .null),
  (77, .putfield 35, 3, 11, 12, .null),
  (80, .aload_n 0, 1, 0, 0, .null),
  (81, .iconst (-1), 1, 0, 0, .null),
  (82, .putfield 38, 3, 11, 18, .null),
  (85, .aload_n 0, 1, 0, 0, .null),
  (86, .bipush 96, 2, 0, 0, .null),
  (88, .newarray .int, 2, 0, 0, .null),
  (90, .putfield 42, 3, 11, 22, .null),
  (93, .aload_n 0, 1, 0, 0, .null),
  (94, .sipush 400, 3, 0, 0, .null),
  (97, .newarray .int, 2, 0, 0, .null),
  (99, .putfield 45, 3, 11, 24, .null),
  (102, .aload_n 0, 1, 0, 0, .null),
  (103, .sipush 400, 3, 0, 0, .null),
  (106, .newarray .int, 2, 0, 0, .null),
  (108, .putfield 48, 3, 11, 25, .null),
  (111, .aload_n 0, 1, 0, 0, .null),
  (112, .sipush 400, 3, 0, 0, .null),
  (115, .newarray .int, 2, 0, 0, .null),
  (117, .putfield 51, 3, 11, 27, .null),
  (120, .aload_n 0, 1, 0, 0, .null),
  (121, .sipush 400, 3, 0, 0, .null),
  (124, .newarray .int, 2, 0, 0, .null),
  (126, .putfield 54, 3, 11, 28, .null),
  (129, .aload_n 0, 1, 0, 0, .null),
  (130, .bipush 10, 2, 0, 0, .null),
  (132, .newarray .long, 2, 0, 0, .null),
  (134, .dup, 1, 0, 0, .null),
  (135, .iconst 0, 1, 0, 0, .null),
  (136, .ldc2_w 57, 3, 1, 0, .long (239180)),
  (139, .lastore, 1, 0, 0, .null),
  (140, .dup, 1, 0, 0, .null),
  (141, .iconst 1, 1, 0, 0, .null),
  (142, .ldc2_w 59, 3, 1, 0, .long (659111367)),
  (145, .lastore, 1, 0, 0, .null),
  (146, .dup, 1, 0, 0, .null),
  (147, .iconst 2, 1, 0, 0, .null),
  (148, .ldc2_w 61, 3, 1, 0, .long (21285028)),
  (151, .lastore, 1, 0, 0, .null),
  (152, .dup, 1, 0, 0, .null),
  (153, .iconst 3, 1, 0, 0, .null),
  (154, .ldc2_w 63, 3, 1, 0, .long (820804)),
  (157, .lastore, 1, 0, 0, .null),
  (158, .dup, 1, 0, 0, .null),
  (159, .iconst 4, 1, 0, 0, .null),
  (160, .ldc2_w 65, 3, 1, 0, .long (8554201)),
  (163, .lastore, 1, 0, 0, .null),
  (164, .dup, 1, 0, 0, .null),
  (165, .iconst 5, 1, 0, 0, .null),
  (166, .ldc2_w 67, 3, 1, 0, .long (13988)),
  (169, .lastore, 1, 0, 0, .null),
  (170, .dup, 1, 0, 0, .null),
  (171, .bipush 6, 2, 0, 0, .null),
  (173, .ldc2_w 69, 3, 1, 0, .long (4400)),
  (176, .lastore, 1, 0, 0, .null),
  (177, .dup, 1, 0, 0, .null),
  (178, .bipush 7, 2, 0, 0, .null),
  (180, .ldc2_w 71, 3, 1, 0, .long (658813107)),
  (183, .lastore, 1, 0, 0, .null),
  (184, .dup, 1, 0, 0, .null),
  (185, .bipush 8, 2, 0, 0, .null),
  (187, .ldc2_w 73, 3, 1, 0, .long (278194)),
  (190, .lastore, 1, 0, 0, .null),
  (191, .dup, 1, 0, 0, .null),
  (192, .bipush 9, 2, 0, 0, .null),
  (194, .ldc2_w 75, 3, 1, 0, .long (441828)),
  (197, .lastore, 1, 0, 0, .null),
  (198, .putfield 77, 3, 11, 31, .null),
  (201, .aload_n 0, 1, 0, 0, .null),
  (202, .bipush 7, 2, 0, 0, .null),
  (204, .newarray .long, 2, 0, 0, .null),
  (206, .dup, 1, 0, 0, .null),
  (207, .iconst 0, 1, 0, 0, .null),
  (208, .ldc2_w 73, 3, 1, 0, .long (278194)),
  (211, .lastore, 1, 0, 0, .null),
  (212, .dup, 1, 0, 0, .null),
  (213, .iconst 1, 1, 0, 0, .null),
  (214, .ldc2_w 81, 3, 1, 0, .long (146885)),
  (217, .lastore, 1, 0, 0, .null),
  (218, .dup, 1, 0, 0, .null),
  (219, .iconst 2, 1, 0, 0, .null),
  (220, .ldc2_w 83, 3, 1, 0, .long (404362868)),
  (223, .lastore, 1, 0, 0, .null),
  (224, .dup, 1, 0, 0, .null),
  (225, .iconst 3, 1, 0, 0, .null),
  (226, .ldc2_w 85, 3, 1, 0, .long (198277)),
  (229, .lastore, 1, 0, 0, .null),
  (230, .dup, 1, 0, 0, .null),
  (231, .iconst 4, 1, 0, 0, .null),
  (232, .ldc2_w 87, 3, 1, 0, .long (17171557)),
  (235, .lastore, 1, 0, 0, .null),
  (236, .dup, 1, 0, 0, .null),
  (237, .iconst 5, 1, 0, 0, .null),
  (238, .ldc2_w 69, 3, 1, 0, .long (4400)),
  (241, .lastore, 1, 0, 0, .null),
  (242, .dup, 1, 0, 0, .null),
  (243, .bipush 6, 2, 0, 0, .null),
  (245, .ldc2_w 61, 3, 1, 0, .long (21285028)),
  (248, .lastore, 1, 0, 0, .null),
  (249, .putfield 89, 3, 11, 32, .null),
  (252, .aload_n 0, 1, 0, 0, .null),
  (253, .iconst 4, 1, 0, 0, .null),
  (254, .newarray .long, 2, 0, 0, .null),
  (256, .dup, 1, 0, 0, .null),
  (257, .iconst 0, 1, 0, 0, .null),
  (258, .ldc2_w 92, 3, 1, 0, .long (12884627)),
  (261, .lastore, 1, 0, 0, .null),
  (262, .dup, 1, 0, 0, .null),
  (263, .iconst 1, 1, 0, 0, .null),
  (264, .ldc2_w 94, 3, 1, 0, .long (21285043)),
  (267, .lastore, 1, 0, 0, .null),
  (268, .dup, 1, 0, 0, .null),
  (269, .iconst 2, 1, 0, 0, .null),
  (270, .ldc2_w 96, 3, 1, 0, .long (86292723)),
  (273, .lastore, 1, 0, 0, .null),
  (274, .dup, 1, 0, 0, .null),
  (275, .iconst 3, 1, 0, 0, .null),
  (276, .ldc2_w 98, 3, 1, 0, .long (67155)),
  (279, .lastore, 1, 0, 0, .null),
  (280, .putfield 100, 3, 11, 33, .null),
  (283, .aload_n 0, 1, 0, 0, .null),
  (284, .bipush 13, 2, 0, 0, .null),
  (286, .newarray .long, 2, 0, 0, .null),
  (288, .putfield 103, 3, 11, 35, .null),
  (291, .aload_n 0, 1, 0, 0, .null),
  (292, .bipush 13, 2, 0, 0, .null),
  (294, .newarray .long, 2, 0, 0, .null),
  (296, .putfield 106, 3, 11, 36, .null),
  (299, .aload_n 0, 1, 0, 0, .null),
  (300, .sipush 400, 3, 0, 0, .null),
  (303, .newarray .long, 2, 0, 0, .null),
  (305, .putfield 109, 3, 11, 37, .null),
  (308, .aload_n 0, 1, 0, 0, .null),
  (309, .bipush 8, 2, 0, 0, .null),
  (311, .newarray .int, 2, 0, 0, .null),
  (313, .putfield 112, 3, 11, 41, .null),
  (316, .aload_n 0, 1, 0, 0, .null),
  (317, .bipush 8, 2, 0, 0, .null),
  (319, .newarray .int, 2, 0, 0, .null),
  (321, .putfield 115, 3, 11, 42, .null),
  (324, .aload_n 0, 1, 0, 0, .null),
  (325, .sipush 2048, 3, 0, 0, .null),
  (328, .newarray .int, 2, 0, 0, .null),
  (330, .putfield 118, 3, 11, 43, .null),
  (333, .aload_n 0, 1, 0, 0, .null),
  (334, .sipush 2304, 3, 0, 0, .null),
  (337, .newarray .int, 2, 0, 0, .null),
  (339, .putfield 121, 3, 11, 44, .null),
  (342, .aload_n 0, 1, 0, 0, .null),
  (343, .bipush 64, 2, 0, 0, .null),
  (345, .newarray .int, 2, 0, 0, .null),
  (347, .putfield 124, 3, 11, 45, .null),
  (350, .aload_n 0, 1, 0, 0, .null),
  (351, .bipush 64, 2, 0, 0, .null),
  (353, .newarray .boolean, 2, 0, 0, .null),
  (355, .putfield 127, 3, 11, 46, .null),
  (358, .aload_n 0, 1, 0, 0, .null),
  (359, .bipush 41, 2, 0, 0, .null),
  (361, .newarray .int, 2, 0, 0, .null),
  (363, .putfield 130, 3, 11, 47, .null),
  (366, .aload_n 0, 1, 0, 0, .null),
  (367, .bipush 6, 2, 0, 0, .null),
  (369, .newarray .int, 2, 0, 0, .null),
  (371, .putfield 133, 3, 11, 48, .null),
  (374, .aload_n 0, 1, 0, 0, .null),
  (375, .iconst 4, 1, 0, 0, .null),
  (376, .newarray .long, 2, 0, 0, .null),
  (378, .dup, 1, 0, 0, .null),
  (379, .iconst 0, 1, 0, 0, .null),
  (380, .ldc2_w 136, 3, 1, 0, .long (277892)),
  (383, .lastore, 1, 0, 0, .null),
  (384, .dup, 1, 0, 0, .null),
  (385, .iconst 1, 1, 0, 0, .null),
  (386, .ldc2_w 138, 3, 1, 0, .long (150000)),
  (389, .lastore, 1, 0, 0, .null),
  (390, .dup, 1, 0, 0, .null),
  (391, .iconst 2, 1, 0, 0, .null),
  (392, .ldc2_w 140, 3, 1, 0, .long (755083)),
  (395, .lastore, 1, 0, 0, .null),
  (396, .dup, 1, 0, 0, .null),
  (397, .iconst 3, 1, 0, 0, .null),
  (398, .ldc2_w 142, 3, 1, 0, .long (595572)),
  (401, .lastore, 1, 0, 0, .null),
  (402, .putfield 144, 3, 11, 49, .null),
  (405, .aload_n 0, 1, 0, 0, .null),
  (406, .bipush 96, 2, 0, 0, .null),
  (408, .newarray .int, 2, 0, 0, .null),
  (410, .putfield 147, 3, 11, 50, .null),
  (413, .aload_n 0, 1, 0, 0, .null),
  (414, .iconst (-1), 1, 0, 0, .null),
  (415, .putfield 150, 3, 11, 53, .null),
  (418, .aload_n 0, 1, 0, 0, .null),
  (419, .bipush 29, 2, 0, 0, .null),
  (421, .newarray .int, 2, 0, 0, .null),
  (423, .putfield 153, 3, 11, 56, .null),
  (426, .aload_n 0, 1, 0, 0, .null),
  (427, .iconst (-1), 1, 0, 0, .null),
  (428, .putfield 156, 3, 11, 57, .null),
  (431, .aload_n 0, 1, 0, 0, .null),
  (432, .iconst (-1), 1, 0, 0, .null),
  (433, .putfield 159, 3, 11, 58, .null),
  (436, .aload_n 0, 1, 0, 0, .null),
  (437, .getfield 13, 3, 11, 3, .null),
  (440, .iconst 4, 1, 0, 0, .null),
  (441, .iconst (-1), 1, 0, 0, .null),
  (442, .iastore, 1, 0, 0, .null),
  (443, .aload_n 0, 1, 0, 0, .null),
  (444, .getfield 13, 3, 11, 3, .null),
  (447, .bipush 6, 2, 0, 0, .null),
  (449, .iconst 1, 1, 0, 0, .null),
  (450, .iastore, 1, 0, 0, .null),
  (451, .iconst 0, 1, 0, 0, .null),
  (452, .istore_n 1, 1, 0, 0, .null),
  (453, .iload_n 1, 1, 0, 0, .null),
  (454, .bipush 36, 2, 0, 0, .null),
  (456, .if_icmp .ge 19, 3, 475, 0, .null),
  (459, .aload_n 0, 1, 0, 0, .null),
  (460, .getfield 13, 3, 11, 3, .null),
  (463, .bipush 50, 2, 0, 0, .null),
  (465, .iload_n 1, 1, 0, 0, .null),
  (466, .iadd, 1, 0, 0, .null),
  (467, .iconst (-1), 1, 0, 0, .null),
  (468, .iastore, 1, 0, 0, .null),
  (469, .iinc 1 1, 3, 0, 0, .null),
  (472, .goto (-19), 3, 453, 0, .null),
  (475, .return_, 1, 0, 0, .null)]
set_option maxRecDepth 100000 in
theorem pm_d135 : pm_c135.all (pm_decB prog_13_method_1_code) = true := by decide +kernel
/-- TrainBearersModel.in(JJJ)Z -/
def pm_c136 : List pm_I := [(0, .lload_n 0, 1, 0, 0, .null),
  (1, .lload_n 2, 1, 0, 0, .null),
  (2, .lcmp, 1, 0, 0, .null),
  (3, .ifCond .lt 14, 3, 17, 0, .null),
  (6, .lload_n 0, 1, 0, 0, .null),
  (7, .lload 4, 2, 0, 0, .null),
  (9, .lcmp, 1, 0, 0, .null),
  (10, .ifCond .gt 7, 3, 17, 0, .null),
  (13, .iconst 1, 1, 0, 0, .null),
  (14, .goto 4, 3, 18, 0, .null),
  (17, .iconst 0, 1, 0, 0, .null),
  (18, .ireturn, 1, 0, 0, .null)]
set_option maxRecDepth 100000 in
theorem pm_d136 : pm_c136.all (pm_decB prog_13_method_3_code) = true := by decide +kernel
/-- TrainBearersModel.is(II)Z -/
def pm_c137 : List pm_I := [(0, .iload_n 0, 1, 0, 0, .null),
  (1, .iload_n 1, 1, 0, 0, .null),
  (2, .ishr, 1, 0, 0, .null),
  (3, .iconst 1, 1, 0, 0, .null),
  (4, .iand, 1, 0, 0, .null),
  (5, .iconst 1, 1, 0, 0, .null),
  (6, .if_icmp .ne 7, 3, 13, 0, .null),
  (9, .iconst 1, 1, 0, 0, .null),
  (10, .goto 4, 3, 14, 0, .null),
  (13, .iconst 0, 1, 0, 0, .null),
  (14, .ireturn, 1, 0, 0, .null)]
set_option maxRecDepth 100000 in
theorem pm_d137 : pm_c137.all (pm_decB prog_13_method_4_code) = true := by decide +kernel
/-- TrainBearersModel.ones(I)I -/
def pm_c138 : List pm_I := [(0, .iconst 0, 1, 0, 0, .null),
  (1, .istore_n 1, 1, 0, 0, .null),
  (2, .iconst 0, 1, 0, 0, .null),
  (3, .istore_n 2, 1, 0, 0, .null),
  (4, .iload_n 2, 1, 0, 0, .null),
  (5, .bipush 8, 2, 0, 0, .null),
  (7, .if_icmp .ge 17, 3, 24, 0, .null),
  (10, .iload_n 1, 1, 0, 0, .null),
  (11, .iload_n 0, 1, 0, 0, .null),
  (12, .iload_n 2, 1, 0, 0, .null),
  (13, .ishr, 1, 0, 0, .null),
  (14, .iconst 1, 1, 0, 0, .null),
  (15, .iand, 1, 0, 0, .null),
  (16, .iadd, 1, 0, 0, .null),
  (17, .istore_n 1, 1, 0, 0, .null),
  (18, .iinc 2 1, 3, 0, 0, .null),
  (21, .goto (-17), 3, 4, 0, .null),
  (24, .iload_n 1, 1, 0, 0, .null),
  (25, .ireturn, 1, 0, 0, .null)]
set_option maxRecDepth 100000 in
theorem pm_d138 : pm_c138.all (pm_decB prog_13_method_5_code) = true := by decide +kernel
/-- TrainBearersModel.within(JII)I -/
def pm_c139 : List pm_I := [(0, .lload_n 0, 1, 0, 0, .null),
  (1, .iload_n 2, 1, 0, 0, .null),
  (2, .i2l, 1, 0, 0, .null),
  (3, .lcmp, 1, 0, 0, .null),
  (4, .ifCond .ge 7, 3, 11, 0, .null),
  (7, .iload_n 2, 1, 0, 0, .null),
  (8, .goto 16, 3, 24, 0, .null),
  (11, .lload_n 0, 1, 0, 0, .null),
  (12, .iload_n 3, 1, 0, 0, .null),
  (13, .i2l, 1, 0, 0, .null),
  (14, .lcmp, 1, 0, 0, .null),
  (15, .ifCond .le 7, 3, 22, 0, .null),
  (18, .iload_n 3, 1, 0, 0, .null),
  (19, .goto 5, 3, 24, 0, .null),
  (22, .lload_n 0, 1, 0, 0, .null),
  (23, .l2i, 1, 0, 0, .null),
  (24, .ireturn, 1, 0, 0, .null)]
set_option maxRecDepth 100000 in
theorem pm_d139 : pm_c139.all (pm_decB prog_13_method_6_code) = true := by decide +kernel
/-- TrainBearersModel.tell(I)I -/
def pm_c140 : List pm_I := [(0, .aload_n 0, 1, 0, 0, .null),
  (1, .iload_n 1, 1, 0, 0, .null),
  (2, .ifCond .ge 7, 3, 9, 0, .null),
  (5, .iload_n 1, 1, 0, 0, .null),
  (6, .goto 4, 3, 10, 0, .null),
  (9, .iconst 0, 1, 0, 0, .null),
  (10, .putfield 165, 3, 11, 1, .null),
  (13, .iload_n 1, 1, 0, 0, .null),
  (14, .ifCond .ge 14, 3, 28, 0, .null),
  (17, .aload_n 0, 1, 0, 0, .null),
  (18, .getfield 7, 3, 11, 2, .null),
  (21, .iload_n 1, 1, 0, 0, .null),
  (22, .ineg, 1, 0, 0, .null),
  (23, .dup2, 1, 0, 0, .null),
  (24, .iaload, 1, 0, 0, .null),
  (25, .iconst 1, 1, 0, 0, .null),
  (26, .iadd, 1, 0, 0, .null),
  (27, .iastore, 1, 0, 0, .null),
  (28, .iload_n 1, 1, 0, 0, .null),
  (29, .ireturn, 1, 0, 0, .null)]
set_option maxRecDepth 100000 in
theorem pm_d140 : pm_c140.all (pm_decB prog_13_method_7_code) = true := by decide +kernel
/-- TrainBearersModel.change(II)I -/
def pm_c141 : List pm_I := [(0, .aload_n 0, 1, 0, 0, .null),
  (1, .getfield 13, 3, 11, 3, .null),
  (4, .iload_n 1, 1, 0, 0, .null),
  (5, .iaload, 1, 0, 0, .null),
  (6, .istore_n 3, 1, 0, 0, .null),
  (7, .aload_n 0, 1, 0, 0, .null),
  (8, .getfield 13, 3, 11, 3, .null),
  (11, .iload_n 1, 1, 0, 0, .null),
  (12, .iload_n 2, 1, 0, 0, .null),
  (13, .iastore, 1, 0, 0, .null),
  (14, .aload_n 0, 1, 0, 0, .null),
  (15, .iconst 0, 1, 0, 0, .null),
  (16, .putfield 165, 3, 11, 1, .null),
  (19, .iload_n 3, 1, 0, 0, .null),
  (20, .ireturn, 1, 0, 0, .null)]
set_option maxRecDepth 100000 in
theorem pm_d141 : pm_c141.all (pm_decB prog_13_method_8_code) = true := by decide +kernel
/-- TrainBearersModel.settled(I)I -/
def pm_c142 : List pm_I := [(0, .aload_n 0, 1, 0, 0, .null),
  (1, .iload_n 1, 1, 0, 0, .null),
  (2, .ifCond .ge 10, 3, 12, 0, .null),
  (5, .aload_n 0, 1, 0, 0, .null),
  (6, .getfield 168, 3, 11, 8, .null),
  (9, .goto 4, 3, 13, 0, .null),
  (12, .iconst 0, 1, 0, 0, .null),
  (13, .putfield 168, 3, 11, 8, .null),
  (16, .aload_n 0, 1, 0, 0, .null),
  (17, .iload_n 1, 1, 0, 0, .null),
  (18, .invokevirtual 171, 3, 0, 140, .null),
  (21, .ireturn, 1, 0, 0, .null)]
set_option maxRecDepth 100000 in
theorem pm_d142 : pm_c142.all (pm_decB prog_13_method_9_code) = true := by decide +kernel
/-- TrainBearersModel.keepAll(I)V -/
def pm_c143 : List pm_I := [(0, .iconst 0, 1, 0, 0, .null),
  (1, .istore_n 2, 1, 0, 0, .null),
  (2, .iload_n 2, 1, 0, 0, .null),
  (3, .bipush 29, 2, 0, 0, .null),
  (5, .if_icmp .ge 28, 3, 33, 0, .null),
  (8, .aload_n 0, 1, 0, 0, .null),
  (9, .getfield 23, 3, 11, 6, .null),
  (12, .bipush 29, 2, 0, 0, .null),
  (14, .iload_n 1, 1, 0, 0, .null),
  (15, .imul, 1, 0, 0, .null),
  (16, .iload_n 2, 1, 0, 0, .null),
  (17, .iadd, 1, 0, 0, .null),
  (18, .aload_n 0, 1, 0, 0, .null),
  (19, .getfield 13, 3, 11, 3, .null),
  (22, .iconst 5, 1, 0, 0, .null),
  (23, .iload_n 2, 1, 0, 0, .null),
  (24, .iadd, 1, 0, 0, .null),
  (25, .iaload, 1, 0, 0, .null),
  (26, .iastore, 1, 0, 0, .null),
  (27, .iinc 2 1, 3, 0, 0, .null),
  (30, .goto (-28), 3, 2, 0, .null),
  (33, .return_, 1, 0, 0, .null)]
set_option maxRecDepth 100000 in
theorem pm_d143 : pm_c143.all (pm_decB prog_13_method_10_code) = true := by decide +kernel
/-- TrainBearersModel.putBack(I)V -/
def pm_c144 : List pm_I := [(0, .iconst 0, 1, 0, 0, .null),
  (1, .istore_n 2, 1, 0, 0, .null),
  (2, .iload_n 2, 1, 0, 0, .null),
  (3, .bipush 29, 2, 0, 0, .null),
  (5, .if_icmp .ge 28, 3, 33, 0, .null),
  (8, .aload_n 0, 1, 0, 0, .null),
  (9, .getfield 13, 3, 11, 3, .null),
  (12, .iconst 5, 1, 0, 0, .null),
  (13, .iload_n 2, 1, 0, 0, .null),
  (14, .iadd, 1, 0, 0, .null),
  (15, .aload_n 0, 1, 0, 0, .null),
  (16, .getfield 23, 3, 11, 6, .null),
  (19, .bipush 29, 2, 0, 0, .null),
  (21, .iload_n 1, 1, 0, 0, .null),
  (22, .imul, 1, 0, 0, .null),
  (23, .iload_n 2, 1, 0, 0, .null),
  (24, .iadd, 1, 0, 0, .null),
  (25, .iaload, 1, 0, 0, .null),
  (26, .iastore, 1, 0, 0, .null),
  (27, .iinc 2 1, 3, 0, 0, .null),
  (30, .goto (-28), 3, 2, 0, .null),
  (33, .return_, 1, 0, 0, .null)]
set_option maxRecDepth 100000 in
theorem pm_d144 : pm_c144.all (pm_decB prog_13_method_11_code) = true := by decide +kernel
/-- TrainBearersModel.remember(I)V -/
def pm_c145 : List pm_I := [(0, .aload_n 0, 1, 0, 0, .null),
  (1, .getfield 168, 3, 11, 8, .null),
  (4, .bipush 16, 2, 0, 0, .null),
  (6, .if_icmp .ne 71, 3, 77, 0, .null),
  (9, .iconst 0, 1, 0, 0, .null),
  (10, .istore_n 2, 1, 0, 0, .null),
  (11, .iload_n 2, 1, 0, 0, .null),
  (12, .sipush 435, 3, 0, 0, .null),
  (15, .if_icmp .ge 24, 3, 39, 0, .null),
  (18, .aload_n 0, 1, 0, 0, .null),
  (19, .getfield 23, 3, 11, 6, .null),
  (22, .iload_n 2, 1, 0, 0, .null),
  (23, .aload_n 0, 1, 0, 0, .null),
  (24, .getfield 23, 3, 11, 6, .null),
  (27, .iload_n 2, 1, 0, 0, .null),
  (28, .bipush 29, 2, 0, 0, .null),
  (30, .iadd, 1, 0, 0, .null),
  (31, .iaload, 1, 0, 0, .null),
  (32, .iastore, 1, 0, 0, .null),
  (33, .iinc 2 1, 3, 0, 0, .null),
  (36, .goto (-25), 3, 11, 0, .null),
  (39, .iconst 0, 1, 0, 0, .null),
  (40, .istore_n 2, 1, 0, 0, .null),
  (41, .iload_n 2, 1, 0, 0, .null),
  (42, .bipush 15, 2, 0, 0, .null),
  (44, .if_icmp .ge 23, 3, 67, 0, .null),
  (47, .aload_n 0, 1, 0, 0, .null),
  (48, .getfield 26, 3, 11, 7, .null),
  (51, .iload_n 2, 1, 0, 0, .null),
  (52, .aload_n 0, 1, 0, 0, .null),
  (53, .getfield 26, 3, 11, 7, .null),
  (56, .iload_n 2, 1, 0, 0, .null),
  (57, .iconst 1, 1, 0, 0, .null),
  (58, .iadd, 1, 0, 0, .null),
  (59, .iaload, 1, 0, 0, .null),
  (60, .iastore, 1, 0, 0, .null),
  (61, .iinc 2 1, 3, 0, 0, .null),
  (64, .goto (-23), 3, 41, 0, .null),
  (67, .aload_n 0, 1, 0, 0, .null),
  (68, .dup, 1, 0, 0, .null),
  (69, .getfield 168, 3, 11, 8, .null),
  (72, .iconst 1, 1, 0, 0, .null),
  (73, .isub, 1, 0, 0, .null),
  (74, .putfield 168, 3, 11, 8, .null),
  (77, .aload_n 0, 1, 0, 0, .null),
  (78, .aload_n 0, 1, 0, 0, .null),
  (79, .getfield 168, 3, 11, 8, .null),
  (82, .invokevirtual 175, 3, 0, 143, .null),
  (85, .aload_n 0, 1, 0, 0, .null),
  (86, .getfield 26, 3, 11, 7, .null),
  (89, .aload_n 0, 1, 0, 0, .null),
  (90, .getfield 168, 3, 11, 8, .null),
  (93, .iload_n 1, 1, 0, 0, .null),
  (94, .iastore, 1, 0, 0, .null),
  (95, .aload_n 0, 1, 0, 0, .null),
  (96, .dup, 1, 0, 0, .null),
  (97, .getfield 168, 3, 11, 8, .null),
  (100, .iconst 1, 1, 0, 0, .null),
  (101, .iadd, 1, 0, 0, .null),
  (102, .putfield 168, 3, 11, 8, .null),
  (105, .return_, 1, 0, 0, .null)]
set_option maxRecDepth 100000 in
theorem pm_d145 : pm_c145.all (pm_decB prog_13_method_12_code) = true := by decide +kernel
/-- TrainBearersModel.undo()I -/
def pm_c146 : List pm_I := [(0, .aload_n 0, 1, 0, 0, .null),
  (1, .iconst 0, 1, 0, 0, .null),
  (2, .putfield 162, 3, 11, 0, .null),
  (5, .aload_n 0, 1, 0, 0, .null),
  (6, .getfield 168, 3, 11, 8, .null),
  (9, .ifCond .ne 10, 3, 19, 0, .null),
  (12, .aload_n 0, 1, 0, 0, .null),
  (13, .bipush (-3), 2, 0, 0, .null),
  (15, .invokevirtual 171, 3, 0, 140, .null),
  (18, .ireturn, 1, 0, 0, .null),
  (19, .aload_n 0, 1, 0, 0, .null),
  (20, .dup, 1, 0, 0, .null),
  (21, .getfield 168, 3, 11, 8, .null),
  (24, .iconst 1, 1, 0, 0, .null),
  (25, .isub, 1, 0, 0, .null),
  (26, .putfield 168, 3, 11, 8, .null),
  (29, .aload_n 0, 1, 0, 0, .null),
  (30, .aload_n 0, 1, 0, 0, .null),
  (31, .getfield 168, 3, 11, 8, .null),
  (34, .invokevirtual 179, 3, 0, 144, .null),
  (37, .aload_n 0, 1, 0, 0, .null),
  (38, .aload_n 0, 1, 0, 0, .null),
  (39, .getfield 26, 3, 11, 7, .null),
  (42, .aload_n 0, 1, 0, 0, .null),
  (43, .getfield 168, 3, 11, 8, .null),
  (46, .iaload, 1, 0, 0, .null),
  (47, .invokevirtual 171, 3, 0, 140, .null),
  (50, .ireturn, 1, 0, 0, .null)]
set_option maxRecDepth 100000 in
theorem pm_d146 : pm_c146.all (pm_decB prog_13_method_13_code) = true := by decide +kernel
/-- TrainBearersModel.image(I)I -/
def pm_c147 : List pm_I := [(0, .aload_n 0, 1, 0, 0, .null),
  (1, .iconst 0, 1, 0, 0, .null),
  (2, .putfield 162, 3, 11, 0, .null),
  (5, .iload_n 1, 1, 0, 0, .null),
  (6, .i2l, 1, 0, 0, .null),
  (7, .lconst 0, 1, 0, 0, .null),
  (8, .lconst 1, 1, 0, 0, .null),
  (9, .invokestatic 182, 3, 1, 136, .null),
  (12, .ifCond .ne 9, 3, 21, 0, .null),
  (15, .aload_n 0, 1, 0, 0, .null),
  (16, .iconst (-1), 1, 0, 0, .null),
  (17, .invokevirtual 171, 3, 0, 140, .null),
  (20, .ireturn, 1, 0, 0, .null),
  (21, .iconst 0, 1, 0, 0, .null),
  (22, .istore_n 2, 1, 0, 0, .null),
  (23, .iload_n 2, 1, 0, 0, .null),
  (24, .sipush 5498, 3, 0, 0, .null),
  (27, .if_icmp .ge 27, 3, 54, 0, .null),
  (30, .aload_n 0, 1, 0, 0, .null),
  (31, .getfield 16, 3, 11, 4, .null),
  (34, .sipush 5498, 3, 0, 0, .null),
  (37, .iload_n 1, 1, 0, 0, .null),
  (38, .imul, 1, 0, 0, .null),
  (39, .iload_n 2, 1, 0, 0, .null),
  (40, .iadd, 1, 0, 0, .null),
  (41, .aload_n 0, 1, 0, 0, .null),
  (42, .getfield 13, 3, 11, 3, .null),
  (45, .iload_n 2, 1, 0, 0, .null),
  (46, .iaload, 1, 0, 0, .null),
  (47, .iastore, 1, 0, 0, .null),
  (48, .iinc 2 1, 3, 0, 0, .null),
  (51, .goto (-28), 3, 23, 0, .null),
  (54, .aload_n 0, 1, 0, 0, .null),
  (55, .getfield 19, 3, 11, 5, .null),
  (58, .iload_n 1, 1, 0, 0, .null),
  (59, .iconst 1, 1, 0, 0, .null),
  (60, .bastore, 1, 0, 0, .null),
  (61, .aload_n 0, 1, 0, 0, .null),
  (62, .iconst 0, 1, 0, 0, .null),
  (63, .invokevirtual 171, 3, 0, 140, .null),
  (66, .ireturn, 1, 0, 0, .null)]
set_option maxRecDepth 100000 in
theorem pm_d147 : pm_c147.all (pm_decB prog_13_method_14_code) = true := by decide +kernel
/-- TrainBearersModel.back(I)I -/
def pm_c148 : List pm_I := [(0, .aload_n 0, 1, 0, 0, .null),
  (1, .iconst 0, 1, 0, 0, .null),
  (2, .putfield 162, 3, 11, 0, .null),
  (5, .iload_n 1, 1, 0, 0, .null),
  (6, .i2l, 1, 0, 0, .null),
  (7, .lconst 0, 1, 0, 0, .null),
  (8, .lconst 1, 1, 0, 0, .null),
  (9, .invokestatic 182, 3, 1, 136, .null),
  (12, .ifCond .ne 9, 3, 21, 0, .null),
  (15, .aload_n 0, 1, 0, 0, .null),
  (16, .iconst (-1), 1, 0, 0, .null),
  (17, .invokevirtual 171, 3, 0, 140, .null),
  (20, .ireturn, 1, 0, 0, .null),
  (21, .aload_n 0, 1, 0, 0, .null),
  (22, .getfield 19, 3, 11, 5, .null),
  (25, .iload_n 1, 1, 0, 0, .null),
  (26, .baload, 1, 0, 0, .null),
  (27, .ifCond .ne 10, 3, 37, 0, .null),
  (30, .aload_n 0, 1, 0, 0, .null),
  (31, .bipush (-2), 2, 0, 0, .null),
  (33, .invokevirtual 171, 3, 0, 140, .null),
  (36, .ireturn, 1, 0, 0, .null),
  (37, .iconst 0, 1, 0, 0, .null),
  (38, .istore_n 2, 1, 0, 0, .null),
  (39, .iload_n 2, 1, 0, 0, .null),
  (40, .sipush 5498, 3, 0, 0, .null),
  (43, .if_icmp .ge 27, 3, 70, 0, .null),
  (46, .aload_n 0, 1, 0, 0, .null),
  (47, .getfield 13, 3, 11, 3, .null),
  (50, .iload_n 2, 1, 0, 0, .null),
  (51, .aload_n 0, 1, 0, 0, .null),
  (52, .getfield 16, 3, 11, 4, .null),
  (55, .sipush 5498, 3, 0, 0, .null),
  (58, .iload_n 1, 1, 0, 0, .null),
  (59, .imul, 1, 0, 0, .null),
  (60, .iload_n 2, 1, 0, 0, .null),
  (61, .iadd, 1, 0, 0, .null),
  (62, .iaload, 1, 0, 0, .null),
  (63, .iastore, 1, 0, 0, .null),
  (64, .iinc 2 1, 3, 0, 0, .null),
  (67, .goto (-28), 3, 39, 0, .null),
  (70, .aload_n 0, 1, 0, 0, .null),
  (71, .iconst 0, 1, 0, 0, .null),
  (72, .invokevirtual 186, 3, 0, 142, .null),
  (75, .ireturn, 1, 0, 0, .null)]
set_option maxRecDepth 100000 in
theorem pm_d148 : pm_c148.all (pm_decB prog_13_method_15_code) = true := by decide +kernel
/-- TrainBearersModel.isYard(I)Z -/
def pm_c149 : List pm_I := [(0, .iload_n 1, 1, 0, 0, .null),
  (1, .i2l, 1, 0, 0, .null),
  (2, .lconst 0, 1, 0, 0, .null),
  (3, .aload_n 0, 1, 0, 0, .null),
  (4, .getfield 13, 3, 11, 3, .null),
  (7, .iconst 0, 1, 0, 0, .null),
  (8, .iaload, 1, 0, 0, .null),
  (9, .i2l, 1, 0, 0, .null),
  (10, .lconst 1, 1, 0, 0, .null),
  (11, .lsub, 1, 0, 0, .null),
  (12, .invokestatic 182, 3, 1, 136, .null),
  (15, .ireturn, 1, 0, 0, .null)]
set_option maxRecDepth 100000 in
theorem pm_d149 : pm_c149.all (pm_decB prog_13_method_16_code) = true := by decide +kernel
/-- TrainBearersModel.isGirl(I)Z -/
def pm_c150 : List pm_I := [(0, .iload_n 1, 1, 0, 0, .null),
  (1, .i2l, 1, 0, 0, .null),
  (2, .lconst 0, 1, 0, 0, .null),
  (3, .aload_n 0, 1, 0, 0, .null),
  (4, .getfield 13, 3, 11, 3, .null),
  (7, .iconst 1, 1, 0, 0, .null),
  (8, .iaload, 1, 0, 0, .null),
  (9, .i2l, 1, 0, 0, .null),
  (10, .lconst 1, 1, 0, 0, .null),
  (11, .lsub, 1, 0, 0, .null),
  (12, .invokestatic 182, 3, 1, 136, .null),
  (15, .ireturn, 1, 0, 0, .null)]
set_option maxRecDepth 100000 in
theorem pm_d150 : pm_c150.all (pm_decB prog_13_method_17_code) = true := by decide +kernel
/-- TrainBearersModel.isPlace(I)Z -/
def pm_c151 : List pm_I := [(0, .iload_n 0, 1, 0, 0, .null),
  (1, .i2l, 1, 0, 0, .null),
  (2, .lconst 0, 1, 0, 0, .null),
  (3, .ldc2_w 189, 3, 1, 0, .long (5)),
  (6, .invokestatic 182, 3, 1, 136, .null),
  (9, .ireturn, 1, 0, 0, .null)]
set_option maxRecDepth 100000 in
theorem pm_d151 : pm_c151.all (pm_decB prog_13_method_18_code) = true := by decide +kernel
/-- TrainBearersModel.holders(I)I -/
def pm_c152 : List pm_I := [(0, .iconst 0, 1, 0, 0, .null),
  (1, .istore_n 2, 1, 0, 0, .null),
  (2, .iconst 0, 1, 0, 0, .null),
  (3, .istore_n 3, 1, 0, 0, .null),
  (4, .iload_n 3, 1, 0, 0, .null),
  (5, .aload_n 0, 1, 0, 0, .null),
  (6, .getfield 13, 3, 11, 3, .null),
  (9, .iconst 1, 1, 0, 0, .null),
  (10, .iaload, 1, 0, 0, .null),
  (11, .if_icmp .ge 32, 3, 43, 0, .null),
  (14, .iload_n 2, 1, 0, 0, .null),
  (15, .aload_n 0, 1, 0, 0, .null),
  (16, .getfield 13, 3, 11, 3, .null),
  (19, .bipush 26, 2, 0, 0, .null),
  (21, .iload_n 3, 1, 0, 0, .null),
  (22, .iadd, 1, 0, 0, .null),
  (23, .iaload, 1, 0, 0, .null),
  (24, .iload_n 1, 1, 0, 0, .null),
  (25, .if_icmp .ne 9, 3, 34, 0, .null),
  (28, .iconst 1, 1, 0, 0, .null),
  (29, .iload_n 3, 1, 0, 0, .null),
  (30, .ishl, 1, 0, 0, .null),
  (31, .goto 4, 3, 35, 0, .null),
  (34, .iconst 0, 1, 0, 0, .null),
  (35, .ior, 1, 0, 0, .null),
  (36, .istore_n 2, 1, 0, 0, .null),
  (37, .iinc 3 1, 3, 0, 0, .null),
  (40, .goto (-36), 3, 4, 0, .null),
  (43, .iload_n 2, 1, 0, 0, .null),
  (44, .ireturn, 1, 0, 0, .null)]
set_option maxRecDepth 100000 in
theorem pm_d152 : pm_c152.all (pm_decB prog_13_method_19_code) = true := by decide +kernel
/-- TrainBearersModel.holding()I -/
def pm_c153 : List pm_I := [(0, .iconst 0, 1, 0, 0, .null),
  (1, .istore_n 1, 1, 0, 0, .null),
  (2, .iconst 0, 1, 0, 0, .null),
  (3, .istore_n 2, 1, 0, 0, .null),
  (4, .iload_n 2, 1, 0, 0, .null),
  (5, .aload_n 0, 1, 0, 0, .null),
  (6, .getfield 13, 3, 11, 3, .null),
  (9, .iconst 1, 1, 0, 0, .null),
  (10, .iaload, 1, 0, 0, .null),
  (11, .if_icmp .ge 30, 3, 41, 0, .null),
  (14, .iload_n 1, 1, 0, 0, .null),
  (15, .aload_n 0, 1, 0, 0, .null),
  (16, .getfield 13, 3, 11, 3, .null),
  (19, .bipush 26, 2, 0, 0, .null),
  (21, .iload_n 2, 1, 0, 0, .null),
  (22, .iadd, 1, 0, 0, .null),
  (23, .iaload, 1, 0, 0, .null),
  (24, .iconst (-1), 1, 0, 0, .null),
  (25, .if_icmp .ne 7, 3, 32, 0, .null),
  (28, .iconst 0, 1, 0, 0, .null),
  (29, .goto 4, 3, 33, 0, .null),
  (32, .iconst 1, 1, 0, 0, .null),
  (33, .iadd, 1, 0, 0, .null),
  (34, .istore_n 1, 1, 0, 0, .null),
  (35, .iinc 2 1, 3, 0, 0, .null),
  (38, .goto (-34), 3, 4, 0, .null),
  (41, .iload_n 1, 1, 0, 0, .null),
  (42, .ireturn, 1, 0, 0, .null)]
set_option maxRecDepth 100000 in
theorem pm_d153 : pm_c153.all (pm_decB prog_13_method_20_code) = true := by decide +kernel
/-- TrainBearersModel.yard(I)I -/
def pm_c154 : List pm_I := [(0, .aload_n 0, 1, 0, 0, .null),
  (1, .iconst 0, 1, 0, 0, .null),
  (2, .putfield 162, 3, 11, 0, .null),
  (5, .iload_n 1, 1, 0, 0, .null),
  (6, .i2l, 1, 0, 0, .null),
  (7, .lconst 1, 1, 0, 0, .null),
  (8, .ldc2_w 191, 3, 1, 0, .long (20)),
  (11, .invokestatic 182, 3, 1, 136, .null),
  (14, .ifCond .ne 9, 3, 23, 0, .null),
  (17, .aload_n 0, 1, 0, 0, .null),
  (18, .iconst (-1), 1, 0, 0, .null),
  (19, .invokevirtual 171, 3, 0, 140, .null),
  (22, .ireturn, 1, 0, 0, .null),
  (23, .aload_n 0, 1, 0, 0, .null),
  (24, .getfield 13, 3, 11, 3, .null),
  (27, .iconst 0, 1, 0, 0, .null),
  (28, .iaload, 1, 0, 0, .null),
  (29, .istore_n 2, 1, 0, 0, .null),
  (30, .iload_n 2, 1, 0, 0, .null),
  (31, .bipush 8, 2, 0, 0, .null),
  (33, .if_icmp .ne 10, 3, 43, 0, .null),
  (36, .aload_n 0, 1, 0, 0, .null),
  (37, .bipush (-5), 2, 0, 0, .null),
  (39, .invokevirtual 171, 3, 0, 140, .null),
  (42, .ireturn, 1, 0, 0, .null),
  (43, .aload_n 0, 1, 0, 0, .null),
  (44, .getfield 13, 3, 11, 3, .null),
  (47, .bipush 34, 2, 0, 0, .null),
  (49, .iload_n 2, 1, 0, 0, .null),
  (50, .iadd, 1, 0, 0, .null),
  (51, .iload_n 1, 1, 0, 0, .null),
  (52, .iastore, 1, 0, 0, .null),
  (53, .aload_n 0, 1, 0, 0, .null),
  (54, .getfield 13, 3, 11, 3, .null),
  (57, .bipush 10, 2, 0, 0, .null),
  (59, .iload_n 2, 1, 0, 0, .null),
  (60, .iadd, 1, 0, 0, .null),
  (61, .iconst 0, 1, 0, 0, .null),
  (62, .iastore, 1, 0, 0, .null),
  (63, .aload_n 0, 1, 0, 0, .null),
  (64, .getfield 13, 3, 11, 3, .null),
  (67, .iconst 0, 1, 0, 0, .null),
  (68, .dup2, 1, 0, 0, .null),
  (69, .iaload, 1, 0, 0, .null),
  (70, .iconst 1, 1, 0, 0, .null),
  (71, .iadd, 1, 0, 0, .null),
  (72, .iastore, 1, 0, 0, .null),
  (73, .aload_n 0, 1, 0, 0, .null),
  (74, .iload_n 2, 1, 0, 0, .null),
  (75, .invokevirtual 186, 3, 0, 142, .null),
  (78, .ireturn, 1, 0, 0, .null)]
set_option maxRecDepth 100000 in
theorem pm_d154 : pm_c154.all (pm_decB prog_13_method_21_code) = true := by decide +kernel
/-- TrainBearersModel.at(II)I -/
def pm_c155 : List pm_I := [(0, .aload_n 0, 1, 0, 0, .null),
  (1, .iconst 0, 1, 0, 0, .null),
  (2, .putfield 162, 3, 11, 0, .null),
  (5, .aload_n 0, 1, 0, 0, .null),
  (6, .iload_n 1, 1, 0, 0, .null),
  (7, .invokevirtual 193, 3, 0, 149, .null),
  (10, .ifCond .ne 5, 3, 15, 0, .null),
  (13, .iconst (-1), 1, 0, 0, .null),
  (14, .ireturn, 1, 0, 0, .null),
  (15, .iload_n 2, 1, 0, 0, .null),
  (16, .tableswitch 89 0 4 #[36, 46, 56, 62, 73], 36, 0, 0, .null),
  (52, .aload_n 0, 1, 0, 0, .null),
  (53, .getfield 13, 3, 11, 3, .null),
  (56, .bipush 34, 2, 0, 0, .null),
  (58, .iload_n 1, 1, 0, 0, .null),
  (59, .iadd, 1, 0, 0, .null),
  (60, .iaload, 1, 0, 0, .null),
  (61, .ireturn, 1, 0, 0, .null),
  (62, .aload_n 0, 1, 0, 0, .null),
  (63, .getfield 13, 3, 11, 3, .null),
  (66, .bipush 10, 2, 0, 0, .null),
  (68, .iload_n 1, 1, 0, 0, .null),
  (69, .iadd, 1, 0, 0, .null),
  (70, .iaload, 1, 0, 0, .null),
  (71, .ireturn, 1, 0, 0, .null),
  (72, .aload_n 0, 1, 0, 0, .null),
  (73, .iload_n 1, 1, 0, 0, .null),
  (74, .invokevirtual 197, 3, 0, 152, .null),
  (77, .ireturn, 1, 0, 0, .null),
  (78, .aload_n 0, 1, 0, 0, .null),
  (79, .iload_n 1, 1, 0, 0, .null),
  (80, .aload_n 0, 1, 0, 0, .null),
  (81, .iload_n 1, 1, 0, 0, .null),
  (82, .invokevirtual 197, 3, 0, 152, .null),
  (85, .invokevirtual 200, 3, 0, 207, .null),
  (88, .ireturn, 1, 0, 0, .null),
  (89, .aload_n 0, 1, 0, 0, .null),
  (90, .iload_n 1, 1, 0, 0, .null),
  (91, .aload_n 0, 1, 0, 0, .null),
  (92, .iload_n 1, 1, 0, 0, .null),
  (93, .aload_n 0, 1, 0, 0, .null),
  (94, .iload_n 1, 1, 0, 0, .null),
  (95, .invokevirtual 197, 3, 0, 152, .null),
  (98, .invokevirtual 200, 3, 0, 207, .null),
  (101, .invokevirtual 204, 3, 0, 206, .null),
  (104, .ireturn, 1, 0, 0, .null),
  (105, .iconst (-1), 1, 0, 0, .null),
  (106, .ireturn, 1, 0, 0, .null)]
set_option maxRecDepth 100000 in
theorem pm_d155 : pm_c155.all (pm_decB prog_13_method_22_code) = true := by decide +kernel
/-- TrainBearersModel.girl(I)I -/
def pm_c156 : List pm_I := [(0, .aload_n 0, 1, 0, 0, .null),
  (1, .iconst 0, 1, 0, 0, .null),
  (2, .putfield 162, 3, 11, 0, .null),
  (5, .iload_n 1, 1, 0, 0, .null),
  (6, .i2l, 1, 0, 0, .null),
  (7, .lconst 0, 1, 0, 0, .null),
  (8, .ldc2_w 207, 3, 1, 0, .long (9)),
  (11, .invokestatic 182, 3, 1, 136, .null),
  (14, .ifCond .ne 9, 3, 23, 0, .null),
  (17, .aload_n 0, 1, 0, 0, .null),
  (18, .iconst (-1), 1, 0, 0, .null),
  (19, .invokevirtual 171, 3, 0, 140, .null),
  (22, .ireturn, 1, 0, 0, .null),
  (23, .aload_n 0, 1, 0, 0, .null),
  (24, .getfield 13, 3, 11, 3, .null),
  (27, .iconst 1, 1, 0, 0, .null),
  (28, .iaload, 1, 0, 0, .null),
  (29, .istore_n 2, 1, 0, 0, .null),
  (30, .iload_n 2, 1, 0, 0, .null),
  (31, .bipush 8, 2, 0, 0, .null),
  (33, .if_icmp .ne 10, 3, 43, 0, .null),
  (36, .aload_n 0, 1, 0, 0, .null),
  (37, .bipush (-5), 2, 0, 0, .null),
  (39, .invokevirtual 171, 3, 0, 140, .null),
  (42, .ireturn, 1, 0, 0, .null),
  (43, .aload_n 0, 1, 0, 0, .null),
  (44, .getfield 13, 3, 11, 3, .null),
  (47, .bipush 42, 2, 0, 0, .null),
  (49, .iload_n 2, 1, 0, 0, .null),
  (50, .iadd, 1, 0, 0, .null),
  (51, .iload_n 1, 1, 0, 0, .null),
  (52, .iastore, 1, 0, 0, .null),
  (53, .aload_n 0, 1, 0, 0, .null),
  (54, .getfield 13, 3, 11, 3, .null),
  (57, .bipush 18, 2, 0, 0, .null),
  (59, .iload_n 2, 1, 0, 0, .null),
  (60, .iadd, 1, 0, 0, .null),
  (61, .iconst 0, 1, 0, 0, .null),
  (62, .iastore, 1, 0, 0, .null),
  (63, .aload_n 0, 1, 0, 0, .null),
  (64, .getfield 13, 3, 11, 3, .null),
  (67, .bipush 26, 2, 0, 0, .null),
  (69, .iload_n 2, 1, 0, 0, .null),
  (70, .iadd, 1, 0, 0, .null),
  (71, .iconst (-1), 1, 0, 0, .null),
  (72, .iastore, 1, 0, 0, .null),
  (73, .aload_n 0, 1, 0, 0, .null),
  (74, .getfield 13, 3, 11, 3, .null),
  (77, .iconst 1, 1, 0, 0, .null),
  (78, .dup2, 1, 0, 0, .null),
  (79, .iaload, 1, 0, 0, .null),
  (80, .iconst 1, 1, 0, 0, .null),
  (81, .iadd, 1, 0, 0, .null),
  (82, .iastore, 1, 0, 0, .null),
  (83, .aload_n 0, 1, 0, 0, .null),
  (84, .iload_n 2, 1, 0, 0, .null),
  (85, .invokevirtual 186, 3, 0, 142, .null),
  (88, .ireturn, 1, 0, 0, .null)]
set_option maxRecDepth 100000 in
theorem pm_d156 : pm_c156.all (pm_decB prog_13_method_23_code) = true := by decide +kernel
/-- TrainBearersModel.of(II)I -/
def pm_c157 : List pm_I := [(0, .aload_n 0, 1, 0, 0, .null),
  (1, .iconst 0, 1, 0, 0, .null),
  (2, .putfield 162, 3, 11, 0, .null),
  (5, .aload_n 0, 1, 0, 0, .null),
  (6, .iload_n 1, 1, 0, 0, .null),
  (7, .invokevirtual 209, 3, 0, 150, .null),
  (10, .ifCond .ne 5, 3, 15, 0, .null),
  (13, .iconst (-1), 1, 0, 0, .null),
  (14, .ireturn, 1, 0, 0, .null),
  (15, .iload_n 2, 1, 0, 0, .null),
  (16, .tableswitch 58 0 2 #[28, 38, 48], 28, 0, 0, .null),
  (44, .aload_n 0, 1, 0, 0, .null),
  (45, .getfield 13, 3, 11, 3, .null),
  (48, .bipush 42, 2, 0, 0, .null),
  (50, .iload_n 1, 1, 0, 0, .null),
  (51, .iadd, 1, 0, 0, .null),
  (52, .iaload, 1, 0, 0, .null),
  (53, .ireturn, 1, 0, 0, .null),
  (54, .aload_n 0, 1, 0, 0, .null),
  (55, .getfield 13, 3, 11, 3, .null),
  (58, .bipush 18, 2, 0, 0, .null),
  (60, .iload_n 1, 1, 0, 0, .null),
  (61, .iadd, 1, 0, 0, .null),
  (62, .iaload, 1, 0, 0, .null),
  (63, .ireturn, 1, 0, 0, .null),
  (64, .aload_n 0, 1, 0, 0, .null),
  (65, .getfield 13, 3, 11, 3, .null),
  (68, .bipush 26, 2, 0, 0, .null),
  (70, .iload_n 1, 1, 0, 0, .null),
  (71, .iadd, 1, 0, 0, .null),
  (72, .iaload, 1, 0, 0, .null),
  (73, .ireturn, 1, 0, 0, .null),
  (74, .iconst (-1), 1, 0, 0, .null),
  (75, .ireturn, 1, 0, 0, .null)]
set_option maxRecDepth 100000 in
theorem pm_d157 : pm_c157.all (pm_decB prog_13_method_24_code) = true := by decide +kernel
/-- TrainBearersModel.asks(III)I -/
def pm_c158 : List pm_I := [(0, .aload_n 0, 1, 0, 0, .null),
  (1, .iconst 0, 1, 0, 0, .null),
  (2, .putfield 162, 3, 11, 0, .null),
  (5, .aload_n 0, 1, 0, 0, .null),
  (6, .iload_n 1, 1, 0, 0, .null),
  (7, .invokevirtual 209, 3, 0, 150, .null),
  (10, .ifCond .eq 21, 3, 31, 0, .null),
  (13, .aload_n 0, 1, 0, 0, .null),
  (14, .iload_n 2, 1, 0, 0, .null),
  (15, .invokevirtual 193, 3, 0, 149, .null),
  (18, .ifCond .eq 13, 3, 31, 0, .null),
  (21, .iload_n 3, 1, 0, 0, .null),
  (22, .i2l, 1, 0, 0, .null),
  (23, .lconst 0, 1, 0, 0, .null),
  (24, .lconst 1, 1, 0, 0, .null),
  (25, .invokestatic 182, 3, 1, 136, .null),
  (28, .ifCond .ne 5, 3, 33, 0, .null),
  (31, .iconst (-1), 1, 0, 0, .null),
  (32, .ireturn, 1, 0, 0, .null),
  (33, .iload_n 3, 1, 0, 0, .null),
  (34, .ifCond .ne 12, 3, 46, 0, .null),
  (37, .aload_n 0, 1, 0, 0, .null),
  (38, .iload_n 1, 1, 0, 0, .null),
  (39, .iload_n 2, 1, 0, 0, .null),
  (40, .invokevirtual 212, 3, 0, 203, .null),
  (43, .goto 17, 3, 60, 0, .null),
  (46, .aload_n 0, 1, 0, 0, .null),
  (47, .iload_n 1, 1, 0, 0, .null),
  (48, .iload_n 2, 1, 0, 0, .null),
  (49, .invokevirtual 215, 3, 0, 204, .null),
  (52, .ifCond .eq 7, 3, 59, 0, .null),
  (55, .iconst 1, 1, 0, 0, .null),
  (56, .goto 4, 3, 60, 0, .null),
  (59, .iconst 0, 1, 0, 0, .null),
  (60, .ireturn, 1, 0, 0, .null)]
set_option maxRecDepth 100000 in
theorem pm_d158 : pm_c158.all (pm_decB prog_13_method_25_code) = true := by decide +kernel
/-- TrainBearersModel.isLane(III)Z -/
def pm_c159 : List pm_I := [(0, .iload_n 0, 1, 0, 0, .null),
  (1, .invokestatic 219, 3, 1, 151, .null),
  (4, .ifCond .eq 33, 3, 37, 0, .null),
  (7, .iload_n 1, 1, 0, 0, .null),
  (8, .invokestatic 219, 3, 1, 151, .null),
  (11, .ifCond .eq 26, 3, 37, 0, .null),
  (14, .iload_n 0, 1, 0, 0, .null),
  (15, .iload_n 1, 1, 0, 0, .null),
  (16, .if_icmp .eq 21, 3, 37, 0, .null),
  (19, .iload_n 2, 1, 0, 0, .null),
  (20, .i2l, 1, 0, 0, .null),
  (21, .ldc2_w 222, 3, 1, 0, .long (-1)),
  (24, .ldc2_w 207, 3, 1, 0, .long (9)),
  (27, .invokestatic 182, 3, 1, 136, .null),
  (30, .ifCond .eq 7, 3, 37, 0, .null),
  (33, .iconst 1, 1, 0, 0, .null),
  (34, .goto 4, 3, 38, 0, .null),
  (37, .iconst 0, 1, 0, 0, .null),
  (38, .ireturn, 1, 0, 0, .null)]
set_option maxRecDepth 100000 in
theorem pm_d159 : pm_c159.all (pm_decB prog_13_method_26_code) = true := by decide +kernel
/-- TrainBearersModel.setLane(III)V -/
def pm_c160 : List pm_I := [(0, .aload_n 0, 1, 0, 0, .null),
  (1, .getfield 13, 3, 11, 3, .null),
  (4, .bipush 50, 2, 0, 0, .null),
  (6, .bipush 6, 2, 0, 0, .null),
  (8, .iload_n 1, 1, 0, 0, .null),
  (9, .imul, 1, 0, 0, .null),
  (10, .iadd, 1, 0, 0, .null),
  (11, .iload_n 2, 1, 0, 0, .null),
  (12, .iadd, 1, 0, 0, .null),
  (13, .iload_n 3, 1, 0, 0, .null),
  (14, .iastore, 1, 0, 0, .null),
  (15, .aload_n 0, 1, 0, 0, .null),
  (16, .getfield 13, 3, 11, 3, .null),
  (19, .bipush 50, 2, 0, 0, .null),
  (21, .bipush 6, 2, 0, 0, .null),
  (23, .iload_n 2, 1, 0, 0, .null),
  (24, .imul, 1, 0, 0, .null),
  (25, .iadd, 1, 0, 0, .null),
  (26, .iload_n 1, 1, 0, 0, .null),
  (27, .iadd, 1, 0, 0, .null),
  (28, .iload_n 3, 1, 0, 0, .null),
  (29, .iastore, 1, 0, 0, .null),
  (30, .return_, 1, 0, 0, .null)]
set_option maxRecDepth 100000 in
theorem pm_d160 : pm_c160.all (pm_decB prog_13_method_27_code) = true := by decide +kernel
/-- TrainBearersModel.lane(III)I -/
def pm_c161 : List pm_I := [(0, .aload_n 0, 1, 0, 0, .null),
  (1, .iconst 0, 1, 0, 0, .null),
  (2, .putfield 162, 3, 11, 0, .null),
  (5, .iload_n 1, 1, 0, 0, .null),
  (6, .iload_n 2, 1, 0, 0, .null),
  (7, .iload_n 3, 1, 0, 0, .null),
  (8, .invokestatic 224, 3, 1, 159, .null),
  (11, .ifCond .ne 9, 3, 20, 0, .null),
  (14, .aload_n 0, 1, 0, 0, .null),
  (15, .iconst (-1), 1, 0, 0, .null),
  (16, .invokevirtual 171, 3, 0, 140, .null),
  (19, .ireturn, 1, 0, 0, .null),
  (20, .aload_n 0, 1, 0, 0, .null),
  (21, .getfield 13, 3, 11, 3, .null),
  (24, .bipush 50, 2, 0, 0, .null),
  (26, .bipush 6, 2, 0, 0, .null),
  (28, .iload_n 1, 1, 0, 0, .null),
  (29, .imul, 1, 0, 0, .null),
  (30, .iadd, 1, 0, 0, .null),
  (31, .iload_n 2, 1, 0, 0, .null),
  (32, .iadd, 1, 0, 0, .null),
  (33, .iaload, 1, 0, 0, .null),
  (34, .istore 4, 2, 0, 0, .null),
  (36, .aload_n 0, 1, 0, 0, .null),
  (37, .iload_n 1, 1, 0, 0, .null),
  (38, .iload_n 2, 1, 0, 0, .null),
  (39, .iload_n 3, 1, 0, 0, .null),
  (40, .invokevirtual 228, 3, 0, 160, .null),
  (43, .aload_n 0, 1, 0, 0, .null),
  (44, .iconst 0, 1, 0, 0, .null),
  (45, .putfield 165, 3, 11, 1, .null),
  (48, .iload 4, 2, 0, 0, .null),
  (50, .ireturn, 1, 0, 0, .null)]
set_option maxRecDepth 100000 in
theorem pm_d161 : pm_c161.all (pm_decB prog_13_method_28_code) = true := by decide +kernel
/-- TrainBearersModel.stiles(II)I -/
def pm_c162 : List pm_I := [(0, .aload_n 0, 1, 0, 0, .null),
  (1, .iconst 0, 1, 0, 0, .null),
  (2, .putfield 162, 3, 11, 0, .null),
  (5, .iload_n 1, 1, 0, 0, .null),
  (6, .invokestatic 219, 3, 1, 151, .null),
  (9, .ifCond .eq 27, 3, 36, 0, .null),
  (12, .iload_n 2, 1, 0, 0, .null),
  (13, .invokestatic 219, 3, 1, 151, .null),
  (16, .ifCond .eq 20, 3, 36, 0, .null),
  (19, .aload_n 0, 1, 0, 0, .null),
  (20, .getfield 13, 3, 11, 3, .null),
  (23, .bipush 50, 2, 0, 0, .null),
  (25, .bipush 6, 2, 0, 0, .null),
  (27, .iload_n 1, 1, 0, 0, .null),
  (28, .imul, 1, 0, 0, .null),
  (29, .iadd, 1, 0, 0, .null),
  (30, .iload_n 2, 1, 0, 0, .null),
  (31, .iadd, 1, 0, 0, .null),
  (32, .iaload, 1, 0, 0, .null),
  (33, .goto 4, 3, 37, 0, .null),
  (36, .iconst (-1), 1, 0, 0, .null),
  (37, .ireturn, 1, 0, 0, .null)]
set_option maxRecDepth 100000 in
theorem pm_d162 : pm_c162.all (pm_decB prog_13_method_29_code) = true := by decide +kernel
/-- TrainBearersModel.terms(II)I -/
def pm_c163 : List pm_I := [(0, .aload_n 0, 1, 0, 0, .null),
  (1, .iconst 0, 1, 0, 0, .null),
  (2, .putfield 162, 3, 11, 0, .null),
  (5, .iload_n 1, 1, 0, 0, .null),
  (6, .ifCond .ne 15, 3, 21, 0, .null),
  (9, .iload_n 2, 1, 0, 0, .null),
  (10, .i2l, 1, 0, 0, .null),
  (11, .lconst 0, 1, 0, 0, .null),
  (12, .ldc2_w 232, 3, 1, 0, .long (999)),
  (15, .invokestatic 182, 3, 1, 136, .null),
  (18, .goto 42, 3, 60, 0, .null),
  (21, .iload_n 1, 1, 0, 0, .null),
  (22, .iconst 1, 1, 0, 0, .null),
  (23, .if_icmp .ne 15, 3, 38, 0, .null),
  (26, .iload_n 2, 1, 0, 0, .null),
  (27, .i2l, 1, 0, 0, .null),
  (28, .lconst 0, 1, 0, 0, .null),
  (29, .ldc2_w 234, 3, 1, 0, .long (10)),
  (32, .invokestatic 182, 3, 1, 136, .null),
  (35, .goto 25, 3, 60, 0, .null),
  (38, .iload_n 1, 1, 0, 0, .null),
  (39, .iconst 2, 1, 0, 0, .null),
  (40, .if_icmp .ne 19, 3, 59, 0, .null),
  (43, .iload_n 2, 1, 0, 0, .null),
  (44, .i2l, 1, 0, 0, .null),
  (45, .lconst 0, 1, 0, 0, .null),
  (46, .ldc2_w 207, 3, 1, 0, .long (9)),
  (49, .invokestatic 182, 3, 1, 136, .null),
  (52, .ifCond .eq 7, 3, 59, 0, .null),
  (55, .iconst 1, 1, 0, 0, .null),
  (56, .goto 4, 3, 60, 0, .null),
  (59, .iconst 0, 1, 0, 0, .null),
  (60, .istore_n 3, 1, 0, 0, .null),
  (61, .iload_n 3, 1, 0, 0, .null),
  (62, .ifCond .ne 9, 3, 71, 0, .null),
  (65, .aload_n 0, 1, 0, 0, .null),
  (66, .iconst (-1), 1, 0, 0, .null),
  (67, .invokevirtual 171, 3, 0, 140, .null),
  (70, .ireturn, 1, 0, 0, .null),
  (71, .aload_n 0, 1, 0, 0, .null),
  (72, .iconst 0, 1, 0, 0, .null),
  (73, .putfield 168, 3, 11, 8, .null),
  (76, .aload_n 0, 1, 0, 0, .null),
  (77, .iconst 5, 1, 0, 0, .null),
  (78, .iload_n 1, 1, 0, 0, .null),
  (79, .iadd, 1, 0, 0, .null),
  (80, .iload_n 2, 1, 0, 0, .null),
  (81, .invokevirtual 236, 3, 0, 141, .null),
  (84, .ireturn, 1, 0, 0, .null)]
set_option maxRecDepth 100000 in
theorem pm_d163 : pm_c163.all (pm_decB prog_13_method_30_code) = true := by decide +kernel
/-- TrainBearersModel.row()I -/
def pm_c164 : List pm_I := [(0, .aload_n 0, 1, 0, 0, .null),
  (1, .iconst 0, 1, 0, 0, .null),
  (2, .putfield 162, 3, 11, 0, .null),
  (5, .aload_n 0, 1, 0, 0, .null),
  (6, .getfield 239, 3, 11, 13, .null),
  (9, .istore_n 1, 1, 0, 0, .null),
  (10, .aload_n 0, 1, 0, 0, .null),
  (11, .iconst 0, 1, 0, 0, .null),
  (12, .putfield 239, 3, 11, 13, .null),
  (15, .iload_n 1, 1, 0, 0, .null),
  (16, .ifCond .ne 10, 3, 26, 0, .null),
  (19, .aload_n 0, 1, 0, 0, .null),
  (20, .bipush (-6), 2, 0, 0, .null),
  (22, .invokevirtual 171, 3, 0, 140, .null),
  (25, .ireturn, 1, 0, 0, .null),
  (26, .aload_n 0, 1, 0, 0, .null),
  (27, .iconst 0, 1, 0, 0, .null),
  (28, .putfield 242, 3, 11, 11, .null),
  (31, .iconst 0, 1, 0, 0, .null),
  (32, .istore_n 2, 1, 0, 0, .null),
  (33, .iconst 0, 1, 0, 0, .null),
  (34, .istore_n 3, 1, 0, 0, .null),
  (35, .iload_n 3, 1, 0, 0, .null),
  (36, .iload_n 1, 1, 0, 0, .null),
  (37, .if_icmp .ge 112, 3, 149, 0, .null),
  (40, .iload_n 3, 1, 0, 0, .null),
  (41, .iconst 2, 1, 0, 0, .null),
  (42, .iadd, 1, 0, 0, .null),
  (43, .iload_n 1, 1, 0, 0, .null),
  (44, .if_icmp .ge 14, 3, 58, 0, .null),
  (47, .aload_n 0, 1, 0, 0, .null),
  (48, .getfield 35, 3, 11, 12, .null),
  (51, .iload_n 3, 1, 0, 0, .null),
  (52, .iconst 2, 1, 0, 0, .null),
  (53, .iadd, 1, 0, 0, .null),
  (54, .iaload, 1, 0, 0, .null),
  (55, .goto 5, 3, 60, 0, .null),
  (58, .ldc 245, 2, 0, 0, .int (100000000)),
  (60, .istore 4, 2, 0, 0, .null),
  (62, .iload 4, 2, 0, 0, .null),
  (64, .sipush 255, 3, 0, 0, .null),
  (67, .if_icmp .ne 7, 3, 74, 0, .null),
  (70, .iconst (-1), 1, 0, 0, .null),
  (71, .goto 5, 3, 76, 0, .null),
  (74, .iload 4, 2, 0, 0, .null),
  (76, .istore 4, 2, 0, 0, .null),
  (78, .iload_n 3, 1, 0, 0, .null),
  (79, .iconst 2, 1, 0, 0, .null),
  (80, .iadd, 1, 0, 0, .null),
  (81, .iload_n 1, 1, 0, 0, .null),
  (82, .if_icmp .ge 51, 3, 133, 0, .null),
  (85, .aload_n 0, 1, 0, 0, .null),
  (86, .getfield 35, 3, 11, 12, .null),
  (89, .iload_n 3, 1, 0, 0, .null),
  (90, .iaload, 1, 0, 0, .null),
  (91, .aload_n 0, 1, 0, 0, .null),
  (92, .getfield 35, 3, 11, 12, .null),
  (95, .iload_n 3, 1, 0, 0, .null),
  (96, .iconst 1, 1, 0, 0, .null),
  (97, .iadd, 1, 0, 0, .null),
  (98, .iaload, 1, 0, 0, .null),
  (99, .iload 4, 2, 0, 0, .null),
  (101, .invokestatic 224, 3, 1, 159, .null),
  (104, .ifCond .eq 29, 3, 133, 0, .null),
  (107, .aload_n 0, 1, 0, 0, .null),
  (108, .aload_n 0, 1, 0, 0, .null),
  (109, .getfield 35, 3, 11, 12, .null),
  (112, .iload_n 3, 1, 0, 0, .null),
  (113, .iaload, 1, 0, 0, .null),
  (114, .aload_n 0, 1, 0, 0, .null),
  (115, .getfield 35, 3, 11, 12, .null),
  (118, .iload_n 3, 1, 0, 0, .null),
  (119, .iconst 1, 1, 0, 0, .null),
  (120, .iadd, 1, 0, 0, .null),
  (121, .iaload, 1, 0, 0, .null),
  (122, .iload 4, 2, 0, 0, .null),
  (124, .invokevirtual 228, 3, 0, 160, .null),
  (127, .iinc 2 1, 3, 0, 0, .null),
  (130, .goto 13, 3, 143, 0, .null),
  (133, .aload_n 0, 1, 0, 0, .null),
  (134, .dup, 1, 0, 0, .null),
  (135, .getfield 242, 3, 11, 11, .null),
  (138, .iconst 1, 1, 0, 0, .null),
  (139, .iadd, 1, 0, 0, .null),
  (140, .putfield 242, 3, 11, 11, .null),
  (143, .iinc 3 3, 3, 0, 0, .null),
  (146, .goto (-111), 3, 35, 0, .null),
  (149, .aload_n 0, 1, 0, 0, .null),
  (150, .iload_n 2, 1, 0, 0, .null),
  (151, .invokevirtual 171, 3, 0, 140, .null),
  (154, .ireturn, 1, 0, 0, .null)]
set_option maxRecDepth 100000 in
theorem pm_d164 : pm_c164.all (pm_decB prog_13_method_31_code) = true := by decide +kernel
/-- TrainBearersModel.puddles()I -/
def pm_c165 : List pm_I := [(0, .aload_n 0, 1, 0, 0, .null),
  (1, .iconst 0, 1, 0, 0, .null),
  (2, .putfield 162, 3, 11, 0, .null),
  (5, .aload_n 0, 1, 0, 0, .null),
  (6, .getfield 242, 3, 11, 11, .null),
  (9, .ireturn, 1, 0, 0, .null)]
set_option maxRecDepth 100000 in
theorem pm_d165 : pm_c165.all (pm_decB prog_13_method_32_code) = true := by decide +kernel
/-- TrainBearersModel.four(I)V -/
def pm_c166 : List pm_I := [(0, .bipush 24, 2, 0, 0, .null),
  (2, .istore_n 2, 1, 0, 0, .null),
  (3, .iload_n 2, 1, 0, 0, .null),
  (4, .ifCond .lt 35, 3, 39, 0, .null),
  (7, .aload_n 0, 1, 0, 0, .null),
  (8, .getfield 35, 3, 11, 12, .null),
  (11, .aload_n 0, 1, 0, 0, .null),
  (12, .getfield 239, 3, 11, 13, .null),
  (15, .iload_n 1, 1, 0, 0, .null),
  (16, .iload_n 2, 1, 0, 0, .null),
  (17, .ishr, 1, 0, 0, .null),
  (18, .sipush 255, 3, 0, 0, .null),
  (21, .iand, 1, 0, 0, .null),
  (22, .iastore, 1, 0, 0, .null),
  (23, .aload_n 0, 1, 0, 0, .null),
  (24, .dup, 1, 0, 0, .null),
  (25, .getfield 239, 3, 11, 13, .null),
  (28, .iconst 1, 1, 0, 0, .null),
  (29, .iadd, 1, 0, 0, .null),
  (30, .putfield 239, 3, 11, 13, .null),
  (33, .iinc 2 (-8), 3, 0, 0, .null),
  (36, .goto (-33), 3, 3, 0, .null),
  (39, .return_, 1, 0, 0, .null)]
set_option maxRecDepth 100000 in
theorem pm_d166 : pm_c166.all (pm_decB prog_13_method_33_code) = true := by decide +kernel
/-- TrainBearersModel.feed(IIIII)I -/
def pm_c167 : List pm_I := [(0, .aload_n 0, 1, 0, 0, .null),
  (1, .iconst 0, 1, 0, 0, .null),
  (2, .putfield 162, 3, 11, 0, .null),
  (5, .aload_n 0, 1, 0, 0, .null),
  (6, .getfield 239, 3, 11, 13, .null),
  (9, .bipush 20, 2, 0, 0, .null),
  (11, .iadd, 1, 0, 0, .null),
  (12, .sipush 400, 3, 0, 0, .null),
  (15, .if_icmp .le 5, 3, 20, 0, .null),
  (18, .iconst (-1), 1, 0, 0, .null),
  (19, .ireturn, 1, 0, 0, .null),
  (20, .aload_n 0, 1, 0, 0, .null),
  (21, .iload_n 1, 1, 0, 0, .null),
  (22, .invokevirtual 246, 3, 0, 166, .null),
  (25, .aload_n 0, 1, 0, 0, .null),
  (26, .iload_n 2, 1, 0, 0, .null),
  (27, .invokevirtual 246, 3, 0, 166, .null),
  (30, .aload_n 0, 1, 0, 0, .null),
  (31, .iload_n 3, 1, 0, 0, .null),
  (32, .invokevirtual 246, 3, 0, 166, .null),
  (35, .aload_n 0, 1, 0, 0, .null),
  (36, .iload 4, 2, 0, 0, .null),
  (38, .invokevirtual 246, 3, 0, 166, .null),
  (41, .aload_n 0, 1, 0, 0, .null),
  (42, .iload 5, 2, 0, 0, .null),
  (44, .invokevirtual 246, 3, 0, 166, .null),
  (47, .aload_n 0, 1, 0, 0, .null),
  (48, .getfield 239, 3, 11, 13, .null),
  (51, .ireturn, 1, 0, 0, .null)]
set_option maxRecDepth 100000 in
theorem pm_d167 : pm_c167.all (pm_decB prog_13_method_34_code) = true := by decide +kernel
/-- TrainBearersModel.end(I)I -/
def pm_c168 : List pm_I := [(0, .aload_n 0, 1, 0, 0, .null),
  (1, .iconst 0, 1, 0, 0, .null),
  (2, .putfield 162, 3, 11, 0, .null),
  (5, .iload_n 1, 1, 0, 0, .null),
  (6, .ifCond .lt 11, 3, 17, 0, .null),
  (9, .iload_n 1, 1, 0, 0, .null),
  (10, .aload_n 0, 1, 0, 0, .null),
  (11, .getfield 239, 3, 11, 13, .null),
  (14, .if_icmp .le 5, 3, 19, 0, .null),
  (17, .iconst (-1), 1, 0, 0, .null),
  (18, .ireturn, 1, 0, 0, .null),
  (19, .aload_n 0, 1, 0, 0, .null),
  (20, .iload_n 1, 1, 0, 0, .null),
  (21, .putfield 239, 3, 11, 13, .null),
  (24, .iload_n 1, 1, 0, 0, .null),
  (25, .ireturn, 1, 0, 0, .null)]
set_option maxRecDepth 100000 in
theorem pm_d168 : pm_c168.all (pm_decB prog_13_method_35_code) = true := by decide +kernel
/-- TrainBearersModel.isSmall(I)Z -/
def pm_c169 : List pm_I := [(0, .iload_n 0, 1, 0, 0, .null),
  (1, .bipush 97, 2, 0, 0, .null),
  (3, .if_icmp .lt 13, 3, 16, 0, .null),
  (6, .iload_n 0, 1, 0, 0, .null),
  (7, .bipush 122, 2, 0, 0, .null),
  (9, .if_icmp .gt 7, 3, 16, 0, .null),
  (12, .iconst 1, 1, 0, 0, .null),
  (13, .goto 4, 3, 17, 0, .null),
  (16, .iconst 0, 1, 0, 0, .null),
  (17, .ireturn, 1, 0, 0, .null)]
set_option maxRecDepth 100000 in
theorem pm_d169 : pm_c169.all (pm_decB prog_13_method_36_code) = true := by decide +kernel
/-- TrainBearersModel.isDigit(I)Z -/
def pm_c170 : List pm_I := [(0, .iload_n 0, 1, 0, 0, .null),
  (1, .bipush 48, 2, 0, 0, .null),
  (3, .if_icmp .lt 13, 3, 16, 0, .null),
  (6, .iload_n 0, 1, 0, 0, .null),
  (7, .bipush 57, 2, 0, 0, .null),
  (9, .if_icmp .gt 7, 3, 16, 0, .null),
  (12, .iconst 1, 1, 0, 0, .null),
  (13, .goto 4, 3, 17, 0, .null),
  (16, .iconst 0, 1, 0, 0, .null),
  (17, .ireturn, 1, 0, 0, .null)]
set_option maxRecDepth 100000 in
theorem pm_d170 : pm_c170.all (pm_decB prog_13_method_37_code) = true := by decide +kernel
/-- TrainBearersModel.begin()V -/
def pm_c171 : List pm_I := [(0, .aload_n 0, 1, 0, 0, .null),
  (1, .iconst 0, 1, 0, 0, .null),
  (2, .putfield 249, 3, 11, 15, .null),
  (5, .aload_n 0, 1, 0, 0, .null),
  (6, .iconst 0, 1, 0, 0, .null),
  (7, .putfield 252, 3, 11, 19, .null),
  (10, .aload_n 0, 1, 0, 0, .null),
  (11, .iconst (-1), 1, 0, 0, .null),
  (12, .putfield 38, 3, 11, 18, .null),
  (15, .aload_n 0, 1, 0, 0, .null),
  (16, .invokevirtual 256, 3, 0, 172, .null),
  (19, .return_, 1, 0, 0, .null)]
set_option maxRecDepth 100000 in
theorem pm_d171 : pm_c171.all (pm_decB prog_13_method_38_code) = true := by decide +kernel
/-- TrainBearersModel.next()V -/
def pm_c172 : List pm_I := [(0, .aload_n 0, 1, 0, 0, .null),
  (1, .aload_n 0, 1, 0, 0, .null),
  (2, .getfield 249, 3, 11, 15, .null),
  (5, .putfield 259, 3, 11, 14, .null),
  (8, .aload_n 0, 1, 0, 0, .null),
  (9, .getfield 259, 3, 11, 14, .null),
  (12, .aload_n 0, 1, 0, 0, .null),
  (13, .getfield 239, 3, 11, 13, .null),
  (16, .if_icmp .ge 30, 3, 46, 0, .null),
  (19, .aload_n 0, 1, 0, 0, .null),
  (20, .getfield 35, 3, 11, 12, .null),
  (23, .aload_n 0, 1, 0, 0, .null),
  (24, .getfield 259, 3, 11, 14, .null),
  (27, .iaload, 1, 0, 0, .null),
  (28, .bipush 32, 2, 0, 0, .null),
  (30, .if_icmp .ne 16, 3, 46, 0, .null),
  (33, .aload_n 0, 1, 0, 0, .null),
  (34, .dup, 1, 0, 0, .null),
  (35, .getfield 259, 3, 11, 14, .null),
  (38, .iconst 1, 1, 0, 0, .null),
  (39, .iadd, 1, 0, 0, .null),
  (40, .putfield 259, 3, 11, 14, .null),
  (43, .goto (-35), 3, 8, 0, .null),
  (46, .aload_n 0, 1, 0, 0, .null),
  (47, .aload_n 0, 1, 0, 0, .null),
  (48, .getfield 259, 3, 11, 14, .null),
  (51, .putfield 249, 3, 11, 15, .null),
  (54, .aload_n 0, 1, 0, 0, .null),
  (55, .lconst 0, 1, 0, 0, .null),
  (56, .putfield 262, 3, 11, 17, .null),
  (59, .aload_n 0, 1, 0, 0, .null),
  (60, .aload_n 0, 1, 0, 0, .null),
  (61, .getfield 259, 3, 11, 14, .null),
  (64, .aload_n 0, 1, 0, 0, .null),
  (65, .getfield 239, 3, 11, 13, .null),
  (68, .if_icmp .ne 7, 3, 75, 0, .null),
  (71, .iconst 0, 1, 0, 0, .null),
  (72, .goto 42, 3, 114, 0, .null),
  (75, .aload_n 0, 1, 0, 0, .null),
  (76, .getfield 35, 3, 11, 12, .null),
  (79, .aload_n 0, 1, 0, 0, .null),
  (80, .getfield 259, 3, 11, 14, .null),
  (83, .iaload, 1, 0, 0, .null),
  (84, .invokestatic 266, 3, 1, 169, .null),
  (87, .ifCond .eq 7, 3, 94, 0, .null),
  (90, .iconst 1, 1, 0, 0, .null),
  (91, .goto 23, 3, 114, 0, .null),
  (94, .aload_n 0, 1, 0, 0, .null),
  (95, .getfield 35, 3, 11, 12, .null),
  (98, .aload_n 0, 1, 0, 0, .null),
  (99, .getfield 259, 3, 11, 14, .null),
  (102, .iaload, 1, 0, 0, .null),
  (103, .invokestatic 269, 3, 1, 170, .null),
  (106, .ifCond .eq 7, 3, 113, 0, .null),
  (109, .iconst 2, 1, 0, 0, .null),
  (110, .goto 4, 3, 114, 0, .null),
  (113, .iconst 3, 1, 0, 0, .null),
  (114, .putfield 272, 3, 11, 16, .null),
  (117, .aload_n 0, 1, 0, 0, .null),
  (118, .getfield 272, 3, 11, 16, .null),
  (121, .iconst 3, 1, 0, 0, .null),
  (122, .if_icmp .ne 27, 3, 149, 0, .null),
  (125, .aload_n 0, 1, 0, 0, .null),
  (126, .aload_n 0, 1, 0, 0, .null),
  (127, .getfield 35, 3, 11, 12, .null),
  (130, .aload_n 0, 1, 0, 0, .null),
  (131, .getfield 259, 3, 11, 14, .null),
  (134, .iaload, 1, 0, 0, .null),
  (135, .i2l, 1, 0, 0, .null),
  (136, .putfield 262, 3, 11, 17, .null),
  (139, .aload_n 0, 1, 0, 0, .null),
  (140, .dup, 1, 0, 0, .null),
  (141, .getfield 249, 3, 11, 15, .null),
  (144, .iconst 1, 1, 0, 0, .null),
  (145, .iadd, 1, 0, 0, .null),
  (146, .putfield 249, 3, 11, 15, .null),
  (149, .aload_n 0, 1, 0, 0, .null),
  (150, .getfield 272, 3, 11, 16, .null),
  (153, .iconst 1, 1, 0, 0, .null),
  (154, .if_icmp .ne 89, 3, 243, 0, .null),
  (157, .aload_n 0, 1, 0, 0, .null),
  (158, .getfield 249, 3, 11, 15, .null),
  (161, .aload_n 0, 1, 0, 0, .null),
  (162, .getfield 239, 3, 11, 13, .null),
  (165, .if_icmp .ge 78, 3, 243, 0, .null),
  (168, .aload_n 0, 1, 0, 0, .null),
  (169, .getfield 35, 3, 11, 12, .null),
  (172, .aload_n 0, 1, 0, 0, .null),
  (173, .getfield 249, 3, 11, 15, .null),
  (176, .iaload, 1, 0, 0, .null),
  (177, .invokestatic 266, 3, 1, 169, .null),
  (180, .ifCond .eq 63, 3, 243, 0, .null),
  (183, .aload_n 0, 1, 0, 0, .null),
  (184, .aload_n 0, 1, 0, 0, .null),
  (185, .getfield 249, 3, 11, 15, .null),
  (188, .aload_n 0, 1, 0, 0, .null),
  (189, .getfield 259, 3, 11, 14, .null),
  (192, .isub, 1, 0, 0, .null),
  (193, .bipush 10, 2, 0, 0, .null),
  (195, .if_icmp .ge 29, 3, 224, 0, .null),
  (198, .aload_n 0, 1, 0, 0, .null),
  (199, .getfield 262, 3, 11, 17, .null),
  (202, .ldc2_w 275, 3, 1, 0, .long (32)),
  (205, .lmul, 1, 0, 0, .null),
  (206, .aload_n 0, 1, 0, 0, .null),
  (207, .getfield 35, 3, 11, 12, .null),
  (210, .aload_n 0, 1, 0, 0, .null),
  (211, .getfield 249, 3, 11, 15, .null),
  (214, .iaload, 1, 0, 0, .null),
  (215, .i2l, 1, 0, 0, .null),
  (216, .ladd, 1, 0, 0, .null),
  (217, .ldc2_w 277, 3, 1, 0, .long (96)),
  (220, .lsub, 1, 0, 0, .null),
  (221, .goto 6, 3, 227, 0, .null),
  (224, .ldc2_w 222, 3, 1, 0, .long (-1)),
  (227, .putfield 262, 3, 11, 17, .null),
  (230, .aload_n 0, 1, 0, 0, .null),
  (231, .dup, 1, 0, 0, .null),
  (232, .getfield 249, 3, 11, 15, .null),
  (235, .iconst 1, 1, 0, 0, .null),
  (236, .iadd, 1, 0, 0, .null),
  (237, .putfield 249, 3, 11, 15, .null),
  (240, .goto (-91), 3, 149, 0, .null),
  (243, .aload_n 0, 1, 0, 0, .null),
  (244, .getfield 272, 3, 11, 16, .null),
  (247, .iconst 2, 1, 0, 0, .null),
  (248, .if_icmp .ne 87, 3, 335, 0, .null),
  (251, .aload_n 0, 1, 0, 0, .null),
  (252, .getfield 249, 3, 11, 15, .null),
  (255, .aload_n 0, 1, 0, 0, .null),
  (256, .getfield 239, 3, 11, 13, .null),
  (259, .if_icmp .ge 76, 3, 335, 0, .null),
  (262, .aload_n 0, 1, 0, 0, .null),
  (263, .getfield 35, 3, 11, 12, .null),
  (266, .aload_n 0, 1, 0, 0, .null),
  (267, .getfield 249, 3, 11, 15, .null),
  (270, .iaload, 1, 0, 0, .null),
  (271, .invokestatic 269, 3, 1, 170, .null),
  (274, .ifCond .eq 61, 3, 335, 0, .null),
  (277, .aload_n 0, 1, 0, 0, .null),
  (278, .aload_n 0, 1, 0, 0, .null),
  (279, .getfield 262, 3, 11, 17, .null),
  (282, .ldc2_w 279, 3, 1, 0, .long (1000000)),
  (285, .lcmp, 1, 0, 0, .null),
  (286, .ifCond .le 10, 3, 296, 0, .null),
  (289, .aload_n 0, 1, 0, 0, .null),
  (290, .getfield 262, 3, 11, 17, .null),
  (293, .goto 26, 3, 319, 0, .null),
  (296, .aload_n 0, 1, 0, 0, .null),
  (297, .getfield 262, 3, 11, 17, .null),
  (300, .ldc2_w 234, 3, 1, 0, .long (10)),
  (303, .lmul, 1, 0, 0, .null),
  (304, .aload_n 0, 1, 0, 0, .null),
  (305, .getfield 35, 3, 11, 12, .null),
  (308, .aload_n 0, 1, 0, 0, .null),
  (309, .getfield 249, 3, 11, 15, .null),
  (312, .iaload, 1, 0, 0, .null),
  (313, .i2l, 1, 0, 0, .null),
  (314, .ladd, 1, 0, 0, .null),
  (315, .ldc2_w 281, 3, 1, 0, .long (48)),
  (318, .lsub, 1, 0, 0, .null),
  (319, .putfield 262, 3, 11, 17, .null),
  (322, .aload_n 0, 1, 0, 0, .null),
  (323, .dup, 1, 0, 0, .null),
  (324, .getfield 249, 3, 11, 15, .null),
  (327, .iconst 1, 1, 0, 0, .null),
  (328, .iadd, 1, 0, 0, .null),
  (329, .putfield 249, 3, 11, 15, .null),
  (332, .goto (-89), 3, 243, 0, .null),
  (335, .return_, 1, 0, 0, .null)]
set_option maxRecDepth 100000 in
theorem pm_d172 : pm_c172.all (pm_decB prog_13_method_39_code) = true := by decide +kernel
/-- TrainBearersModel.isWord(J)Z -/
def pm_c173 : List pm_I := [(0, .aload_n 0, 1, 0, 0, .null),
  (1, .getfield 272, 3, 11, 16, .null),
  (4, .iconst 1, 1, 0, 0, .null),
  (5, .if_icmp .ne 16, 3, 21, 0, .null),
  (8, .aload_n 0, 1, 0, 0, .null),
  (9, .getfield 262, 3, 11, 17, .null),
  (12, .lload_n 1, 1, 0, 0, .null),
  (13, .lcmp, 1, 0, 0, .null),
  (14, .ifCond .ne 7, 3, 21, 0, .null),
  (17, .iconst 1, 1, 0, 0, .null),
  (18, .goto 4, 3, 22, 0, .null),
  (21, .iconst 0, 1, 0, 0, .null),
  (22, .ireturn, 1, 0, 0, .null)]
set_option maxRecDepth 100000 in
theorem pm_d173 : pm_c173.all (pm_decB prog_13_method_40_code) = true := by decide +kernel
/-- TrainBearersModel.isSign(I)Z -/
def pm_c174 : List pm_I := [(0, .aload_n 0, 1, 0, 0, .null),
  (1, .getfield 272, 3, 11, 16, .null),
  (4, .iconst 3, 1, 0, 0, .null),
  (5, .if_icmp .ne 17, 3, 22, 0, .null),
  (8, .aload_n 0, 1, 0, 0, .null),
  (9, .getfield 262, 3, 11, 17, .null),
  (12, .iload_n 1, 1, 0, 0, .null),
  (13, .i2l, 1, 0, 0, .null),
  (14, .lcmp, 1, 0, 0, .null),
  (15, .ifCond .ne 7, 3, 22, 0, .null),
  (18, .iconst 1, 1, 0, 0, .null),
  (19, .goto 4, 3, 23, 0, .null),
  (22, .iconst 0, 1, 0, 0, .null),
  (23, .ireturn, 1, 0, 0, .null)]
set_option maxRecDepth 100000 in
theorem pm_d174 : pm_c174.all (pm_decB prog_13_method_41_code) = true := by decide +kernel
/-- TrainBearersModel.must(Z)V -/
def pm_c175 : List pm_I := [(0, .aload_n 0, 1, 0, 0, .null),
  (1, .getfield 252, 3, 11, 19, .null),
  (4, .ifCond .ne 20, 3, 24, 0, .null),
  (7, .iload_n 1, 1, 0, 0, .null),
  (8, .ifCond .ne 16, 3, 24, 0, .null),
  (11, .aload_n 0, 1, 0, 0, .null),
  (12, .iconst 1, 1, 0, 0, .null),
  (13, .putfield 252, 3, 11, 19, .null),
  (16, .aload_n 0, 1, 0, 0, .null),
  (17, .aload_n 0, 1, 0, 0, .null),
  (18, .getfield 259, 3, 11, 14, .null),
  (21, .putfield 38, 3, 11, 18, .null),
  (24, .aload_n 0, 1, 0, 0, .null),
  (25, .getfield 252, 3, 11, 19, .null),
  (28, .ifCond .ne 7, 3, 35, 0, .null),
  (31, .aload_n 0, 1, 0, 0, .null),
  (32, .invokevirtual 256, 3, 0, 172, .null),
  (35, .return_, 1, 0, 0, .null)]
set_option maxRecDepth 100000 in
theorem pm_d175 : pm_c175.all (pm_decB prog_13_method_42_code) = true := by decide +kernel
/-- TrainBearersModel.number(JJ)I -/
def pm_c176 : List pm_I := [(0, .aload_n 0, 1, 0, 0, .null),
  (1, .getfield 262, 3, 11, 17, .null),
  (4, .l2i, 1, 0, 0, .null),
  (5, .istore 5, 2, 0, 0, .null),
  (7, .aload_n 0, 1, 0, 0, .null),
  (8, .aload_n 0, 1, 0, 0, .null),
  (9, .getfield 272, 3, 11, 16, .null),
  (12, .iconst 2, 1, 0, 0, .null),
  (13, .if_icmp .ne 19, 3, 32, 0, .null),
  (16, .aload_n 0, 1, 0, 0, .null),
  (17, .getfield 262, 3, 11, 17, .null),
  (20, .lload_n 1, 1, 0, 0, .null),
  (21, .lload_n 3, 1, 0, 0, .null),
  (22, .invokestatic 182, 3, 1, 136, .null),
  (25, .ifCond .eq 7, 3, 32, 0, .null),
  (28, .iconst 1, 1, 0, 0, .null),
  (29, .goto 4, 3, 33, 0, .null),
  (32, .iconst 0, 1, 0, 0, .null),
  (33, .invokevirtual 283, 3, 0, 175, .null),
  (36, .iload 5, 2, 0, 0, .null),
  (38, .ireturn, 1, 0, 0, .null)]
set_option maxRecDepth 100000 in
theorem pm_d176 : pm_c176.all (pm_decB prog_13_method_43_code) = true := by decide +kernel
/-- TrainBearersModel.fault()I -/
def pm_c177 : List pm_I := [(0, .aload_n 0, 1, 0, 0, .null),
  (1, .iconst 0, 1, 0, 0, .null),
  (2, .putfield 162, 3, 11, 0, .null),
  (5, .aload_n 0, 1, 0, 0, .null),
  (6, .getfield 38, 3, 11, 18, .null),
  (9, .ireturn, 1, 0, 0, .null)]
set_option maxRecDepth 100000 in
theorem pm_d177 : pm_c177.all (pm_decB prog_13_method_44_code) = true := by decide +kernel
/-- TrainBearersModel.emit(II)V -/
def pm_c178 : List pm_I := [(0, .aload_n 0, 1, 0, 0, .null),
  (1, .getfield 45, 3, 11, 24, .null),
  (4, .aload_n 0, 1, 0, 0, .null),
  (5, .getfield 287, 3, 11, 23, .null),
  (8, .iload_n 1, 1, 0, 0, .null),
  (9, .iastore, 1, 0, 0, .null),
  (10, .aload_n 0, 1, 0, 0, .null),
  (11, .getfield 48, 3, 11, 25, .null),
  (14, .aload_n 0, 1, 0, 0, .null),
  (15, .getfield 287, 3, 11, 23, .null),
  (18, .iload_n 2, 1, 0, 0, .null),
  (19, .iastore, 1, 0, 0, .null),
  (20, .aload_n 0, 1, 0, 0, .null),
  (21, .dup, 1, 0, 0, .null),
  (22, .getfield 287, 3, 11, 23, .null),
  (25, .iconst 1, 1, 0, 0, .null),
  (26, .iadd, 1, 0, 0, .null),
  (27, .putfield 287, 3, 11, 23, .null),
  (30, .return_, 1, 0, 0, .null)]
set_option maxRecDepth 100000 in
theorem pm_d178 : pm_c178.all (pm_decB prog_13_method_45_code) = true := by decide +kernel
/-- TrainBearersModel.push(II)V -/
def pm_c179 : List pm_I := [(0, .aload_n 0, 1, 0, 0, .null),
  (1, .getfield 51, 3, 11, 27, .null),
  (4, .aload_n 0, 1, 0, 0, .null),
  (5, .getfield 290, 3, 11, 29, .null),
  (8, .iload_n 1, 1, 0, 0, .null),
  (9, .iastore, 1, 0, 0, .null),
  (10, .aload_n 0, 1, 0, 0, .null),
  (11, .getfield 54, 3, 11, 28, .null),
  (14, .aload_n 0, 1, 0, 0, .null),
  (15, .getfield 290, 3, 11, 29, .null),
  (18, .iload_n 2, 1, 0, 0, .null),
  (19, .iastore, 1, 0, 0, .null),
  (20, .aload_n 0, 1, 0, 0, .null),
  (21, .dup, 1, 0, 0, .null),
  (22, .getfield 290, 3, 11, 29, .null),
  (25, .iconst 1, 1, 0, 0, .null),
  (26, .iadd, 1, 0, 0, .null),
  (27, .putfield 290, 3, 11, 29, .null),
  (30, .return_, 1, 0, 0, .null)]
set_option maxRecDepth 100000 in
theorem pm_d179 : pm_c179.all (pm_decB prog_13_method_46_code) = true := by decide +kernel
/-- TrainBearersModel.binds(I)I -/
def pm_c180 : List pm_I := [(0, .iload_n 0, 1, 0, 0, .null),
  (1, .bipush 31, 2, 0, 0, .null),
  (3, .if_icmp .lt 7, 3, 10, 0, .null),
  (6, .iconst 0, 1, 0, 0, .null),
  (7, .goto 55, 3, 62, 0, .null),
  (10, .iload_n 0, 1, 0, 0, .null),
  (11, .bipush 30, 2, 0, 0, .null),
  (13, .if_icmp .ne 7, 3, 20, 0, .null),
  (16, .iconst 1, 1, 0, 0, .null),
  (17, .goto 45, 3, 62, 0, .null),
  (20, .iload_n 0, 1, 0, 0, .null),
  (21, .bipush 29, 2, 0, 0, .null),
  (23, .if_icmp .ne 7, 3, 30, 0, .null),
  (26, .iconst 2, 1, 0, 0, .null),
  (27, .goto 35, 3, 62, 0, .null),
  (30, .iload_n 0, 1, 0, 0, .null),
  (31, .bipush 28, 2, 0, 0, .null),
  (33, .if_icmp .ne 7, 3, 40, 0, .null),
  (36, .iconst 3, 1, 0, 0, .null),
  (37, .goto 25, 3, 62, 0, .null),
  (40, .iload_n 0, 1, 0, 0, .null),
  (41, .bipush 25, 2, 0, 0, .null),
  (43, .if_icmp .lt 7, 3, 50, 0, .null),
  (46, .iconst 4, 1, 0, 0, .null),
  (47, .goto 15, 3, 62, 0, .null),
  (50, .iload_n 0, 1, 0, 0, .null),
  (51, .bipush 22, 2, 0, 0, .null),
  (53, .if_icmp .lt 8, 3, 61, 0, .null),
  (56, .bipush 6, 2, 0, 0, .null),
  (58, .goto 4, 3, 62, 0, .null),
  (61, .iconst 5, 1, 0, 0, .null),
  (62, .ireturn, 1, 0, 0, .null)]
set_option maxRecDepth 100000 in
theorem pm_d180 : pm_c180.all (pm_decB prog_13_method_47_code) = true := by decide +kernel
/-- TrainBearersModel.settle(I)V -/
def pm_c181 : List pm_I := [(0, .aload_n 0, 1, 0, 0, .null),
  (1, .getfield 290, 3, 11, 29, .null),
  (4, .ifCond .le 97, 3, 101, 0, .null),
  (7, .aload_n 0, 1, 0, 0, .null),
  (8, .getfield 51, 3, 11, 27, .null),
  (11, .aload_n 0, 1, 0, 0, .null),
  (12, .getfield 290, 3, 11, 29, .null),
  (15, .iconst 1, 1, 0, 0, .null),
  (16, .isub, 1, 0, 0, .null),
  (17, .iaload, 1, 0, 0, .null),
  (18, .invokestatic 293, 3, 1, 180, .null),
  (21, .iload_n 1, 1, 0, 0, .null),
  (22, .if_icmp .lt 79, 3, 101, 0, .null),
  (25, .aload_n 0, 1, 0, 0, .null),
  (26, .dup, 1, 0, 0, .null),
  (27, .getfield 290, 3, 11, 29, .null),
  (30, .iconst 1, 1, 0, 0, .null),
  (31, .isub, 1, 0, 0, .null),
  (32, .putfield 290, 3, 11, 29, .null),
  (35, .aload_n 0, 1, 0, 0, .null),
  (36, .getfield 51, 3, 11, 27, .null),
  (39, .aload_n 0, 1, 0, 0, .null),
  (40, .getfield 290, 3, 11, 29, .null),
  (43, .iaload, 1, 0, 0, .null),
  (44, .bipush 29, 2, 0, 0, .null),
  (46, .if_icmp .eq 17, 3, 63, 0, .null),
  (49, .aload_n 0, 1, 0, 0, .null),
  (50, .getfield 51, 3, 11, 27, .null),
  (53, .aload_n 0, 1, 0, 0, .null),
  (54, .getfield 290, 3, 11, 29, .null),
  (57, .iaload, 1, 0, 0, .null),
  (58, .bipush 30, 2, 0, 0, .null),
  (60, .if_icmp .ne 24, 3, 84, 0, .null),
  (63, .aload_n 0, 1, 0, 0, .null),
  (64, .getfield 48, 3, 11, 25, .null),
  (67, .aload_n 0, 1, 0, 0, .null),
  (68, .getfield 54, 3, 11, 28, .null),
  (71, .aload_n 0, 1, 0, 0, .null),
  (72, .getfield 290, 3, 11, 29, .null),
  (75, .iaload, 1, 0, 0, .null),
  (76, .aload_n 0, 1, 0, 0, .null),
  (77, .getfield 287, 3, 11, 23, .null),
  (80, .iastore, 1, 0, 0, .null),
  (81, .goto (-81), 3, 0, 0, .null),
  (84, .aload_n 0, 1, 0, 0, .null),
  (85, .aload_n 0, 1, 0, 0, .null),
  (86, .getfield 51, 3, 11, 27, .null),
  (89, .aload_n 0, 1, 0, 0, .null),
  (90, .getfield 290, 3, 11, 29, .null),
  (93, .iaload, 1, 0, 0, .null),
  (94, .iconst 0, 1, 0, 0, .null),
  (95, .invokevirtual 296, 3, 0, 178, .null),
  (98, .goto (-98), 3, 0, 0, .null),
  (101, .return_, 1, 0, 0, .null)]
set_option maxRecDepth 100000 in
theorem pm_d181 : pm_c181.all (pm_decB prog_13_method_48_code) = true := by decide +kernel
/-- TrainBearersModel.inner()I -/
def pm_c182 : List pm_I := [(0, .iconst (-1), 1, 0, 0, .null),
  (1, .istore_n 1, 1, 0, 0, .null),
  (2, .iconst 0, 1, 0, 0, .null),
  (3, .istore_n 2, 1, 0, 0, .null),
  (4, .iload_n 2, 1, 0, 0, .null),
  (5, .aload_n 0, 1, 0, 0, .null),
  (6, .getfield 290, 3, 11, 29, .null),
  (9, .if_icmp .ge 31, 3, 40, 0, .null),
  (12, .aload_n 0, 1, 0, 0, .null),
  (13, .getfield 51, 3, 11, 27, .null),
  (16, .iload_n 2, 1, 0, 0, .null),
  (17, .iaload, 1, 0, 0, .null),
  (18, .bipush 31, 2, 0, 0, .null),
  (20, .if_icmp .lt 12, 3, 32, 0, .null),
  (23, .aload_n 0, 1, 0, 0, .null),
  (24, .getfield 51, 3, 11, 27, .null),
  (27, .iload_n 2, 1, 0, 0, .null),
  (28, .iaload, 1, 0, 0, .null),
  (29, .goto 4, 3, 33, 0, .null),
  (32, .iload_n 1, 1, 0, 0, .null),
  (33, .istore_n 1, 1, 0, 0, .null),
  (34, .iinc 2 1, 3, 0, 0, .null),
  (37, .goto (-33), 3, 4, 0, .null),
  (40, .iload_n 1, 1, 0, 0, .null),
  (41, .ireturn, 1, 0, 0, .null)]
set_option maxRecDepth 100000 in
theorem pm_d182 : pm_c182.all (pm_decB prog_13_method_49_code) = true := by decide +kernel
/-- TrainBearersModel.isCompared()Z -/
def pm_c183 : List pm_I := [(0, .aload_n 0, 1, 0, 0, .null),
  (1, .getfield 290, 3, 11, 29, .null),
  (4, .iconst 1, 1, 0, 0, .null),
  (5, .isub, 1, 0, 0, .null),
  (6, .istore_n 1, 1, 0, 0, .null),
  (7, .iload_n 1, 1, 0, 0, .null),
  (8, .ifCond .lt 28, 3, 36, 0, .null),
  (11, .aload_n 0, 1, 0, 0, .null),
  (12, .getfield 51, 3, 11, 27, .null),
  (15, .iload_n 1, 1, 0, 0, .null),
  (16, .iaload, 1, 0, 0, .null),
  (17, .i2l, 1, 0, 0, .null),
  (18, .ldc2_w 191, 3, 1, 0, .long (20)),
  (21, .ldc2_w 300, 3, 1, 0, .long (24)),
  (24, .invokestatic 182, 3, 1, 136, .null),
  (27, .ifCond .eq 9, 3, 36, 0, .null),
  (30, .iinc 1 (-1), 3, 0, 0, .null),
  (33, .goto (-26), 3, 7, 0, .null),
  (36, .iload_n 1, 1, 0, 0, .null),
  (37, .ifCond .lt 26, 3, 63, 0, .null),
  (40, .aload_n 0, 1, 0, 0, .null),
  (41, .getfield 51, 3, 11, 27, .null),
  (44, .iload_n 1, 1, 0, 0, .null),
  (45, .iaload, 1, 0, 0, .null),
  (46, .i2l, 1, 0, 0, .null),
  (47, .ldc2_w 302, 3, 1, 0, .long (25)),
  (50, .ldc2_w 304, 3, 1, 0, .long (27)),
  (53, .invokestatic 182, 3, 1, 136, .null),
  (56, .ifCond .eq 7, 3, 63, 0, .null),
  (59, .iconst 1, 1, 0, 0, .null),
  (60, .goto 4, 3, 64, 0, .null),
  (63, .iconst 0, 1, 0, 0, .null),
  (64, .ireturn, 1, 0, 0, .null)]
set_option maxRecDepth 100000 in
theorem pm_d183 : pm_c183.all (pm_decB prog_13_method_50_code) = true := by decide +kernel
/-- TrainBearersModel.partAt()I -/
def pm_c184 : List pm_I := [(0, .iconst (-1), 1, 0, 0, .null),
  (1, .istore_n 1, 1, 0, 0, .null),
  (2, .iconst 0, 1, 0, 0, .null),
  (3, .istore_n 2, 1, 0, 0, .null),
  (4, .iload_n 2, 1, 0, 0, .null),
  (5, .bipush 10, 2, 0, 0, .null),
  (7, .if_icmp .ge 30, 3, 37, 0, .null),
  (10, .aload_n 0, 1, 0, 0, .null),
  (11, .aload_n 0, 1, 0, 0, .null),
  (12, .getfield 77, 3, 11, 31, .null),
  (15, .iload_n 2, 1, 0, 0, .null),
  (16, .laload, 1, 0, 0, .null),
  (17, .invokevirtual 306, 3, 0, 173, .null),
  (20, .ifCond .eq 9, 3, 29, 0, .null),
  (23, .iload_n 2, 1, 0, 0, .null),
  (24, .iconst 1, 1, 0, 0, .null),
  (25, .iadd, 1, 0, 0, .null),
  (26, .goto 4, 3, 30, 0, .null),
  (29, .iload_n 1, 1, 0, 0, .null),
  (30, .istore_n 1, 1, 0, 0, .null),
  (31, .iinc 2 1, 3, 0, 0, .null),
  (34, .goto (-30), 3, 4, 0, .null),
  (37, .iload_n 1, 1, 0, 0, .null),
  (38, .ireturn, 1, 0, 0, .null)]
set_option maxRecDepth 100000 in
theorem pm_d184 : pm_c184.all (pm_decB prog_13_method_51_code) = true := by decide +kernel
/-- TrainBearersModel.orderPartAt()I -/
def pm_c185 : List pm_I := [(0, .iconst (-1), 1, 0, 0, .null),
  (1, .istore_n 1, 1, 0, 0, .null),
  (2, .iconst 0, 1, 0, 0, .null),
  (3, .istore_n 2, 1, 0, 0, .null),
  (4, .iload_n 2, 1, 0, 0, .null),
  (5, .bipush 7, 2, 0, 0, .null),
  (7, .if_icmp .ge 30, 3, 37, 0, .null),
  (10, .aload_n 0, 1, 0, 0, .null),
  (11, .aload_n 0, 1, 0, 0, .null),
  (12, .getfield 89, 3, 11, 32, .null),
  (15, .iload_n 2, 1, 0, 0, .null),
  (16, .laload, 1, 0, 0, .null),
  (17, .invokevirtual 306, 3, 0, 173, .null),
  (20, .ifCond .eq 9, 3, 29, 0, .null),
  (23, .iload_n 2, 1, 0, 0, .null),
  (24, .iconst 1, 1, 0, 0, .null),
  (25, .iadd, 1, 0, 0, .null),
  (26, .goto 4, 3, 30, 0, .null),
  (29, .iload_n 1, 1, 0, 0, .null),
  (30, .istore_n 1, 1, 0, 0, .null),
  (31, .iinc 2 1, 3, 0, 0, .null),
  (34, .goto (-30), 3, 4, 0, .null),
  (37, .iload_n 1, 1, 0, 0, .null),
  (38, .ireturn, 1, 0, 0, .null)]
set_option maxRecDepth 100000 in
theorem pm_d185 : pm_c185.all (pm_decB prog_13_method_52_code) = true := by decide +kernel
/-- TrainBearersModel.openBracket(I)V -/
def pm_c186 : List pm_I := [(0, .aload_n 0, 1, 0, 0, .null),
  (1, .aload_n 0, 1, 0, 0, .null),
  (2, .getfield 310, 3, 11, 30, .null),
  (5, .bipush 8, 2, 0, 0, .null),
  (7, .if_icmp .ge 7, 3, 14, 0, .null),
  (10, .iconst 1, 1, 0, 0, .null),
  (11, .goto 4, 3, 15, 0, .null),
  (14, .iconst 0, 1, 0, 0, .null),
  (15, .invokevirtual 283, 3, 0, 175, .null),
  (18, .aload_n 0, 1, 0, 0, .null),
  (19, .getfield 252, 3, 11, 19, .null),
  (22, .ifCond .ne 19, 3, 41, 0, .null),
  (25, .aload_n 0, 1, 0, 0, .null),
  (26, .dup, 1, 0, 0, .null),
  (27, .getfield 310, 3, 11, 30, .null),
  (30, .iconst 1, 1, 0, 0, .null),
  (31, .iadd, 1, 0, 0, .null),
  (32, .putfield 310, 3, 11, 30, .null),
  (35, .aload_n 0, 1, 0, 0, .null),
  (36, .iload_n 1, 1, 0, 0, .null),
  (37, .iconst 0, 1, 0, 0, .null),
  (38, .invokevirtual 313, 3, 0, 179, .null),
  (41, .return_, 1, 0, 0, .null)]
set_option maxRecDepth 100000 in
theorem pm_d186 : pm_c186.all (pm_decB prog_13_method_53_code) = true := by decide +kernel
/-- TrainBearersModel.leaf(ZII)V -/
def pm_c187 : List pm_I := [(0, .aload_n 0, 1, 0, 0, .null),
  (1, .iload_n 1, 1, 0, 0, .null),
  (2, .ifCond .eq 16, 3, 18, 0, .null),
  (5, .aload_n 0, 1, 0, 0, .null),
  (6, .getfield 316, 3, 11, 26, .null),
  (9, .bipush 50, 2, 0, 0, .null),
  (11, .if_icmp .ge 7, 3, 18, 0, .null),
  (14, .iconst 1, 1, 0, 0, .null),
  (15, .goto 4, 3, 19, 0, .null),
  (18, .iconst 0, 1, 0, 0, .null),
  (19, .invokevirtual 283, 3, 0, 175, .null),
  (22, .aload_n 0, 1, 0, 0, .null),
  (23, .getfield 252, 3, 11, 19, .null),
  (26, .ifCond .ne 19, 3, 45, 0, .null),
  (29, .aload_n 0, 1, 0, 0, .null),
  (30, .iload_n 2, 1, 0, 0, .null),
  (31, .iload_n 3, 1, 0, 0, .null),
  (32, .invokevirtual 296, 3, 0, 178, .null),
  (35, .aload_n 0, 1, 0, 0, .null),
  (36, .dup, 1, 0, 0, .null),
  (37, .getfield 316, 3, 11, 26, .null),
  (40, .iconst 1, 1, 0, 0, .null),
  (41, .iadd, 1, 0, 0, .null),
  (42, .putfield 316, 3, 11, 26, .null),
  (45, .return_, 1, 0, 0, .null)]
set_option maxRecDepth 100000 in
theorem pm_d187 : pm_c187.all (pm_decB prog_13_method_54_code) = true := by decide +kernel
/-- TrainBearersModel.readPart()I -/
def pm_c188 : List pm_I := [(0, .aload_n 0, 1, 0, 0, .null),
  (1, .bipush 91, 2, 0, 0, .null),
  (3, .invokevirtual 319, 3, 0, 174, .null),
  (6, .ifCond .eq 11, 3, 17, 0, .null),
  (9, .aload_n 0, 1, 0, 0, .null),
  (10, .bipush 32, 2, 0, 0, .null),
  (12, .invokevirtual 322, 3, 0, 186, .null),
  (15, .iconst 1, 1, 0, 0, .null),
  (16, .ireturn, 1, 0, 0, .null),
  (17, .aload_n 0, 1, 0, 0, .null),
  (18, .getfield 325, 3, 11, 20, .null),
  (21, .ifCond .eq 10, 3, 31, 0, .null),
  (24, .aload_n 0, 1, 0, 0, .null),
  (25, .invokevirtual 328, 3, 0, 185, .null),
  (28, .goto 7, 3, 35, 0, .null),
  (31, .aload_n 0, 1, 0, 0, .null),
  (32, .invokevirtual 332, 3, 0, 184, .null),
  (35, .istore_n 1, 1, 0, 0, .null),
  (36, .aload_n 0, 1, 0, 0, .null),
  (37, .getfield 272, 3, 11, 16, .null),
  (40, .iconst 2, 1, 0, 0, .null),
  (41, .if_icmp .ne 18, 3, 59, 0, .null),
  (44, .aload_n 0, 1, 0, 0, .null),
  (45, .getfield 262, 3, 11, 17, .null),
  (48, .ldc2_w 335, 3, 1, 0, .long (1000)),
  (51, .lcmp, 1, 0, 0, .null),
  (52, .ifCond .gt 7, 3, 59, 0, .null),
  (55, .iconst 1, 1, 0, 0, .null),
  (56, .goto 4, 3, 60, 0, .null),
  (59, .iconst 0, 1, 0, 0, .null),
  (60, .istore_n 2, 1, 0, 0, .null),
  (61, .aload_n 0, 1, 0, 0, .null),
  (62, .iload_n 1, 1, 0, 0, .null),
  (63, .iconst (-1), 1, 0, 0, .null),
  (64, .if_icmp .ne 7, 3, 71, 0, .null),
  (67, .iload_n 2, 1, 0, 0, .null),
  (68, .ifCond .eq 7, 3, 75, 0, .null),
  (71, .iconst 1, 1, 0, 0, .null),
  (72, .goto 4, 3, 76, 0, .null),
  (75, .iconst 0, 1, 0, 0, .null),
  (76, .iload_n 1, 1, 0, 0, .null),
  (77, .iconst (-1), 1, 0, 0, .null),
  (78, .if_icmp .ne 7, 3, 85, 0, .null),
  (81, .iconst 0, 1, 0, 0, .null),
  (82, .goto 4, 3, 86, 0, .null),
  (85, .iload_n 1, 1, 0, 0, .null),
  (86, .iload_n 2, 1, 0, 0, .null),
  (87, .ifCond .eq 11, 3, 98, 0, .null),
  (90, .aload_n 0, 1, 0, 0, .null),
  (91, .getfield 262, 3, 11, 17, .null),
  (94, .l2i, 1, 0, 0, .null),
  (95, .goto 4, 3, 99, 0, .null),
  (98, .iconst 0, 1, 0, 0, .null),
  (99, .invokevirtual 337, 3, 0, 187, .null),
  (102, .aload_n 0, 1, 0, 0, .null),
  (103, .getfield 325, 3, 11, 20, .null),
  (106, .ifCond .eq 37, 3, 143, 0, .null),
  (109, .iload_n 1, 1, 0, 0, .null),
  (110, .bipush 6, 2, 0, 0, .null),
  (112, .if_icmp .lt 31, 3, 143, 0, .null),
  (115, .aload_n 0, 1, 0, 0, .null),
  (116, .getfield 252, 3, 11, 19, .null),
  (119, .ifCond .ne 24, 3, 143, 0, .null),
  (122, .aload_n 0, 1, 0, 0, .null),
  (123, .getfield 287, 3, 11, 23, .null),
  (126, .iconst 1, 1, 0, 0, .null),
  (127, .isub, 1, 0, 0, .null),
  (128, .istore_n 3, 1, 0, 0, .null),
  (129, .aload_n 0, 1, 0, 0, .null),
  (130, .getfield 48, 3, 11, 25, .null),
  (133, .iload_n 3, 1, 0, 0, .null),
  (134, .aload_n 0, 1, 0, 0, .null),
  (135, .lconst 0, 1, 0, 0, .null),
  (136, .ldc2_w 341, 3, 1, 0, .long (7)),
  (139, .invokevirtual 343, 3, 0, 176, .null),
  (142, .iastore, 1, 0, 0, .null),
  (143, .iconst 3, 1, 0, 0, .null),
  (144, .ireturn, 1, 0, 0, .null)]
set_option maxRecDepth 100000 in
theorem pm_d188 : pm_c188.all (pm_decB prog_13_method_55_code) = true := by decide +kernel
/-- TrainBearersModel.readPlain()I -/
def pm_c189 : List pm_I := [(0, .aload_n 0, 1, 0, 0, .null),
  (1, .ldc2_w 347, 3, 1, 0, .long (14836)),
  (4, .invokevirtual 306, 3, 0, 173, .null),
  (7, .ifCond .eq 16, 3, 23, 0, .null),
  (10, .aload_n 0, 1, 0, 0, .null),
  (11, .bipush 28, 2, 0, 0, .null),
  (13, .iconst 0, 1, 0, 0, .null),
  (14, .invokevirtual 313, 3, 0, 179, .null),
  (17, .aload_n 0, 1, 0, 0, .null),
  (18, .invokevirtual 256, 3, 0, 172, .null),
  (21, .iconst 0, 1, 0, 0, .null),
  (22, .ireturn, 1, 0, 0, .null),
  (23, .aload_n 0, 1, 0, 0, .null),
  (24, .bipush 40, 2, 0, 0, .null),
  (26, .invokevirtual 319, 3, 0, 174, .null),
  (29, .ifCond .eq 11, 3, 40, 0, .null),
  (32, .aload_n 0, 1, 0, 0, .null),
  (33, .bipush 31, 2, 0, 0, .null),
  (35, .invokevirtual 322, 3, 0, 186, .null),
  (38, .iconst 0, 1, 0, 0, .null),
  (39, .ireturn, 1, 0, 0, .null),
  (40, .aload_n 0, 1, 0, 0, .null),
  (41, .invokevirtual 349, 3, 0, 188, .null),
  (44, .ireturn, 1, 0, 0, .null)]
set_option maxRecDepth 100000 in
theorem pm_d189 : pm_c189.all (pm_decB prog_13_method_56_code) = true := by decide +kernel
/-- TrainBearersModel.behindSum(Z)I -/
def pm_c190 : List pm_I := [(0, .aload_n 0, 1, 0, 0, .null),
  (1, .bipush 43, 2, 0, 0, .null),
  (3, .invokevirtual 319, 3, 0, 174, .null),
  (6, .ifCond .eq 8, 3, 14, 0, .null),
  (9, .bipush 20, 2, 0, 0, .null),
  (11, .goto 60, 3, 71, 0, .null),
  (14, .aload_n 0, 1, 0, 0, .null),
  (15, .bipush 45, 2, 0, 0, .null),
  (17, .invokevirtual 319, 3, 0, 174, .null),
  (20, .ifCond .eq 8, 3, 28, 0, .null),
  (23, .bipush 21, 2, 0, 0, .null),
  (25, .goto 46, 3, 71, 0, .null),
  (28, .aload_n 0, 1, 0, 0, .null),
  (29, .bipush 42, 2, 0, 0, .null),
  (31, .invokevirtual 319, 3, 0, 174, .null),
  (34, .ifCond .eq 8, 3, 42, 0, .null),
  (37, .bipush 22, 2, 0, 0, .null),
  (39, .goto 32, 3, 71, 0, .null),
  (42, .aload_n 0, 1, 0, 0, .null),
  (43, .bipush 47, 2, 0, 0, .null),
  (45, .invokevirtual 319, 3, 0, 174, .null),
  (48, .ifCond .eq 8, 3, 56, 0, .null),
  (51, .bipush 23, 2, 0, 0, .null),
  (53, .goto 18, 3, 71, 0, .null),
  (56, .aload_n 0, 1, 0, 0, .null),
  (57, .bipush 37, 2, 0, 0, .null),
  (59, .invokevirtual 319, 3, 0, 174, .null),
  (62, .ifCond .eq 8, 3, 70, 0, .null),
  (65, .bipush 24, 2, 0, 0, .null),
  (67, .goto 4, 3, 71, 0, .null),
  (70, .iconst (-1), 1, 0, 0, .null),
  (71, .istore_n 2, 1, 0, 0, .null),
  (72, .iload_n 2, 1, 0, 0, .null),
  (73, .iconst (-1), 1, 0, 0, .null),
  (74, .if_icmp .eq 23, 3, 97, 0, .null),
  (77, .aload_n 0, 1, 0, 0, .null),
  (78, .iload_n 2, 1, 0, 0, .null),
  (79, .invokestatic 293, 3, 1, 180, .null),
  (82, .invokevirtual 352, 3, 0, 181, .null),
  (85, .aload_n 0, 1, 0, 0, .null),
  (86, .iload_n 2, 1, 0, 0, .null),
  (87, .iconst 0, 1, 0, 0, .null),
  (88, .invokevirtual 313, 3, 0, 179, .null),
  (91, .aload_n 0, 1, 0, 0, .null),
  (92, .invokevirtual 256, 3, 0, 172, .null),
  (95, .iconst 1, 1, 0, 0, .null),
  (96, .ireturn, 1, 0, 0, .null),
  (97, .aload_n 0, 1, 0, 0, .null),
  (98, .invokevirtual 355, 3, 0, 182, .null),
  (101, .istore_n 3, 1, 0, 0, .null),
  (102, .iload_n 3, 1, 0, 0, .null),
  (103, .bipush 32, 2, 0, 0, .null),
  (105, .if_icmp .ne 47, 3, 152, 0, .null),
  (108, .aload_n 0, 1, 0, 0, .null),
  (109, .aload_n 0, 1, 0, 0, .null),
  (110, .bipush 93, 2, 0, 0, .null),
  (112, .invokevirtual 319, 3, 0, 174, .null),
  (115, .invokevirtual 283, 3, 0, 175, .null),
  (118, .aload_n 0, 1, 0, 0, .null),
  (119, .getfield 252, 3, 11, 19, .null),
  (122, .ifCond .ne 28, 3, 150, 0, .null),
  (125, .aload_n 0, 1, 0, 0, .null),
  (126, .iconst 5, 1, 0, 0, .null),
  (127, .invokevirtual 352, 3, 0, 181, .null),
  (130, .aload_n 0, 1, 0, 0, .null),
  (131, .dup, 1, 0, 0, .null),
  (132, .getfield 290, 3, 11, 29, .null),
  (135, .iconst 1, 1, 0, 0, .null),
  (136, .isub, 1, 0, 0, .null),
  (137, .putfield 290, 3, 11, 29, .null),
  (140, .aload_n 0, 1, 0, 0, .null),
  (141, .dup, 1, 0, 0, .null),
  (142, .getfield 310, 3, 11, 30, .null),
  (145, .iconst 1, 1, 0, 0, .null),
  (146, .isub, 1, 0, 0, .null),
  (147, .putfield 310, 3, 11, 30, .null),
  (150, .iconst 3, 1, 0, 0, .null),
  (151, .ireturn, 1, 0, 0, .null),
  (152, .iload_n 3, 1, 0, 0, .null),
  (153, .iconst (-1), 1, 0, 0, .null),
  (154, .if_icmp .ne 9, 3, 163, 0, .null),
  (157, .iload_n 1, 1, 0, 0, .null),
  (158, .ifCond .ne 5, 3, 163, 0, .null),
  (161, .iconst 4, 1, 0, 0, .null),
  (162, .ireturn, 1, 0, 0, .null),
  (163, .aload_n 0, 1, 0, 0, .null),
  (164, .invokevirtual 358, 3, 0, 183, .null),
  (167, .ifCond .eq 5, 3, 172, 0, .null),
  (170, .iconst 2, 1, 0, 0, .null),
  (171, .ireturn, 1, 0, 0, .null),
  (172, .aload_n 0, 1, 0, 0, .null),
  (173, .bipush 60, 2, 0, 0, .null),
  (175, .invokevirtual 319, 3, 0, 174, .null),
  (178, .ifCond .eq 8, 3, 186, 0, .null),
  (181, .bipush 25, 2, 0, 0, .null),
  (183, .goto 19, 3, 202, 0, .null),
  (186, .aload_n 0, 1, 0, 0, .null),
  (187, .bipush 62, 2, 0, 0, .null),
  (189, .invokevirtual 319, 3, 0, 174, .null),
  (192, .ifCond .eq 8, 3, 200, 0, .null),
  (195, .bipush 26, 2, 0, 0, .null),
  (197, .goto 5, 3, 202, 0, .null),
  (200, .bipush 27, 2, 0, 0, .null),
  (202, .istore_n 2, 1, 0, 0, .null),
  (203, .aload_n 0, 1, 0, 0, .null),
  (204, .iload_n 2, 1, 0, 0, .null),
  (205, .bipush 27, 2, 0, 0, .null),
  (207, .if_icmp .ne 12, 3, 219, 0, .null),
  (210, .aload_n 0, 1, 0, 0, .null),
  (211, .bipush 61, 2, 0, 0, .null),
  (213, .invokevirtual 319, 3, 0, 174, .null),
  (216, .ifCond .eq 7, 3, 223, 0, .null),
  (219, .iconst 1, 1, 0, 0, .null),
  (220, .goto 4, 3, 224, 0, .null),
  (223, .iconst 0, 1, 0, 0, .null),
  (224, .invokevirtual 283, 3, 0, 175, .null),
  (227, .aload_n 0, 1, 0, 0, .null),
  (228, .getfield 252, 3, 11, 19, .null),
  (231, .ifCond .ne 14, 3, 245, 0, .null),
  (234, .aload_n 0, 1, 0, 0, .null),
  (235, .iconst 5, 1, 0, 0, .null),
  (236, .invokevirtual 352, 3, 0, 181, .null),
  (239, .aload_n 0, 1, 0, 0, .null),
  (240, .iload_n 2, 1, 0, 0, .null),
  (241, .iconst 0, 1, 0, 0, .null),
  (242, .invokevirtual 313, 3, 0, 179, .null),
  (245, .iconst 1, 1, 0, 0, .null),
  (246, .ireturn, 1, 0, 0, .null)]
set_option maxRecDepth 100000 in
theorem pm_d190 : pm_c190.all (pm_decB prog_13_method_57_code) = true := by decide +kernel
/-- TrainBearersModel.behindTest()I -/
def pm_c191 : List pm_I := [(0, .aload_n 0, 1, 0, 0, .null),
  (1, .ldc2_w 362, 3, 1, 0, .long (1476)),
  (4, .invokevirtual 306, 3, 0, 173, .null),
  (7, .istore_n 1, 1, 0, 0, .null),
  (8, .iload_n 1, 1, 0, 0, .null),
  (9, .ifCond .ne 13, 3, 22, 0, .null),
  (12, .aload_n 0, 1, 0, 0, .null),
  (13, .ldc2_w 364, 3, 1, 0, .long (498)),
  (16, .invokevirtual 306, 3, 0, 173, .null),
  (19, .ifCond .eq 57, 3, 76, 0, .null),
  (22, .aload_n 0, 1, 0, 0, .null),
  (23, .iload_n 1, 1, 0, 0, .null),
  (24, .ifCond .eq 7, 3, 31, 0, .null),
  (27, .iconst 2, 1, 0, 0, .null),
  (28, .goto 4, 3, 32, 0, .null),
  (31, .iconst 1, 1, 0, 0, .null),
  (32, .invokevirtual 352, 3, 0, 181, .null),
  (35, .aload_n 0, 1, 0, 0, .null),
  (36, .iload_n 1, 1, 0, 0, .null),
  (37, .ifCond .eq 8, 3, 45, 0, .null),
  (40, .bipush 29, 2, 0, 0, .null),
  (42, .goto 5, 3, 47, 0, .null),
  (45, .bipush 30, 2, 0, 0, .null),
  (47, .aload_n 0, 1, 0, 0, .null),
  (48, .getfield 287, 3, 11, 23, .null),
  (51, .invokevirtual 313, 3, 0, 179, .null),
  (54, .aload_n 0, 1, 0, 0, .null),
  (55, .iload_n 1, 1, 0, 0, .null),
  (56, .ifCond .eq 8, 3, 64, 0, .null),
  (59, .bipush 29, 2, 0, 0, .null),
  (61, .goto 5, 3, 66, 0, .null),
  (64, .bipush 30, 2, 0, 0, .null),
  (66, .iconst 0, 1, 0, 0, .null),
  (67, .invokevirtual 296, 3, 0, 178, .null),
  (70, .aload_n 0, 1, 0, 0, .null),
  (71, .invokevirtual 256, 3, 0, 172, .null),
  (74, .iconst 0, 1, 0, 0, .null),
  (75, .ireturn, 1, 0, 0, .null),
  (76, .aload_n 0, 1, 0, 0, .null),
  (77, .invokevirtual 355, 3, 0, 182, .null),
  (80, .iconst (-1), 1, 0, 0, .null),
  (81, .if_icmp .ne 5, 3, 86, 0, .null),
  (84, .iconst 4, 1, 0, 0, .null),
  (85, .ireturn, 1, 0, 0, .null),
  (86, .aload_n 0, 1, 0, 0, .null),
  (87, .aload_n 0, 1, 0, 0, .null),
  (88, .bipush 41, 2, 0, 0, .null),
  (90, .invokevirtual 319, 3, 0, 174, .null),
  (93, .invokevirtual 283, 3, 0, 175, .null),
  (96, .aload_n 0, 1, 0, 0, .null),
  (97, .getfield 252, 3, 11, 19, .null),
  (100, .ifCond .ne 28, 3, 128, 0, .null),
  (103, .aload_n 0, 1, 0, 0, .null),
  (104, .iconst 1, 1, 0, 0, .null),
  (105, .invokevirtual 352, 3, 0, 181, .null),
  (108, .aload_n 0, 1, 0, 0, .null),
  (109, .dup, 1, 0, 0, .null),
  (110, .getfield 290, 3, 11, 29, .null),
  (113, .iconst 1, 1, 0, 0, .null),
  (114, .isub, 1, 0, 0, .null),
  (115, .putfield 290, 3, 11, 29, .null),
  (118, .aload_n 0, 1, 0, 0, .null),
  (119, .dup, 1, 0, 0, .null),
  (120, .getfield 310, 3, 11, 30, .null),
  (123, .iconst 1, 1, 0, 0, .null),
  (124, .isub, 1, 0, 0, .null),
  (125, .putfield 310, 3, 11, 30, .null),
  (128, .iconst 2, 1, 0, 0, .null),
  (129, .ireturn, 1, 0, 0, .null)]
set_option maxRecDepth 100000 in
theorem pm_d191 : pm_c191.all (pm_decB prog_13_method_58_code) = true := by decide +kernel
/-- TrainBearersModel.readExpression(Z)V -/
def pm_c192 : List pm_I := [(0, .aload_n 0, 1, 0, 0, .null),
  (1, .iconst 0, 1, 0, 0, .null),
  (2, .putfield 290, 3, 11, 29, .null),
  (5, .aload_n 0, 1, 0, 0, .null),
  (6, .iconst 0, 1, 0, 0, .null),
  (7, .putfield 310, 3, 11, 30, .null),
  (10, .iload_n 1, 1, 0, 0, .null),
  (11, .ifCond .eq 7, 3, 18, 0, .null),
  (14, .iconst 0, 1, 0, 0, .null),
  (15, .goto 4, 3, 19, 0, .null),
  (18, .iconst 1, 1, 0, 0, .null),
  (19, .istore_n 2, 1, 0, 0, .null),
  (20, .aload_n 0, 1, 0, 0, .null),
  (21, .getfield 252, 3, 11, 19, .null),
  (24, .ifCond .ne 52, 3, 76, 0, .null),
  (27, .iload_n 2, 1, 0, 0, .null),
  (28, .iconst 4, 1, 0, 0, .null),
  (29, .if_icmp .eq 47, 3, 76, 0, .null),
  (32, .iload_n 2, 1, 0, 0, .null),
  (33, .ifCond .ne 10, 3, 43, 0, .null),
  (36, .aload_n 0, 1, 0, 0, .null),
  (37, .invokevirtual 366, 3, 0, 189, .null),
  (40, .goto 32, 3, 72, 0, .null),
  (43, .iload_n 2, 1, 0, 0, .null),
  (44, .iconst 1, 1, 0, 0, .null),
  (45, .if_icmp .ne 10, 3, 55, 0, .null),
  (48, .aload_n 0, 1, 0, 0, .null),
  (49, .invokevirtual 349, 3, 0, 188, .null),
  (52, .goto 20, 3, 72, 0, .null),
  (55, .iload_n 2, 1, 0, 0, .null),
  (56, .iconst 3, 1, 0, 0, .null),
  (57, .if_icmp .ne 11, 3, 68, 0, .null),
  (60, .aload_n 0, 1, 0, 0, .null),
  (61, .iload_n 1, 1, 0, 0, .null),
  (62, .invokevirtual 369, 3, 0, 190, .null),
  (65, .goto 7, 3, 72, 0, .null),
  (68, .aload_n 0, 1, 0, 0, .null),
  (69, .invokevirtual 373, 3, 0, 191, .null),
  (72, .istore_n 2, 1, 0, 0, .null),
  (73, .goto (-53), 3, 20, 0, .null),
  (76, .aload_n 0, 1, 0, 0, .null),
  (77, .iconst 1, 1, 0, 0, .null),
  (78, .invokevirtual 352, 3, 0, 181, .null),
  (81, .return_, 1, 0, 0, .null)]
set_option maxRecDepth 100000 in
theorem pm_d192 : pm_c192.all (pm_decB prog_13_method_59_code) = true := by decide +kernel
end
section
/-- TrainBearersModel.beginText(Z)V -/
def pm_c193 : List pm_I := [(0, .aload_n 0, 1, 0, 0, .null),
  (1, .iload_n 1, 1, 0, 0, .null),
  (2, .putfield 325, 3, 11, 20, .null),
  (5, .aload_n 0, 1, 0, 0, .null),
  (6, .invokevirtual 376, 3, 0, 171, .null),
  (9, .aload_n 0, 1, 0, 0, .null),
  (10, .iconst 0, 1, 0, 0, .null),
  (11, .putfield 379, 3, 11, 21, .null),
  (14, .aload_n 0, 1, 0, 0, .null),
  (15, .iconst 0, 1, 0, 0, .null),
  (16, .putfield 287, 3, 11, 23, .null),
  (19, .aload_n 0, 1, 0, 0, .null),
  (20, .iconst 0, 1, 0, 0, .null),
  (21, .putfield 316, 3, 11, 26, .null),
  (24, .return_, 1, 0, 0, .null)]
set_option maxRecDepth 100000 in
theorem pm_d193 : pm_c193.all (pm_decB prog_13_method_60_code) = true := by decide +kernel
/-- TrainBearersModel.endText()V -/
def pm_c194 : List pm_I := [(0, .aload_n 0, 1, 0, 0, .null),
  (1, .getfield 252, 3, 11, 19, .null),
  (4, .ifCond .ne 15, 3, 19, 0, .null),
  (7, .aload_n 0, 1, 0, 0, .null),
  (8, .getfield 272, 3, 11, 16, .null),
  (11, .ifCond .eq 8, 3, 19, 0, .null),
  (14, .aload_n 0, 1, 0, 0, .null),
  (15, .iconst 0, 1, 0, 0, .null),
  (16, .invokevirtual 283, 3, 0, 175, .null),
  (19, .aload_n 0, 1, 0, 0, .null),
  (20, .iconst 0, 1, 0, 0, .null),
  (21, .putfield 325, 3, 11, 20, .null),
  (24, .aload_n 0, 1, 0, 0, .null),
  (25, .iconst 0, 1, 0, 0, .null),
  (26, .putfield 239, 3, 11, 13, .null),
  (29, .return_, 1, 0, 0, .null)]
set_option maxRecDepth 100000 in
theorem pm_d194 : pm_c194.all (pm_decB prog_13_method_61_code) = true := by decide +kernel
/-- TrainBearersModel.readLaw()V -/
def pm_c195 : List pm_I := [(0, .iconst (-1), 1, 0, 0, .null),
  (1, .istore_n 1, 1, 0, 0, .null),
  (2, .iconst 0, 1, 0, 0, .null),
  (3, .istore_n 2, 1, 0, 0, .null),
  (4, .iload_n 2, 1, 0, 0, .null),
  (5, .iconst 4, 1, 0, 0, .null),
  (6, .if_icmp .ge 28, 3, 34, 0, .null),
  (9, .aload_n 0, 1, 0, 0, .null),
  (10, .aload_n 0, 1, 0, 0, .null),
  (11, .getfield 100, 3, 11, 33, .null),
  (14, .iload_n 2, 1, 0, 0, .null),
  (15, .laload, 1, 0, 0, .null),
  (16, .invokevirtual 306, 3, 0, 173, .null),
  (19, .ifCond .eq 7, 3, 26, 0, .null),
  (22, .iload_n 2, 1, 0, 0, .null),
  (23, .goto 4, 3, 27, 0, .null),
  (26, .iload_n 1, 1, 0, 0, .null),
  (27, .istore_n 1, 1, 0, 0, .null),
  (28, .iinc 2 1, 3, 0, 0, .null),
  (31, .goto (-27), 3, 4, 0, .null),
  (34, .aload_n 0, 1, 0, 0, .null),
  (35, .iload_n 1, 1, 0, 0, .null),
  (36, .iconst (-1), 1, 0, 0, .null),
  (37, .if_icmp .eq 16, 3, 53, 0, .null),
  (40, .aload_n 0, 1, 0, 0, .null),
  (41, .getfield 379, 3, 11, 21, .null),
  (44, .bipush 12, 2, 0, 0, .null),
  (46, .if_icmp .ge 7, 3, 53, 0, .null),
  (49, .iconst 1, 1, 0, 0, .null),
  (50, .goto 4, 3, 54, 0, .null),
  (53, .iconst 0, 1, 0, 0, .null),
  (54, .invokevirtual 283, 3, 0, 175, .null),
  (57, .aload_n 0, 1, 0, 0, .null),
  (58, .getfield 252, 3, 11, 19, .null),
  (61, .ifCond .eq 4, 3, 65, 0, .null),
  (64, .return_, 1, 0, 0, .null),
  (65, .bipush 8, 2, 0, 0, .null),
  (67, .aload_n 0, 1, 0, 0, .null),
  (68, .getfield 379, 3, 11, 21, .null),
  (71, .imul, 1, 0, 0, .null),
  (72, .istore_n 2, 1, 0, 0, .null),
  (73, .iconst 0, 1, 0, 0, .null),
  (74, .istore_n 3, 1, 0, 0, .null),
  (75, .iload_n 3, 1, 0, 0, .null),
  (76, .bipush 8, 2, 0, 0, .null),
  (78, .if_icmp .ge 18, 3, 96, 0, .null),
  (81, .aload_n 0, 1, 0, 0, .null),
  (82, .getfield 42, 3, 11, 22, .null),
  (85, .iload_n 2, 1, 0, 0, .null),
  (86, .iload_n 3, 1, 0, 0, .null),
  (87, .iadd, 1, 0, 0, .null),
  (88, .iconst 0, 1, 0, 0, .null),
  (89, .iastore, 1, 0, 0, .null),
  (90, .iinc 3 1, 3, 0, 0, .null),
  (93, .goto (-18), 3, 75, 0, .null),
  (96, .aload_n 0, 1, 0, 0, .null),
  (97, .getfield 42, 3, 11, 22, .null),
  (100, .iload_n 2, 1, 0, 0, .null),
  (101, .iload_n 1, 1, 0, 0, .null),
  (102, .iastore, 1, 0, 0, .null),
  (103, .aload_n 0, 1, 0, 0, .null),
  (104, .dup, 1, 0, 0, .null),
  (105, .getfield 379, 3, 11, 21, .null),
  (108, .iconst 1, 1, 0, 0, .null),
  (109, .iadd, 1, 0, 0, .null),
  (110, .putfield 379, 3, 11, 21, .null),
  (113, .aload_n 0, 1, 0, 0, .null),
  (114, .getfield 42, 3, 11, 22, .null),
  (117, .iload_n 2, 1, 0, 0, .null),
  (118, .iconst 3, 1, 0, 0, .null),
  (119, .iadd, 1, 0, 0, .null),
  (120, .aload_n 0, 1, 0, 0, .null),
  (121, .getfield 287, 3, 11, 23, .null),
  (124, .iastore, 1, 0, 0, .null),
  (125, .iload_n 1, 1, 0, 0, .null),
  (126, .iconst 3, 1, 0, 0, .null),
  (127, .if_icmp .eq 8, 3, 135, 0, .null),
  (130, .aload_n 0, 1, 0, 0, .null),
  (131, .iconst 0, 1, 0, 0, .null),
  (132, .invokevirtual 382, 3, 0, 192, .null),
  (135, .aload_n 0, 1, 0, 0, .null),
  (136, .getfield 42, 3, 11, 22, .null),
  (139, .iload_n 2, 1, 0, 0, .null),
  (140, .iconst 4, 1, 0, 0, .null),
  (141, .iadd, 1, 0, 0, .null),
  (142, .aload_n 0, 1, 0, 0, .null),
  (143, .getfield 287, 3, 11, 23, .null),
  (146, .iastore, 1, 0, 0, .null),
  (147, .aload_n 0, 1, 0, 0, .null),
  (148, .getfield 42, 3, 11, 22, .null),
  (151, .iload_n 2, 1, 0, 0, .null),
  (152, .iconst 5, 1, 0, 0, .null),
  (153, .iadd, 1, 0, 0, .null),
  (154, .aload_n 0, 1, 0, 0, .null),
  (155, .getfield 287, 3, 11, 23, .null),
  (158, .iastore, 1, 0, 0, .null),
  (159, .aload_n 0, 1, 0, 0, .null),
  (160, .getfield 252, 3, 11, 19, .null),
  (163, .ifCond .ne 22, 3, 185, 0, .null),
  (166, .aload_n 0, 1, 0, 0, .null),
  (167, .ldc2_w 385, 3, 1, 0, .long (294)),
  (170, .invokevirtual 306, 3, 0, 173, .null),
  (173, .ifCond .eq 12, 3, 185, 0, .null),
  (176, .aload_n 0, 1, 0, 0, .null),
  (177, .invokevirtual 256, 3, 0, 172, .null),
  (180, .aload_n 0, 1, 0, 0, .null),
  (181, .iconst 1, 1, 0, 0, .null),
  (182, .invokevirtual 382, 3, 0, 192, .null),
  (185, .aload_n 0, 1, 0, 0, .null),
  (186, .getfield 42, 3, 11, 22, .null),
  (189, .iload_n 2, 1, 0, 0, .null),
  (190, .bipush 6, 2, 0, 0, .null),
  (192, .iadd, 1, 0, 0, .null),
  (193, .aload_n 0, 1, 0, 0, .null),
  (194, .getfield 287, 3, 11, 23, .null),
  (197, .iastore, 1, 0, 0, .null),
  (198, .return_, 1, 0, 0, .null)]
set_option maxRecDepth 100000 in
theorem pm_d195 : pm_c195.all (pm_decB prog_13_method_62_code) = true := by decide +kernel
/-- TrainBearersModel.law()I -/
def pm_c196 : List pm_I := [(0, .aload_n 0, 1, 0, 0, .null),
  (1, .iconst 0, 1, 0, 0, .null),
  (2, .putfield 162, 3, 11, 0, .null),
  (5, .aload_n 0, 1, 0, 0, .null),
  (6, .getfield 13, 3, 11, 3, .null),
  (9, .iconst 3, 1, 0, 0, .null),
  (10, .iaload, 1, 0, 0, .null),
  (11, .bipush 6, 2, 0, 0, .null),
  (13, .if_icmp .ne 15, 3, 28, 0, .null),
  (16, .aload_n 0, 1, 0, 0, .null),
  (17, .iconst 0, 1, 0, 0, .null),
  (18, .putfield 239, 3, 11, 13, .null),
  (21, .aload_n 0, 1, 0, 0, .null),
  (22, .bipush (-5), 2, 0, 0, .null),
  (24, .invokevirtual 171, 3, 0, 140, .null),
  (27, .ireturn, 1, 0, 0, .null),
  (28, .aload_n 0, 1, 0, 0, .null),
  (29, .iconst 0, 1, 0, 0, .null),
  (30, .invokevirtual 387, 3, 0, 193, .null),
  (33, .aload_n 0, 1, 0, 0, .null),
  (34, .invokevirtual 390, 3, 0, 195, .null),
  (37, .aload_n 0, 1, 0, 0, .null),
  (38, .getfield 252, 3, 11, 19, .null),
  (41, .ifCond .ne 23, 3, 64, 0, .null),
  (44, .aload_n 0, 1, 0, 0, .null),
  (45, .bipush 59, 2, 0, 0, .null),
  (47, .invokevirtual 319, 3, 0, 174, .null),
  (50, .ifCond .eq 14, 3, 64, 0, .null),
  (53, .aload_n 0, 1, 0, 0, .null),
  (54, .invokevirtual 256, 3, 0, 172, .null),
  (57, .aload_n 0, 1, 0, 0, .null),
  (58, .invokevirtual 390, 3, 0, 195, .null),
  (61, .goto (-24), 3, 37, 0, .null),
  (64, .aload_n 0, 1, 0, 0, .null),
  (65, .invokevirtual 393, 3, 0, 194, .null),
  (68, .aload_n 0, 1, 0, 0, .null),
  (69, .getfield 252, 3, 11, 19, .null),
  (72, .ifCond .eq 10, 3, 82, 0, .null),
  (75, .aload_n 0, 1, 0, 0, .null),
  (76, .bipush (-6), 2, 0, 0, .null),
  (78, .invokevirtual 171, 3, 0, 140, .null),
  (81, .ireturn, 1, 0, 0, .null),
  (82, .bipush 98, 2, 0, 0, .null),
  (84, .sipush 900, 3, 0, 0, .null),
  (87, .aload_n 0, 1, 0, 0, .null),
  (88, .getfield 13, 3, 11, 3, .null),
  (91, .iconst 3, 1, 0, 0, .null),
  (92, .iaload, 1, 0, 0, .null),
  (93, .imul, 1, 0, 0, .null),
  (94, .iadd, 1, 0, 0, .null),
  (95, .istore_n 1, 1, 0, 0, .null),
  (96, .aload_n 0, 1, 0, 0, .null),
  (97, .getfield 13, 3, 11, 3, .null),
  (100, .iload_n 1, 1, 0, 0, .null),
  (101, .iconst 1, 1, 0, 0, .null),
  (102, .iadd, 1, 0, 0, .null),
  (103, .aload_n 0, 1, 0, 0, .null),
  (104, .getfield 379, 3, 11, 21, .null),
  (107, .iastore, 1, 0, 0, .null),
  (108, .iconst 0, 1, 0, 0, .null),
  (109, .istore_n 2, 1, 0, 0, .null),
  (110, .iload_n 2, 1, 0, 0, .null),
  (111, .bipush 8, 2, 0, 0, .null),
  (113, .aload_n 0, 1, 0, 0, .null),
  (114, .getfield 379, 3, 11, 21, .null),
  (117, .imul, 1, 0, 0, .null),
  (118, .if_icmp .ge 25, 3, 143, 0, .null),
  (121, .aload_n 0, 1, 0, 0, .null),
  (122, .getfield 13, 3, 11, 3, .null),
  (125, .iload_n 1, 1, 0, 0, .null),
  (126, .iconst 2, 1, 0, 0, .null),
  (127, .iadd, 1, 0, 0, .null),
  (128, .iload_n 2, 1, 0, 0, .null),
  (129, .iadd, 1, 0, 0, .null),
  (130, .aload_n 0, 1, 0, 0, .null),
  (131, .getfield 42, 3, 11, 22, .null),
  (134, .iload_n 2, 1, 0, 0, .null),
  (135, .iaload, 1, 0, 0, .null),
  (136, .iastore, 1, 0, 0, .null),
  (137, .iinc 2 1, 3, 0, 0, .null),
  (140, .goto (-30), 3, 110, 0, .null),
  (143, .iconst 0, 1, 0, 0, .null),
  (144, .istore_n 2, 1, 0, 0, .null),
  (145, .iload_n 2, 1, 0, 0, .null),
  (146, .aload_n 0, 1, 0, 0, .null),
  (147, .getfield 287, 3, 11, 23, .null),
  (150, .if_icmp .ge 49, 3, 199, 0, .null),
  (153, .aload_n 0, 1, 0, 0, .null),
  (154, .getfield 13, 3, 11, 3, .null),
  (157, .iload_n 1, 1, 0, 0, .null),
  (158, .bipush 98, 2, 0, 0, .null),
  (160, .iadd, 1, 0, 0, .null),
  (161, .iconst 2, 1, 0, 0, .null),
  (162, .iload_n 2, 1, 0, 0, .null),
  (163, .imul, 1, 0, 0, .null),
  (164, .iadd, 1, 0, 0, .null),
  (165, .aload_n 0, 1, 0, 0, .null),
  (166, .getfield 45, 3, 11, 24, .null),
  (169, .iload_n 2, 1, 0, 0, .null),
  (170, .iaload, 1, 0, 0, .null),
  (171, .iastore, 1, 0, 0, .null),
  (172, .aload_n 0, 1, 0, 0, .null),
  (173, .getfield 13, 3, 11, 3, .null),
  (176, .iload_n 1, 1, 0, 0, .null),
  (177, .bipush 98, 2, 0, 0, .null),
  (179, .iadd, 1, 0, 0, .null),
  (180, .iconst 2, 1, 0, 0, .null),
  (181, .iload_n 2, 1, 0, 0, .null),
  (182, .imul, 1, 0, 0, .null),
  (183, .iadd, 1, 0, 0, .null),
  (184, .iconst 1, 1, 0, 0, .null),
  (185, .iadd, 1, 0, 0, .null),
  (186, .aload_n 0, 1, 0, 0, .null),
  (187, .getfield 48, 3, 11, 25, .null),
  (190, .iload_n 2, 1, 0, 0, .null),
  (191, .iaload, 1, 0, 0, .null),
  (192, .iastore, 1, 0, 0, .null),
  (193, .iinc 2 1, 3, 0, 0, .null),
  (196, .goto (-51), 3, 145, 0, .null),
  (199, .aload_n 0, 1, 0, 0, .null),
  (200, .getfield 13, 3, 11, 3, .null),
  (203, .iconst 3, 1, 0, 0, .null),
  (204, .dup2, 1, 0, 0, .null),
  (205, .iaload, 1, 0, 0, .null),
  (206, .iconst 1, 1, 0, 0, .null),
  (207, .iadd, 1, 0, 0, .null),
  (208, .iastore, 1, 0, 0, .null),
  (209, .aload_n 0, 1, 0, 0, .null),
  (210, .aload_n 0, 1, 0, 0, .null),
  (211, .getfield 13, 3, 11, 3, .null),
  (214, .iconst 3, 1, 0, 0, .null),
  (215, .iaload, 1, 0, 0, .null),
  (216, .iconst 1, 1, 0, 0, .null),
  (217, .isub, 1, 0, 0, .null),
  (218, .invokevirtual 171, 3, 0, 140, .null),
  (221, .ireturn, 1, 0, 0, .null)]
set_option maxRecDepth 100000 in
theorem pm_d196 : pm_c196.all (pm_decB prog_13_method_63_code) = true := by decide +kernel
/-- TrainBearersModel.isLaw(I)Z -/
def pm_c197 : List pm_I := [(0, .iload_n 1, 1, 0, 0, .null),
  (1, .iconst (-1), 1, 0, 0, .null),
  (2, .if_icmp .eq 21, 3, 23, 0, .null),
  (5, .iload_n 1, 1, 0, 0, .null),
  (6, .i2l, 1, 0, 0, .null),
  (7, .lconst 0, 1, 0, 0, .null),
  (8, .aload_n 0, 1, 0, 0, .null),
  (9, .getfield 13, 3, 11, 3, .null),
  (12, .iconst 3, 1, 0, 0, .null),
  (13, .iaload, 1, 0, 0, .null),
  (14, .i2l, 1, 0, 0, .null),
  (15, .lconst 1, 1, 0, 0, .null),
  (16, .lsub, 1, 0, 0, .null),
  (17, .invokestatic 182, 3, 1, 136, .null),
  (20, .ifCond .eq 7, 3, 27, 0, .null),
  (23, .iconst 1, 1, 0, 0, .null),
  (24, .goto 4, 3, 28, 0, .null),
  (27, .iconst 0, 1, 0, 0, .null),
  (28, .ireturn, 1, 0, 0, .null)]
set_option maxRecDepth 100000 in
theorem pm_d197 : pm_c197.all (pm_decB prog_13_method_64_code) = true := by decide +kernel
/-- TrainBearersModel.force(I)I -/
def pm_c198 : List pm_I := [(0, .aload_n 0, 1, 0, 0, .null),
  (1, .iconst 0, 1, 0, 0, .null),
  (2, .putfield 162, 3, 11, 0, .null),
  (5, .aload_n 0, 1, 0, 0, .null),
  (6, .iload_n 1, 1, 0, 0, .null),
  (7, .invokevirtual 396, 3, 0, 197, .null),
  (10, .ifCond .eq 12, 3, 22, 0, .null),
  (13, .aload_n 0, 1, 0, 0, .null),
  (14, .iconst 4, 1, 0, 0, .null),
  (15, .iload_n 1, 1, 0, 0, .null),
  (16, .invokevirtual 236, 3, 0, 141, .null),
  (19, .goto 9, 3, 28, 0, .null),
  (22, .aload_n 0, 1, 0, 0, .null),
  (23, .bipush (-2), 2, 0, 0, .null),
  (25, .invokevirtual 171, 3, 0, 140, .null),
  (28, .ireturn, 1, 0, 0, .null)]
set_option maxRecDepth 100000 in
theorem pm_d198 : pm_c198.all (pm_decB prog_13_method_65_code) = true := by decide +kernel
/-- TrainBearersModel.reckon(IJJ)J -/
def pm_c199 : List pm_I := [(0, .iload_n 1, 1, 0, 0, .null),
  (1, .tableswitch 148 20 26 #[43, 48, 53, 58, 90, 122, 135], 43, 0, 0, .null),
  (44, .lload_n 2, 1, 0, 0, .null),
  (45, .lload 4, 2, 0, 0, .null),
  (47, .ladd, 1, 0, 0, .null),
  (48, .lreturn, 1, 0, 0, .null),
  (49, .lload_n 2, 1, 0, 0, .null),
  (50, .lload 4, 2, 0, 0, .null),
  (52, .lsub, 1, 0, 0, .null),
  (53, .lreturn, 1, 0, 0, .null),
  (54, .lload_n 2, 1, 0, 0, .null),
  (55, .lload 4, 2, 0, 0, .null),
  (57, .lmul, 1, 0, 0, .null),
  (58, .lreturn, 1, 0, 0, .null),
  (59, .aload_n 0, 1, 0, 0, .null),
  (60, .lload 4, 2, 0, 0, .null),
  (62, .lconst 0, 1, 0, 0, .null),
  (63, .lcmp, 1, 0, 0, .null),
  (64, .ifCond .ne 7, 3, 71, 0, .null),
  (67, .iconst 1, 1, 0, 0, .null),
  (68, .goto 4, 3, 72, 0, .null),
  (71, .iconst 0, 1, 0, 0, .null),
  (72, .putfield 399, 3, 11, 38, .null),
  (75, .aload_n 0, 1, 0, 0, .null),
  (76, .getfield 399, 3, 11, 38, .null),
  (79, .ifCond .eq 7, 3, 86, 0, .null),
  (82, .lconst 0, 1, 0, 0, .null),
  (83, .goto 7, 3, 90, 0, .null),
  (86, .lload_n 2, 1, 0, 0, .null),
  (87, .lload 4, 2, 0, 0, .null),
  (89, .ldiv, 1, 0, 0, .null),
  (90, .lreturn, 1, 0, 0, .null),
  (91, .aload_n 0, 1, 0, 0, .null),
  (92, .lload 4, 2, 0, 0, .null),
  (94, .lconst 0, 1, 0, 0, .null),
  (95, .lcmp, 1, 0, 0, .null),
  (96, .ifCond .ne 7, 3, 103, 0, .null),
  (99, .iconst 1, 1, 0, 0, .null),
  (100, .goto 4, 3, 104, 0, .null),
  (103, .iconst 0, 1, 0, 0, .null),
  (104, .putfield 399, 3, 11, 38, .null),
  (107, .aload_n 0, 1, 0, 0, .null),
  (108, .getfield 399, 3, 11, 38, .null),
  (111, .ifCond .eq 7, 3, 118, 0, .null),
  (114, .lconst 0, 1, 0, 0, .null),
  (115, .goto 7, 3, 122, 0, .null),
  (118, .lload_n 2, 1, 0, 0, .null),
  (119, .lload 4, 2, 0, 0, .null),
  (121, .lrem, 1, 0, 0, .null),
  (122, .lreturn, 1, 0, 0, .null),
  (123, .lload_n 2, 1, 0, 0, .null),
  (124, .lload 4, 2, 0, 0, .null),
  (126, .lcmp, 1, 0, 0, .null),
  (127, .ifCond .ge 7, 3, 134, 0, .null),
  (130, .lconst 1, 1, 0, 0, .null),
  (131, .goto 4, 3, 135, 0, .null),
  (134, .lconst 0, 1, 0, 0, .null),
  (135, .lreturn, 1, 0, 0, .null),
  (136, .lload_n 2, 1, 0, 0, .null),
  (137, .lload 4, 2, 0, 0, .null),
  (139, .lcmp, 1, 0, 0, .null),
  (140, .ifCond .le 7, 3, 147, 0, .null),
  (143, .lconst 1, 1, 0, 0, .null),
  (144, .goto 4, 3, 148, 0, .null),
  (147, .lconst 0, 1, 0, 0, .null),
  (148, .lreturn, 1, 0, 0, .null),
  (149, .lload_n 2, 1, 0, 0, .null),
  (150, .lload 4, 2, 0, 0, .null),
  (152, .lcmp, 1, 0, 0, .null),
  (153, .ifCond .ne 7, 3, 160, 0, .null),
  (156, .lconst 1, 1, 0, 0, .null),
  (157, .goto 4, 3, 161, 0, .null),
  (160, .lconst 0, 1, 0, 0, .null),
  (161, .lreturn, 1, 0, 0, .null)]
set_option maxRecDepth 100000 in
theorem pm_d199 : pm_c199.all (pm_decB prog_13_method_66_code) = true := by decide +kernel
/-- TrainBearersModel.reckonAll(II)V -/
def pm_c200 : List pm_I := [(0, .aload_n 0, 1, 0, 0, .null),
  (1, .iconst 0, 1, 0, 0, .null),
  (2, .putfield 399, 3, 11, 38, .null),
  (5, .iconst 0, 1, 0, 0, .null),
  (6, .istore_n 3, 1, 0, 0, .null),
  (7, .iload_n 1, 1, 0, 0, .null),
  (8, .istore 4, 2, 0, 0, .null),
  (10, .iload 4, 2, 0, 0, .null),
  (12, .iload_n 2, 1, 0, 0, .null),
  (13, .if_icmp .ge 350, 3, 363, 0, .null),
  (16, .aload_n 0, 1, 0, 0, .null),
  (17, .getfield 399, 3, 11, 38, .null),
  (20, .ifCond .ne 343, 3, 363, 0, .null),
  (23, .aload_n 0, 1, 0, 0, .null),
  (24, .getfield 325, 3, 11, 20, .null),
  (27, .ifCond .eq 13, 3, 40, 0, .null),
  (30, .aload_n 0, 1, 0, 0, .null),
  (31, .getfield 45, 3, 11, 24, .null),
  (34, .iload 4, 2, 0, 0, .null),
  (36, .iaload, 1, 0, 0, .null),
  (37, .goto 20, 3, 57, 0, .null),
  (40, .aload_n 0, 1, 0, 0, .null),
  (41, .getfield 13, 3, 11, 3, .null),
  (44, .aload_n 0, 1, 0, 0, .null),
  (45, .getfield 402, 3, 11, 34, .null),
  (48, .bipush 98, 2, 0, 0, .null),
  (50, .iadd, 1, 0, 0, .null),
  (51, .iconst 2, 1, 0, 0, .null),
  (52, .iload 4, 2, 0, 0, .null),
  (54, .imul, 1, 0, 0, .null),
  (55, .iadd, 1, 0, 0, .null),
  (56, .iaload, 1, 0, 0, .null),
  (57, .istore 5, 2, 0, 0, .null),
  (59, .aload_n 0, 1, 0, 0, .null),
  (60, .getfield 325, 3, 11, 20, .null),
  (63, .ifCond .eq 13, 3, 76, 0, .null),
  (66, .aload_n 0, 1, 0, 0, .null),
  (67, .getfield 48, 3, 11, 25, .null),
  (70, .iload 4, 2, 0, 0, .null),
  (72, .iaload, 1, 0, 0, .null),
  (73, .goto 22, 3, 95, 0, .null),
  (76, .aload_n 0, 1, 0, 0, .null),
  (77, .getfield 13, 3, 11, 3, .null),
  (80, .aload_n 0, 1, 0, 0, .null),
  (81, .getfield 402, 3, 11, 34, .null),
  (84, .bipush 98, 2, 0, 0, .null),
  (86, .iadd, 1, 0, 0, .null),
  (87, .iconst 2, 1, 0, 0, .null),
  (88, .iload 4, 2, 0, 0, .null),
  (90, .imul, 1, 0, 0, .null),
  (91, .iadd, 1, 0, 0, .null),
  (92, .iconst 1, 1, 0, 0, .null),
  (93, .iadd, 1, 0, 0, .null),
  (94, .iaload, 1, 0, 0, .null),
  (95, .istore 6, 2, 0, 0, .null),
  (97, .iinc 4 1, 3, 0, 0, .null),
  (100, .iload 5, 2, 0, 0, .null),
  (102, .bipush 20, 2, 0, 0, .null),
  (104, .if_icmp .ge 117, 3, 221, 0, .null),
  (107, .aload_n 0, 1, 0, 0, .null),
  (108, .getfield 109, 3, 11, 37, .null),
  (111, .iload_n 3, 1, 0, 0, .null),
  (112, .iload 5, 2, 0, 0, .null),
  (114, .ifCond .ne 9, 3, 123, 0, .null),
  (117, .iload 6, 2, 0, 0, .null),
  (119, .i2l, 1, 0, 0, .null),
  (120, .goto 94, 3, 214, 0, .null),
  (123, .aload_n 0, 1, 0, 0, .null),
  (124, .getfield 325, 3, 11, 20, .null),
  (127, .ifCond .ne 13, 3, 140, 0, .null),
  (130, .aload_n 0, 1, 0, 0, .null),
  (131, .getfield 103, 3, 11, 35, .null),
  (134, .iload 5, 2, 0, 0, .null),
  (136, .laload, 1, 0, 0, .null),
  (137, .goto 77, 3, 214, 0, .null),
  (140, .iload 5, 2, 0, 0, .null),
  (142, .bipush 6, 2, 0, 0, .null),
  (144, .if_icmp .ge 13, 3, 157, 0, .null),
  (147, .aload_n 0, 1, 0, 0, .null),
  (148, .getfield 106, 3, 11, 36, .null),
  (151, .iload 5, 2, 0, 0, .null),
  (153, .laload, 1, 0, 0, .null),
  (154, .goto 60, 3, 214, 0, .null),
  (157, .iload 5, 2, 0, 0, .null),
  (159, .bipush 6, 2, 0, 0, .null),
  (161, .if_icmp .ne 27, 3, 188, 0, .null),
  (164, .aload_n 0, 1, 0, 0, .null),
  (165, .iload 6, 2, 0, 0, .null),
  (167, .invokevirtual 193, 3, 0, 149, .null),
  (170, .ifCond .eq 13, 3, 183, 0, .null),
  (173, .aload_n 0, 1, 0, 0, .null),
  (174, .getfield 112, 3, 11, 41, .null),
  (177, .iload 6, 2, 0, 0, .null),
  (179, .iaload, 1, 0, 0, .null),
  (180, .goto 4, 3, 184, 0, .null),
  (183, .iconst (-1), 1, 0, 0, .null),
  (184, .i2l, 1, 0, 0, .null),
  (185, .goto 29, 3, 214, 0, .null),
  (188, .aload_n 0, 1, 0, 0, .null),
  (189, .iload 6, 2, 0, 0, .null),
  (191, .invokevirtual 209, 3, 0, 150, .null),
  (194, .ifCond .eq 17, 3, 211, 0, .null),
  (197, .aload_n 0, 1, 0, 0, .null),
  (198, .getfield 13, 3, 11, 3, .null),
  (201, .bipush 18, 2, 0, 0, .null),
  (203, .iload 6, 2, 0, 0, .null),
  (205, .iadd, 1, 0, 0, .null),
  (206, .iaload, 1, 0, 0, .null),
  (207, .i2l, 1, 0, 0, .null),
  (208, .goto 6, 3, 214, 0, .null),
  (211, .ldc2_w 222, 3, 1, 0, .long (-1)),
  (214, .lastore, 1, 0, 0, .null),
  (215, .iinc 3 1, 3, 0, 0, .null),
  (218, .goto 142, 3, 360, 0, .null),
  (221, .iload 5, 2, 0, 0, .null),
  (223, .bipush 28, 2, 0, 0, .null),
  (225, .if_icmp .ge 73, 3, 298, 0, .null),
  (228, .iinc 3 (-1), 3, 0, 0, .null),
  (231, .aload_n 0, 1, 0, 0, .null),
  (232, .getfield 109, 3, 11, 37, .null),
  (235, .iload_n 3, 1, 0, 0, .null),
  (236, .iconst 1, 1, 0, 0, .null),
  (237, .isub, 1, 0, 0, .null),
  (238, .aload_n 0, 1, 0, 0, .null),
  (239, .iload 5, 2, 0, 0, .null),
  (241, .aload_n 0, 1, 0, 0, .null),
  (242, .getfield 109, 3, 11, 37, .null),
  (245, .iload_n 3, 1, 0, 0, .null),
  (246, .iconst 1, 1, 0, 0, .null),
  (247, .isub, 1, 0, 0, .null),
  (248, .laload, 1, 0, 0, .null),
  (249, .aload_n 0, 1, 0, 0, .null),
  (250, .getfield 109, 3, 11, 37, .null),
  (253, .iload_n 3, 1, 0, 0, .null),
  (254, .laload, 1, 0, 0, .null),
  (255, .invokevirtual 405, 3, 0, 199, .null),
  (258, .lastore, 1, 0, 0, .null),
  (259, .aload_n 0, 1, 0, 0, .null),
  (260, .aload_n 0, 1, 0, 0, .null),
  (261, .getfield 399, 3, 11, 38, .null),
  (264, .ifCond .ne 23, 3, 287, 0, .null),
  (267, .aload_n 0, 1, 0, 0, .null),
  (268, .getfield 109, 3, 11, 37, .null),
  (271, .iload_n 3, 1, 0, 0, .null),
  (272, .iconst 1, 1, 0, 0, .null),
  (273, .isub, 1, 0, 0, .null),
  (274, .laload, 1, 0, 0, .null),
  (275, .ldc2_w 409, 3, 1, 0, .long (-1000000000)),
  (278, .ldc2_w 411, 3, 1, 0, .long (1000000000)),
  (281, .invokestatic 182, 3, 1, 136, .null),
  (284, .ifCond .ne 7, 3, 291, 0, .null),
  (287, .iconst 1, 1, 0, 0, .null),
  (288, .goto 4, 3, 292, 0, .null),
  (291, .iconst 0, 1, 0, 0, .null),
  (292, .putfield 399, 3, 11, 38, .null),
  (295, .goto 65, 3, 360, 0, .null),
  (298, .iload 5, 2, 0, 0, .null),
  (300, .bipush 28, 2, 0, 0, .null),
  (302, .if_icmp .ne 24, 3, 326, 0, .null),
  (305, .aload_n 0, 1, 0, 0, .null),
  (306, .getfield 109, 3, 11, 37, .null),
  (309, .iload_n 3, 1, 0, 0, .null),
  (310, .iconst 1, 1, 0, 0, .null),
  (311, .isub, 1, 0, 0, .null),
  (312, .lconst 1, 1, 0, 0, .null),
  (313, .aload_n 0, 1, 0, 0, .null),
  (314, .getfield 109, 3, 11, 37, .null),
  (317, .iload_n 3, 1, 0, 0, .null),
  (318, .iconst 1, 1, 0, 0, .null),
  (319, .isub, 1, 0, 0, .null),
  (320, .laload, 1, 0, 0, .null),
  (321, .lsub, 1, 0, 0, .null),
  (322, .lastore, 1, 0, 0, .null),
  (323, .goto 37, 3, 360, 0, .null),
  (326, .aload_n 0, 1, 0, 0, .null),
  (327, .getfield 109, 3, 11, 37, .null),
  (330, .iload_n 3, 1, 0, 0, .null),
  (331, .iconst 1, 1, 0, 0, .null),
  (332, .isub, 1, 0, 0, .null),
  (333, .laload, 1, 0, 0, .null),
  (334, .iload 5, 2, 0, 0, .null),
  (336, .bipush 29, 2, 0, 0, .null),
  (338, .if_icmp .ne 7, 3, 345, 0, .null),
  (341, .lconst 0, 1, 0, 0, .null),
  (342, .goto 4, 3, 346, 0, .null),
  (345, .lconst 1, 1, 0, 0, .null),
  (346, .lcmp, 1, 0, 0, .null),
  (347, .ifCond .ne 10, 3, 357, 0, .null),
  (350, .iload 6, 2, 0, 0, .null),
  (352, .istore 4, 2, 0, 0, .null),
  (354, .goto 6, 3, 360, 0, .null),
  (357, .iinc 3 (-1), 3, 0, 0, .null),
  (360, .goto (-350), 3, 10, 0, .null),
  (363, .aload_n 0, 1, 0, 0, .null),
  (364, .iload_n 3, 1, 0, 0, .null),
  (365, .ifCond .le 12, 3, 377, 0, .null),
  (368, .aload_n 0, 1, 0, 0, .null),
  (369, .getfield 109, 3, 11, 37, .null),
  (372, .iconst 0, 1, 0, 0, .null),
  (373, .laload, 1, 0, 0, .null),
  (374, .goto 4, 3, 378, 0, .null),
  (377, .lconst 0, 1, 0, 0, .null),
  (378, .putfield 413, 3, 11, 39, .null),
  (381, .return_, 1, 0, 0, .null)]
set_option maxRecDepth 100000 in
theorem pm_d200 : pm_c200.all (pm_decB prog_13_method_67_code) = true := by decide +kernel
/-- TrainBearersModel.isSo(I)Z -/
def pm_c201 : List pm_I := [(0, .aload_n 0, 1, 0, 0, .null),
  (1, .getfield 13, 3, 11, 3, .null),
  (4, .iload_n 1, 1, 0, 0, .null),
  (5, .iconst 5, 1, 0, 0, .null),
  (6, .iadd, 1, 0, 0, .null),
  (7, .iaload, 1, 0, 0, .null),
  (8, .aload_n 0, 1, 0, 0, .null),
  (9, .getfield 13, 3, 11, 3, .null),
  (12, .iload_n 1, 1, 0, 0, .null),
  (13, .bipush 6, 2, 0, 0, .null),
  (15, .iadd, 1, 0, 0, .null),
  (16, .iaload, 1, 0, 0, .null),
  (17, .if_icmp .ge 42, 3, 59, 0, .null),
  (20, .aload_n 0, 1, 0, 0, .null),
  (21, .aload_n 0, 1, 0, 0, .null),
  (22, .getfield 13, 3, 11, 3, .null),
  (25, .iload_n 1, 1, 0, 0, .null),
  (26, .iconst 5, 1, 0, 0, .null),
  (27, .iadd, 1, 0, 0, .null),
  (28, .iaload, 1, 0, 0, .null),
  (29, .aload_n 0, 1, 0, 0, .null),
  (30, .getfield 13, 3, 11, 3, .null),
  (33, .iload_n 1, 1, 0, 0, .null),
  (34, .bipush 6, 2, 0, 0, .null),
  (36, .iadd, 1, 0, 0, .null),
  (37, .iaload, 1, 0, 0, .null),
  (38, .invokevirtual 416, 3, 0, 200, .null),
  (41, .aload_n 0, 1, 0, 0, .null),
  (42, .getfield 399, 3, 11, 38, .null),
  (45, .ifCond .ne 12, 3, 57, 0, .null),
  (48, .aload_n 0, 1, 0, 0, .null),
  (49, .getfield 413, 3, 11, 39, .null),
  (52, .lconst 0, 1, 0, 0, .null),
  (53, .lcmp, 1, 0, 0, .null),
  (54, .ifCond .ne 5, 3, 59, 0, .null),
  (57, .iconst 0, 1, 0, 0, .null),
  (58, .ireturn, 1, 0, 0, .null),
  (59, .aload_n 0, 1, 0, 0, .null),
  (60, .getfield 13, 3, 11, 3, .null),
  (63, .iload_n 1, 1, 0, 0, .null),
  (64, .iaload, 1, 0, 0, .null),
  (65, .iconst 3, 1, 0, 0, .null),
  (66, .if_icmp .eq 44, 3, 110, 0, .null),
  (69, .aload_n 0, 1, 0, 0, .null),
  (70, .aload_n 0, 1, 0, 0, .null),
  (71, .getfield 13, 3, 11, 3, .null),
  (74, .iload_n 1, 1, 0, 0, .null),
  (75, .iconst 3, 1, 0, 0, .null),
  (76, .iadd, 1, 0, 0, .null),
  (77, .iaload, 1, 0, 0, .null),
  (78, .aload_n 0, 1, 0, 0, .null),
  (79, .getfield 13, 3, 11, 3, .null),
  (82, .iload_n 1, 1, 0, 0, .null),
  (83, .iconst 4, 1, 0, 0, .null),
  (84, .iadd, 1, 0, 0, .null),
  (85, .iaload, 1, 0, 0, .null),
  (86, .invokevirtual 416, 3, 0, 200, .null),
  (89, .aload_n 0, 1, 0, 0, .null),
  (90, .aload_n 0, 1, 0, 0, .null),
  (91, .getfield 413, 3, 11, 39, .null),
  (94, .putfield 419, 3, 11, 40, .null),
  (97, .aload_n 0, 1, 0, 0, .null),
  (98, .getfield 399, 3, 11, 38, .null),
  (101, .ifCond .ne 7, 3, 108, 0, .null),
  (104, .iconst 1, 1, 0, 0, .null),
  (105, .goto 4, 3, 109, 0, .null),
  (108, .iconst 0, 1, 0, 0, .null),
  (109, .ireturn, 1, 0, 0, .null),
  (110, .iconst 1, 1, 0, 0, .null),
  (111, .ireturn, 1, 0, 0, .null)]
set_option maxRecDepth 100000 in
theorem pm_d201 : pm_c201.all (pm_decB prog_13_method_68_code) = true := by decide +kernel
/-- TrainBearersModel.tells(IIIIIJ)J -/
def pm_c202 : List pm_I := [(0, .aload_n 0, 1, 0, 0, .null),
  (1, .getfield 13, 3, 11, 3, .null),
  (4, .iconst 4, 1, 0, 0, .null),
  (5, .iaload, 1, 0, 0, .null),
  (6, .iconst (-1), 1, 0, 0, .null),
  (7, .if_icmp .ne 6, 3, 13, 0, .null),
  (10, .lload 6, 2, 0, 0, .null),
  (12, .lreturn, 1, 0, 0, .null),
  (13, .aload_n 0, 1, 0, 0, .null),
  (14, .bipush 98, 2, 0, 0, .null),
  (16, .sipush 900, 3, 0, 0, .null),
  (19, .aload_n 0, 1, 0, 0, .null),
  (20, .getfield 13, 3, 11, 3, .null),
  (23, .iconst 4, 1, 0, 0, .null),
  (24, .iaload, 1, 0, 0, .null),
  (25, .imul, 1, 0, 0, .null),
  (26, .iadd, 1, 0, 0, .null),
  (27, .putfield 402, 3, 11, 34, .null),
  (30, .aload_n 0, 1, 0, 0, .null),
  (31, .getfield 103, 3, 11, 35, .null),
  (34, .iconst 1, 1, 0, 0, .null),
  (35, .iload_n 2, 1, 0, 0, .null),
  (36, .i2l, 1, 0, 0, .null),
  (37, .lastore, 1, 0, 0, .null),
  (38, .aload_n 0, 1, 0, 0, .null),
  (39, .getfield 103, 3, 11, 35, .null),
  (42, .iconst 2, 1, 0, 0, .null),
  (43, .iload_n 2, 1, 0, 0, .null),
  (44, .iconst (-1), 1, 0, 0, .null),
  (45, .if_icmp .ne 9, 3, 54, 0, .null),
  (48, .ldc2_w 222, 3, 1, 0, .long (-1)),
  (51, .goto 13, 3, 64, 0, .null),
  (54, .aload_n 0, 1, 0, 0, .null),
  (55, .getfield 13, 3, 11, 3, .null),
  (58, .bipush 42, 2, 0, 0, .null),
  (60, .iload_n 2, 1, 0, 0, .null),
  (61, .iadd, 1, 0, 0, .null),
  (62, .iaload, 1, 0, 0, .null),
  (63, .i2l, 1, 0, 0, .null),
  (64, .lastore, 1, 0, 0, .null),
  (65, .aload_n 0, 1, 0, 0, .null),
  (66, .getfield 103, 3, 11, 35, .null),
  (69, .iconst 3, 1, 0, 0, .null),
  (70, .iload_n 2, 1, 0, 0, .null),
  (71, .iconst (-1), 1, 0, 0, .null),
  (72, .if_icmp .ne 9, 3, 81, 0, .null),
  (75, .ldc2_w 222, 3, 1, 0, .long (-1)),
  (78, .goto 13, 3, 91, 0, .null),
  (81, .aload_n 0, 1, 0, 0, .null),
  (82, .getfield 13, 3, 11, 3, .null),
  (85, .bipush 18, 2, 0, 0, .null),
  (87, .iload_n 2, 1, 0, 0, .null),
  (88, .iadd, 1, 0, 0, .null),
  (89, .iaload, 1, 0, 0, .null),
  (90, .i2l, 1, 0, 0, .null),
  (91, .lastore, 1, 0, 0, .null),
  (92, .aload_n 0, 1, 0, 0, .null),
  (93, .getfield 103, 3, 11, 35, .null),
  (96, .iconst 4, 1, 0, 0, .null),
  (97, .iload_n 3, 1, 0, 0, .null),
  (98, .i2l, 1, 0, 0, .null),
  (99, .lastore, 1, 0, 0, .null),
  (100, .aload_n 0, 1, 0, 0, .null),
  (101, .getfield 103, 3, 11, 35, .null),
  (104, .iconst 5, 1, 0, 0, .null),
  (105, .aload_n 0, 1, 0, 0, .null),
  (106, .getfield 13, 3, 11, 3, .null),
  (109, .bipush 34, 2, 0, 0, .null),
  (111, .iload_n 3, 1, 0, 0, .null),
  (112, .iadd, 1, 0, 0, .null),
  (113, .iaload, 1, 0, 0, .null),
  (114, .i2l, 1, 0, 0, .null),
  (115, .lastore, 1, 0, 0, .null),
  (116, .aload_n 0, 1, 0, 0, .null),
  (117, .getfield 103, 3, 11, 35, .null),
  (120, .bipush 6, 2, 0, 0, .null),
  (122, .aload_n 0, 1, 0, 0, .null),
  (123, .getfield 13, 3, 11, 3, .null),
  (126, .bipush 10, 2, 0, 0, .null),
  (128, .iload_n 3, 1, 0, 0, .null),
  (129, .iadd, 1, 0, 0, .null),
  (130, .iaload, 1, 0, 0, .null),
  (131, .i2l, 1, 0, 0, .null),
  (132, .lastore, 1, 0, 0, .null),
  (133, .aload_n 0, 1, 0, 0, .null),
  (134, .getfield 103, 3, 11, 35, .null),
  (137, .bipush 7, 2, 0, 0, .null),
  (139, .iload 4, 2, 0, 0, .null),
  (141, .i2l, 1, 0, 0, .null),
  (142, .lastore, 1, 0, 0, .null),
  (143, .aload_n 0, 1, 0, 0, .null),
  (144, .getfield 103, 3, 11, 35, .null),
  (147, .bipush 8, 2, 0, 0, .null),
  (149, .iload 5, 2, 0, 0, .null),
  (151, .i2l, 1, 0, 0, .null),
  (152, .lastore, 1, 0, 0, .null),
  (153, .aload_n 0, 1, 0, 0, .null),
  (154, .getfield 103, 3, 11, 35, .null),
  (157, .bipush 9, 2, 0, 0, .null),
  (159, .aload_n 0, 1, 0, 0, .null),
  (160, .getfield 13, 3, 11, 3, .null),
  (163, .iconst 5, 1, 0, 0, .null),
  (164, .iaload, 1, 0, 0, .null),
  (165, .i2l, 1, 0, 0, .null),
  (166, .lastore, 1, 0, 0, .null),
  (167, .aload_n 0, 1, 0, 0, .null),
  (168, .getfield 103, 3, 11, 35, .null),
  (171, .bipush 10, 2, 0, 0, .null),
  (173, .aload_n 0, 1, 0, 0, .null),
  (174, .getfield 13, 3, 11, 3, .null),
  (177, .bipush 7, 2, 0, 0, .null),
  (179, .iaload, 1, 0, 0, .null),
  (180, .i2l, 1, 0, 0, .null),
  (181, .lastore, 1, 0, 0, .null),
  (182, .lload 6, 2, 0, 0, .null),
  (184, .lstore 8, 2, 0, 0, .null),
  (186, .iconst 0, 1, 0, 0, .null),
  (187, .istore 10, 2, 0, 0, .null),
  (189, .iload 10, 2, 0, 0, .null),
  (191, .aload_n 0, 1, 0, 0, .null),
  (192, .getfield 13, 3, 11, 3, .null),
  (195, .aload_n 0, 1, 0, 0, .null),
  (196, .getfield 402, 3, 11, 34, .null),
  (199, .iconst 1, 1, 0, 0, .null),
  (200, .iadd, 1, 0, 0, .null),
  (201, .iaload, 1, 0, 0, .null),
  (202, .if_icmp .ge 58, 3, 260, 0, .null),
  (205, .aload_n 0, 1, 0, 0, .null),
  (206, .getfield 402, 3, 11, 34, .null),
  (209, .iconst 2, 1, 0, 0, .null),
  (210, .iadd, 1, 0, 0, .null),
  (211, .bipush 8, 2, 0, 0, .null),
  (213, .iload 10, 2, 0, 0, .null),
  (215, .imul, 1, 0, 0, .null),
  (216, .iadd, 1, 0, 0, .null),
  (217, .istore 11, 2, 0, 0, .null),
  (219, .aload_n 0, 1, 0, 0, .null),
  (220, .getfield 13, 3, 11, 3, .null),
  (223, .iload 11, 2, 0, 0, .null),
  (225, .iaload, 1, 0, 0, .null),
  (226, .iload_n 1, 1, 0, 0, .null),
  (227, .if_icmp .ne 27, 3, 254, 0, .null),
  (230, .aload_n 0, 1, 0, 0, .null),
  (231, .iload 11, 2, 0, 0, .null),
  (233, .invokevirtual 422, 3, 0, 201, .null),
  (236, .ifCond .eq 18, 3, 254, 0, .null),
  (239, .iload_n 1, 1, 0, 0, .null),
  (240, .iconst 3, 1, 0, 0, .null),
  (241, .if_icmp .ne 7, 3, 248, 0, .null),
  (244, .lconst 1, 1, 0, 0, .null),
  (245, .goto 7, 3, 252, 0, .null),
  (248, .aload_n 0, 1, 0, 0, .null),
  (249, .getfield 419, 3, 11, 40, .null),
  (252, .lstore 8, 2, 0, 0, .null),
  (254, .iinc 10 1, 3, 0, 0, .null),
  (257, .goto (-68), 3, 189, 0, .null),
  (260, .lload 8, 2, 0, 0, .null),
  (262, .lreturn, 1, 0, 0, .null)]
set_option maxRecDepth 100000 in
theorem pm_d202 : pm_c202.all (pm_decB prog_13_method_69_code) = true := by decide +kernel
/-- TrainBearersModel.liftsOf(II)I -/
def pm_c203 : List pm_I := [(0, .aload_n 0, 1, 0, 0, .null),
  (1, .iconst 0, 1, 0, 0, .null),
  (2, .iload_n 1, 1, 0, 0, .null),
  (3, .iload_n 2, 1, 0, 0, .null),
  (4, .iconst (-1), 1, 0, 0, .null),
  (5, .iconst (-1), 1, 0, 0, .null),
  (6, .aload_n 0, 1, 0, 0, .null),
  (7, .getfield 13, 3, 11, 3, .null),
  (10, .bipush 42, 2, 0, 0, .null),
  (12, .iload_n 1, 1, 0, 0, .null),
  (13, .iadd, 1, 0, 0, .null),
  (14, .iaload, 1, 0, 0, .null),
  (15, .aload_n 0, 1, 0, 0, .null),
  (16, .getfield 13, 3, 11, 3, .null),
  (19, .bipush 18, 2, 0, 0, .null),
  (21, .iload_n 1, 1, 0, 0, .null),
  (22, .iadd, 1, 0, 0, .null),
  (23, .iaload, 1, 0, 0, .null),
  (24, .isub, 1, 0, 0, .null),
  (25, .i2l, 1, 0, 0, .null),
  (26, .invokevirtual 425, 3, 0, 202, .null),
  (29, .iconst 0, 1, 0, 0, .null),
  (30, .bipush 20, 2, 0, 0, .null),
  (32, .invokestatic 429, 3, 1, 139, .null),
  (35, .ireturn, 1, 0, 0, .null)]
set_option maxRecDepth 100000 in
theorem pm_d203 : pm_c203.all (pm_decB prog_13_method_70_code) = true := by decide +kernel
/-- TrainBearersModel.isBarred(II)Z -/
def pm_c204 : List pm_I := [(0, .aload_n 0, 1, 0, 0, .null),
  (1, .iconst 3, 1, 0, 0, .null),
  (2, .iload_n 1, 1, 0, 0, .null),
  (3, .iload_n 2, 1, 0, 0, .null),
  (4, .iconst (-1), 1, 0, 0, .null),
  (5, .iconst (-1), 1, 0, 0, .null),
  (6, .lconst 0, 1, 0, 0, .null),
  (7, .invokevirtual 425, 3, 0, 202, .null),
  (10, .lconst 1, 1, 0, 0, .null),
  (11, .lcmp, 1, 0, 0, .null),
  (12, .ifCond .ne 7, 3, 19, 0, .null),
  (15, .iconst 1, 1, 0, 0, .null),
  (16, .goto 4, 3, 20, 0, .null),
  (19, .iconst 0, 1, 0, 0, .null),
  (20, .ireturn, 1, 0, 0, .null)]
set_option maxRecDepth 100000 in
theorem pm_d204 : pm_c204.all (pm_decB prog_13_method_71_code) = true := by decide +kernel
/-- TrainBearersModel.tiresOf(II)I -/
def pm_c205 : List pm_I := [(0, .aload_n 0, 1, 0, 0, .null),
  (1, .iconst 1, 1, 0, 0, .null),
  (2, .iload_n 1, 1, 0, 0, .null),
  (3, .aload_n 0, 1, 0, 0, .null),
  (4, .getfield 13, 3, 11, 3, .null),
  (7, .bipush 26, 2, 0, 0, .null),
  (9, .iload_n 1, 1, 0, 0, .null),
  (10, .iadd, 1, 0, 0, .null),
  (11, .iaload, 1, 0, 0, .null),
  (12, .iconst (-1), 1, 0, 0, .null),
  (13, .iload_n 2, 1, 0, 0, .null),
  (14, .iload_n 2, 1, 0, 0, .null),
  (15, .iconst 1, 1, 0, 0, .null),
  (16, .iadd, 1, 0, 0, .null),
  (17, .i2l, 1, 0, 0, .null),
  (18, .invokevirtual 425, 3, 0, 202, .null),
  (21, .iconst 0, 1, 0, 0, .null),
  (22, .bipush 9, 2, 0, 0, .null),
  (24, .invokestatic 429, 3, 1, 139, .null),
  (27, .ireturn, 1, 0, 0, .null)]
set_option maxRecDepth 100000 in
theorem pm_d205 : pm_c205.all (pm_decB prog_13_method_72_code) = true := by decide +kernel
/-- TrainBearersModel.bringsOf(II)I -/
def pm_c206 : List pm_I := [(0, .iload_n 2, 1, 0, 0, .null),
  (1, .ifCond .ne 7, 3, 8, 0, .null),
  (4, .iconst 0, 1, 0, 0, .null),
  (5, .goto 20, 3, 25, 0, .null),
  (8, .aload_n 0, 1, 0, 0, .null),
  (9, .iconst 2, 1, 0, 0, .null),
  (10, .iconst (-1), 1, 0, 0, .null),
  (11, .iload_n 1, 1, 0, 0, .null),
  (12, .iload_n 2, 1, 0, 0, .null),
  (13, .iconst (-1), 1, 0, 0, .null),
  (14, .iload_n 2, 1, 0, 0, .null),
  (15, .i2l, 1, 0, 0, .null),
  (16, .invokevirtual 425, 3, 0, 202, .null),
  (19, .iconst 0, 1, 0, 0, .null),
  (20, .bipush 99, 2, 0, 0, .null),
  (22, .invokestatic 429, 3, 1, 139, .null),
  (25, .ireturn, 1, 0, 0, .null)]
set_option maxRecDepth 100000 in
theorem pm_d206 : pm_c206.all (pm_decB prog_13_method_73_code) = true := by decide +kernel
/-- TrainBearersModel.dipOf(II)I -/
def pm_c207 : List pm_I := [(0, .aload_n 0, 1, 0, 0, .null),
  (1, .getfield 13, 3, 11, 3, .null),
  (4, .bipush 34, 2, 0, 0, .null),
  (6, .iload_n 1, 1, 0, 0, .null),
  (7, .iadd, 1, 0, 0, .null),
  (8, .iaload, 1, 0, 0, .null),
  (9, .aload_n 0, 1, 0, 0, .null),
  (10, .getfield 13, 3, 11, 3, .null),
  (13, .bipush 10, 2, 0, 0, .null),
  (15, .iload_n 1, 1, 0, 0, .null),
  (16, .iadd, 1, 0, 0, .null),
  (17, .iaload, 1, 0, 0, .null),
  (18, .iadd, 1, 0, 0, .null),
  (19, .istore_n 3, 1, 0, 0, .null),
  (20, .iconst 0, 1, 0, 0, .null),
  (21, .istore 4, 2, 0, 0, .null),
  (23, .iload 4, 2, 0, 0, .null),
  (25, .aload_n 0, 1, 0, 0, .null),
  (26, .getfield 13, 3, 11, 3, .null),
  (29, .iconst 1, 1, 0, 0, .null),
  (30, .iaload, 1, 0, 0, .null),
  (31, .if_icmp .ge 32, 3, 63, 0, .null),
  (34, .iload_n 3, 1, 0, 0, .null),
  (35, .iload_n 2, 1, 0, 0, .null),
  (36, .iload 4, 2, 0, 0, .null),
  (38, .invokestatic 433, 3, 1, 137, .null),
  (41, .ifCond .eq 13, 3, 54, 0, .null),
  (44, .aload_n 0, 1, 0, 0, .null),
  (45, .iload 4, 2, 0, 0, .null),
  (47, .iload_n 1, 1, 0, 0, .null),
  (48, .invokevirtual 212, 3, 0, 203, .null),
  (51, .goto 4, 3, 55, 0, .null),
  (54, .iconst 0, 1, 0, 0, .null),
  (55, .isub, 1, 0, 0, .null),
  (56, .istore_n 3, 1, 0, 0, .null),
  (57, .iinc 4 1, 3, 0, 0, .null),
  (60, .goto (-37), 3, 23, 0, .null),
  (63, .iload_n 3, 1, 0, 0, .null),
  (64, .ifCond .ge 7, 3, 71, 0, .null),
  (67, .iconst 0, 1, 0, 0, .null),
  (68, .goto 4, 3, 72, 0, .null),
  (71, .iload_n 3, 1, 0, 0, .null),
  (72, .ireturn, 1, 0, 0, .null)]
set_option maxRecDepth 100000 in
theorem pm_d207 : pm_c207.all (pm_decB prog_13_method_74_code) = true := by decide +kernel
/-- TrainBearersModel.broughtNow()I -/
def pm_c208 : List pm_I := [(0, .iconst 0, 1, 0, 0, .null),
  (1, .istore_n 1, 1, 0, 0, .null),
  (2, .iconst 0, 1, 0, 0, .null),
  (3, .istore_n 2, 1, 0, 0, .null),
  (4, .iload_n 2, 1, 0, 0, .null),
  (5, .aload_n 0, 1, 0, 0, .null),
  (6, .getfield 13, 3, 11, 3, .null),
  (9, .iconst 0, 1, 0, 0, .null),
  (10, .iaload, 1, 0, 0, .null),
  (11, .if_icmp .ge 27, 3, 38, 0, .null),
  (14, .iload_n 1, 1, 0, 0, .null),
  (15, .aload_n 0, 1, 0, 0, .null),
  (16, .iload_n 2, 1, 0, 0, .null),
  (17, .aload_n 0, 1, 0, 0, .null),
  (18, .iload_n 2, 1, 0, 0, .null),
  (19, .aload_n 0, 1, 0, 0, .null),
  (20, .iload_n 2, 1, 0, 0, .null),
  (21, .invokevirtual 197, 3, 0, 152, .null),
  (24, .invokevirtual 200, 3, 0, 207, .null),
  (27, .invokevirtual 204, 3, 0, 206, .null),
  (30, .iadd, 1, 0, 0, .null),
  (31, .istore_n 1, 1, 0, 0, .null),
  (32, .iinc 2 1, 3, 0, 0, .null),
  (35, .goto (-31), 3, 4, 0, .null),
  (38, .iload_n 1, 1, 0, 0, .null),
  (39, .ireturn, 1, 0, 0, .null)]
set_option maxRecDepth 100000 in
theorem pm_d208 : pm_c208.all (pm_decB prog_13_method_75_code) = true := by decide +kernel
/-- TrainBearersModel.canHold(II)Z -/
def pm_c209 : List pm_I := [(0, .aload_n 0, 1, 0, 0, .null),
  (1, .getfield 13, 3, 11, 3, .null),
  (4, .bipush 26, 2, 0, 0, .null),
  (6, .iload_n 1, 1, 0, 0, .null),
  (7, .iadd, 1, 0, 0, .null),
  (8, .iaload, 1, 0, 0, .null),
  (9, .iload_n 2, 1, 0, 0, .null),
  (10, .if_icmp .eq 28, 3, 38, 0, .null),
  (13, .aload_n 0, 1, 0, 0, .null),
  (14, .iload_n 2, 1, 0, 0, .null),
  (15, .invokevirtual 197, 3, 0, 152, .null),
  (18, .invokestatic 436, 3, 1, 138, .null),
  (21, .iconst 2, 1, 0, 0, .null),
  (22, .if_icmp .ge 16, 3, 38, 0, .null),
  (25, .aload_n 0, 1, 0, 0, .null),
  (26, .iload_n 1, 1, 0, 0, .null),
  (27, .iload_n 2, 1, 0, 0, .null),
  (28, .invokevirtual 215, 3, 0, 204, .null),
  (31, .ifCond .ne 7, 3, 38, 0, .null),
  (34, .iconst 1, 1, 0, 0, .null),
  (35, .goto 4, 3, 39, 0, .null),
  (38, .iconst 0, 1, 0, 0, .null),
  (39, .ireturn, 1, 0, 0, .null)]
set_option maxRecDepth 100000 in
theorem pm_d209 : pm_c209.all (pm_decB prog_13_method_76_code) = true := by decide +kernel
/-- TrainBearersModel.holdNow(II)I -/
def pm_c210 : List pm_I := [(0, .aload_n 0, 1, 0, 0, .null),
  (1, .iload_n 1, 1, 0, 0, .null),
  (2, .invokevirtual 209, 3, 0, 150, .null),
  (5, .ifCond .eq 11, 3, 16, 0, .null),
  (8, .aload_n 0, 1, 0, 0, .null),
  (9, .iload_n 2, 1, 0, 0, .null),
  (10, .invokevirtual 193, 3, 0, 149, .null),
  (13, .ifCond .ne 6, 3, 19, 0, .null),
  (16, .bipush (-2), 2, 0, 0, .null),
  (18, .ireturn, 1, 0, 0, .null),
  (19, .aload_n 0, 1, 0, 0, .null),
  (20, .iload_n 1, 1, 0, 0, .null),
  (21, .iload_n 2, 1, 0, 0, .null),
  (22, .invokevirtual 439, 3, 0, 209, .null),
  (25, .ifCond .ne 6, 3, 31, 0, .null),
  (28, .bipush (-3), 2, 0, 0, .null),
  (30, .ireturn, 1, 0, 0, .null),
  (31, .aload_n 0, 1, 0, 0, .null),
  (32, .iconst 0, 1, 0, 0, .null),
  (33, .invokevirtual 442, 3, 0, 145, .null),
  (36, .aload_n 0, 1, 0, 0, .null),
  (37, .getfield 13, 3, 11, 3, .null),
  (40, .bipush 26, 2, 0, 0, .null),
  (42, .iload_n 1, 1, 0, 0, .null),
  (43, .iadd, 1, 0, 0, .null),
  (44, .iload_n 2, 1, 0, 0, .null),
  (45, .iastore, 1, 0, 0, .null),
  (46, .aload_n 0, 1, 0, 0, .null),
  (47, .iload_n 2, 1, 0, 0, .null),
  (48, .aload_n 0, 1, 0, 0, .null),
  (49, .iload_n 2, 1, 0, 0, .null),
  (50, .invokevirtual 197, 3, 0, 152, .null),
  (53, .invokevirtual 200, 3, 0, 207, .null),
  (56, .ireturn, 1, 0, 0, .null)]
set_option maxRecDepth 100000 in
theorem pm_d210 : pm_c210.all (pm_decB prog_13_method_77_code) = true := by decide +kernel
/-- TrainBearersModel.hold(II)I -/
def pm_c211 : List pm_I := [(0, .aload_n 0, 1, 0, 0, .null),
  (1, .iconst 0, 1, 0, 0, .null),
  (2, .putfield 162, 3, 11, 0, .null),
  (5, .aload_n 0, 1, 0, 0, .null),
  (6, .aload_n 0, 1, 0, 0, .null),
  (7, .iload_n 1, 1, 0, 0, .null),
  (8, .iload_n 2, 1, 0, 0, .null),
  (9, .invokevirtual 445, 3, 0, 210, .null),
  (12, .invokevirtual 171, 3, 0, 140, .null),
  (15, .ireturn, 1, 0, 0, .null)]
set_option maxRecDepth 100000 in
theorem pm_d211 : pm_c211.all (pm_decB prog_13_method_78_code) = true := by decide +kernel
/-- TrainBearersModel.dropNow(I)I -/
def pm_c212 : List pm_I := [(0, .aload_n 0, 1, 0, 0, .null),
  (1, .iload_n 1, 1, 0, 0, .null),
  (2, .invokevirtual 209, 3, 0, 150, .null),
  (5, .ifCond .ne 6, 3, 11, 0, .null),
  (8, .bipush (-2), 2, 0, 0, .null),
  (10, .ireturn, 1, 0, 0, .null),
  (11, .aload_n 0, 1, 0, 0, .null),
  (12, .getfield 13, 3, 11, 3, .null),
  (15, .bipush 26, 2, 0, 0, .null),
  (17, .iload_n 1, 1, 0, 0, .null),
  (18, .iadd, 1, 0, 0, .null),
  (19, .iaload, 1, 0, 0, .null),
  (20, .istore_n 2, 1, 0, 0, .null),
  (21, .iload_n 2, 1, 0, 0, .null),
  (22, .iconst (-1), 1, 0, 0, .null),
  (23, .if_icmp .ne 6, 3, 29, 0, .null),
  (26, .bipush (-3), 2, 0, 0, .null),
  (28, .ireturn, 1, 0, 0, .null),
  (29, .aload_n 0, 1, 0, 0, .null),
  (30, .iconst 1, 1, 0, 0, .null),
  (31, .invokevirtual 442, 3, 0, 145, .null),
  (34, .aload_n 0, 1, 0, 0, .null),
  (35, .getfield 13, 3, 11, 3, .null),
  (38, .bipush 26, 2, 0, 0, .null),
  (40, .iload_n 1, 1, 0, 0, .null),
  (41, .iadd, 1, 0, 0, .null),
  (42, .iconst (-1), 1, 0, 0, .null),
  (43, .iastore, 1, 0, 0, .null),
  (44, .iload_n 2, 1, 0, 0, .null),
  (45, .ireturn, 1, 0, 0, .null)]
set_option maxRecDepth 100000 in
theorem pm_d212 : pm_c212.all (pm_decB prog_13_method_79_code) = true := by decide +kernel
/-- TrainBearersModel.drop(I)I -/
def pm_c213 : List pm_I := [(0, .aload_n 0, 1, 0, 0, .null),
  (1, .iconst 0, 1, 0, 0, .null),
  (2, .putfield 162, 3, 11, 0, .null),
  (5, .aload_n 0, 1, 0, 0, .null),
  (6, .aload_n 0, 1, 0, 0, .null),
  (7, .iload_n 1, 1, 0, 0, .null),
  (8, .invokevirtual 448, 3, 0, 212, .null),
  (11, .invokevirtual 171, 3, 0, 140, .null),
  (14, .ireturn, 1, 0, 0, .null)]
set_option maxRecDepth 100000 in
theorem pm_d213 : pm_c213.all (pm_decB prog_13_method_80_code) = true := by decide +kernel
/-- TrainBearersModel.layDips()V -/
def pm_c214 : List pm_I := [(0, .iconst 0, 1, 0, 0, .null),
  (1, .istore_n 1, 1, 0, 0, .null),
  (2, .iload_n 1, 1, 0, 0, .null),
  (3, .aload_n 0, 1, 0, 0, .null),
  (4, .getfield 13, 3, 11, 3, .null),
  (7, .iconst 0, 1, 0, 0, .null),
  (8, .iaload, 1, 0, 0, .null),
  (9, .if_icmp .ge 25, 3, 34, 0, .null),
  (12, .aload_n 0, 1, 0, 0, .null),
  (13, .getfield 112, 3, 11, 41, .null),
  (16, .iload_n 1, 1, 0, 0, .null),
  (17, .aload_n 0, 1, 0, 0, .null),
  (18, .iload_n 1, 1, 0, 0, .null),
  (19, .aload_n 0, 1, 0, 0, .null),
  (20, .iload_n 1, 1, 0, 0, .null),
  (21, .invokevirtual 197, 3, 0, 152, .null),
  (24, .invokevirtual 200, 3, 0, 207, .null),
  (27, .iastore, 1, 0, 0, .null),
  (28, .iinc 1 1, 3, 0, 0, .null),
  (31, .goto (-29), 3, 2, 0, .null),
  (34, .return_, 1, 0, 0, .null)]
set_option maxRecDepth 100000 in
theorem pm_d214 : pm_c214.all (pm_decB prog_13_method_81_code) = true := by decide +kernel
/-- TrainBearersModel.canWalk(I)Z -/
def pm_c215 : List pm_I := [(0, .aload_n 0, 1, 0, 0, .null),
  (1, .getfield 13, 3, 11, 3, .null),
  (4, .bipush 50, 2, 0, 0, .null),
  (6, .bipush 6, 2, 0, 0, .null),
  (8, .aload_n 0, 1, 0, 0, .null),
  (9, .getfield 13, 3, 11, 3, .null),
  (12, .bipush 8, 2, 0, 0, .null),
  (14, .iaload, 1, 0, 0, .null),
  (15, .imul, 1, 0, 0, .null),
  (16, .iadd, 1, 0, 0, .null),
  (17, .iload_n 1, 1, 0, 0, .null),
  (18, .iadd, 1, 0, 0, .null),
  (19, .iaload, 1, 0, 0, .null),
  (20, .iconst (-1), 1, 0, 0, .null),
  (21, .if_icmp .eq 7, 3, 28, 0, .null),
  (24, .iconst 1, 1, 0, 0, .null),
  (25, .goto 4, 3, 29, 0, .null),
  (28, .iconst 0, 1, 0, 0, .null),
  (29, .ireturn, 1, 0, 0, .null)]
set_option maxRecDepth 100000 in
theorem pm_d215 : pm_c215.all (pm_decB prog_13_method_82_code) = true := by decide +kernel
/-- TrainBearersModel.walkIt(I)I -/
def pm_c216 : List pm_I := [(0, .aload_n 0, 1, 0, 0, .null),
  (1, .getfield 13, 3, 11, 3, .null),
  (4, .bipush 50, 2, 0, 0, .null),
  (6, .bipush 6, 2, 0, 0, .null),
  (8, .aload_n 0, 1, 0, 0, .null),
  (9, .getfield 13, 3, 11, 3, .null),
  (12, .bipush 8, 2, 0, 0, .null),
  (14, .iaload, 1, 0, 0, .null),
  (15, .imul, 1, 0, 0, .null),
  (16, .iadd, 1, 0, 0, .null),
  (17, .iload_n 1, 1, 0, 0, .null),
  (18, .iadd, 1, 0, 0, .null),
  (19, .iaload, 1, 0, 0, .null),
  (20, .istore_n 2, 1, 0, 0, .null),
  (21, .aload_n 0, 1, 0, 0, .null),
  (22, .invokevirtual 451, 3, 0, 208, .null),
  (25, .istore_n 3, 1, 0, 0, .null),
  (26, .aload_n 0, 1, 0, 0, .null),
  (27, .invokevirtual 454, 3, 0, 214, .null),
  (30, .iconst 0, 1, 0, 0, .null),
  (31, .istore 4, 2, 0, 0, .null),
  (33, .iload 4, 2, 0, 0, .null),
  (35, .aload_n 0, 1, 0, 0, .null),
  (36, .getfield 13, 3, 11, 3, .null),
  (39, .iconst 1, 1, 0, 0, .null),
  (40, .iaload, 1, 0, 0, .null),
  (41, .if_icmp .ge 41, 3, 82, 0, .null),
  (44, .aload_n 0, 1, 0, 0, .null),
  (45, .getfield 115, 3, 11, 42, .null),
  (48, .iload 4, 2, 0, 0, .null),
  (50, .aload_n 0, 1, 0, 0, .null),
  (51, .getfield 13, 3, 11, 3, .null),
  (54, .bipush 26, 2, 0, 0, .null),
  (56, .iload 4, 2, 0, 0, .null),
  (58, .iadd, 1, 0, 0, .null),
  (59, .iaload, 1, 0, 0, .null),
  (60, .iconst (-1), 1, 0, 0, .null),
  (61, .if_icmp .ne 7, 3, 68, 0, .null),
  (64, .iconst 0, 1, 0, 0, .null),
  (65, .goto 10, 3, 75, 0, .null),
  (68, .aload_n 0, 1, 0, 0, .null),
  (69, .iload 4, 2, 0, 0, .null),
  (71, .iload_n 2, 1, 0, 0, .null),
  (72, .invokevirtual 457, 3, 0, 205, .null),
  (75, .iastore, 1, 0, 0, .null),
  (76, .iinc 4 1, 3, 0, 0, .null),
  (79, .goto (-46), 3, 33, 0, .null),
  (82, .aload_n 0, 1, 0, 0, .null),
  (83, .getfield 13, 3, 11, 3, .null),
  (86, .bipush 9, 2, 0, 0, .null),
  (88, .aload_n 0, 1, 0, 0, .null),
  (89, .getfield 13, 3, 11, 3, .null),
  (92, .bipush 9, 2, 0, 0, .null),
  (94, .iaload, 1, 0, 0, .null),
  (95, .iload_n 3, 1, 0, 0, .null),
  (96, .iadd, 1, 0, 0, .null),
  (97, .i2l, 1, 0, 0, .null),
  (98, .iconst 0, 1, 0, 0, .null),
  (99, .sipush 9999, 3, 0, 0, .null),
  (102, .invokestatic 429, 3, 1, 139, .null),
  (105, .iastore, 1, 0, 0, .null),
  (106, .iconst 0, 1, 0, 0, .null),
  (107, .istore 4, 2, 0, 0, .null),
  (109, .iload 4, 2, 0, 0, .null),
  (111, .aload_n 0, 1, 0, 0, .null),
  (112, .getfield 13, 3, 11, 3, .null),
  (115, .iconst 0, 1, 0, 0, .null),
  (116, .iaload, 1, 0, 0, .null),
  (117, .if_icmp .ge 52, 3, 169, 0, .null),
  (120, .aload_n 0, 1, 0, 0, .null),
  (121, .getfield 13, 3, 11, 3, .null),
  (124, .bipush 10, 2, 0, 0, .null),
  (126, .iload 4, 2, 0, 0, .null),
  (128, .iadd, 1, 0, 0, .null),
  (129, .aload_n 0, 1, 0, 0, .null),
  (130, .getfield 13, 3, 11, 3, .null),
  (133, .bipush 10, 2, 0, 0, .null),
  (135, .iload 4, 2, 0, 0, .null),
  (137, .iadd, 1, 0, 0, .null),
  (138, .iaload, 1, 0, 0, .null),
  (139, .aload_n 0, 1, 0, 0, .null),
  (140, .getfield 112, 3, 11, 41, .null),
  (143, .iload 4, 2, 0, 0, .null),
  (145, .iaload, 1, 0, 0, .null),
  (146, .ifCond .le 7, 3, 153, 0, .null),
  (149, .iconst 1, 1, 0, 0, .null),
  (150, .goto 4, 3, 154, 0, .null),
  (153, .iconst 0, 1, 0, 0, .null),
  (154, .iadd, 1, 0, 0, .null),
  (155, .i2l, 1, 0, 0, .null),
  (156, .iconst 0, 1, 0, 0, .null),
  (157, .bipush 9, 2, 0, 0, .null),
  (159, .invokestatic 429, 3, 1, 139, .null),
  (162, .iastore, 1, 0, 0, .null),
  (163, .iinc 4 1, 3, 0, 0, .null),
  (166, .goto (-57), 3, 109, 0, .null),
  (169, .iconst 0, 1, 0, 0, .null),
  (170, .istore 4, 2, 0, 0, .null),
  (172, .iload 4, 2, 0, 0, .null),
  (174, .aload_n 0, 1, 0, 0, .null),
  (175, .getfield 13, 3, 11, 3, .null),
  (178, .iconst 1, 1, 0, 0, .null),
  (179, .iaload, 1, 0, 0, .null),
  (180, .if_icmp .ge 44, 3, 224, 0, .null),
  (183, .aload_n 0, 1, 0, 0, .null),
  (184, .getfield 13, 3, 11, 3, .null),
  (187, .bipush 18, 2, 0, 0, .null),
  (189, .iload 4, 2, 0, 0, .null),
  (191, .iadd, 1, 0, 0, .null),
  (192, .aload_n 0, 1, 0, 0, .null),
  (193, .getfield 13, 3, 11, 3, .null),
  (196, .bipush 18, 2, 0, 0, .null),
  (198, .iload 4, 2, 0, 0, .null),
  (200, .iadd, 1, 0, 0, .null),
  (201, .iaload, 1, 0, 0, .null),
  (202, .aload_n 0, 1, 0, 0, .null),
  (203, .getfield 115, 3, 11, 42, .null),
  (206, .iload 4, 2, 0, 0, .null),
  (208, .iaload, 1, 0, 0, .null),
  (209, .iadd, 1, 0, 0, .null),
  (210, .i2l, 1, 0, 0, .null),
  (211, .iconst 0, 1, 0, 0, .null),
  (212, .bipush 9, 2, 0, 0, .null),
  (214, .invokestatic 429, 3, 1, 139, .null),
  (217, .iastore, 1, 0, 0, .null),
  (218, .iinc 4 1, 3, 0, 0, .null),
  (221, .goto (-49), 3, 172, 0, .null),
  (224, .aload_n 0, 1, 0, 0, .null),
  (225, .getfield 13, 3, 11, 3, .null),
  (228, .bipush 8, 2, 0, 0, .null),
  (230, .iload_n 1, 1, 0, 0, .null),
  (231, .iastore, 1, 0, 0, .null),
  (232, .iload_n 3, 1, 0, 0, .null),
  (233, .ireturn, 1, 0, 0, .null)]
set_option maxRecDepth 100000 in
theorem pm_d216 : pm_c216.all (pm_decB prog_13_method_83_code) = true := by decide +kernel
/-- TrainBearersModel.walkNow(I)I -/
def pm_c217 : List pm_I := [(0, .iload_n 1, 1, 0, 0, .null),
  (1, .invokestatic 219, 3, 1, 151, .null),
  (4, .ifCond .ne 5, 3, 9, 0, .null),
  (7, .iconst (-1), 1, 0, 0, .null),
  (8, .ireturn, 1, 0, 0, .null),
  (9, .aload_n 0, 1, 0, 0, .null),
  (10, .iload_n 1, 1, 0, 0, .null),
  (11, .invokevirtual 460, 3, 0, 215, .null),
  (14, .ifCond .ne 6, 3, 20, 0, .null),
  (17, .bipush (-3), 2, 0, 0, .null),
  (19, .ireturn, 1, 0, 0, .null),
  (20, .aload_n 0, 1, 0, 0, .null),
  (21, .iconst 2, 1, 0, 0, .null),
  (22, .invokevirtual 442, 3, 0, 145, .null),
  (25, .aload_n 0, 1, 0, 0, .null),
  (26, .iload_n 1, 1, 0, 0, .null),
  (27, .invokevirtual 463, 3, 0, 216, .null),
  (30, .ireturn, 1, 0, 0, .null)]
set_option maxRecDepth 100000 in
theorem pm_d217 : pm_c217.all (pm_decB prog_13_method_84_code) = true := by decide +kernel
/-- TrainBearersModel.walk(I)I -/
def pm_c218 : List pm_I := [(0, .aload_n 0, 1, 0, 0, .null),
  (1, .iconst 0, 1, 0, 0, .null),
  (2, .putfield 162, 3, 11, 0, .null),
  (5, .aload_n 0, 1, 0, 0, .null),
  (6, .aload_n 0, 1, 0, 0, .null),
  (7, .iload_n 1, 1, 0, 0, .null),
  (8, .invokevirtual 466, 3, 0, 217, .null),
  (11, .invokevirtual 171, 3, 0, 140, .null),
  (14, .ireturn, 1, 0, 0, .null)]
set_option maxRecDepth 100000 in
theorem pm_d218 : pm_c218.all (pm_decB prog_13_method_85_code) = true := by decide +kernel
/-- TrainBearersModel.restIt()V -/
def pm_c219 : List pm_I := [(0, .iconst 0, 1, 0, 0, .null),
  (1, .istore_n 1, 1, 0, 0, .null),
  (2, .iload_n 1, 1, 0, 0, .null),
  (3, .aload_n 0, 1, 0, 0, .null),
  (4, .getfield 13, 3, 11, 3, .null),
  (7, .iconst 1, 1, 0, 0, .null),
  (8, .iaload, 1, 0, 0, .null),
  (9, .if_icmp .ge 38, 3, 47, 0, .null),
  (12, .aload_n 0, 1, 0, 0, .null),
  (13, .getfield 13, 3, 11, 3, .null),
  (16, .bipush 18, 2, 0, 0, .null),
  (18, .iload_n 1, 1, 0, 0, .null),
  (19, .iadd, 1, 0, 0, .null),
  (20, .dup2, 1, 0, 0, .null),
  (21, .iaload, 1, 0, 0, .null),
  (22, .aload_n 0, 1, 0, 0, .null),
  (23, .getfield 13, 3, 11, 3, .null),
  (26, .bipush 18, 2, 0, 0, .null),
  (28, .iload_n 1, 1, 0, 0, .null),
  (29, .iadd, 1, 0, 0, .null),
  (30, .iaload, 1, 0, 0, .null),
  (31, .ifCond .le 7, 3, 38, 0, .null),
  (34, .iconst 1, 1, 0, 0, .null),
  (35, .goto 4, 3, 39, 0, .null),
  (38, .iconst 0, 1, 0, 0, .null),
  (39, .isub, 1, 0, 0, .null),
  (40, .iastore, 1, 0, 0, .null),
  (41, .iinc 1 1, 3, 0, 0, .null),
  (44, .goto (-42), 3, 2, 0, .null),
  (47, .aload_n 0, 1, 0, 0, .null),
  (48, .getfield 13, 3, 11, 3, .null),
  (51, .iconst 5, 1, 0, 0, .null),
  (52, .dup2, 1, 0, 0, .null),
  (53, .iaload, 1, 0, 0, .null),
  (54, .iconst 1, 1, 0, 0, .null),
  (55, .iadd, 1, 0, 0, .null),
  (56, .iastore, 1, 0, 0, .null),
  (57, .return_, 1, 0, 0, .null)]
set_option maxRecDepth 100000 in
theorem pm_d219 : pm_c219.all (pm_decB prog_13_method_86_code) = true := by decide +kernel
/-- TrainBearersModel.restNow()I -/
def pm_c220 : List pm_I := [(0, .aload_n 0, 1, 0, 0, .null),
  (1, .getfield 13, 3, 11, 3, .null),
  (4, .iconst 5, 1, 0, 0, .null),
  (5, .iaload, 1, 0, 0, .null),
  (6, .sipush 999, 3, 0, 0, .null),
  (9, .if_icmp .ne 6, 3, 15, 0, .null),
  (12, .bipush (-3), 2, 0, 0, .null),
  (14, .ireturn, 1, 0, 0, .null),
  (15, .aload_n 0, 1, 0, 0, .null),
  (16, .iconst 3, 1, 0, 0, .null),
  (17, .invokevirtual 442, 3, 0, 145, .null),
  (20, .aload_n 0, 1, 0, 0, .null),
  (21, .invokevirtual 469, 3, 0, 219, .null),
  (24, .aload_n 0, 1, 0, 0, .null),
  (25, .getfield 13, 3, 11, 3, .null),
  (28, .iconst 5, 1, 0, 0, .null),
  (29, .iaload, 1, 0, 0, .null),
  (30, .ireturn, 1, 0, 0, .null)]
set_option maxRecDepth 100000 in
theorem pm_d220 : pm_c220.all (pm_decB prog_13_method_87_code) = true := by decide +kernel
/-- TrainBearersModel.rest()I -/
def pm_c221 : List pm_I := [(0, .aload_n 0, 1, 0, 0, .null),
  (1, .iconst 0, 1, 0, 0, .null),
  (2, .putfield 162, 3, 11, 0, .null),
  (5, .aload_n 0, 1, 0, 0, .null),
  (6, .aload_n 0, 1, 0, 0, .null),
  (7, .invokevirtual 472, 3, 0, 220, .null),
  (10, .invokevirtual 171, 3, 0, 140, .null),
  (13, .ireturn, 1, 0, 0, .null)]
set_option maxRecDepth 100000 in
theorem pm_d221 : pm_c221.all (pm_decB prog_13_method_88_code) = true := by decide +kernel
/-- TrainBearersModel.costOf(II)I -/
def pm_c222 : List pm_I := [(0, .aload_n 0, 1, 0, 0, .null),
  (1, .getfield 13, 3, 11, 3, .null),
  (4, .bipush 34, 2, 0, 0, .null),
  (6, .iload_n 1, 1, 0, 0, .null),
  (7, .iadd, 1, 0, 0, .null),
  (8, .iaload, 1, 0, 0, .null),
  (9, .aload_n 0, 1, 0, 0, .null),
  (10, .getfield 13, 3, 11, 3, .null),
  (13, .bipush 10, 2, 0, 0, .null),
  (15, .iload_n 1, 1, 0, 0, .null),
  (16, .iadd, 1, 0, 0, .null),
  (17, .iaload, 1, 0, 0, .null),
  (18, .iadd, 1, 0, 0, .null),
  (19, .istore_n 3, 1, 0, 0, .null),
  (20, .iconst 0, 1, 0, 0, .null),
  (21, .istore 4, 2, 0, 0, .null),
  (23, .iload 4, 2, 0, 0, .null),
  (25, .aload_n 0, 1, 0, 0, .null),
  (26, .getfield 13, 3, 11, 3, .null),
  (29, .iconst 1, 1, 0, 0, .null),
  (30, .iaload, 1, 0, 0, .null),
  (31, .if_icmp .ge 51, 3, 82, 0, .null),
  (34, .iload_n 2, 1, 0, 0, .null),
  (35, .iload 4, 2, 0, 0, .null),
  (37, .invokestatic 433, 3, 1, 137, .null),
  (40, .ifCond .eq 36, 3, 76, 0, .null),
  (43, .aload_n 0, 1, 0, 0, .null),
  (44, .getfield 127, 3, 11, 46, .null),
  (47, .bipush 8, 2, 0, 0, .null),
  (49, .iload_n 1, 1, 0, 0, .null),
  (50, .imul, 1, 0, 0, .null),
  (51, .iload 4, 2, 0, 0, .null),
  (53, .iadd, 1, 0, 0, .null),
  (54, .baload, 1, 0, 0, .null),
  (55, .ifCond .eq 6, 3, 61, 0, .null),
  (58, .ldc 245, 2, 0, 0, .int (100000000)),
  (60, .ireturn, 1, 0, 0, .null),
  (61, .iload_n 3, 1, 0, 0, .null),
  (62, .aload_n 0, 1, 0, 0, .null),
  (63, .getfield 124, 3, 11, 45, .null),
  (66, .bipush 8, 2, 0, 0, .null),
  (68, .iload_n 1, 1, 0, 0, .null),
  (69, .imul, 1, 0, 0, .null),
  (70, .iload 4, 2, 0, 0, .null),
  (72, .iadd, 1, 0, 0, .null),
  (73, .iaload, 1, 0, 0, .null),
  (74, .isub, 1, 0, 0, .null),
  (75, .istore_n 3, 1, 0, 0, .null),
  (76, .iinc 4 1, 3, 0, 0, .null),
  (79, .goto (-56), 3, 23, 0, .null),
  (82, .bipush 100, 2, 0, 0, .null),
  (84, .aload_n 0, 1, 0, 0, .null),
  (85, .iload_n 1, 1, 0, 0, .null),
  (86, .iload_n 3, 1, 0, 0, .null),
  (87, .ifCond .ge 7, 3, 94, 0, .null),
  (90, .iconst 0, 1, 0, 0, .null),
  (91, .goto 4, 3, 95, 0, .null),
  (94, .iload_n 3, 1, 0, 0, .null),
  (95, .invokevirtual 204, 3, 0, 206, .null),
  (98, .imul, 1, 0, 0, .null),
  (99, .iload_n 2, 1, 0, 0, .null),
  (100, .invokestatic 436, 3, 1, 138, .null),
  (103, .iadd, 1, 0, 0, .null),
  (104, .ireturn, 1, 0, 0, .null)]
set_option maxRecDepth 100000 in
theorem pm_d222 : pm_c222.all (pm_decB prog_13_method_89_code) = true := by decide +kernel
/-- TrainBearersModel.layCosts()V -/
def pm_c223 : List pm_I := [(0, .iconst 0, 1, 0, 0, .null),
  (1, .istore_n 1, 1, 0, 0, .null),
  (2, .iload_n 1, 1, 0, 0, .null),
  (3, .aload_n 0, 1, 0, 0, .null),
  (4, .getfield 13, 3, 11, 3, .null),
  (7, .iconst 0, 1, 0, 0, .null),
  (8, .iaload, 1, 0, 0, .null),
  (9, .if_icmp .ge 112, 3, 121, 0, .null),
  (12, .iconst 0, 1, 0, 0, .null),
  (13, .istore_n 2, 1, 0, 0, .null),
  (14, .iload_n 2, 1, 0, 0, .null),
  (15, .aload_n 0, 1, 0, 0, .null),
  (16, .getfield 13, 3, 11, 3, .null),
  (19, .iconst 1, 1, 0, 0, .null),
  (20, .iaload, 1, 0, 0, .null),
  (21, .if_icmp .ge 43, 3, 64, 0, .null),
  (24, .aload_n 0, 1, 0, 0, .null),
  (25, .getfield 124, 3, 11, 45, .null),
  (28, .bipush 8, 2, 0, 0, .null),
  (30, .iload_n 1, 1, 0, 0, .null),
  (31, .imul, 1, 0, 0, .null),
  (32, .iload_n 2, 1, 0, 0, .null),
  (33, .iadd, 1, 0, 0, .null),
  (34, .aload_n 0, 1, 0, 0, .null),
  (35, .iload_n 2, 1, 0, 0, .null),
  (36, .iload_n 1, 1, 0, 0, .null),
  (37, .invokevirtual 212, 3, 0, 203, .null),
  (40, .iastore, 1, 0, 0, .null),
  (41, .aload_n 0, 1, 0, 0, .null),
  (42, .getfield 127, 3, 11, 46, .null),
  (45, .bipush 8, 2, 0, 0, .null),
  (47, .iload_n 1, 1, 0, 0, .null),
  (48, .imul, 1, 0, 0, .null),
  (49, .iload_n 2, 1, 0, 0, .null),
  (50, .iadd, 1, 0, 0, .null),
  (51, .aload_n 0, 1, 0, 0, .null),
  (52, .iload_n 2, 1, 0, 0, .null),
  (53, .iload_n 1, 1, 0, 0, .null),
  (54, .invokevirtual 215, 3, 0, 204, .null),
  (57, .bastore, 1, 0, 0, .null),
  (58, .iinc 2 1, 3, 0, 0, .null),
  (61, .goto (-47), 3, 14, 0, .null),
  (64, .iconst 0, 1, 0, 0, .null),
  (65, .istore_n 2, 1, 0, 0, .null),
  (66, .iload_n 2, 1, 0, 0, .null),
  (67, .iconst 1, 1, 0, 0, .null),
  (68, .aload_n 0, 1, 0, 0, .null),
  (69, .getfield 13, 3, 11, 3, .null),
  (72, .iconst 1, 1, 0, 0, .null),
  (73, .iaload, 1, 0, 0, .null),
  (74, .ishl, 1, 0, 0, .null),
  (75, .if_icmp .ge 40, 3, 115, 0, .null),
  (78, .aload_n 0, 1, 0, 0, .null),
  (79, .getfield 118, 3, 11, 43, .null),
  (82, .sipush 256, 3, 0, 0, .null),
  (85, .iload_n 1, 1, 0, 0, .null),
  (86, .imul, 1, 0, 0, .null),
  (87, .iload_n 2, 1, 0, 0, .null),
  (88, .iadd, 1, 0, 0, .null),
  (89, .iload_n 2, 1, 0, 0, .null),
  (90, .invokestatic 436, 3, 1, 138, .null),
  (93, .iconst 2, 1, 0, 0, .null),
  (94, .if_icmp .le 8, 3, 102, 0, .null),
  (97, .ldc 245, 2, 0, 0, .int (100000000)),
  (99, .goto 9, 3, 108, 0, .null),
  (102, .aload_n 0, 1, 0, 0, .null),
  (103, .iload_n 1, 1, 0, 0, .null),
  (104, .iload_n 2, 1, 0, 0, .null),
  (105, .invokevirtual 475, 3, 0, 222, .null),
  (108, .iastore, 1, 0, 0, .null),
  (109, .iinc 2 1, 3, 0, 0, .null),
  (112, .goto (-46), 3, 66, 0, .null),
  (115, .iinc 1 1, 3, 0, 0, .null),
  (118, .goto (-116), 3, 2, 0, .null),
  (121, .return_, 1, 0, 0, .null)]
set_option maxRecDepth 100000 in
theorem pm_d223 : pm_c223.all (pm_decB prog_13_method_90_code) = true := by decide +kernel
/-- TrainBearersModel.with(III)I -/
def pm_c224 : List pm_I := [(0, .iload_n 2, 1, 0, 0, .null),
  (1, .iload_n 3, 1, 0, 0, .null),
  (2, .iand, 1, 0, 0, .null),
  (3, .ifCond .ne 20, 3, 23, 0, .null),
  (6, .aload_n 0, 1, 0, 0, .null),
  (7, .getfield 118, 3, 11, 43, .null),
  (10, .sipush 256, 3, 0, 0, .null),
  (13, .iload_n 1, 1, 0, 0, .null),
  (14, .imul, 1, 0, 0, .null),
  (15, .iload_n 3, 1, 0, 0, .null),
  (16, .iadd, 1, 0, 0, .null),
  (17, .iaload, 1, 0, 0, .null),
  (18, .ldc 245, 2, 0, 0, .int (100000000)),
  (20, .if_icmp .ne 8, 3, 28, 0, .null),
  (23, .ldc 245, 2, 0, 0, .int (100000000)),
  (25, .goto 32, 3, 57, 0, .null),
  (28, .aload_n 0, 1, 0, 0, .null),
  (29, .getfield 118, 3, 11, 43, .null),
  (32, .sipush 256, 3, 0, 0, .null),
  (35, .iload_n 1, 1, 0, 0, .null),
  (36, .imul, 1, 0, 0, .null),
  (37, .iload_n 3, 1, 0, 0, .null),
  (38, .iadd, 1, 0, 0, .null),
  (39, .iaload, 1, 0, 0, .null),
  (40, .aload_n 0, 1, 0, 0, .null),
  (41, .getfield 121, 3, 11, 44, .null),
  (44, .sipush 256, 3, 0, 0, .null),
  (47, .iload_n 1, 1, 0, 0, .null),
  (48, .iconst 1, 1, 0, 0, .null),
  (49, .iadd, 1, 0, 0, .null),
  (50, .imul, 1, 0, 0, .null),
  (51, .iload_n 2, 1, 0, 0, .null),
  (52, .iload_n 3, 1, 0, 0, .null),
  (53, .ior, 1, 0, 0, .null),
  (54, .iadd, 1, 0, 0, .null),
  (55, .iaload, 1, 0, 0, .null),
  (56, .iadd, 1, 0, 0, .null),
  (57, .ireturn, 1, 0, 0, .null)]
set_option maxRecDepth 100000 in
theorem pm_d224 : pm_c224.all (pm_decB prog_13_method_91_code) = true := by decide +kernel
/-- TrainBearersModel.layBorne()V -/
def pm_c225 : List pm_I := [(0, .aload_n 0, 1, 0, 0, .null),
  (1, .getfield 13, 3, 11, 3, .null),
  (4, .iconst 0, 1, 0, 0, .null),
  (5, .iaload, 1, 0, 0, .null),
  (6, .istore_n 1, 1, 0, 0, .null),
  (7, .iconst 0, 1, 0, 0, .null),
  (8, .istore_n 2, 1, 0, 0, .null),
  (9, .iload_n 2, 1, 0, 0, .null),
  (10, .sipush 256, 3, 0, 0, .null),
  (13, .if_icmp .ge 22, 3, 35, 0, .null),
  (16, .aload_n 0, 1, 0, 0, .null),
  (17, .getfield 121, 3, 11, 44, .null),
  (20, .sipush 256, 3, 0, 0, .null),
  (23, .iload_n 1, 1, 0, 0, .null),
  (24, .imul, 1, 0, 0, .null),
  (25, .iload_n 2, 1, 0, 0, .null),
  (26, .iadd, 1, 0, 0, .null),
  (27, .iconst 0, 1, 0, 0, .null),
  (28, .iastore, 1, 0, 0, .null),
  (29, .iinc 2 1, 3, 0, 0, .null),
  (32, .goto (-23), 3, 9, 0, .null),
  (35, .iload_n 1, 1, 0, 0, .null),
  (36, .iconst 1, 1, 0, 0, .null),
  (37, .isub, 1, 0, 0, .null),
  (38, .istore_n 2, 1, 0, 0, .null),
  (39, .iload_n 2, 1, 0, 0, .null),
  (40, .ifCond .lt 95, 3, 135, 0, .null),
  (43, .iconst 0, 1, 0, 0, .null),
  (44, .istore_n 3, 1, 0, 0, .null),
  (45, .iload_n 3, 1, 0, 0, .null),
  (46, .iconst 1, 1, 0, 0, .null),
  (47, .aload_n 0, 1, 0, 0, .null),
  (48, .getfield 13, 3, 11, 3, .null),
  (51, .iconst 1, 1, 0, 0, .null),
  (52, .iaload, 1, 0, 0, .null),
  (53, .ishl, 1, 0, 0, .null),
  (54, .if_icmp .ge 75, 3, 129, 0, .null),
  (57, .ldc 245, 2, 0, 0, .int (100000000)),
  (59, .istore 4, 2, 0, 0, .null),
  (61, .iconst 0, 1, 0, 0, .null),
  (62, .istore 5, 2, 0, 0, .null),
  (64, .iload 5, 2, 0, 0, .null),
  (66, .iconst 1, 1, 0, 0, .null),
  (67, .aload_n 0, 1, 0, 0, .null),
  (68, .getfield 13, 3, 11, 3, .null),
  (71, .iconst 1, 1, 0, 0, .null),
  (72, .iaload, 1, 0, 0, .null),
  (73, .ishl, 1, 0, 0, .null),
  (74, .if_icmp .ge 35, 3, 109, 0, .null),
  (77, .aload_n 0, 1, 0, 0, .null),
  (78, .iload_n 2, 1, 0, 0, .null),
  (79, .iload_n 3, 1, 0, 0, .null),
  (80, .iload 5, 2, 0, 0, .null),
  (82, .invokevirtual 478, 3, 0, 224, .null),
  (85, .istore 6, 2, 0, 0, .null),
  (87, .iload 6, 2, 0, 0, .null),
  (89, .iload 4, 2, 0, 0, .null),
  (91, .if_icmp .ge 8, 3, 99, 0, .null),
  (94, .iload 6, 2, 0, 0, .null),
  (96, .goto 5, 3, 101, 0, .null),
  (99, .iload 4, 2, 0, 0, .null),
  (101, .istore 4, 2, 0, 0, .null),
  (103, .iinc 5 1, 3, 0, 0, .null),
  (106, .goto (-42), 3, 64, 0, .null),
  (109, .aload_n 0, 1, 0, 0, .null),
  (110, .getfield 121, 3, 11, 44, .null),
  (113, .sipush 256, 3, 0, 0, .null),
  (116, .iload_n 2, 1, 0, 0, .null),
  (117, .imul, 1, 0, 0, .null),
  (118, .iload_n 3, 1, 0, 0, .null),
  (119, .iadd, 1, 0, 0, .null),
  (120, .iload 4, 2, 0, 0, .null),
  (122, .iastore, 1, 0, 0, .null),
  (123, .iinc 3 1, 3, 0, 0, .null),
  (126, .goto (-81), 3, 45, 0, .null),
  (129, .iinc 2 (-1), 3, 0, 0, .null),
  (132, .goto (-93), 3, 39, 0, .null),
  (135, .return_, 1, 0, 0, .null)]
set_option maxRecDepth 100000 in
theorem pm_d225 : pm_c225.all (pm_decB prog_13_method_92_code) = true := by decide +kernel
/-- TrainBearersModel.borne(I)I -/
def pm_c226 : List pm_I := [(0, .aload_n 0, 1, 0, 0, .null),
  (1, .iconst 0, 1, 0, 0, .null),
  (2, .putfield 162, 3, 11, 0, .null),
  (5, .iload_n 1, 1, 0, 0, .null),
  (6, .i2l, 1, 0, 0, .null),
  (7, .lconst 0, 1, 0, 0, .null),
  (8, .aload_n 0, 1, 0, 0, .null),
  (9, .getfield 13, 3, 11, 3, .null),
  (12, .iconst 0, 1, 0, 0, .null),
  (13, .iaload, 1, 0, 0, .null),
  (14, .i2l, 1, 0, 0, .null),
  (15, .lconst 1, 1, 0, 0, .null),
  (16, .ladd, 1, 0, 0, .null),
  (17, .invokestatic 182, 3, 1, 136, .null),
  (20, .ifCond .ne 5, 3, 25, 0, .null),
  (23, .iconst (-1), 1, 0, 0, .null),
  (24, .ireturn, 1, 0, 0, .null),
  (25, .aload_n 0, 1, 0, 0, .null),
  (26, .invokevirtual 482, 3, 0, 223, .null),
  (29, .aload_n 0, 1, 0, 0, .null),
  (30, .invokevirtual 485, 3, 0, 225, .null),
  (33, .iload_n 1, 1, 0, 0, .null),
  (34, .iconst 2, 1, 0, 0, .null),
  (35, .if_icmp .ge 29, 3, 64, 0, .null),
  (38, .iload_n 1, 1, 0, 0, .null),
  (39, .ifCond .ne 15, 3, 54, 0, .null),
  (42, .aload_n 0, 1, 0, 0, .null),
  (43, .getfield 121, 3, 11, 44, .null),
  (46, .iconst 0, 1, 0, 0, .null),
  (47, .iaload, 1, 0, 0, .null),
  (48, .bipush 100, 2, 0, 0, .null),
  (50, .idiv, 1, 0, 0, .null),
  (51, .goto 12, 3, 63, 0, .null),
  (54, .aload_n 0, 1, 0, 0, .null),
  (55, .getfield 121, 3, 11, 44, .null),
  (58, .iconst 0, 1, 0, 0, .null),
  (59, .iaload, 1, 0, 0, .null),
  (60, .bipush 100, 2, 0, 0, .null),
  (62, .irem, 1, 0, 0, .null),
  (63, .ireturn, 1, 0, 0, .null),
  (64, .iconst 0, 1, 0, 0, .null),
  (65, .istore_n 2, 1, 0, 0, .null),
  (66, .iconst 0, 1, 0, 0, .null),
  (67, .istore_n 3, 1, 0, 0, .null),
  (68, .iconst 0, 1, 0, 0, .null),
  (69, .istore 4, 2, 0, 0, .null),
  (71, .iload 4, 2, 0, 0, .null),
  (73, .iload_n 1, 1, 0, 0, .null),
  (74, .iconst 1, 1, 0, 0, .null),
  (75, .isub, 1, 0, 0, .null),
  (76, .if_icmp .ge 45, 3, 121, 0, .null),
  (79, .iconst 0, 1, 0, 0, .null),
  (80, .istore_n 3, 1, 0, 0, .null),
  (81, .aload_n 0, 1, 0, 0, .null),
  (82, .iload 4, 2, 0, 0, .null),
  (84, .iload_n 2, 1, 0, 0, .null),
  (85, .iload_n 3, 1, 0, 0, .null),
  (86, .invokevirtual 478, 3, 0, 224, .null),
  (89, .aload_n 0, 1, 0, 0, .null),
  (90, .getfield 121, 3, 11, 44, .null),
  (93, .sipush 256, 3, 0, 0, .null),
  (96, .iload 4, 2, 0, 0, .null),
  (98, .imul, 1, 0, 0, .null),
  (99, .iload_n 2, 1, 0, 0, .null),
  (100, .iadd, 1, 0, 0, .null),
  (101, .iaload, 1, 0, 0, .null),
  (102, .if_icmp .eq 9, 3, 111, 0, .null),
  (105, .iinc 3 1, 3, 0, 0, .null),
  (108, .goto (-27), 3, 81, 0, .null),
  (111, .iload_n 2, 1, 0, 0, .null),
  (112, .iload_n 3, 1, 0, 0, .null),
  (113, .ior, 1, 0, 0, .null),
  (114, .istore_n 2, 1, 0, 0, .null),
  (115, .iinc 4 1, 3, 0, 0, .null),
  (118, .goto (-47), 3, 71, 0, .null),
  (121, .iload_n 3, 1, 0, 0, .null),
  (122, .ireturn, 1, 0, 0, .null)]
set_option maxRecDepth 100000 in
theorem pm_d226 : pm_c226.all (pm_decB prog_13_method_93_code) = true := by decide +kernel
/-- TrainBearersModel.exchanged(I)I -/
def pm_c227 : List pm_I := [(0, .aload_n 0, 1, 0, 0, .null),
  (1, .iconst 0, 1, 0, 0, .null),
  (2, .putfield 162, 3, 11, 0, .null),
  (5, .iload_n 1, 1, 0, 0, .null),
  (6, .i2l, 1, 0, 0, .null),
  (7, .lconst 0, 1, 0, 0, .null),
  (8, .lconst 1, 1, 0, 0, .null),
  (9, .invokestatic 182, 3, 1, 136, .null),
  (12, .ifCond .ne 5, 3, 17, 0, .null),
  (15, .iconst (-1), 1, 0, 0, .null),
  (16, .ireturn, 1, 0, 0, .null),
  (17, .aload_n 0, 1, 0, 0, .null),
  (18, .invokevirtual 451, 3, 0, 208, .null),
  (21, .istore_n 2, 1, 0, 0, .null),
  (22, .iconst (-1), 1, 0, 0, .null),
  (23, .istore_n 3, 1, 0, 0, .null),
  (24, .iconst 0, 1, 0, 0, .null),
  (25, .istore 4, 2, 0, 0, .null),
  (27, .iload 4, 2, 0, 0, .null),
  (29, .aload_n 0, 1, 0, 0, .null),
  (30, .getfield 13, 3, 11, 3, .null),
  (33, .iconst 1, 1, 0, 0, .null),
  (34, .iaload, 1, 0, 0, .null),
  (35, .if_icmp .ge 195, 3, 230, 0, .null),
  (38, .iload 4, 2, 0, 0, .null),
  (40, .iconst 1, 1, 0, 0, .null),
  (41, .iadd, 1, 0, 0, .null),
  (42, .istore 5, 2, 0, 0, .null),
  (44, .iload 5, 2, 0, 0, .null),
  (46, .aload_n 0, 1, 0, 0, .null),
  (47, .getfield 13, 3, 11, 3, .null),
  (50, .iconst 1, 1, 0, 0, .null),
  (51, .iaload, 1, 0, 0, .null),
  (52, .if_icmp .ge 172, 3, 224, 0, .null),
  (55, .aload_n 0, 1, 0, 0, .null),
  (56, .getfield 13, 3, 11, 3, .null),
  (59, .bipush 26, 2, 0, 0, .null),
  (61, .iload 4, 2, 0, 0, .null),
  (63, .iadd, 1, 0, 0, .null),
  (64, .iaload, 1, 0, 0, .null),
  (65, .istore 6, 2, 0, 0, .null),
  (67, .aload_n 0, 1, 0, 0, .null),
  (68, .getfield 13, 3, 11, 3, .null),
  (71, .bipush 26, 2, 0, 0, .null),
  (73, .iload 5, 2, 0, 0, .null),
  (75, .iadd, 1, 0, 0, .null),
  (76, .iaload, 1, 0, 0, .null),
  (77, .istore 7, 2, 0, 0, .null),
  (79, .iload 6, 2, 0, 0, .null),
  (81, .iload 7, 2, 0, 0, .null),
  (83, .if_icmp .eq 41, 3, 124, 0, .null),
  (86, .iload 7, 2, 0, 0, .null),
  (88, .iconst (-1), 1, 0, 0, .null),
  (89, .if_icmp .eq 14, 3, 103, 0, .null),
  (92, .aload_n 0, 1, 0, 0, .null),
  (93, .iload 4, 2, 0, 0, .null),
  (95, .iload 7, 2, 0, 0, .null),
  (97, .invokevirtual 215, 3, 0, 204, .null),
  (100, .ifCond .ne 24, 3, 124, 0, .null),
  (103, .iload 6, 2, 0, 0, .null),
  (105, .iconst (-1), 1, 0, 0, .null),
  (106, .if_icmp .eq 14, 3, 120, 0, .null),
  (109, .aload_n 0, 1, 0, 0, .null),
  (110, .iload 5, 2, 0, 0, .null),
  (112, .iload 6, 2, 0, 0, .null),
  (114, .invokevirtual 215, 3, 0, 204, .null),
  (117, .ifCond .ne 7, 3, 124, 0, .null),
  (120, .iconst 1, 1, 0, 0, .null),
  (121, .goto 4, 3, 125, 0, .null),
  (124, .iconst 0, 1, 0, 0, .null),
  (125, .istore 8, 2, 0, 0, .null),
  (127, .iload 8, 2, 0, 0, .null),
  (129, .ifCond .eq 89, 3, 218, 0, .null),
  (132, .aload_n 0, 1, 0, 0, .null),
  (133, .getfield 13, 3, 11, 3, .null),
  (136, .bipush 26, 2, 0, 0, .null),
  (138, .iload 4, 2, 0, 0, .null),
  (140, .iadd, 1, 0, 0, .null),
  (141, .iload 7, 2, 0, 0, .null),
  (143, .iastore, 1, 0, 0, .null),
  (144, .aload_n 0, 1, 0, 0, .null),
  (145, .getfield 13, 3, 11, 3, .null),
  (148, .bipush 26, 2, 0, 0, .null),
  (150, .iload 5, 2, 0, 0, .null),
  (152, .iadd, 1, 0, 0, .null),
  (153, .iload 6, 2, 0, 0, .null),
  (155, .iastore, 1, 0, 0, .null),
  (156, .aload_n 0, 1, 0, 0, .null),
  (157, .invokevirtual 451, 3, 0, 208, .null),
  (160, .istore 9, 2, 0, 0, .null),
  (162, .aload_n 0, 1, 0, 0, .null),
  (163, .getfield 13, 3, 11, 3, .null),
  (166, .bipush 26, 2, 0, 0, .null),
  (168, .iload 4, 2, 0, 0, .null),
  (170, .iadd, 1, 0, 0, .null),
  (171, .iload 6, 2, 0, 0, .null),
  (173, .iastore, 1, 0, 0, .null),
  (174, .aload_n 0, 1, 0, 0, .null),
  (175, .getfield 13, 3, 11, 3, .null),
  (178, .bipush 26, 2, 0, 0, .null),
  (180, .iload 5, 2, 0, 0, .null),
  (182, .iadd, 1, 0, 0, .null),
  (183, .iload 7, 2, 0, 0, .null),
  (185, .iastore, 1, 0, 0, .null),
  (186, .iload 9, 2, 0, 0, .null),
  (188, .iload_n 2, 1, 0, 0, .null),
  (189, .if_icmp .ge 14, 3, 203, 0, .null),
  (192, .bipush 10, 2, 0, 0, .null),
  (194, .iload 4, 2, 0, 0, .null),
  (196, .imul, 1, 0, 0, .null),
  (197, .iload 5, 2, 0, 0, .null),
  (199, .iadd, 1, 0, 0, .null),
  (200, .goto 4, 3, 204, 0, .null),
  (203, .iload_n 3, 1, 0, 0, .null),
  (204, .istore_n 3, 1, 0, 0, .null),
  (205, .iload 9, 2, 0, 0, .null),
  (207, .iload_n 2, 1, 0, 0, .null),
  (208, .if_icmp .ge 8, 3, 216, 0, .null),
  (211, .iload 9, 2, 0, 0, .null),
  (213, .goto 4, 3, 217, 0, .null),
  (216, .iload_n 2, 1, 0, 0, .null),
  (217, .istore_n 2, 1, 0, 0, .null),
  (218, .iinc 5 1, 3, 0, 0, .null),
  (221, .goto (-177), 3, 44, 0, .null),
  (224, .iinc 4 1, 3, 0, 0, .null),
  (227, .goto (-200), 3, 27, 0, .null),
  (230, .iload_n 3, 1, 0, 0, .null),
  (231, .iconst (-1), 1, 0, 0, .null),
  (232, .if_icmp .eq 7, 3, 239, 0, .null),
  (235, .iload_n 1, 1, 0, 0, .null),
  (236, .ifCond .ne 7, 3, 243, 0, .null),
  (239, .iload_n 3, 1, 0, 0, .null),
  (240, .goto 4, 3, 244, 0, .null),
  (243, .iload_n 2, 1, 0, 0, .null),
  (244, .ireturn, 1, 0, 0, .null)]
set_option maxRecDepth 100000 in
theorem pm_d227 : pm_c227.all (pm_decB prog_13_method_94_code) = true := by decide +kernel
/-- TrainBearersModel.seen(II)I -/
def pm_c228 : List pm_I := [(0, .aload_n 0, 1, 0, 0, .null),
  (1, .iconst 0, 1, 0, 0, .null),
  (2, .putfield 162, 3, 11, 0, .null),
  (5, .iload_n 2, 1, 0, 0, .null),
  (6, .i2l, 1, 0, 0, .null),
  (7, .lconst 0, 1, 0, 0, .null),
  (8, .ldc2_w 488, 3, 1, 0, .long (40)),
  (11, .invokestatic 182, 3, 1, 136, .null),
  (14, .ifCond .ne 9, 3, 23, 0, .null),
  (17, .aload_n 0, 1, 0, 0, .null),
  (18, .iconst (-1), 1, 0, 0, .null),
  (19, .invokevirtual 171, 3, 0, 140, .null),
  (22, .ireturn, 1, 0, 0, .null),
  (23, .aload_n 0, 1, 0, 0, .null),
  (24, .iload_n 1, 1, 0, 0, .null),
  (25, .invokevirtual 193, 3, 0, 149, .null),
  (28, .ifCond .ne 10, 3, 38, 0, .null),
  (31, .aload_n 0, 1, 0, 0, .null),
  (32, .bipush (-2), 2, 0, 0, .null),
  (34, .invokevirtual 171, 3, 0, 140, .null),
  (37, .ireturn, 1, 0, 0, .null),
  (38, .aload_n 0, 1, 0, 0, .null),
  (39, .getfield 13, 3, 11, 3, .null),
  (42, .iconst 2, 1, 0, 0, .null),
  (43, .iaload, 1, 0, 0, .null),
  (44, .istore_n 3, 1, 0, 0, .null),
  (45, .iload_n 3, 1, 0, 0, .null),
  (46, .bipush 6, 2, 0, 0, .null),
  (48, .if_icmp .ne 10, 3, 58, 0, .null),
  (51, .aload_n 0, 1, 0, 0, .null),
  (52, .bipush (-5), 2, 0, 0, .null),
  (54, .invokevirtual 171, 3, 0, 140, .null),
  (57, .ireturn, 1, 0, 0, .null),
  (58, .aload_n 0, 1, 0, 0, .null),
  (59, .getfield 13, 3, 11, 3, .null),
  (62, .bipush 86, 2, 0, 0, .null),
  (64, .iconst 2, 1, 0, 0, .null),
  (65, .iload_n 3, 1, 0, 0, .null),
  (66, .imul, 1, 0, 0, .null),
  (67, .iadd, 1, 0, 0, .null),
  (68, .iload_n 1, 1, 0, 0, .null),
  (69, .iastore, 1, 0, 0, .null),
  (70, .aload_n 0, 1, 0, 0, .null),
  (71, .getfield 13, 3, 11, 3, .null),
  (74, .bipush 86, 2, 0, 0, .null),
  (76, .iconst 2, 1, 0, 0, .null),
  (77, .iload_n 3, 1, 0, 0, .null),
  (78, .imul, 1, 0, 0, .null),
  (79, .iadd, 1, 0, 0, .null),
  (80, .iconst 1, 1, 0, 0, .null),
  (81, .iadd, 1, 0, 0, .null),
  (82, .iload_n 2, 1, 0, 0, .null),
  (83, .iastore, 1, 0, 0, .null),
  (84, .aload_n 0, 1, 0, 0, .null),
  (85, .getfield 13, 3, 11, 3, .null),
  (88, .iconst 2, 1, 0, 0, .null),
  (89, .dup2, 1, 0, 0, .null),
  (90, .iaload, 1, 0, 0, .null),
  (91, .iconst 1, 1, 0, 0, .null),
  (92, .iadd, 1, 0, 0, .null),
  (93, .iastore, 1, 0, 0, .null),
  (94, .aload_n 0, 1, 0, 0, .null),
  (95, .iload_n 3, 1, 0, 0, .null),
  (96, .iconst 1, 1, 0, 0, .null),
  (97, .iadd, 1, 0, 0, .null),
  (98, .invokevirtual 171, 3, 0, 140, .null),
  (101, .ireturn, 1, 0, 0, .null)]
set_option maxRecDepth 100000 in
theorem pm_d228 : pm_c228.all (pm_decB prog_13_method_95_code) = true := by decide +kernel
/-- TrainBearersModel.forget()I -/
def pm_c229 : List pm_I := [(0, .aload_n 0, 1, 0, 0, .null),
  (1, .iconst 0, 1, 0, 0, .null),
  (2, .putfield 162, 3, 11, 0, .null),
  (5, .aload_n 0, 1, 0, 0, .null),
  (6, .getfield 13, 3, 11, 3, .null),
  (9, .iconst 2, 1, 0, 0, .null),
  (10, .iaload, 1, 0, 0, .null),
  (11, .istore_n 1, 1, 0, 0, .null),
  (12, .aload_n 0, 1, 0, 0, .null),
  (13, .getfield 13, 3, 11, 3, .null),
  (16, .iconst 2, 1, 0, 0, .null),
  (17, .iconst 0, 1, 0, 0, .null),
  (18, .iastore, 1, 0, 0, .null),
  (19, .iload_n 1, 1, 0, 0, .null),
  (20, .ireturn, 1, 0, 0, .null)]
set_option maxRecDepth 100000 in
theorem pm_d229 : pm_c229.all (pm_decB prog_13_method_96_code) = true := by decide +kernel
/-- TrainBearersModel.dipWithout(II)I -/
def pm_c230 : List pm_I := [(0, .aload_n 0, 1, 0, 0, .null),
  (1, .iload_n 1, 1, 0, 0, .null),
  (2, .aload_n 0, 1, 0, 0, .null),
  (3, .iload_n 1, 1, 0, 0, .null),
  (4, .invokevirtual 197, 3, 0, 152, .null),
  (7, .iconst 1, 1, 0, 0, .null),
  (8, .iload_n 2, 1, 0, 0, .null),
  (9, .ishl, 1, 0, 0, .null),
  (10, .iconst (-1), 1, 0, 0, .null),
  (11, .ixor, 1, 0, 0, .null),
  (12, .iand, 1, 0, 0, .null),
  (13, .invokevirtual 200, 3, 0, 207, .null),
  (16, .ireturn, 1, 0, 0, .null)]
set_option maxRecDepth 100000 in
theorem pm_d230 : pm_c230.all (pm_decB prog_13_method_97_code) = true := by decide +kernel
/-- TrainBearersModel.whoLetGo()I -/
def pm_c231 : List pm_I := [(0, .iconst 0, 1, 0, 0, .null),
  (1, .istore_n 1, 1, 0, 0, .null),
  (2, .iconst 0, 1, 0, 0, .null),
  (3, .istore_n 2, 1, 0, 0, .null),
  (4, .iload_n 2, 1, 0, 0, .null),
  (5, .aload_n 0, 1, 0, 0, .null),
  (6, .getfield 13, 3, 11, 3, .null),
  (9, .iconst 1, 1, 0, 0, .null),
  (10, .iaload, 1, 0, 0, .null),
  (11, .if_icmp .ge 106, 3, 117, 0, .null),
  (14, .aload_n 0, 1, 0, 0, .null),
  (15, .getfield 13, 3, 11, 3, .null),
  (18, .bipush 26, 2, 0, 0, .null),
  (20, .iload_n 2, 1, 0, 0, .null),
  (21, .iadd, 1, 0, 0, .null),
  (22, .iaload, 1, 0, 0, .null),
  (23, .iconst (-1), 1, 0, 0, .null),
  (24, .if_icmp .eq 7, 3, 31, 0, .null),
  (27, .iconst 1, 1, 0, 0, .null),
  (28, .goto 4, 3, 32, 0, .null),
  (31, .iconst 0, 1, 0, 0, .null),
  (32, .istore_n 3, 1, 0, 0, .null),
  (33, .iconst 0, 1, 0, 0, .null),
  (34, .istore 4, 2, 0, 0, .null),
  (36, .iload 4, 2, 0, 0, .null),
  (38, .aload_n 0, 1, 0, 0, .null),
  (39, .getfield 13, 3, 11, 3, .null),
  (42, .iconst 2, 1, 0, 0, .null),
  (43, .iaload, 1, 0, 0, .null),
  (44, .if_icmp .ge 53, 3, 97, 0, .null),
  (47, .iload_n 3, 1, 0, 0, .null),
  (48, .ifCond .eq 49, 3, 97, 0, .null),
  (51, .aload_n 0, 1, 0, 0, .null),
  (52, .aload_n 0, 1, 0, 0, .null),
  (53, .getfield 13, 3, 11, 3, .null),
  (56, .bipush 86, 2, 0, 0, .null),
  (58, .iconst 2, 1, 0, 0, .null),
  (59, .iload 4, 2, 0, 0, .null),
  (61, .imul, 1, 0, 0, .null),
  (62, .iadd, 1, 0, 0, .null),
  (63, .iaload, 1, 0, 0, .null),
  (64, .iload_n 2, 1, 0, 0, .null),
  (65, .invokevirtual 490, 3, 0, 230, .null),
  (68, .aload_n 0, 1, 0, 0, .null),
  (69, .getfield 13, 3, 11, 3, .null),
  (72, .bipush 86, 2, 0, 0, .null),
  (74, .iconst 2, 1, 0, 0, .null),
  (75, .iload 4, 2, 0, 0, .null),
  (77, .imul, 1, 0, 0, .null),
  (78, .iadd, 1, 0, 0, .null),
  (79, .iconst 1, 1, 0, 0, .null),
  (80, .iadd, 1, 0, 0, .null),
  (81, .iaload, 1, 0, 0, .null),
  (82, .if_icmp .ne 7, 3, 89, 0, .null),
  (85, .iconst 1, 1, 0, 0, .null),
  (86, .goto 4, 3, 90, 0, .null),
  (89, .iconst 0, 1, 0, 0, .null),
  (90, .istore_n 3, 1, 0, 0, .null),
  (91, .iinc 4 1, 3, 0, 0, .null),
  (94, .goto (-58), 3, 36, 0, .null),
  (97, .iload_n 1, 1, 0, 0, .null),
  (98, .iload_n 3, 1, 0, 0, .null),
  (99, .ifCond .eq 9, 3, 108, 0, .null),
  (102, .iconst 1, 1, 0, 0, .null),
  (103, .iload_n 2, 1, 0, 0, .null),
  (104, .ishl, 1, 0, 0, .null),
  (105, .goto 4, 3, 109, 0, .null),
  (108, .iconst 0, 1, 0, 0, .null),
  (109, .ior, 1, 0, 0, .null),
  (110, .istore_n 1, 1, 0, 0, .null),
  (111, .iinc 2 1, 3, 0, 0, .null),
  (114, .goto (-110), 3, 4, 0, .null),
  (117, .iload_n 1, 1, 0, 0, .null),
  (118, .ireturn, 1, 0, 0, .null)]
set_option maxRecDepth 100000 in
theorem pm_d231 : pm_c231.all (pm_decB prog_13_method_98_code) = true := by decide +kernel
/-- TrainBearersModel.letGo()I -/
def pm_c232 : List pm_I := [(0, .aload_n 0, 1, 0, 0, .null),
  (1, .iconst 0, 1, 0, 0, .null),
  (2, .putfield 162, 3, 11, 0, .null),
  (5, .aload_n 0, 1, 0, 0, .null),
  (6, .invokevirtual 493, 3, 0, 231, .null),
  (9, .ireturn, 1, 0, 0, .null)]
set_option maxRecDepth 100000 in
theorem pm_d232 : pm_c232.all (pm_decB prog_13_method_99_code) = true := by decide +kernel
/-- TrainBearersModel.look(I)I -/
def pm_c233 : List pm_I := [(0, .aload_n 0, 1, 0, 0, .null),
  (1, .iconst 0, 1, 0, 0, .null),
  (2, .putfield 162, 3, 11, 0, .null),
  (5, .aload_n 0, 1, 0, 0, .null),
  (6, .invokevirtual 493, 3, 0, 231, .null),
  (9, .istore_n 2, 1, 0, 0, .null),
  (10, .iload_n 1, 1, 0, 0, .null),
  (11, .i2l, 1, 0, 0, .null),
  (12, .lconst 0, 1, 0, 0, .null),
  (13, .lconst 1, 1, 0, 0, .null),
  (14, .invokestatic 182, 3, 1, 136, .null),
  (17, .ifCond .eq 7, 3, 24, 0, .null),
  (20, .iload_n 2, 1, 0, 0, .null),
  (21, .ifCond .ne 5, 3, 26, 0, .null),
  (24, .iconst (-1), 1, 0, 0, .null),
  (25, .ireturn, 1, 0, 0, .null),
  (26, .ldc 245, 2, 0, 0, .int (100000000)),
  (28, .istore_n 3, 1, 0, 0, .null),
  (29, .iconst (-1), 1, 0, 0, .null),
  (30, .istore 4, 2, 0, 0, .null),
  (32, .iconst 0, 1, 0, 0, .null),
  (33, .istore 5, 2, 0, 0, .null),
  (35, .iload 5, 2, 0, 0, .null),
  (37, .aload_n 0, 1, 0, 0, .null),
  (38, .getfield 13, 3, 11, 3, .null),
  (41, .iconst 0, 1, 0, 0, .null),
  (42, .iaload, 1, 0, 0, .null),
  (43, .if_icmp .ge 140, 3, 183, 0, .null),
  (46, .iconst 0, 1, 0, 0, .null),
  (47, .istore 6, 2, 0, 0, .null),
  (49, .iload 6, 2, 0, 0, .null),
  (51, .bipush 41, 2, 0, 0, .null),
  (53, .if_icmp .ge 17, 3, 70, 0, .null),
  (56, .aload_n 0, 1, 0, 0, .null),
  (57, .getfield 130, 3, 11, 47, .null),
  (60, .iload 6, 2, 0, 0, .null),
  (62, .iconst 0, 1, 0, 0, .null),
  (63, .iastore, 1, 0, 0, .null),
  (64, .iinc 6 1, 3, 0, 0, .null),
  (67, .goto (-18), 3, 49, 0, .null),
  (70, .iconst 0, 1, 0, 0, .null),
  (71, .istore 6, 2, 0, 0, .null),
  (73, .iconst 0, 1, 0, 0, .null),
  (74, .istore 7, 2, 0, 0, .null),
  (76, .iload 7, 2, 0, 0, .null),
  (78, .aload_n 0, 1, 0, 0, .null),
  (79, .getfield 13, 3, 11, 3, .null),
  (82, .iconst 1, 1, 0, 0, .null),
  (83, .iaload, 1, 0, 0, .null),
  (84, .if_icmp .ge 65, 3, 149, 0, .null),
  (87, .iload_n 2, 1, 0, 0, .null),
  (88, .iload 7, 2, 0, 0, .null),
  (90, .invokestatic 433, 3, 1, 137, .null),
  (93, .ifCond .eq 50, 3, 143, 0, .null),
  (96, .aload_n 0, 1, 0, 0, .null),
  (97, .iload 5, 2, 0, 0, .null),
  (99, .iload 7, 2, 0, 0, .null),
  (101, .invokevirtual 490, 3, 0, 230, .null),
  (104, .istore 8, 2, 0, 0, .null),
  (106, .aload_n 0, 1, 0, 0, .null),
  (107, .getfield 130, 3, 11, 47, .null),
  (110, .iload 8, 2, 0, 0, .null),
  (112, .dup2, 1, 0, 0, .null),
  (113, .iaload, 1, 0, 0, .null),
  (114, .iconst 1, 1, 0, 0, .null),
  (115, .iadd, 1, 0, 0, .null),
  (116, .iastore, 1, 0, 0, .null),
  (117, .aload_n 0, 1, 0, 0, .null),
  (118, .getfield 130, 3, 11, 47, .null),
  (121, .iload 8, 2, 0, 0, .null),
  (123, .iaload, 1, 0, 0, .null),
  (124, .iload 6, 2, 0, 0, .null),
  (126, .if_icmp .le 13, 3, 139, 0, .null),
  (129, .aload_n 0, 1, 0, 0, .null),
  (130, .getfield 130, 3, 11, 47, .null),
  (133, .iload 8, 2, 0, 0, .null),
  (135, .iaload, 1, 0, 0, .null),
  (136, .goto 5, 3, 141, 0, .null),
  (139, .iload 6, 2, 0, 0, .null),
  (141, .istore 6, 2, 0, 0, .null),
  (143, .iinc 7 1, 3, 0, 0, .null),
  (146, .goto (-70), 3, 76, 0, .null),
  (149, .iload 6, 2, 0, 0, .null),
  (151, .iload_n 3, 1, 0, 0, .null),
  (152, .if_icmp .ge 8, 3, 160, 0, .null),
  (155, .iload 5, 2, 0, 0, .null),
  (157, .goto 5, 3, 162, 0, .null),
  (160, .iload 4, 2, 0, 0, .null),
  (162, .istore 4, 2, 0, 0, .null),
  (164, .iload 6, 2, 0, 0, .null),
  (166, .iload_n 3, 1, 0, 0, .null),
  (167, .if_icmp .ge 8, 3, 175, 0, .null),
  (170, .iload 6, 2, 0, 0, .null),
  (172, .goto 4, 3, 176, 0, .null),
  (175, .iload_n 3, 1, 0, 0, .null),
  (176, .istore_n 3, 1, 0, 0, .null),
  (177, .iinc 5 1, 3, 0, 0, .null),
  (180, .goto (-145), 3, 35, 0, .null),
  (183, .iload_n 1, 1, 0, 0, .null),
  (184, .ifCond .ne 8, 3, 192, 0, .null),
  (187, .iload 4, 2, 0, 0, .null),
  (189, .goto 4, 3, 193, 0, .null),
  (192, .iload_n 3, 1, 0, 0, .null),
  (193, .ireturn, 1, 0, 0, .null)]
set_option maxRecDepth 100000 in
theorem pm_d233 : pm_c233.all (pm_decB prog_13_method_100_code) = true := by decide +kernel
/-- TrainBearersModel.costTo(II)I -/
def pm_c234 : List pm_I := [(0, .aload_n 0, 1, 0, 0, .null),
  (1, .getfield 13, 3, 11, 3, .null),
  (4, .bipush 50, 2, 0, 0, .null),
  (6, .bipush 6, 2, 0, 0, .null),
  (8, .iload_n 1, 1, 0, 0, .null),
  (9, .imul, 1, 0, 0, .null),
  (10, .iadd, 1, 0, 0, .null),
  (11, .iload_n 2, 1, 0, 0, .null),
  (12, .iadd, 1, 0, 0, .null),
  (13, .iaload, 1, 0, 0, .null),
  (14, .istore_n 3, 1, 0, 0, .null),
  (15, .iload_n 3, 1, 0, 0, .null),
  (16, .iconst (-1), 1, 0, 0, .null),
  (17, .if_icmp .eq 14, 3, 31, 0, .null),
  (20, .aload_n 0, 1, 0, 0, .null),
  (21, .getfield 133, 3, 11, 48, .null),
  (24, .iload_n 2, 1, 0, 0, .null),
  (25, .iaload, 1, 0, 0, .null),
  (26, .ldc 245, 2, 0, 0, .int (100000000)),
  (28, .if_icmp .ne 8, 3, 36, 0, .null),
  (31, .ldc 245, 2, 0, 0, .int (100000000)),
  (33, .goto 16, 3, 49, 0, .null),
  (36, .bipush 100, 2, 0, 0, .null),
  (38, .iload_n 3, 1, 0, 0, .null),
  (39, .imul, 1, 0, 0, .null),
  (40, .iconst 1, 1, 0, 0, .null),
  (41, .iadd, 1, 0, 0, .null),
  (42, .aload_n 0, 1, 0, 0, .null),
  (43, .getfield 133, 3, 11, 48, .null),
  (46, .iload_n 2, 1, 0, 0, .null),
  (47, .iaload, 1, 0, 0, .null),
  (48, .iadd, 1, 0, 0, .null),
  (49, .ireturn, 1, 0, 0, .null)]
set_option maxRecDepth 100000 in
theorem pm_d234 : pm_c234.all (pm_decB prog_13_method_101_code) = true := by decide +kernel
/-- TrainBearersModel.layLeft(I)V -/
def pm_c235 : List pm_I := [(0, .iconst 0, 1, 0, 0, .null),
  (1, .istore_n 2, 1, 0, 0, .null),
  (2, .iload_n 2, 1, 0, 0, .null),
  (3, .bipush 6, 2, 0, 0, .null),
  (5, .if_icmp .ge 26, 3, 31, 0, .null),
  (8, .aload_n 0, 1, 0, 0, .null),
  (9, .getfield 133, 3, 11, 48, .null),
  (12, .iload_n 2, 1, 0, 0, .null),
  (13, .iload_n 2, 1, 0, 0, .null),
  (14, .iload_n 1, 1, 0, 0, .null),
  (15, .if_icmp .ne 7, 3, 22, 0, .null),
  (18, .iconst 0, 1, 0, 0, .null),
  (19, .goto 5, 3, 24, 0, .null),
  (22, .ldc 245, 2, 0, 0, .int (100000000)),
  (24, .iastore, 1, 0, 0, .null),
  (25, .iinc 2 1, 3, 0, 0, .null),
  (28, .goto (-26), 3, 2, 0, .null),
  (31, .iconst 1, 1, 0, 0, .null),
  (32, .istore_n 2, 1, 0, 0, .null),
  (33, .iload_n 2, 1, 0, 0, .null),
  (34, .ifCond .eq 69, 3, 103, 0, .null),
  (37, .iconst 0, 1, 0, 0, .null),
  (38, .istore_n 2, 1, 0, 0, .null),
  (39, .iconst 0, 1, 0, 0, .null),
  (40, .istore_n 3, 1, 0, 0, .null),
  (41, .iload_n 3, 1, 0, 0, .null),
  (42, .bipush 6, 2, 0, 0, .null),
  (44, .if_icmp .ge 56, 3, 100, 0, .null),
  (47, .iconst 0, 1, 0, 0, .null),
  (48, .istore 4, 2, 0, 0, .null),
  (50, .iload 4, 2, 0, 0, .null),
  (52, .bipush 6, 2, 0, 0, .null),
  (54, .if_icmp .ge 40, 3, 94, 0, .null),
  (57, .aload_n 0, 1, 0, 0, .null),
  (58, .iload_n 3, 1, 0, 0, .null),
  (59, .iload 4, 2, 0, 0, .null),
  (61, .invokevirtual 496, 3, 0, 234, .null),
  (64, .aload_n 0, 1, 0, 0, .null),
  (65, .getfield 133, 3, 11, 48, .null),
  (68, .iload_n 3, 1, 0, 0, .null),
  (69, .iaload, 1, 0, 0, .null),
  (70, .if_icmp .ge 18, 3, 88, 0, .null),
  (73, .aload_n 0, 1, 0, 0, .null),
  (74, .getfield 133, 3, 11, 48, .null),
  (77, .iload_n 3, 1, 0, 0, .null),
  (78, .aload_n 0, 1, 0, 0, .null),
  (79, .iload_n 3, 1, 0, 0, .null),
  (80, .iload 4, 2, 0, 0, .null),
  (82, .invokevirtual 496, 3, 0, 234, .null),
  (85, .iastore, 1, 0, 0, .null),
  (86, .iconst 1, 1, 0, 0, .null),
  (87, .istore_n 2, 1, 0, 0, .null),
  (88, .iinc 4 1, 3, 0, 0, .null),
  (91, .goto (-41), 3, 50, 0, .null),
  (94, .iinc 3 1, 3, 0, 0, .null),
  (97, .goto (-56), 3, 41, 0, .null),
  (100, .goto (-67), 3, 33, 0, .null),
  (103, .return_, 1, 0, 0, .null)]
set_option maxRecDepth 100000 in
theorem pm_d235 : pm_c235.all (pm_decB prog_13_method_102_code) = true := by decide +kernel
/-- TrainBearersModel.nextOf(I)I -/
def pm_c236 : List pm_I := [(0, .iconst 0, 1, 0, 0, .null),
  (1, .istore_n 2, 1, 0, 0, .null),
  (2, .aload_n 0, 1, 0, 0, .null),
  (3, .iload_n 1, 1, 0, 0, .null),
  (4, .iload_n 2, 1, 0, 0, .null),
  (5, .invokevirtual 496, 3, 0, 234, .null),
  (8, .aload_n 0, 1, 0, 0, .null),
  (9, .getfield 133, 3, 11, 48, .null),
  (12, .iload_n 1, 1, 0, 0, .null),
  (13, .iaload, 1, 0, 0, .null),
  (14, .if_icmp .eq 9, 3, 23, 0, .null),
  (17, .iinc 2 1, 3, 0, 0, .null),
  (20, .goto (-18), 3, 2, 0, .null),
  (23, .iload_n 2, 1, 0, 0, .null),
  (24, .ireturn, 1, 0, 0, .null)]
set_option maxRecDepth 100000 in
theorem pm_d236 : pm_c236.all (pm_decB prog_13_method_103_code) = true := by decide +kernel
/-- TrainBearersModel.way(II)I -/
def pm_c237 : List pm_I := [(0, .aload_n 0, 1, 0, 0, .null),
  (1, .iconst 0, 1, 0, 0, .null),
  (2, .putfield 162, 3, 11, 0, .null),
  (5, .iload_n 1, 1, 0, 0, .null),
  (6, .invokestatic 219, 3, 1, 151, .null),
  (9, .ifCond .eq 8, 3, 17, 0, .null),
  (12, .iload_n 2, 1, 0, 0, .null),
  (13, .iconst (-1), 1, 0, 0, .null),
  (14, .if_icmp .ge 5, 3, 19, 0, .null),
  (17, .iconst (-1), 1, 0, 0, .null),
  (18, .ireturn, 1, 0, 0, .null),
  (19, .aload_n 0, 1, 0, 0, .null),
  (20, .iload_n 1, 1, 0, 0, .null),
  (21, .invokevirtual 499, 3, 0, 235, .null),
  (24, .aload_n 0, 1, 0, 0, .null),
  (25, .getfield 13, 3, 11, 3, .null),
  (28, .bipush 8, 2, 0, 0, .null),
  (30, .iaload, 1, 0, 0, .null),
  (31, .istore_n 3, 1, 0, 0, .null),
  (32, .aload_n 0, 1, 0, 0, .null),
  (33, .getfield 133, 3, 11, 48, .null),
  (36, .iload_n 3, 1, 0, 0, .null),
  (37, .iaload, 1, 0, 0, .null),
  (38, .ldc 245, 2, 0, 0, .int (100000000)),
  (40, .if_icmp .eq 8, 3, 48, 0, .null),
  (43, .iload_n 2, 1, 0, 0, .null),
  (44, .iconst (-1), 1, 0, 0, .null),
  (45, .if_icmp .ne 28, 3, 73, 0, .null),
  (48, .aload_n 0, 1, 0, 0, .null),
  (49, .getfield 133, 3, 11, 48, .null),
  (52, .iload_n 3, 1, 0, 0, .null),
  (53, .iaload, 1, 0, 0, .null),
  (54, .ldc 245, 2, 0, 0, .int (100000000)),
  (56, .if_icmp .ne 7, 3, 63, 0, .null),
  (59, .iconst (-1), 1, 0, 0, .null),
  (60, .goto 12, 3, 72, 0, .null),
  (63, .aload_n 0, 1, 0, 0, .null),
  (64, .getfield 133, 3, 11, 48, .null),
  (67, .iload_n 3, 1, 0, 0, .null),
  (68, .iaload, 1, 0, 0, .null),
  (69, .bipush 100, 2, 0, 0, .null),
  (71, .idiv, 1, 0, 0, .null),
  (72, .ireturn, 1, 0, 0, .null),
  (73, .aload_n 0, 1, 0, 0, .null),
  (74, .getfield 133, 3, 11, 48, .null),
  (77, .iload_n 3, 1, 0, 0, .null),
  (78, .iaload, 1, 0, 0, .null),
  (79, .bipush 100, 2, 0, 0, .null),
  (81, .irem, 1, 0, 0, .null),
  (82, .istore 4, 2, 0, 0, .null),
  (84, .iload_n 2, 1, 0, 0, .null),
  (85, .iload 4, 2, 0, 0, .null),
  (87, .if_icmp .lt 5, 3, 92, 0, .null),
  (90, .iconst (-1), 1, 0, 0, .null),
  (91, .ireturn, 1, 0, 0, .null),
  (92, .iconst 0, 1, 0, 0, .null),
  (93, .istore 5, 2, 0, 0, .null),
  (95, .iload 5, 2, 0, 0, .null),
  (97, .iload_n 2, 1, 0, 0, .null),
  (98, .if_icmp .gt 15, 3, 113, 0, .null),
  (101, .aload_n 0, 1, 0, 0, .null),
  (102, .iload_n 3, 1, 0, 0, .null),
  (103, .invokevirtual 502, 3, 0, 236, .null),
  (106, .istore_n 3, 1, 0, 0, .null),
  (107, .iinc 5 1, 3, 0, 0, .null),
  (110, .goto (-15), 3, 95, 0, .null),
  (113, .iload_n 3, 1, 0, 0, .null),
  (114, .ireturn, 1, 0, 0, .null)]
set_option maxRecDepth 100000 in
theorem pm_d237 : pm_c237.all (pm_decB prog_13_method_104_code) = true := by decide +kernel
/-- TrainBearersModel.brought(I)I -/
def pm_c238 : List pm_I := [(0, .aload_n 0, 1, 0, 0, .null),
  (1, .iconst 0, 1, 0, 0, .null),
  (2, .putfield 162, 3, 11, 0, .null),
  (5, .iload_n 1, 1, 0, 0, .null),
  (6, .invokestatic 219, 3, 1, 151, .null),
  (9, .ifCond .ne 5, 3, 14, 0, .null),
  (12, .iconst (-1), 1, 0, 0, .null),
  (13, .ireturn, 1, 0, 0, .null),
  (14, .aload_n 0, 1, 0, 0, .null),
  (15, .iload_n 1, 1, 0, 0, .null),
  (16, .invokevirtual 499, 3, 0, 235, .null),
  (19, .aload_n 0, 1, 0, 0, .null),
  (20, .getfield 133, 3, 11, 48, .null),
  (23, .aload_n 0, 1, 0, 0, .null),
  (24, .getfield 13, 3, 11, 3, .null),
  (27, .bipush 8, 2, 0, 0, .null),
  (29, .iaload, 1, 0, 0, .null),
  (30, .iaload, 1, 0, 0, .null),
  (31, .ldc 245, 2, 0, 0, .int (100000000)),
  (33, .if_icmp .ne 5, 3, 38, 0, .null),
  (36, .iconst (-1), 1, 0, 0, .null),
  (37, .ireturn, 1, 0, 0, .null),
  (38, .aload_n 0, 1, 0, 0, .null),
  (39, .bipush 16, 2, 0, 0, .null),
  (41, .invokevirtual 175, 3, 0, 143, .null),
  (44, .iconst 0, 1, 0, 0, .null),
  (45, .istore_n 2, 1, 0, 0, .null),
  (46, .aload_n 0, 1, 0, 0, .null),
  (47, .getfield 13, 3, 11, 3, .null),
  (50, .bipush 8, 2, 0, 0, .null),
  (52, .iaload, 1, 0, 0, .null),
  (53, .iload_n 1, 1, 0, 0, .null),
  (54, .if_icmp .eq 24, 3, 78, 0, .null),
  (57, .iload_n 2, 1, 0, 0, .null),
  (58, .aload_n 0, 1, 0, 0, .null),
  (59, .aload_n 0, 1, 0, 0, .null),
  (60, .aload_n 0, 1, 0, 0, .null),
  (61, .getfield 13, 3, 11, 3, .null),
  (64, .bipush 8, 2, 0, 0, .null),
  (66, .iaload, 1, 0, 0, .null),
  (67, .invokevirtual 502, 3, 0, 236, .null),
  (70, .invokevirtual 463, 3, 0, 216, .null),
  (73, .iadd, 1, 0, 0, .null),
  (74, .istore_n 2, 1, 0, 0, .null),
  (75, .goto (-29), 3, 46, 0, .null),
  (78, .aload_n 0, 1, 0, 0, .null),
  (79, .bipush 16, 2, 0, 0, .null),
  (81, .invokevirtual 179, 3, 0, 144, .null),
  (84, .iload_n 2, 1, 0, 0, .null),
  (85, .ireturn, 1, 0, 0, .null)]
set_option maxRecDepth 100000 in
theorem pm_d238 : pm_c238.all (pm_decB prog_13_method_105_code) = true := by decide +kernel
/-- TrainBearersModel.folds(II)I -/
def pm_c239 : List pm_I := [(0, .aload_n 0, 1, 0, 0, .null),
  (1, .iconst 0, 1, 0, 0, .null),
  (2, .putfield 162, 3, 11, 0, .null),
  (5, .iload_n 1, 1, 0, 0, .null),
  (6, .i2l, 1, 0, 0, .null),
  (7, .lconst 1, 1, 0, 0, .null),
  (8, .ldc2_w 505, 3, 1, 0, .long (60)),
  (11, .invokestatic 182, 3, 1, 136, .null),
  (14, .ifCond .eq 16, 3, 30, 0, .null),
  (17, .iload_n 2, 1, 0, 0, .null),
  (18, .iconst (-1), 1, 0, 0, .null),
  (19, .if_icmp .eq 13, 3, 32, 0, .null),
  (22, .aload_n 0, 1, 0, 0, .null),
  (23, .iload_n 2, 1, 0, 0, .null),
  (24, .invokevirtual 193, 3, 0, 149, .null),
  (27, .ifCond .ne 5, 3, 32, 0, .null),
  (30, .iconst (-1), 1, 0, 0, .null),
  (31, .ireturn, 1, 0, 0, .null),
  (32, .iconst (-1), 1, 0, 0, .null),
  (33, .istore_n 3, 1, 0, 0, .null),
  (34, .iconst 0, 1, 0, 0, .null),
  (35, .istore 4, 2, 0, 0, .null),
  (37, .iconst (-1), 1, 0, 0, .null),
  (38, .istore 5, 2, 0, 0, .null),
  (40, .iconst 1, 1, 0, 0, .null),
  (41, .istore 6, 2, 0, 0, .null),
  (43, .iconst 0, 1, 0, 0, .null),
  (44, .istore 7, 2, 0, 0, .null),
  (46, .iload 7, 2, 0, 0, .null),
  (48, .aload_n 0, 1, 0, 0, .null),
  (49, .getfield 13, 3, 11, 3, .null),
  (52, .iconst 0, 1, 0, 0, .null),
  (53, .iaload, 1, 0, 0, .null),
  (54, .if_icmp .ge 89, 3, 143, 0, .null),
  (57, .aload_n 0, 1, 0, 0, .null),
  (58, .getfield 13, 3, 11, 3, .null),
  (61, .bipush 34, 2, 0, 0, .null),
  (63, .iload 7, 2, 0, 0, .null),
  (65, .iadd, 1, 0, 0, .null),
  (66, .iaload, 1, 0, 0, .null),
  (67, .aload_n 0, 1, 0, 0, .null),
  (68, .getfield 13, 3, 11, 3, .null),
  (71, .bipush 10, 2, 0, 0, .null),
  (73, .iload 7, 2, 0, 0, .null),
  (75, .iadd, 1, 0, 0, .null),
  (76, .iaload, 1, 0, 0, .null),
  (77, .iadd, 1, 0, 0, .null),
  (78, .istore 8, 2, 0, 0, .null),
  (80, .iload 6, 2, 0, 0, .null),
  (82, .ifCond .eq 13, 3, 95, 0, .null),
  (85, .iload 8, 2, 0, 0, .null),
  (87, .iload_n 1, 1, 0, 0, .null),
  (88, .if_icmp .gt 7, 3, 95, 0, .null),
  (91, .iconst 1, 1, 0, 0, .null),
  (92, .goto 4, 3, 96, 0, .null),
  (95, .iconst 0, 1, 0, 0, .null),
  (96, .istore 6, 2, 0, 0, .null),
  (98, .iload_n 3, 1, 0, 0, .null),
  (99, .iconst (-1), 1, 0, 0, .null),
  (100, .if_icmp .eq 10, 3, 110, 0, .null),
  (103, .iload 8, 2, 0, 0, .null),
  (105, .iload 4, 2, 0, 0, .null),
  (107, .if_icmp .le 9, 3, 116, 0, .null),
  (110, .iinc 3 1, 3, 0, 0, .null),
  (113, .iload_n 1, 1, 0, 0, .null),
  (114, .istore 4, 2, 0, 0, .null),
  (116, .iload 4, 2, 0, 0, .null),
  (118, .iload 8, 2, 0, 0, .null),
  (120, .isub, 1, 0, 0, .null),
  (121, .istore 4, 2, 0, 0, .null),
  (123, .iload 7, 2, 0, 0, .null),
  (125, .iload_n 2, 1, 0, 0, .null),
  (126, .if_icmp .ne 7, 3, 133, 0, .null),
  (129, .iload_n 3, 1, 0, 0, .null),
  (130, .goto 5, 3, 135, 0, .null),
  (133, .iload 5, 2, 0, 0, .null),
  (135, .istore 5, 2, 0, 0, .null),
  (137, .iinc 7 1, 3, 0, 0, .null),
  (140, .goto (-94), 3, 46, 0, .null),
  (143, .iload 6, 2, 0, 0, .null),
  (145, .ifCond .ne 7, 3, 152, 0, .null),
  (148, .iconst (-1), 1, 0, 0, .null),
  (149, .goto 16, 3, 165, 0, .null),
  (152, .iload_n 2, 1, 0, 0, .null),
  (153, .iconst (-1), 1, 0, 0, .null),
  (154, .if_icmp .ne 9, 3, 163, 0, .null),
  (157, .iload_n 3, 1, 0, 0, .null),
  (158, .iconst 1, 1, 0, 0, .null),
  (159, .iadd, 1, 0, 0, .null),
  (160, .goto 5, 3, 165, 0, .null),
  (163, .iload 5, 2, 0, 0, .null),
  (165, .ireturn, 1, 0, 0, .null)]
set_option maxRecDepth 100000 in
theorem pm_d239 : pm_c239.all (pm_decB prog_13_method_106_code) = true := by decide +kernel
end
section
/-- TrainBearersModel.resting(I)I -/
def pm_c240 : List pm_I := [(0, .aload_n 0, 1, 0, 0, .null),
  (1, .iconst 0, 1, 0, 0, .null),
  (2, .putfield 162, 3, 11, 0, .null),
  (5, .iload_n 1, 1, 0, 0, .null),
  (6, .invokestatic 219, 3, 1, 151, .null),
  (9, .ifCond .eq 11, 3, 20, 0, .null),
  (12, .aload_n 0, 1, 0, 0, .null),
  (13, .iload_n 1, 1, 0, 0, .null),
  (14, .invokevirtual 460, 3, 0, 215, .null),
  (17, .ifCond .ne 5, 3, 22, 0, .null),
  (20, .iconst (-1), 1, 0, 0, .null),
  (21, .ireturn, 1, 0, 0, .null),
  (22, .aload_n 0, 1, 0, 0, .null),
  (23, .bipush 16, 2, 0, 0, .null),
  (25, .invokevirtual 175, 3, 0, 143, .null),
  (28, .iconst 0, 1, 0, 0, .null),
  (29, .istore_n 2, 1, 0, 0, .null),
  (30, .iload_n 2, 1, 0, 0, .null),
  (31, .bipush 21, 2, 0, 0, .null),
  (33, .if_icmp .ge 20, 3, 53, 0, .null),
  (36, .aload_n 0, 1, 0, 0, .null),
  (37, .invokevirtual 451, 3, 0, 208, .null),
  (40, .ifCond .le 13, 3, 53, 0, .null),
  (43, .aload_n 0, 1, 0, 0, .null),
  (44, .invokevirtual 469, 3, 0, 219, .null),
  (47, .iinc 2 1, 3, 0, 0, .null),
  (50, .goto (-20), 3, 30, 0, .null),
  (53, .aload_n 0, 1, 0, 0, .null),
  (54, .bipush 16, 2, 0, 0, .null),
  (56, .invokevirtual 179, 3, 0, 144, .null),
  (59, .iload_n 2, 1, 0, 0, .null),
  (60, .bipush 20, 2, 0, 0, .null),
  (62, .if_icmp .le 7, 3, 69, 0, .null),
  (65, .iconst (-1), 1, 0, 0, .null),
  (66, .goto 4, 3, 70, 0, .null),
  (69, .iload_n 2, 1, 0, 0, .null),
  (70, .ireturn, 1, 0, 0, .null)]
set_option maxRecDepth 100000 in
theorem pm_d240 : pm_c240.all (pm_decB prog_13_method_107_code) = true := by decide +kernel
/-- TrainBearersModel.far()I -/
def pm_c241 : List pm_I := [(0, .aload_n 0, 1, 0, 0, .null),
  (1, .iconst 0, 1, 0, 0, .null),
  (2, .putfield 162, 3, 11, 0, .null),
  (5, .iconst 0, 1, 0, 0, .null),
  (6, .istore_n 1, 1, 0, 0, .null),
  (7, .aload_n 0, 1, 0, 0, .null),
  (8, .invokevirtual 451, 3, 0, 208, .null),
  (11, .ifCond .ne 7, 3, 18, 0, .null),
  (14, .iconst 1, 1, 0, 0, .null),
  (15, .goto 4, 3, 19, 0, .null),
  (18, .iconst 0, 1, 0, 0, .null),
  (19, .istore_n 2, 1, 0, 0, .null),
  (20, .iconst 0, 1, 0, 0, .null),
  (21, .istore_n 3, 1, 0, 0, .null),
  (22, .iload_n 3, 1, 0, 0, .null),
  (23, .bipush 6, 2, 0, 0, .null),
  (25, .if_icmp .ge 31, 3, 56, 0, .null),
  (28, .iload_n 1, 1, 0, 0, .null),
  (29, .iload_n 2, 1, 0, 0, .null),
  (30, .ifCond .eq 17, 3, 47, 0, .null),
  (33, .aload_n 0, 1, 0, 0, .null),
  (34, .iload_n 3, 1, 0, 0, .null),
  (35, .invokevirtual 460, 3, 0, 215, .null),
  (38, .ifCond .eq 9, 3, 47, 0, .null),
  (41, .iconst 1, 1, 0, 0, .null),
  (42, .iload_n 3, 1, 0, 0, .null),
  (43, .ishl, 1, 0, 0, .null),
  (44, .goto 4, 3, 48, 0, .null),
  (47, .iconst 0, 1, 0, 0, .null),
  (48, .ior, 1, 0, 0, .null),
  (49, .istore_n 1, 1, 0, 0, .null),
  (50, .iinc 3 1, 3, 0, 0, .null),
  (53, .goto (-31), 3, 22, 0, .null),
  (56, .iload_n 1, 1, 0, 0, .null),
  (57, .ireturn, 1, 0, 0, .null)]
set_option maxRecDepth 100000 in
theorem pm_d241 : pm_c241.all (pm_decB prog_13_method_108_code) = true := by decide +kernel
/-- TrainBearersModel.steady()J -/
def pm_c242 : List pm_I := [(0, .aload_n 0, 1, 0, 0, .null),
  (1, .iconst 0, 1, 0, 0, .null),
  (2, .putfield 162, 3, 11, 0, .null),
  (5, .ldc2_w 507, 3, 1, 0, .long (1000000000000)),
  (8, .lstore_n 1, 1, 0, 0, .null),
  (9, .iconst 0, 1, 0, 0, .null),
  (10, .istore_n 3, 1, 0, 0, .null),
  (11, .iload_n 3, 1, 0, 0, .null),
  (12, .aload_n 0, 1, 0, 0, .null),
  (13, .getfield 13, 3, 11, 3, .null),
  (16, .iconst 1, 1, 0, 0, .null),
  (17, .iaload, 1, 0, 0, .null),
  (18, .if_icmp .ge 53, 3, 71, 0, .null),
  (21, .aload_n 0, 1, 0, 0, .null),
  (22, .getfield 13, 3, 11, 3, .null),
  (25, .bipush 26, 2, 0, 0, .null),
  (27, .iload_n 3, 1, 0, 0, .null),
  (28, .iadd, 1, 0, 0, .null),
  (29, .iaload, 1, 0, 0, .null),
  (30, .iconst (-1), 1, 0, 0, .null),
  (31, .if_icmp .eq 34, 3, 65, 0, .null),
  (34, .lload_n 1, 1, 0, 0, .null),
  (35, .bipush 10, 2, 0, 0, .null),
  (37, .aload_n 0, 1, 0, 0, .null),
  (38, .getfield 13, 3, 11, 3, .null),
  (41, .bipush 6, 2, 0, 0, .null),
  (43, .iaload, 1, 0, 0, .null),
  (44, .aload_n 0, 1, 0, 0, .null),
  (45, .getfield 13, 3, 11, 3, .null),
  (48, .bipush 18, 2, 0, 0, .null),
  (50, .iload_n 3, 1, 0, 0, .null),
  (51, .iadd, 1, 0, 0, .null),
  (52, .iaload, 1, 0, 0, .null),
  (53, .imul, 1, 0, 0, .null),
  (54, .bipush 9, 2, 0, 0, .null),
  (56, .idiv, 1, 0, 0, .null),
  (57, .isub, 1, 0, 0, .null),
  (58, .i2l, 1, 0, 0, .null),
  (59, .lmul, 1, 0, 0, .null),
  (60, .ldc2_w 234, 3, 1, 0, .long (10)),
  (63, .ldiv, 1, 0, 0, .null),
  (64, .lstore_n 1, 1, 0, 0, .null),
  (65, .iinc 3 1, 3, 0, 0, .null),
  (68, .goto (-57), 3, 11, 0, .null),
  (71, .lload_n 1, 1, 0, 0, .null),
  (72, .lreturn, 1, 0, 0, .null)]
set_option maxRecDepth 100000 in
theorem pm_d242 : pm_c242.all (pm_decB prog_13_method_109_code) = true := by decide +kernel
/-- TrainBearersModel.compare(I)I -/
def pm_c243 : List pm_I := [(0, .aload_n 0, 1, 0, 0, .null),
  (1, .iconst 0, 1, 0, 0, .null),
  (2, .putfield 162, 3, 11, 0, .null),
  (5, .aload_n 0, 1, 0, 0, .null),
  (6, .iload_n 1, 1, 0, 0, .null),
  (7, .invokevirtual 396, 3, 0, 197, .null),
  (10, .ifCond .ne 5, 3, 15, 0, .null),
  (13, .iconst (-1), 1, 0, 0, .null),
  (14, .ireturn, 1, 0, 0, .null),
  (15, .aload_n 0, 1, 0, 0, .null),
  (16, .getfield 13, 3, 11, 3, .null),
  (19, .iconst 4, 1, 0, 0, .null),
  (20, .iaload, 1, 0, 0, .null),
  (21, .istore_n 2, 1, 0, 0, .null),
  (22, .aload_n 0, 1, 0, 0, .null),
  (23, .getfield 13, 3, 11, 3, .null),
  (26, .iconst 4, 1, 0, 0, .null),
  (27, .iload_n 1, 1, 0, 0, .null),
  (28, .iastore, 1, 0, 0, .null),
  (29, .aload_n 0, 1, 0, 0, .null),
  (30, .invokevirtual 451, 3, 0, 208, .null),
  (33, .istore_n 3, 1, 0, 0, .null),
  (34, .aload_n 0, 1, 0, 0, .null),
  (35, .getfield 13, 3, 11, 3, .null),
  (38, .iconst 4, 1, 0, 0, .null),
  (39, .iload_n 2, 1, 0, 0, .null),
  (40, .iastore, 1, 0, 0, .null),
  (41, .iload_n 3, 1, 0, 0, .null),
  (42, .ireturn, 1, 0, 0, .null)]
set_option maxRecDepth 100000 in
theorem pm_d243 : pm_c243.all (pm_decB prog_13_method_110_code) = true := by decide +kernel
/-- TrainBearersModel.readSum(I)V -/
def pm_c244 : List pm_I := [(0, .aload_n 0, 1, 0, 0, .null),
  (1, .getfield 147, 3, 11, 50, .null),
  (4, .iload_n 1, 1, 0, 0, .null),
  (5, .aload_n 0, 1, 0, 0, .null),
  (6, .getfield 287, 3, 11, 23, .null),
  (9, .iastore, 1, 0, 0, .null),
  (10, .aload_n 0, 1, 0, 0, .null),
  (11, .getfield 252, 3, 11, 19, .null),
  (14, .ifCond .ne 8, 3, 22, 0, .null),
  (17, .aload_n 0, 1, 0, 0, .null),
  (18, .iconst 0, 1, 0, 0, .null),
  (19, .invokevirtual 382, 3, 0, 192, .null),
  (22, .aload_n 0, 1, 0, 0, .null),
  (23, .getfield 147, 3, 11, 50, .null),
  (26, .iload_n 1, 1, 0, 0, .null),
  (27, .iconst 1, 1, 0, 0, .null),
  (28, .iadd, 1, 0, 0, .null),
  (29, .aload_n 0, 1, 0, 0, .null),
  (30, .getfield 287, 3, 11, 23, .null),
  (33, .iastore, 1, 0, 0, .null),
  (34, .return_, 1, 0, 0, .null)]
set_option maxRecDepth 100000 in
theorem pm_d244 : pm_c244.all (pm_decB prog_13_method_111_code) = true := by decide +kernel
/-- TrainBearersModel.readOrder()V -/
def pm_c245 : List pm_I := [(0, .iconst (-1), 1, 0, 0, .null),
  (1, .istore_n 1, 1, 0, 0, .null),
  (2, .iconst 0, 1, 0, 0, .null),
  (3, .istore_n 2, 1, 0, 0, .null),
  (4, .iload_n 2, 1, 0, 0, .null),
  (5, .iconst 4, 1, 0, 0, .null),
  (6, .if_icmp .ge 28, 3, 34, 0, .null),
  (9, .aload_n 0, 1, 0, 0, .null),
  (10, .aload_n 0, 1, 0, 0, .null),
  (11, .getfield 144, 3, 11, 49, .null),
  (14, .iload_n 2, 1, 0, 0, .null),
  (15, .laload, 1, 0, 0, .null),
  (16, .invokevirtual 306, 3, 0, 173, .null),
  (19, .ifCond .eq 7, 3, 26, 0, .null),
  (22, .iload_n 2, 1, 0, 0, .null),
  (23, .goto 4, 3, 27, 0, .null),
  (26, .iload_n 1, 1, 0, 0, .null),
  (27, .istore_n 1, 1, 0, 0, .null),
  (28, .iinc 2 1, 3, 0, 0, .null),
  (31, .goto (-27), 3, 4, 0, .null),
  (34, .aload_n 0, 1, 0, 0, .null),
  (35, .iload_n 1, 1, 0, 0, .null),
  (36, .iconst (-1), 1, 0, 0, .null),
  (37, .if_icmp .eq 16, 3, 53, 0, .null),
  (40, .aload_n 0, 1, 0, 0, .null),
  (41, .getfield 379, 3, 11, 21, .null),
  (44, .bipush 12, 2, 0, 0, .null),
  (46, .if_icmp .ge 7, 3, 53, 0, .null),
  (49, .iconst 1, 1, 0, 0, .null),
  (50, .goto 4, 3, 54, 0, .null),
  (53, .iconst 0, 1, 0, 0, .null),
  (54, .invokevirtual 283, 3, 0, 175, .null),
  (57, .aload_n 0, 1, 0, 0, .null),
  (58, .getfield 252, 3, 11, 19, .null),
  (61, .ifCond .eq 4, 3, 65, 0, .null),
  (64, .return_, 1, 0, 0, .null),
  (65, .bipush 8, 2, 0, 0, .null),
  (67, .aload_n 0, 1, 0, 0, .null),
  (68, .getfield 379, 3, 11, 21, .null),
  (71, .imul, 1, 0, 0, .null),
  (72, .istore_n 2, 1, 0, 0, .null),
  (73, .aload_n 0, 1, 0, 0, .null),
  (74, .dup, 1, 0, 0, .null),
  (75, .getfield 379, 3, 11, 21, .null),
  (78, .iconst 1, 1, 0, 0, .null),
  (79, .iadd, 1, 0, 0, .null),
  (80, .putfield 379, 3, 11, 21, .null),
  (83, .iconst 0, 1, 0, 0, .null),
  (84, .istore_n 3, 1, 0, 0, .null),
  (85, .iload_n 3, 1, 0, 0, .null),
  (86, .bipush 8, 2, 0, 0, .null),
  (88, .if_icmp .ge 18, 3, 106, 0, .null),
  (91, .aload_n 0, 1, 0, 0, .null),
  (92, .getfield 147, 3, 11, 50, .null),
  (95, .iload_n 2, 1, 0, 0, .null),
  (96, .iload_n 3, 1, 0, 0, .null),
  (97, .iadd, 1, 0, 0, .null),
  (98, .iconst 0, 1, 0, 0, .null),
  (99, .iastore, 1, 0, 0, .null),
  (100, .iinc 3 1, 3, 0, 0, .null),
  (103, .goto (-18), 3, 85, 0, .null),
  (106, .aload_n 0, 1, 0, 0, .null),
  (107, .getfield 147, 3, 11, 50, .null),
  (110, .iload_n 2, 1, 0, 0, .null),
  (111, .iload_n 1, 1, 0, 0, .null),
  (112, .iastore, 1, 0, 0, .null),
  (113, .iload_n 1, 1, 0, 0, .null),
  (114, .iconst 3, 1, 0, 0, .null),
  (115, .if_icmp .eq 10, 3, 125, 0, .null),
  (118, .aload_n 0, 1, 0, 0, .null),
  (119, .iload_n 2, 1, 0, 0, .null),
  (120, .iconst 1, 1, 0, 0, .null),
  (121, .iadd, 1, 0, 0, .null),
  (122, .invokevirtual 509, 3, 0, 244, .null),
  (125, .iload_n 1, 1, 0, 0, .null),
  (126, .ifCond .ne 28, 3, 154, 0, .null),
  (129, .aload_n 0, 1, 0, 0, .null),
  (130, .getfield 252, 3, 11, 19, .null),
  (133, .ifCond .ne 14, 3, 147, 0, .null),
  (136, .aload_n 0, 1, 0, 0, .null),
  (137, .aload_n 0, 1, 0, 0, .null),
  (138, .ldc2_w 512, 3, 1, 0, .long (52)),
  (141, .invokevirtual 306, 3, 0, 173, .null),
  (144, .invokevirtual 283, 3, 0, 175, .null),
  (147, .aload_n 0, 1, 0, 0, .null),
  (148, .iload_n 2, 1, 0, 0, .null),
  (149, .iconst 3, 1, 0, 0, .null),
  (150, .iadd, 1, 0, 0, .null),
  (151, .invokevirtual 509, 3, 0, 244, .null),
  (154, .aload_n 0, 1, 0, 0, .null),
  (155, .getfield 147, 3, 11, 50, .null),
  (158, .iload_n 2, 1, 0, 0, .null),
  (159, .bipush 7, 2, 0, 0, .null),
  (161, .iadd, 1, 0, 0, .null),
  (162, .iconst 1, 1, 0, 0, .null),
  (163, .iastore, 1, 0, 0, .null),
  (164, .aload_n 0, 1, 0, 0, .null),
  (165, .getfield 252, 3, 11, 19, .null),
  (168, .ifCond .ne 34, 3, 202, 0, .null),
  (171, .aload_n 0, 1, 0, 0, .null),
  (172, .ldc2_w 514, 3, 1, 0, .long (21279923)),
  (175, .invokevirtual 306, 3, 0, 173, .null),
  (178, .ifCond .eq 24, 3, 202, 0, .null),
  (181, .aload_n 0, 1, 0, 0, .null),
  (182, .invokevirtual 256, 3, 0, 172, .null),
  (185, .aload_n 0, 1, 0, 0, .null),
  (186, .getfield 147, 3, 11, 50, .null),
  (189, .iload_n 2, 1, 0, 0, .null),
  (190, .bipush 7, 2, 0, 0, .null),
  (192, .iadd, 1, 0, 0, .null),
  (193, .aload_n 0, 1, 0, 0, .null),
  (194, .lconst 1, 1, 0, 0, .null),
  (195, .ldc2_w 191, 3, 1, 0, .long (20)),
  (198, .invokevirtual 343, 3, 0, 176, .null),
  (201, .iastore, 1, 0, 0, .null),
  (202, .aload_n 0, 1, 0, 0, .null),
  (203, .getfield 147, 3, 11, 50, .null),
  (206, .iload_n 2, 1, 0, 0, .null),
  (207, .iconst 5, 1, 0, 0, .null),
  (208, .iadd, 1, 0, 0, .null),
  (209, .aload_n 0, 1, 0, 0, .null),
  (210, .getfield 287, 3, 11, 23, .null),
  (213, .iastore, 1, 0, 0, .null),
  (214, .aload_n 0, 1, 0, 0, .null),
  (215, .getfield 252, 3, 11, 19, .null),
  (218, .ifCond .ne 22, 3, 240, 0, .null),
  (221, .aload_n 0, 1, 0, 0, .null),
  (222, .ldc2_w 385, 3, 1, 0, .long (294)),
  (225, .invokevirtual 306, 3, 0, 173, .null),
  (228, .ifCond .eq 12, 3, 240, 0, .null),
  (231, .aload_n 0, 1, 0, 0, .null),
  (232, .invokevirtual 256, 3, 0, 172, .null),
  (235, .aload_n 0, 1, 0, 0, .null),
  (236, .iconst 1, 1, 0, 0, .null),
  (237, .invokevirtual 382, 3, 0, 192, .null),
  (240, .aload_n 0, 1, 0, 0, .null),
  (241, .getfield 147, 3, 11, 50, .null),
  (244, .iload_n 2, 1, 0, 0, .null),
  (245, .bipush 6, 2, 0, 0, .null),
  (247, .iadd, 1, 0, 0, .null),
  (248, .aload_n 0, 1, 0, 0, .null),
  (249, .getfield 287, 3, 11, 23, .null),
  (252, .iastore, 1, 0, 0, .null),
  (253, .return_, 1, 0, 0, .null)]
set_option maxRecDepth 100000 in
theorem pm_d245 : pm_c245.all (pm_decB prog_13_method_112_code) = true := by decide +kernel
/-- TrainBearersModel.sumOf(I)I -/
def pm_c246 : List pm_I := [(0, .aload_n 0, 1, 0, 0, .null),
  (1, .getfield 516, 3, 11, 54, .null),
  (4, .ifCond .ne 20, 3, 24, 0, .null),
  (7, .aload_n 0, 1, 0, 0, .null),
  (8, .getfield 147, 3, 11, 50, .null),
  (11, .iload_n 1, 1, 0, 0, .null),
  (12, .iaload, 1, 0, 0, .null),
  (13, .aload_n 0, 1, 0, 0, .null),
  (14, .getfield 147, 3, 11, 50, .null),
  (17, .iload_n 1, 1, 0, 0, .null),
  (18, .iconst 1, 1, 0, 0, .null),
  (19, .iadd, 1, 0, 0, .null),
  (20, .iaload, 1, 0, 0, .null),
  (21, .if_icmp .ne 5, 3, 26, 0, .null),
  (24, .iconst (-1), 1, 0, 0, .null),
  (25, .ireturn, 1, 0, 0, .null),
  (26, .aload_n 0, 1, 0, 0, .null),
  (27, .iconst 1, 1, 0, 0, .null),
  (28, .putfield 325, 3, 11, 20, .null),
  (31, .aload_n 0, 1, 0, 0, .null),
  (32, .aload_n 0, 1, 0, 0, .null),
  (33, .getfield 147, 3, 11, 50, .null),
  (36, .iload_n 1, 1, 0, 0, .null),
  (37, .iaload, 1, 0, 0, .null),
  (38, .aload_n 0, 1, 0, 0, .null),
  (39, .getfield 147, 3, 11, 50, .null),
  (42, .iload_n 1, 1, 0, 0, .null),
  (43, .iconst 1, 1, 0, 0, .null),
  (44, .iadd, 1, 0, 0, .null),
  (45, .iaload, 1, 0, 0, .null),
  (46, .invokevirtual 416, 3, 0, 200, .null),
  (49, .aload_n 0, 1, 0, 0, .null),
  (50, .iconst 0, 1, 0, 0, .null),
  (51, .putfield 325, 3, 11, 20, .null),
  (54, .aload_n 0, 1, 0, 0, .null),
  (55, .aload_n 0, 1, 0, 0, .null),
  (56, .getfield 399, 3, 11, 38, .null),
  (59, .putfield 516, 3, 11, 54, .null),
  (62, .aload_n 0, 1, 0, 0, .null),
  (63, .getfield 413, 3, 11, 39, .null),
  (66, .l2i, 1, 0, 0, .null),
  (67, .ireturn, 1, 0, 0, .null)]
set_option maxRecDepth 100000 in
theorem pm_d246 : pm_c246.all (pm_decB prog_13_method_113_code) = true := by decide +kernel
/-- TrainBearersModel.act(III)I -/
def pm_c247 : List pm_I := [(0, .iload_n 1, 1, 0, 0, .null),
  (1, .tableswitch 46 0 2 #[27, 34, 40], 27, 0, 0, .null),
  (28, .aload_n 0, 1, 0, 0, .null),
  (29, .iload_n 2, 1, 0, 0, .null),
  (30, .iload_n 3, 1, 0, 0, .null),
  (31, .invokevirtual 445, 3, 0, 210, .null),
  (34, .ireturn, 1, 0, 0, .null),
  (35, .aload_n 0, 1, 0, 0, .null),
  (36, .iload_n 2, 1, 0, 0, .null),
  (37, .invokevirtual 448, 3, 0, 212, .null),
  (40, .ireturn, 1, 0, 0, .null),
  (41, .aload_n 0, 1, 0, 0, .null),
  (42, .iload_n 2, 1, 0, 0, .null),
  (43, .invokevirtual 466, 3, 0, 217, .null),
  (46, .ireturn, 1, 0, 0, .null),
  (47, .aload_n 0, 1, 0, 0, .null),
  (48, .invokevirtual 472, 3, 0, 220, .null),
  (51, .ireturn, 1, 0, 0, .null)]
set_option maxRecDepth 100000 in
theorem pm_d247 : pm_c247.all (pm_decB prog_13_method_114_code) = true := by decide +kernel
/-- TrainBearersModel.run(I)I -/
def pm_c248 : List pm_I := [(0, .aload_n 0, 1, 0, 0, .null),
  (1, .getfield 106, 3, 11, 36, .null),
  (4, .iconst 1, 1, 0, 0, .null),
  (5, .aload_n 0, 1, 0, 0, .null),
  (6, .getfield 13, 3, 11, 3, .null),
  (9, .iconst 5, 1, 0, 0, .null),
  (10, .iaload, 1, 0, 0, .null),
  (11, .i2l, 1, 0, 0, .null),
  (12, .lastore, 1, 0, 0, .null),
  (13, .aload_n 0, 1, 0, 0, .null),
  (14, .getfield 106, 3, 11, 36, .null),
  (17, .iconst 2, 1, 0, 0, .null),
  (18, .aload_n 0, 1, 0, 0, .null),
  (19, .getfield 519, 3, 11, 51, .null),
  (22, .i2l, 1, 0, 0, .null),
  (23, .lastore, 1, 0, 0, .null),
  (24, .aload_n 0, 1, 0, 0, .null),
  (25, .getfield 106, 3, 11, 36, .null),
  (28, .iconst 3, 1, 0, 0, .null),
  (29, .aload_n 0, 1, 0, 0, .null),
  (30, .getfield 522, 3, 11, 52, .null),
  (33, .i2l, 1, 0, 0, .null),
  (34, .lastore, 1, 0, 0, .null),
  (35, .aload_n 0, 1, 0, 0, .null),
  (36, .getfield 106, 3, 11, 36, .null),
  (39, .iconst 4, 1, 0, 0, .null),
  (40, .aload_n 0, 1, 0, 0, .null),
  (41, .getfield 13, 3, 11, 3, .null),
  (44, .bipush 9, 2, 0, 0, .null),
  (46, .iaload, 1, 0, 0, .null),
  (47, .i2l, 1, 0, 0, .null),
  (48, .lastore, 1, 0, 0, .null),
  (49, .aload_n 0, 1, 0, 0, .null),
  (50, .getfield 106, 3, 11, 36, .null),
  (53, .iconst 5, 1, 0, 0, .null),
  (54, .aload_n 0, 1, 0, 0, .null),
  (55, .getfield 13, 3, 11, 3, .null),
  (58, .bipush 8, 2, 0, 0, .null),
  (60, .iaload, 1, 0, 0, .null),
  (61, .i2l, 1, 0, 0, .null),
  (62, .lastore, 1, 0, 0, .null),
  (63, .aload_n 0, 1, 0, 0, .null),
  (64, .invokevirtual 454, 3, 0, 214, .null),
  (67, .aload_n 0, 1, 0, 0, .null),
  (68, .iconst 0, 1, 0, 0, .null),
  (69, .putfield 516, 3, 11, 54, .null),
  (72, .aload_n 0, 1, 0, 0, .null),
  (73, .getfield 147, 3, 11, 50, .null),
  (76, .iload_n 1, 1, 0, 0, .null),
  (77, .iconst 5, 1, 0, 0, .null),
  (78, .iadd, 1, 0, 0, .null),
  (79, .iaload, 1, 0, 0, .null),
  (80, .aload_n 0, 1, 0, 0, .null),
  (81, .getfield 147, 3, 11, 50, .null),
  (84, .iload_n 1, 1, 0, 0, .null),
  (85, .bipush 6, 2, 0, 0, .null),
  (87, .iadd, 1, 0, 0, .null),
  (88, .iaload, 1, 0, 0, .null),
  (89, .if_icmp .ge 24, 3, 113, 0, .null),
  (92, .aload_n 0, 1, 0, 0, .null),
  (93, .iload_n 1, 1, 0, 0, .null),
  (94, .iconst 5, 1, 0, 0, .null),
  (95, .iadd, 1, 0, 0, .null),
  (96, .invokevirtual 525, 3, 0, 246, .null),
  (99, .istore_n 2, 1, 0, 0, .null),
  (100, .aload_n 0, 1, 0, 0, .null),
  (101, .getfield 516, 3, 11, 54, .null),
  (104, .ifCond .ne 7, 3, 111, 0, .null),
  (107, .iload_n 2, 1, 0, 0, .null),
  (108, .ifCond .ne 5, 3, 113, 0, .null),
  (111, .iconst 0, 1, 0, 0, .null),
  (112, .ireturn, 1, 0, 0, .null),
  (113, .aload_n 0, 1, 0, 0, .null),
  (114, .iload_n 1, 1, 0, 0, .null),
  (115, .iconst 1, 1, 0, 0, .null),
  (116, .iadd, 1, 0, 0, .null),
  (117, .invokevirtual 525, 3, 0, 246, .null),
  (120, .istore_n 2, 1, 0, 0, .null),
  (121, .aload_n 0, 1, 0, 0, .null),
  (122, .iload_n 1, 1, 0, 0, .null),
  (123, .iconst 3, 1, 0, 0, .null),
  (124, .iadd, 1, 0, 0, .null),
  (125, .invokevirtual 525, 3, 0, 246, .null),
  (128, .istore_n 3, 1, 0, 0, .null),
  (129, .aload_n 0, 1, 0, 0, .null),
  (130, .getfield 516, 3, 11, 54, .null),
  (133, .ifCond .eq 6, 3, 139, 0, .null),
  (136, .bipush (-3), 2, 0, 0, .null),
  (138, .ireturn, 1, 0, 0, .null),
  (139, .aload_n 0, 1, 0, 0, .null),
  (140, .aload_n 0, 1, 0, 0, .null),
  (141, .getfield 147, 3, 11, 50, .null),
  (144, .iload_n 1, 1, 0, 0, .null),
  (145, .iaload, 1, 0, 0, .null),
  (146, .iload_n 2, 1, 0, 0, .null),
  (147, .iload_n 3, 1, 0, 0, .null),
  (148, .invokevirtual 528, 3, 0, 247, .null),
  (151, .istore 4, 2, 0, 0, .null),
  (153, .iload 4, 2, 0, 0, .null),
  (155, .ifCond .ge 6, 3, 161, 0, .null),
  (158, .bipush (-3), 2, 0, 0, .null),
  (160, .ireturn, 1, 0, 0, .null),
  (161, .aload_n 0, 1, 0, 0, .null),
  (162, .aload_n 0, 1, 0, 0, .null),
  (163, .getfield 147, 3, 11, 50, .null),
  (166, .iload_n 1, 1, 0, 0, .null),
  (167, .iaload, 1, 0, 0, .null),
  (168, .iconst 2, 1, 0, 0, .null),
  (169, .if_icmp .ne 8, 3, 177, 0, .null),
  (172, .iload 4, 2, 0, 0, .null),
  (174, .goto 7, 3, 181, 0, .null),
  (177, .aload_n 0, 1, 0, 0, .null),
  (178, .getfield 522, 3, 11, 52, .null),
  (181, .putfield 522, 3, 11, 52, .null),
  (184, .aload_n 0, 1, 0, 0, .null),
  (185, .dup, 1, 0, 0, .null),
  (186, .getfield 519, 3, 11, 51, .null),
  (189, .iconst 1, 1, 0, 0, .null),
  (190, .iadd, 1, 0, 0, .null),
  (191, .putfield 519, 3, 11, 51, .null),
  (194, .iconst 0, 1, 0, 0, .null),
  (195, .ireturn, 1, 0, 0, .null)]
set_option maxRecDepth 100000 in
theorem pm_d248 : pm_c248.all (pm_decB prog_13_method_115_code) = true := by decide +kernel
/-- TrainBearersModel.orders()I -/
def pm_c249 : List pm_I := [(0, .aload_n 0, 1, 0, 0, .null),
  (1, .iconst 0, 1, 0, 0, .null),
  (2, .putfield 162, 3, 11, 0, .null),
  (5, .aload_n 0, 1, 0, 0, .null),
  (6, .iconst (-1), 1, 0, 0, .null),
  (7, .putfield 150, 3, 11, 53, .null),
  (10, .aload_n 0, 1, 0, 0, .null),
  (11, .iconst 1, 1, 0, 0, .null),
  (12, .invokevirtual 387, 3, 0, 193, .null),
  (15, .aload_n 0, 1, 0, 0, .null),
  (16, .invokevirtual 531, 3, 0, 245, .null),
  (19, .aload_n 0, 1, 0, 0, .null),
  (20, .getfield 252, 3, 11, 19, .null),
  (23, .ifCond .ne 23, 3, 46, 0, .null),
  (26, .aload_n 0, 1, 0, 0, .null),
  (27, .bipush 59, 2, 0, 0, .null),
  (29, .invokevirtual 319, 3, 0, 174, .null),
  (32, .ifCond .eq 14, 3, 46, 0, .null),
  (35, .aload_n 0, 1, 0, 0, .null),
  (36, .invokevirtual 256, 3, 0, 172, .null),
  (39, .aload_n 0, 1, 0, 0, .null),
  (40, .invokevirtual 531, 3, 0, 245, .null),
  (43, .goto (-24), 3, 19, 0, .null),
  (46, .aload_n 0, 1, 0, 0, .null),
  (47, .invokevirtual 393, 3, 0, 194, .null),
  (50, .aload_n 0, 1, 0, 0, .null),
  (51, .getfield 252, 3, 11, 19, .null),
  (54, .ifCond .eq 10, 3, 64, 0, .null),
  (57, .aload_n 0, 1, 0, 0, .null),
  (58, .bipush (-6), 2, 0, 0, .null),
  (60, .invokevirtual 171, 3, 0, 140, .null),
  (63, .ireturn, 1, 0, 0, .null),
  (64, .aload_n 0, 1, 0, 0, .null),
  (65, .bipush 17, 2, 0, 0, .null),
  (67, .invokevirtual 175, 3, 0, 143, .null),
  (70, .aload_n 0, 1, 0, 0, .null),
  (71, .getfield 168, 3, 11, 8, .null),
  (74, .istore_n 1, 1, 0, 0, .null),
  (75, .iconst 0, 1, 0, 0, .null),
  (76, .istore_n 2, 1, 0, 0, .null),
  (77, .iload_n 2, 1, 0, 0, .null),
  (78, .sipush 464, 3, 0, 0, .null),
  (81, .if_icmp .ge 21, 3, 102, 0, .null),
  (84, .aload_n 0, 1, 0, 0, .null),
  (85, .getfield 29, 3, 11, 9, .null),
  (88, .iload_n 2, 1, 0, 0, .null),
  (89, .aload_n 0, 1, 0, 0, .null),
  (90, .getfield 23, 3, 11, 6, .null),
  (93, .iload_n 2, 1, 0, 0, .null),
  (94, .iaload, 1, 0, 0, .null),
  (95, .iastore, 1, 0, 0, .null),
  (96, .iinc 2 1, 3, 0, 0, .null),
  (99, .goto (-22), 3, 77, 0, .null),
  (102, .iconst 0, 1, 0, 0, .null),
  (103, .istore_n 2, 1, 0, 0, .null),
  (104, .iload_n 2, 1, 0, 0, .null),
  (105, .bipush 16, 2, 0, 0, .null),
  (107, .if_icmp .ge 21, 3, 128, 0, .null),
  (110, .aload_n 0, 1, 0, 0, .null),
  (111, .getfield 32, 3, 11, 10, .null),
  (114, .iload_n 2, 1, 0, 0, .null),
  (115, .aload_n 0, 1, 0, 0, .null),
  (116, .getfield 26, 3, 11, 7, .null),
  (119, .iload_n 2, 1, 0, 0, .null),
  (120, .iaload, 1, 0, 0, .null),
  (121, .iastore, 1, 0, 0, .null),
  (122, .iinc 2 1, 3, 0, 0, .null),
  (125, .goto (-21), 3, 104, 0, .null),
  (128, .aload_n 0, 1, 0, 0, .null),
  (129, .iconst 0, 1, 0, 0, .null),
  (130, .putfield 519, 3, 11, 51, .null),
  (133, .aload_n 0, 1, 0, 0, .null),
  (134, .iconst (-1), 1, 0, 0, .null),
  (135, .putfield 522, 3, 11, 52, .null),
  (138, .iconst 0, 1, 0, 0, .null),
  (139, .istore_n 2, 1, 0, 0, .null),
  (140, .iload_n 2, 1, 0, 0, .null),
  (141, .aload_n 0, 1, 0, 0, .null),
  (142, .getfield 379, 3, 11, 21, .null),
  (145, .if_icmp .ge 61, 3, 206, 0, .null),
  (148, .iconst 0, 1, 0, 0, .null),
  (149, .istore_n 3, 1, 0, 0, .null),
  (150, .iload_n 3, 1, 0, 0, .null),
  (151, .aload_n 0, 1, 0, 0, .null),
  (152, .getfield 147, 3, 11, 50, .null),
  (155, .bipush 8, 2, 0, 0, .null),
  (157, .iload_n 2, 1, 0, 0, .null),
  (158, .imul, 1, 0, 0, .null),
  (159, .bipush 7, 2, 0, 0, .null),
  (161, .iadd, 1, 0, 0, .null),
  (162, .iaload, 1, 0, 0, .null),
  (163, .if_icmp .ge 37, 3, 200, 0, .null),
  (166, .aload_n 0, 1, 0, 0, .null),
  (167, .bipush 8, 2, 0, 0, .null),
  (169, .iload_n 2, 1, 0, 0, .null),
  (170, .imul, 1, 0, 0, .null),
  (171, .invokevirtual 534, 3, 0, 248, .null),
  (174, .ifCond .ge 20, 3, 194, 0, .null),
  (177, .aload_n 0, 1, 0, 0, .null),
  (178, .iload_n 1, 1, 0, 0, .null),
  (179, .invokevirtual 537, 3, 0, 250, .null),
  (182, .aload_n 0, 1, 0, 0, .null),
  (183, .iload_n 2, 1, 0, 0, .null),
  (184, .putfield 150, 3, 11, 53, .null),
  (187, .aload_n 0, 1, 0, 0, .null),
  (188, .bipush (-3), 2, 0, 0, .null),
  (190, .invokevirtual 171, 3, 0, 140, .null),
  (193, .ireturn, 1, 0, 0, .null),
  (194, .iinc 3 1, 3, 0, 0, .null),
  (197, .goto (-47), 3, 150, 0, .null),
  (200, .iinc 2 1, 3, 0, 0, .null),
  (203, .goto (-63), 3, 140, 0, .null),
  (206, .aload_n 0, 1, 0, 0, .null),
  (207, .aload_n 0, 1, 0, 0, .null),
  (208, .getfield 519, 3, 11, 51, .null),
  (211, .invokevirtual 171, 3, 0, 140, .null),
  (214, .ireturn, 1, 0, 0, .null)]
set_option maxRecDepth 100000 in
theorem pm_d249 : pm_c249.all (pm_decB prog_13_method_116_code) = true := by decide +kernel
/-- TrainBearersModel.giveBack(I)V -/
def pm_c250 : List pm_I := [(0, .aload_n 0, 1, 0, 0, .null),
  (1, .bipush 17, 2, 0, 0, .null),
  (3, .invokevirtual 179, 3, 0, 144, .null),
  (6, .iconst 0, 1, 0, 0, .null),
  (7, .istore_n 2, 1, 0, 0, .null),
  (8, .iload_n 2, 1, 0, 0, .null),
  (9, .sipush 464, 3, 0, 0, .null),
  (12, .if_icmp .ge 21, 3, 33, 0, .null),
  (15, .aload_n 0, 1, 0, 0, .null),
  (16, .getfield 23, 3, 11, 6, .null),
  (19, .iload_n 2, 1, 0, 0, .null),
  (20, .aload_n 0, 1, 0, 0, .null),
  (21, .getfield 29, 3, 11, 9, .null),
  (24, .iload_n 2, 1, 0, 0, .null),
  (25, .iaload, 1, 0, 0, .null),
  (26, .iastore, 1, 0, 0, .null),
  (27, .iinc 2 1, 3, 0, 0, .null),
  (30, .goto (-22), 3, 8, 0, .null),
  (33, .iconst 0, 1, 0, 0, .null),
  (34, .istore_n 2, 1, 0, 0, .null),
  (35, .iload_n 2, 1, 0, 0, .null),
  (36, .bipush 16, 2, 0, 0, .null),
  (38, .if_icmp .ge 21, 3, 59, 0, .null),
  (41, .aload_n 0, 1, 0, 0, .null),
  (42, .getfield 26, 3, 11, 7, .null),
  (45, .iload_n 2, 1, 0, 0, .null),
  (46, .aload_n 0, 1, 0, 0, .null),
  (47, .getfield 32, 3, 11, 10, .null),
  (50, .iload_n 2, 1, 0, 0, .null),
  (51, .iaload, 1, 0, 0, .null),
  (52, .iastore, 1, 0, 0, .null),
  (53, .iinc 2 1, 3, 0, 0, .null),
  (56, .goto (-21), 3, 35, 0, .null),
  (59, .aload_n 0, 1, 0, 0, .null),
  (60, .iload_n 1, 1, 0, 0, .null),
  (61, .putfield 168, 3, 11, 8, .null),
  (64, .return_, 1, 0, 0, .null)]
set_option maxRecDepth 100000 in
theorem pm_d250 : pm_c250.all (pm_decB prog_13_method_117_code) = true := by decide +kernel
/-- TrainBearersModel.stopped()I -/
def pm_c251 : List pm_I := [(0, .aload_n 0, 1, 0, 0, .null),
  (1, .iconst 0, 1, 0, 0, .null),
  (2, .putfield 162, 3, 11, 0, .null),
  (5, .aload_n 0, 1, 0, 0, .null),
  (6, .getfield 150, 3, 11, 53, .null),
  (9, .ireturn, 1, 0, 0, .null)]
set_option maxRecDepth 100000 in
theorem pm_d251 : pm_c251.all (pm_decB prog_13_method_118_code) = true := by decide +kernel
/-- TrainBearersModel.draw(I)I -/
def pm_c252 : List pm_I := [(0, .aload_n 0, 1, 0, 0, .null),
  (1, .aload_n 0, 1, 0, 0, .null),
  (2, .getfield 540, 3, 11, 55, .null),
  (5, .ldc2_w 543, 3, 1, 0, .long (1103)),
  (8, .lmul, 1, 0, 0, .null),
  (9, .ldc2_w 545, 3, 1, 0, .long (12345)),
  (12, .ladd, 1, 0, 0, .null),
  (13, .ldc2_w 547, 3, 1, 0, .long (1000003)),
  (16, .lrem, 1, 0, 0, .null),
  (17, .putfield 540, 3, 11, 55, .null),
  (20, .aload_n 0, 1, 0, 0, .null),
  (21, .getfield 540, 3, 11, 55, .null),
  (24, .iload_n 1, 1, 0, 0, .null),
  (25, .i2l, 1, 0, 0, .null),
  (26, .lrem, 1, 0, 0, .null),
  (27, .l2i, 1, 0, 0, .null),
  (28, .ireturn, 1, 0, 0, .null)]
set_option maxRecDepth 100000 in
theorem pm_d252 : pm_c252.all (pm_decB prog_13_method_119_code) = true := by decide +kernel
/-- TrainBearersModel.generations(II)I -/
def pm_c253 : List pm_I := [(0, .aload_n 0, 1, 0, 0, .null),
  (1, .iconst 0, 1, 0, 0, .null),
  (2, .putfield 162, 3, 11, 0, .null),
  (5, .iload_n 1, 1, 0, 0, .null),
  (6, .i2l, 1, 0, 0, .null),
  (7, .lconst 0, 1, 0, 0, .null),
  (8, .ldc2_w 279, 3, 1, 0, .long (1000000)),
  (11, .invokestatic 182, 3, 1, 136, .null),
  (14, .ifCond .eq 15, 3, 29, 0, .null),
  (17, .iload_n 2, 1, 0, 0, .null),
  (18, .i2l, 1, 0, 0, .null),
  (19, .lconst 1, 1, 0, 0, .null),
  (20, .ldc2_w 505, 3, 1, 0, .long (60)),
  (23, .invokestatic 182, 3, 1, 136, .null),
  (26, .ifCond .ne 9, 3, 35, 0, .null),
  (29, .aload_n 0, 1, 0, 0, .null),
  (30, .iconst (-1), 1, 0, 0, .null),
  (31, .invokevirtual 171, 3, 0, 140, .null),
  (34, .ireturn, 1, 0, 0, .null),
  (35, .aload_n 0, 1, 0, 0, .null),
  (36, .getfield 13, 3, 11, 3, .null),
  (39, .iconst 1, 1, 0, 0, .null),
  (40, .iaload, 1, 0, 0, .null),
  (41, .ifCond .eq 12, 3, 53, 0, .null),
  (44, .aload_n 0, 1, 0, 0, .null),
  (45, .getfield 13, 3, 11, 3, .null),
  (48, .iconst 0, 1, 0, 0, .null),
  (49, .iaload, 1, 0, 0, .null),
  (50, .ifCond .ne 10, 3, 60, 0, .null),
  (53, .aload_n 0, 1, 0, 0, .null),
  (54, .bipush (-3), 2, 0, 0, .null),
  (56, .invokevirtual 171, 3, 0, 140, .null),
  (59, .ireturn, 1, 0, 0, .null),
  (60, .aload_n 0, 1, 0, 0, .null),
  (61, .bipush 16, 2, 0, 0, .null),
  (63, .invokevirtual 175, 3, 0, 143, .null),
  (66, .aload_n 0, 1, 0, 0, .null),
  (67, .iload_n 1, 1, 0, 0, .null),
  (68, .i2l, 1, 0, 0, .null),
  (69, .putfield 540, 3, 11, 55, .null),
  (72, .aload_n 0, 1, 0, 0, .null),
  (73, .getfield 13, 3, 11, 3, .null),
  (76, .bipush 9, 2, 0, 0, .null),
  (78, .iaload, 1, 0, 0, .null),
  (79, .istore_n 3, 1, 0, 0, .null),
  (80, .iconst 0, 1, 0, 0, .null),
  (81, .istore 4, 2, 0, 0, .null),
  (83, .iload 4, 2, 0, 0, .null),
  (85, .iload_n 2, 1, 0, 0, .null),
  (86, .if_icmp .ge 144, 3, 230, 0, .null),
  (89, .aload_n 0, 1, 0, 0, .null),
  (90, .getfield 13, 3, 11, 3, .null),
  (93, .iconst 5, 1, 0, 0, .null),
  (94, .iaload, 1, 0, 0, .null),
  (95, .sipush 999, 3, 0, 0, .null),
  (98, .if_icmp .ge 132, 3, 230, 0, .null),
  (101, .aload_n 0, 1, 0, 0, .null),
  (102, .aload_n 0, 1, 0, 0, .null),
  (103, .getfield 13, 3, 11, 3, .null),
  (106, .iconst 1, 1, 0, 0, .null),
  (107, .iaload, 1, 0, 0, .null),
  (108, .invokevirtual 549, 3, 0, 252, .null),
  (111, .istore 5, 2, 0, 0, .null),
  (113, .aload_n 0, 1, 0, 0, .null),
  (114, .aload_n 0, 1, 0, 0, .null),
  (115, .getfield 13, 3, 11, 3, .null),
  (118, .iconst 0, 1, 0, 0, .null),
  (119, .iaload, 1, 0, 0, .null),
  (120, .invokevirtual 549, 3, 0, 252, .null),
  (123, .istore 6, 2, 0, 0, .null),
  (125, .aload_n 0, 1, 0, 0, .null),
  (126, .bipush 6, 2, 0, 0, .null),
  (128, .invokevirtual 549, 3, 0, 252, .null),
  (131, .istore 7, 2, 0, 0, .null),
  (133, .aload_n 0, 1, 0, 0, .null),
  (134, .iconst 4, 1, 0, 0, .null),
  (135, .invokevirtual 549, 3, 0, 252, .null),
  (138, .istore 8, 2, 0, 0, .null),
  (140, .iload 8, 2, 0, 0, .null),
  (142, .ifCond .ne 26, 3, 168, 0, .null),
  (145, .aload_n 0, 1, 0, 0, .null),
  (146, .iload 5, 2, 0, 0, .null),
  (148, .iload 6, 2, 0, 0, .null),
  (150, .invokevirtual 439, 3, 0, 209, .null),
  (153, .ifCond .eq 15, 3, 168, 0, .null),
  (156, .aload_n 0, 1, 0, 0, .null),
  (157, .getfield 13, 3, 11, 3, .null),
  (160, .bipush 26, 2, 0, 0, .null),
  (162, .iload 5, 2, 0, 0, .null),
  (164, .iadd, 1, 0, 0, .null),
  (165, .iload 6, 2, 0, 0, .null),
  (167, .iastore, 1, 0, 0, .null),
  (168, .aload_n 0, 1, 0, 0, .null),
  (169, .getfield 13, 3, 11, 3, .null),
  (172, .bipush 26, 2, 0, 0, .null),
  (174, .iload 5, 2, 0, 0, .null),
  (176, .iadd, 1, 0, 0, .null),
  (177, .iload 8, 2, 0, 0, .null),
  (179, .iconst 1, 1, 0, 0, .null),
  (180, .if_icmp .ne 7, 3, 187, 0, .null),
  (183, .iconst (-1), 1, 0, 0, .null),
  (184, .goto 13, 3, 197, 0, .null),
  (187, .aload_n 0, 1, 0, 0, .null),
  (188, .getfield 13, 3, 11, 3, .null),
  (191, .bipush 26, 2, 0, 0, .null),
  (193, .iload 5, 2, 0, 0, .null),
  (195, .iadd, 1, 0, 0, .null),
  (196, .iaload, 1, 0, 0, .null),
  (197, .iastore, 1, 0, 0, .null),
  (198, .iload 8, 2, 0, 0, .null),
  (200, .iconst 2, 1, 0, 0, .null),
  (201, .if_icmp .ne 19, 3, 220, 0, .null),
  (204, .aload_n 0, 1, 0, 0, .null),
  (205, .iload 7, 2, 0, 0, .null),
  (207, .invokevirtual 460, 3, 0, 215, .null),
  (210, .ifCond .eq 10, 3, 220, 0, .null),
  (213, .aload_n 0, 1, 0, 0, .null),
  (214, .iload 7, 2, 0, 0, .null),
  (216, .invokevirtual 463, 3, 0, 216, .null),
  (219, .pop, 1, 0, 0, .null),
  (220, .aload_n 0, 1, 0, 0, .null),
  (221, .invokevirtual 469, 3, 0, 219, .null),
  (224, .iinc 4 1, 3, 0, 0, .null),
  (227, .goto (-144), 3, 83, 0, .null),
  (230, .iconst 0, 1, 0, 0, .null),
  (231, .istore 4, 2, 0, 0, .null),
  (233, .iload 4, 2, 0, 0, .null),
  (235, .bipush 29, 2, 0, 0, .null),
  (237, .if_icmp .ge 25, 3, 262, 0, .null),
  (240, .aload_n 0, 1, 0, 0, .null),
  (241, .getfield 153, 3, 11, 56, .null),
  (244, .iload 4, 2, 0, 0, .null),
  (246, .aload_n 0, 1, 0, 0, .null),
  (247, .getfield 13, 3, 11, 3, .null),
  (250, .iconst 5, 1, 0, 0, .null),
  (251, .iload 4, 2, 0, 0, .null),
  (253, .iadd, 1, 0, 0, .null),
  (254, .iaload, 1, 0, 0, .null),
  (255, .iastore, 1, 0, 0, .null),
  (256, .iinc 4 1, 3, 0, 0, .null),
  (259, .goto (-26), 3, 233, 0, .null),
  (262, .aload_n 0, 1, 0, 0, .null),
  (263, .aload_n 0, 1, 0, 0, .null),
  (264, .getfield 13, 3, 11, 3, .null),
  (267, .iconst 1, 1, 0, 0, .null),
  (268, .iaload, 1, 0, 0, .null),
  (269, .putfield 156, 3, 11, 57, .null),
  (272, .aload_n 0, 1, 0, 0, .null),
  (273, .aload_n 0, 1, 0, 0, .null),
  (274, .getfield 13, 3, 11, 3, .null),
  (277, .iconst 0, 1, 0, 0, .null),
  (278, .iaload, 1, 0, 0, .null),
  (279, .putfield 159, 3, 11, 58, .null),
  (282, .aload_n 0, 1, 0, 0, .null),
  (283, .getfield 13, 3, 11, 3, .null),
  (286, .bipush 9, 2, 0, 0, .null),
  (288, .iaload, 1, 0, 0, .null),
  (289, .iload_n 3, 1, 0, 0, .null),
  (290, .isub, 1, 0, 0, .null),
  (291, .istore 4, 2, 0, 0, .null),
  (293, .aload_n 0, 1, 0, 0, .null),
  (294, .bipush 16, 2, 0, 0, .null),
  (296, .invokevirtual 179, 3, 0, 144, .null),
  (299, .aload_n 0, 1, 0, 0, .null),
  (300, .iload 4, 2, 0, 0, .null),
  (302, .invokevirtual 171, 3, 0, 140, .null),
  (305, .ireturn, 1, 0, 0, .null)]
set_option maxRecDepth 100000 in
theorem pm_d253 : pm_c253.all (pm_decB prog_13_method_120_code) = true := by decide +kernel
/-- TrainBearersModel.drawn(II)I -/
def pm_c254 : List pm_I := [(0, .aload_n 0, 1, 0, 0, .null),
  (1, .iconst 0, 1, 0, 0, .null),
  (2, .putfield 162, 3, 11, 0, .null),
  (5, .iload_n 2, 1, 0, 0, .null),
  (6, .i2l, 1, 0, 0, .null),
  (7, .lconst 0, 1, 0, 0, .null),
  (8, .ldc2_w 552, 3, 1, 0, .long (2)),
  (11, .invokestatic 182, 3, 1, 136, .null),
  (14, .ifCond .eq 31, 3, 45, 0, .null),
  (17, .iload_n 1, 1, 0, 0, .null),
  (18, .i2l, 1, 0, 0, .null),
  (19, .lconst 0, 1, 0, 0, .null),
  (20, .iload_n 2, 1, 0, 0, .null),
  (21, .iconst 2, 1, 0, 0, .null),
  (22, .if_icmp .ge 10, 3, 32, 0, .null),
  (25, .aload_n 0, 1, 0, 0, .null),
  (26, .getfield 156, 3, 11, 57, .null),
  (29, .goto 7, 3, 36, 0, .null),
  (32, .aload_n 0, 1, 0, 0, .null),
  (33, .getfield 159, 3, 11, 58, .null),
  (36, .i2l, 1, 0, 0, .null),
  (37, .lconst 1, 1, 0, 0, .null),
  (38, .lsub, 1, 0, 0, .null),
  (39, .invokestatic 182, 3, 1, 136, .null),
  (42, .ifCond .ne 5, 3, 47, 0, .null),
  (45, .iconst (-1), 1, 0, 0, .null),
  (46, .ireturn, 1, 0, 0, .null),
  (47, .aload_n 0, 1, 0, 0, .null),
  (48, .getfield 153, 3, 11, 56, .null),
  (51, .iload_n 2, 1, 0, 0, .null),
  (52, .ifCond .ne 8, 3, 60, 0, .null),
  (55, .bipush 18, 2, 0, 0, .null),
  (57, .goto 15, 3, 72, 0, .null),
  (60, .iload_n 2, 1, 0, 0, .null),
  (61, .iconst 1, 1, 0, 0, .null),
  (62, .if_icmp .ne 8, 3, 70, 0, .null),
  (65, .bipush 26, 2, 0, 0, .null),
  (67, .goto 5, 3, 72, 0, .null),
  (70, .bipush 10, 2, 0, 0, .null),
  (72, .iconst 5, 1, 0, 0, .null),
  (73, .isub, 1, 0, 0, .null),
  (74, .iload_n 1, 1, 0, 0, .null),
  (75, .iadd, 1, 0, 0, .null),
  (76, .iaload, 1, 0, 0, .null),
  (77, .ireturn, 1, 0, 0, .null)]
set_option maxRecDepth 100000 in
theorem pm_d254 : pm_c254.all (pm_decB prog_13_method_121_code) = true := by decide +kernel
/-- TrainBearersModel.count(I)I -/
def pm_c255 : List pm_I := [(0, .aload_n 0, 1, 0, 0, .null),
  (1, .iconst 0, 1, 0, 0, .null),
  (2, .putfield 162, 3, 11, 0, .null),
  (5, .iload_n 1, 1, 0, 0, .null),
  (6, .tableswitch 176 0 14 #[74, 81, 88, 93, 101, 109, 116, 123, 128, 133, 140, 147, 154, 161, 169], 74, 0, 0, .null),
  (80, .aload_n 0, 1, 0, 0, .null),
  (81, .getfield 13, 3, 11, 3, .null),
  (84, .iconst 0, 1, 0, 0, .null),
  (85, .iaload, 1, 0, 0, .null),
  (86, .ireturn, 1, 0, 0, .null),
  (87, .aload_n 0, 1, 0, 0, .null),
  (88, .getfield 13, 3, 11, 3, .null),
  (91, .iconst 1, 1, 0, 0, .null),
  (92, .iaload, 1, 0, 0, .null),
  (93, .ireturn, 1, 0, 0, .null),
  (94, .aload_n 0, 1, 0, 0, .null),
  (95, .invokevirtual 554, 3, 0, 153, .null),
  (98, .ireturn, 1, 0, 0, .null),
  (99, .aload_n 0, 1, 0, 0, .null),
  (100, .getfield 13, 3, 11, 3, .null),
  (103, .bipush 9, 2, 0, 0, .null),
  (105, .iaload, 1, 0, 0, .null),
  (106, .ireturn, 1, 0, 0, .null),
  (107, .aload_n 0, 1, 0, 0, .null),
  (108, .getfield 13, 3, 11, 3, .null),
  (111, .bipush 8, 2, 0, 0, .null),
  (113, .iaload, 1, 0, 0, .null),
  (114, .ireturn, 1, 0, 0, .null),
  (115, .aload_n 0, 1, 0, 0, .null),
  (116, .getfield 13, 3, 11, 3, .null),
  (119, .iconst 2, 1, 0, 0, .null),
  (120, .iaload, 1, 0, 0, .null),
  (121, .ireturn, 1, 0, 0, .null),
  (122, .aload_n 0, 1, 0, 0, .null),
  (123, .getfield 13, 3, 11, 3, .null),
  (126, .iconst 3, 1, 0, 0, .null),
  (127, .iaload, 1, 0, 0, .null),
  (128, .ireturn, 1, 0, 0, .null),
  (129, .aload_n 0, 1, 0, 0, .null),
  (130, .getfield 168, 3, 11, 8, .null),
  (133, .ireturn, 1, 0, 0, .null),
  (134, .aload_n 0, 1, 0, 0, .null),
  (135, .getfield 239, 3, 11, 13, .null),
  (138, .ireturn, 1, 0, 0, .null),
  (139, .aload_n 0, 1, 0, 0, .null),
  (140, .getfield 7, 3, 11, 2, .null),
  (143, .iconst 1, 1, 0, 0, .null),
  (144, .iaload, 1, 0, 0, .null),
  (145, .ireturn, 1, 0, 0, .null),
  (146, .aload_n 0, 1, 0, 0, .null),
  (147, .getfield 7, 3, 11, 2, .null),
  (150, .iconst 2, 1, 0, 0, .null),
  (151, .iaload, 1, 0, 0, .null),
  (152, .ireturn, 1, 0, 0, .null),
  (153, .aload_n 0, 1, 0, 0, .null),
  (154, .getfield 7, 3, 11, 2, .null),
  (157, .iconst 3, 1, 0, 0, .null),
  (158, .iaload, 1, 0, 0, .null),
  (159, .ireturn, 1, 0, 0, .null),
  (160, .aload_n 0, 1, 0, 0, .null),
  (161, .getfield 7, 3, 11, 2, .null),
  (164, .iconst 5, 1, 0, 0, .null),
  (165, .iaload, 1, 0, 0, .null),
  (166, .ireturn, 1, 0, 0, .null),
  (167, .aload_n 0, 1, 0, 0, .null),
  (168, .getfield 7, 3, 11, 2, .null),
  (171, .bipush 6, 2, 0, 0, .null),
  (173, .iaload, 1, 0, 0, .null),
  (174, .ireturn, 1, 0, 0, .null),
  (175, .aload_n 0, 1, 0, 0, .null),
  (176, .getfield 13, 3, 11, 3, .null),
  (179, .iconst 4, 1, 0, 0, .null),
  (180, .iaload, 1, 0, 0, .null),
  (181, .ireturn, 1, 0, 0, .null),
  (182, .iload_n 1, 1, 0, 0, .null),
  (183, .i2l, 1, 0, 0, .null),
  (184, .ldc2_w 557, 3, 1, 0, .long (15)),
  (187, .ldc2_w 559, 3, 1, 0, .long (17)),
  (190, .invokestatic 182, 3, 1, 136, .null),
  (193, .ifCond .eq 17, 3, 210, 0, .null),
  (196, .aload_n 0, 1, 0, 0, .null),
  (197, .getfield 13, 3, 11, 3, .null),
  (200, .iconst 5, 1, 0, 0, .null),
  (201, .iload_n 1, 1, 0, 0, .null),
  (202, .iadd, 1, 0, 0, .null),
  (203, .bipush 15, 2, 0, 0, .null),
  (205, .isub, 1, 0, 0, .null),
  (206, .iaload, 1, 0, 0, .null),
  (207, .goto 4, 3, 211, 0, .null),
  (210, .iconst (-1), 1, 0, 0, .null),
  (211, .ireturn, 1, 0, 0, .null)]
set_option maxRecDepth 100000 in
theorem pm_d255 : pm_c255.all (pm_decB prog_13_method_122_code) = true := by decide +kernel
/-- TrainBearersModel.status()I -/
def pm_c256 : List pm_I := [(0, .aload_n 0, 1, 0, 0, .null),
  (1, .iconst 0, 1, 0, 0, .null),
  (2, .putfield 162, 3, 11, 0, .null),
  (5, .aload_n 0, 1, 0, 0, .null),
  (6, .getfield 165, 3, 11, 1, .null),
  (9, .ireturn, 1, 0, 0, .null)]
set_option maxRecDepth 100000 in
theorem pm_d256 : pm_c256.all (pm_decB prog_13_method_123_code) = true := by decide +kernel
/-- java/lang/Integer.bitCount(I)I -/
def pm_c257 : List pm_I := [(0, .iload_n 0, 1, 0, 0, .null),
  (1, .iload_n 0, 1, 0, 0, .null),
  (2, .iconst 1, 1, 0, 0, .null),
  (3, .iushr, 1, 0, 0, .null),
  (4, .ldc_w 265, 3, 0, 0, .int (1431655765)),
  (7, .iand, 1, 0, 0, .null),
  (8, .isub, 1, 0, 0, .null),
  (9, .istore_n 0, 1, 0, 0, .null),
  (10, .iload_n 0, 1, 0, 0, .null),
  (11, .ldc_w 266, 3, 0, 0, .int (858993459)),
  (14, .iand, 1, 0, 0, .null),
  (15, .iload_n 0, 1, 0, 0, .null),
  (16, .iconst 2, 1, 0, 0, .null),
  (17, .iushr, 1, 0, 0, .null),
  (18, .ldc_w 266, 3, 0, 0, .int (858993459)),
  (21, .iand, 1, 0, 0, .null),
  (22, .iadd, 1, 0, 0, .null),
  (23, .istore_n 0, 1, 0, 0, .null),
  (24, .iload_n 0, 1, 0, 0, .null),
  (25, .iload_n 0, 1, 0, 0, .null),
  (26, .iconst 4, 1, 0, 0, .null),
  (27, .iushr, 1, 0, 0, .null),
  (28, .iadd, 1, 0, 0, .null),
  (29, .ldc_w 267, 3, 0, 0, .int (252645135)),
  (32, .iand, 1, 0, 0, .null),
  (33, .istore_n 0, 1, 0, 0, .null),
  (34, .iload_n 0, 1, 0, 0, .null),
  (35, .iload_n 0, 1, 0, 0, .null),
  (36, .bipush 8, 2, 0, 0, .null),
  (38, .iushr, 1, 0, 0, .null),
  (39, .iadd, 1, 0, 0, .null),
  (40, .istore_n 0, 1, 0, 0, .null),
  (41, .iload_n 0, 1, 0, 0, .null),
  (42, .iload_n 0, 1, 0, 0, .null),
  (43, .bipush 16, 2, 0, 0, .null),
  (45, .iushr, 1, 0, 0, .null),
  (46, .iadd, 1, 0, 0, .null),
  (47, .istore_n 0, 1, 0, 0, .null),
  (48, .iload_n 0, 1, 0, 0, .null),
  (49, .bipush 63, 2, 0, 0, .null),
  (51, .iand, 1, 0, 0, .null),
  (52, .ireturn, 1, 0, 0, .null)]
set_option maxRecDepth 100000 in
theorem pm_d257 : pm_c257.all (pm_decB prog_15_method_49_code) = true := by decide +kernel
/-- java/lang/Math.max(II)I -/
def pm_c258 : List pm_I := [(0, .iload_n 0, 1, 0, 0, .null),
  (1, .iload_n 1, 1, 0, 0, .null),
  (2, .if_icmp .lt 7, 3, 9, 0, .null),
  (5, .iload_n 0, 1, 0, 0, .null),
  (6, .goto 4, 3, 10, 0, .null),
  (9, .iload_n 1, 1, 0, 0, .null),
  (10, .ireturn, 1, 0, 0, .null)]
set_option maxRecDepth 100000 in
theorem pm_d258 : pm_c258.all (pm_decB prog_16_method_65_code) = true := by decide +kernel
/-- java/lang/Math.min(II)I -/
def pm_c259 : List pm_I := [(0, .iload_n 0, 1, 0, 0, .null),
  (1, .iload_n 1, 1, 0, 0, .null),
  (2, .if_icmp .gt 7, 3, 9, 0, .null),
  (5, .iload_n 0, 1, 0, 0, .null),
  (6, .goto 4, 3, 10, 0, .null),
  (9, .iload_n 1, 1, 0, 0, .null),
  (10, .ireturn, 1, 0, 0, .null)]
set_option maxRecDepth 100000 in
theorem pm_d259 : pm_c259.all (pm_decB prog_16_method_69_code) = true := by decide +kernel
/-- java/lang/String.length()I -/
def pm_c260 : List pm_I := [(0, .aload_n 0, 1, 0, 0, .null),
  (1, .getfield 9, 3, 100, 0, .null),
  (4, .arraylength, 1, 0, 0, .null),
  (5, .aload_n 0, 1, 0, 0, .null),
  (6, .invokevirtual 335, 3, 7, 262, .null),
  (9, .ishr, 1, 0, 0, .null),
  (10, .ireturn, 1, 0, 0, .null)]
set_option maxRecDepth 100000 in
theorem pm_d260 : pm_c260.all (pm_decB prog_17_method_54_code) = true := by decide +kernel
/-- java/lang/String.charAt(I)C -/
def pm_c261 : List pm_I := [(0, .aload_n 0, 1, 0, 0, .null),
  (1, .invokevirtual 492, 3, 7, 263, .null),
  (4, .ifCond .eq 12, 3, 16, 0, .null),
  (7, .aload_n 0, 1, 0, 0, .null),
  (8, .getfield 9, 3, 100, 0, .null),
  (11, .iload_n 1, 1, 0, 0, .null),
  (12, .invokestatic 495, 3, 1, 265, .null),
  (15, .ireturn, 1, 0, 0, .null),
  (16, .aload_n 0, 1, 0, 0, .null),
  (17, .getfield 9, 3, 100, 0, .null),
  (20, .iload_n 1, 1, 0, 0, .null),
  (21, .invokestatic 498, 3, 99, 0, .null),
  (24, .ireturn, 1, 0, 0, .null)]
set_option maxRecDepth 100000 in
theorem pm_d261 : pm_c261.all (pm_decB prog_17_method_56_code) = true := by decide +kernel
/-- java/lang/String.coder()B -/
def pm_c262 : List pm_I := [(0, .getstatic 38, 3, 0, 0, .int 1),
  (3, .ifCond .eq 10, 3, 13, 0, .null),
  (6, .aload_n 0, 1, 0, 0, .null),
  (7, .getfield 15, 3, 100, 1, .null),
  (10, .goto 4, 3, 14, 0, .null),
  (13, .iconst 1, 1, 0, 0, .null),
  (14, .ireturn, 1, 0, 0, .null)]
set_option maxRecDepth 100000 in
theorem pm_d262 : pm_c262.all (pm_decB prog_17_method_152_code) = true := by decide +kernel
/-- java/lang/String.isLatin1()Z -/
def pm_c263 : List pm_I := [(0, .getstatic 38, 3, 0, 0, .int 1),
  (3, .ifCond .eq 14, 3, 17, 0, .null),
  (6, .aload_n 0, 1, 0, 0, .null),
  (7, .getfield 15, 3, 100, 1, .null),
  (10, .ifCond .ne 7, 3, 17, 0, .null),
  (13, .iconst 1, 1, 0, 0, .null),
  (14, .goto 4, 3, 18, 0, .null),
  (17, .iconst 0, 1, 0, 0, .null),
  (18, .ireturn, 1, 0, 0, .null)]
set_option maxRecDepth 100000 in
theorem pm_d263 : pm_c263.all (pm_decB prog_17_method_154_code) = true := by decide +kernel
/-- java/lang/String.checkIndex(II)V -/
def pm_c264 : List pm_I := [(0, .iload_n 0, 1, 0, 0, .null),
  (1, .iload_n 1, 1, 0, 0, .null),
  (2, .getstatic 1053, 3, 0, 0, .retAddr 300),
  (5, .invokestatic 1059, 3, 1, 268, .null),
  (8, .pop, 1, 0, 0, .null),
  (9, .return_, 1, 0, 0, .null)]
set_option maxRecDepth 100000 in
theorem pm_d264 : pm_c264.all (pm_decB prog_17_method_155_code) = true := by decide +kernel
/-- java/lang/StringLatin1.charAt([BI)C -/
def pm_c265 : List pm_I := [(0, .iload_n 1, 1, 0, 0, .null),
  (1, .aload_n 0, 1, 0, 0, .null),
  (2, .arraylength, 1, 0, 0, .null),
  (3, .invokestatic 9, 3, 1, 264, .null),
  (6, .aload_n 0, 1, 0, 0, .null),
  (7, .iload_n 1, 1, 0, 0, .null),
  (8, .baload, 1, 0, 0, .null),
  (9, .sipush 255, 3, 0, 0, .null),
  (12, .iand, 1, 0, 0, .null),
  (13, .i2c, 1, 0, 0, .null),
  (14, .ireturn, 1, 0, 0, .null)]
set_option maxRecDepth 100000 in
theorem pm_d265 : pm_c265.all (pm_decB prog_18_method_2_code) = true := by decide +kernel
/-- java/util/Arrays.fill([II)V -/
def pm_c266 : List pm_I := [(0, .iconst 0, 1, 0, 0, .null),
  (1, .istore_n 2, 1, 0, 0, .null),
  (2, .aload_n 0, 1, 0, 0, .null),
  (3, .arraylength, 1, 0, 0, .null),
  (4, .istore_n 3, 1, 0, 0, .null),
  (5, .iload_n 2, 1, 0, 0, .null),
  (6, .iload_n 3, 1, 0, 0, .null),
  (7, .if_icmp .ge 13, 3, 20, 0, .null),
  (10, .aload_n 0, 1, 0, 0, .null),
  (11, .iload_n 2, 1, 0, 0, .null),
  (12, .iload_n 1, 1, 0, 0, .null),
  (13, .iastore, 1, 0, 0, .null),
  (14, .iinc 2 1, 3, 0, 0, .null),
  (17, .goto (-12), 3, 5, 0, .null),
  (20, .return_, 1, 0, 0, .null)]
set_option maxRecDepth 100000 in
theorem pm_d266 : pm_c266.all (pm_decB prog_21_method_103_code) = true := by decide +kernel
/-- java/util/Arrays.copyOf([II)[I -/
def pm_c267 : List pm_I := [(0, .iload_n 1, 1, 0, 0, .null),
  (1, .aload_n 0, 1, 0, 0, .null),
  (2, .arraylength, 1, 0, 0, .null),
  (3, .if_icmp .ne 11, 3, 14, 0, .null),
  (6, .aload_n 0, 1, 0, 0, .null),
  (7, .invokevirtual 316, 3, 6, 0, .null),
  (10, .checkcast 317, 3, 0, 0, .null),
  (13, .areturn, 1, 0, 0, .null),
  (14, .iload_n 1, 1, 0, 0, .null),
  (15, .newarray .int, 2, 0, 0, .null),
  (17, .astore_n 2, 1, 0, 0, .null),
  (18, .aload_n 0, 1, 0, 0, .null),
  (19, .iconst 0, 1, 0, 0, .null),
  (20, .aload_n 2, 1, 0, 0, .null),
  (21, .iconst 0, 1, 0, 0, .null),
  (22, .aload_n 0, 1, 0, 0, .null),
  (23, .arraylength, 1, 0, 0, .null),
  (24, .iload_n 1, 1, 0, 0, .null),
  (25, .invokestatic 304, 3, 1, 259, .null),
  (28, .invokestatic 150, 3, 5, 0, .null),
  (31, .aload_n 2, 1, 0, 0, .null),
  (32, .areturn, 1, 0, 0, .null)]
set_option maxRecDepth 100000 in
theorem pm_d267 : pm_c267.all (pm_decB prog_21_method_123_code) = true := by decide +kernel
/-- jdk/internal/util/Preconditions.checkIndex(IILjava/util/function/BiFunction;)I -/
def pm_c268 : List pm_I := [(0, .iload_n 0, 1, 0, 0, .null),
  (1, .ifCond .lt 8, 3, 9, 0, .null),
  (4, .iload_n 0, 1, 0, 0, .null),
  (5, .iload_n 1, 1, 0, 0, .null),
  (6, .if_icmp .lt 10, 3, 16, 0, .null),
  (9, .aload_n 2, 1, 0, 0, .null),
  (10, .iload_n 0, 1, 0, 0, .null),
  (11, .iload_n 1, 1, 0, 0, .null),
  (12, .invokestatic 95, 3, 99, 0, .null),
  (15, .athrow, 1, 99, 0, .null),
  (16, .iload_n 0, 1, 0, 0, .null),
  (17, .ireturn, 1, 0, 0, .null)]
set_option maxRecDepth 100000 in
theorem pm_d268 : pm_c268.all (pm_decB prog_22_method_11_code) = true := by decide +kernel
/-- the law -/
def pm_cL0 : List pm_I := [(0, .new 7, 3, 10, 0, .null),
  (3, .dup, 1, 0, 0, .null),
  (4, .invokespecial 9, 3, 2, 82, .null),
  (7, .astore_n 1, 1, 0, 0, .null),
  (8, .new 10, 3, 11, 0, .null),
  (11, .dup, 1, 0, 0, .null),
  (12, .invokespecial 12, 3, 2, 135, .null),
  (15, .astore_n 2, 1, 0, 0, .null),
  (16, .iconst 0, 1, 0, 0, .null),
  (17, .istore_n 3, 1, 0, 0, .null),
  (18, .iload_n 3, 1, 0, 0, .null),
  (19, .aload_n 0, 1, 0, 0, .null),
  (20, .arraylength, 1, 0, 0, .null),
  (21, .bipush 6, 2, 0, 0, .null),
  (23, .isub, 1, 0, 0, .null),
  (24, .if_icmp .gt 1188, 3, 1212, 0, .null),
  (27, .aload_n 0, 1, 0, 0, .null),
  (28, .iload_n 3, 1, 0, 0, .null),
  (29, .iaload, 1, 0, 0, .null),
  (30, .bipush 63, 2, 0, 0, .null),
  (32, .iand, 1, 0, 0, .null),
  (33, .tableswitch 1173 0 40 #[179, 202, 235, 258, 291, 334, 377, 410, 443, 506, 529, 542, 555, 568, 581, 594, 607, 630, 663, 686, 709, 722, 735, 758, 781, 814, 827, 840, 863, 896, 919, 952, 975, 988, 1002, 1025, 1058, 1091, 1114, 1137, 1160], 179, 0, 0, .null),
  (212, .aload_n 1, 1, 0, 0, .null),
  (213, .aload_n 0, 1, 0, 0, .null),
  (214, .iload_n 3, 1, 0, 0, .null),
  (215, .iconst 1, 1, 0, 0, .null),
  (216, .iadd, 1, 0, 0, .null),
  (217, .iaload, 1, 0, 0, .null),
  (218, .invokevirtual 13, 3, 0, 83, .null),
  (221, .aload_n 2, 1, 0, 0, .null),
  (222, .aload_n 0, 1, 0, 0, .null),
  (223, .iload_n 3, 1, 0, 0, .null),
  (224, .iconst 1, 1, 0, 0, .null),
  (225, .iadd, 1, 0, 0, .null),
  (226, .iaload, 1, 0, 0, .null),
  (227, .invokevirtual 17, 3, 0, 154, .null),
  (230, .if_icmp .eq 976, 3, 1206, 0, .null),
  (233, .iconst 0, 1, 0, 0, .null),
  (234, .ireturn, 1, 0, 0, .null),
  (235, .aload_n 1, 1, 0, 0, .null),
  (236, .aload_n 0, 1, 0, 0, .null),
  (237, .iload_n 3, 1, 0, 0, .null),
  (238, .iconst 1, 1, 0, 0, .null),
  (239, .iadd, 1, 0, 0, .null),
  (240, .iaload, 1, 0, 0, .null),
  (241, .aload_n 0, 1, 0, 0, .null),
  (242, .iload_n 3, 1, 0, 0, .null),
  (243, .iconst 2, 1, 0, 0, .null),
  (244, .iadd, 1, 0, 0, .null),
  (245, .iaload, 1, 0, 0, .null),
  (246, .invokevirtual 18, 3, 0, 84, .null),
  (249, .aload_n 2, 1, 0, 0, .null),
  (250, .aload_n 0, 1, 0, 0, .null),
  (251, .iload_n 3, 1, 0, 0, .null),
  (252, .iconst 1, 1, 0, 0, .null),
  (253, .iadd, 1, 0, 0, .null),
  (254, .iaload, 1, 0, 0, .null),
  (255, .aload_n 0, 1, 0, 0, .null),
  (256, .iload_n 3, 1, 0, 0, .null),
  (257, .iconst 2, 1, 0, 0, .null)]
set_option maxRecDepth 100000 in
theorem pm_dL0 : pm_cL0.all (pm_decB code) = true := by decide +kernel
def pm_cL1 : List pm_I := [(258, .iadd, 1, 0, 0, .null),
  (259, .iaload, 1, 0, 0, .null),
  (260, .invokevirtual 22, 3, 0, 155, .null),
  (263, .if_icmp .eq 943, 3, 1206, 0, .null),
  (266, .iconst 0, 1, 0, 0, .null),
  (267, .ireturn, 1, 0, 0, .null),
  (268, .aload_n 1, 1, 0, 0, .null),
  (269, .aload_n 0, 1, 0, 0, .null),
  (270, .iload_n 3, 1, 0, 0, .null),
  (271, .iconst 1, 1, 0, 0, .null),
  (272, .iadd, 1, 0, 0, .null),
  (273, .iaload, 1, 0, 0, .null),
  (274, .invokevirtual 23, 3, 0, 85, .null),
  (277, .aload_n 2, 1, 0, 0, .null),
  (278, .aload_n 0, 1, 0, 0, .null),
  (279, .iload_n 3, 1, 0, 0, .null),
  (280, .iconst 1, 1, 0, 0, .null),
  (281, .iadd, 1, 0, 0, .null),
  (282, .iaload, 1, 0, 0, .null),
  (283, .invokevirtual 26, 3, 0, 156, .null),
  (286, .if_icmp .eq 920, 3, 1206, 0, .null),
  (289, .iconst 0, 1, 0, 0, .null),
  (290, .ireturn, 1, 0, 0, .null),
  (291, .aload_n 1, 1, 0, 0, .null),
  (292, .aload_n 0, 1, 0, 0, .null),
  (293, .iload_n 3, 1, 0, 0, .null),
  (294, .iconst 1, 1, 0, 0, .null),
  (295, .iadd, 1, 0, 0, .null),
  (296, .iaload, 1, 0, 0, .null),
  (297, .aload_n 0, 1, 0, 0, .null),
  (298, .iload_n 3, 1, 0, 0, .null),
  (299, .iconst 2, 1, 0, 0, .null),
  (300, .iadd, 1, 0, 0, .null),
  (301, .iaload, 1, 0, 0, .null),
  (302, .invokevirtual 27, 3, 0, 86, .null),
  (305, .aload_n 2, 1, 0, 0, .null),
  (306, .aload_n 0, 1, 0, 0, .null),
  (307, .iload_n 3, 1, 0, 0, .null),
  (308, .iconst 1, 1, 0, 0, .null),
  (309, .iadd, 1, 0, 0, .null),
  (310, .iaload, 1, 0, 0, .null),
  (311, .aload_n 0, 1, 0, 0, .null),
  (312, .iload_n 3, 1, 0, 0, .null),
  (313, .iconst 2, 1, 0, 0, .null),
  (314, .iadd, 1, 0, 0, .null),
  (315, .iaload, 1, 0, 0, .null),
  (316, .invokevirtual 30, 3, 0, 157, .null),
  (319, .if_icmp .eq 887, 3, 1206, 0, .null),
  (322, .iconst 0, 1, 0, 0, .null),
  (323, .ireturn, 1, 0, 0, .null),
  (324, .aload_n 1, 1, 0, 0, .null),
  (325, .aload_n 0, 1, 0, 0, .null),
  (326, .iload_n 3, 1, 0, 0, .null),
  (327, .iconst 1, 1, 0, 0, .null),
  (328, .iadd, 1, 0, 0, .null),
  (329, .iaload, 1, 0, 0, .null),
  (330, .aload_n 0, 1, 0, 0, .null),
  (331, .iload_n 3, 1, 0, 0, .null),
  (332, .iconst 2, 1, 0, 0, .null),
  (333, .iadd, 1, 0, 0, .null)]
set_option maxRecDepth 100000 in
theorem pm_dL1 : pm_cL1.all (pm_decB code) = true := by decide +kernel
def pm_cL2 : List pm_I := [(334, .iaload, 1, 0, 0, .null),
  (335, .aload_n 0, 1, 0, 0, .null),
  (336, .iload_n 3, 1, 0, 0, .null),
  (337, .iconst 3, 1, 0, 0, .null),
  (338, .iadd, 1, 0, 0, .null),
  (339, .iaload, 1, 0, 0, .null),
  (340, .invokevirtual 31, 3, 0, 87, .null),
  (343, .aload_n 2, 1, 0, 0, .null),
  (344, .aload_n 0, 1, 0, 0, .null),
  (345, .iload_n 3, 1, 0, 0, .null),
  (346, .iconst 1, 1, 0, 0, .null),
  (347, .iadd, 1, 0, 0, .null),
  (348, .iaload, 1, 0, 0, .null),
  (349, .aload_n 0, 1, 0, 0, .null),
  (350, .iload_n 3, 1, 0, 0, .null),
  (351, .iconst 2, 1, 0, 0, .null),
  (352, .iadd, 1, 0, 0, .null),
  (353, .iaload, 1, 0, 0, .null),
  (354, .aload_n 0, 1, 0, 0, .null),
  (355, .iload_n 3, 1, 0, 0, .null),
  (356, .iconst 3, 1, 0, 0, .null),
  (357, .iadd, 1, 0, 0, .null),
  (358, .iaload, 1, 0, 0, .null),
  (359, .invokevirtual 35, 3, 0, 158, .null),
  (362, .if_icmp .eq 844, 3, 1206, 0, .null),
  (365, .iconst 0, 1, 0, 0, .null),
  (366, .ireturn, 1, 0, 0, .null),
  (367, .aload_n 1, 1, 0, 0, .null),
  (368, .aload_n 0, 1, 0, 0, .null),
  (369, .iload_n 3, 1, 0, 0, .null),
  (370, .iconst 1, 1, 0, 0, .null),
  (371, .iadd, 1, 0, 0, .null),
  (372, .iaload, 1, 0, 0, .null),
  (373, .aload_n 0, 1, 0, 0, .null),
  (374, .iload_n 3, 1, 0, 0, .null),
  (375, .iconst 2, 1, 0, 0, .null),
  (376, .iadd, 1, 0, 0, .null),
  (377, .iaload, 1, 0, 0, .null),
  (378, .aload_n 0, 1, 0, 0, .null),
  (379, .iload_n 3, 1, 0, 0, .null),
  (380, .iconst 3, 1, 0, 0, .null),
  (381, .iadd, 1, 0, 0, .null),
  (382, .iaload, 1, 0, 0, .null),
  (383, .invokevirtual 36, 3, 0, 88, .null),
  (386, .aload_n 2, 1, 0, 0, .null),
  (387, .aload_n 0, 1, 0, 0, .null),
  (388, .iload_n 3, 1, 0, 0, .null),
  (389, .iconst 1, 1, 0, 0, .null),
  (390, .iadd, 1, 0, 0, .null),
  (391, .iaload, 1, 0, 0, .null),
  (392, .aload_n 0, 1, 0, 0, .null),
  (393, .iload_n 3, 1, 0, 0, .null),
  (394, .iconst 2, 1, 0, 0, .null),
  (395, .iadd, 1, 0, 0, .null),
  (396, .iaload, 1, 0, 0, .null),
  (397, .aload_n 0, 1, 0, 0, .null),
  (398, .iload_n 3, 1, 0, 0, .null),
  (399, .iconst 3, 1, 0, 0, .null),
  (400, .iadd, 1, 0, 0, .null),
  (401, .iaload, 1, 0, 0, .null)]
set_option maxRecDepth 100000 in
theorem pm_dL2 : pm_cL2.all (pm_decB code) = true := by decide +kernel
def pm_cL3 : List pm_I := [(402, .invokevirtual 39, 3, 0, 161, .null),
  (405, .if_icmp .eq 801, 3, 1206, 0, .null),
  (408, .iconst 0, 1, 0, 0, .null),
  (409, .ireturn, 1, 0, 0, .null),
  (410, .aload_n 1, 1, 0, 0, .null),
  (411, .aload_n 0, 1, 0, 0, .null),
  (412, .iload_n 3, 1, 0, 0, .null),
  (413, .iconst 1, 1, 0, 0, .null),
  (414, .iadd, 1, 0, 0, .null),
  (415, .iaload, 1, 0, 0, .null),
  (416, .aload_n 0, 1, 0, 0, .null),
  (417, .iload_n 3, 1, 0, 0, .null),
  (418, .iconst 2, 1, 0, 0, .null),
  (419, .iadd, 1, 0, 0, .null),
  (420, .iaload, 1, 0, 0, .null),
  (421, .invokevirtual 40, 3, 0, 89, .null),
  (424, .aload_n 2, 1, 0, 0, .null),
  (425, .aload_n 0, 1, 0, 0, .null),
  (426, .iload_n 3, 1, 0, 0, .null),
  (427, .iconst 1, 1, 0, 0, .null),
  (428, .iadd, 1, 0, 0, .null),
  (429, .iaload, 1, 0, 0, .null),
  (430, .aload_n 0, 1, 0, 0, .null),
  (431, .iload_n 3, 1, 0, 0, .null),
  (432, .iconst 2, 1, 0, 0, .null),
  (433, .iadd, 1, 0, 0, .null),
  (434, .iaload, 1, 0, 0, .null),
  (435, .invokevirtual 43, 3, 0, 162, .null),
  (438, .if_icmp .eq 768, 3, 1206, 0, .null),
  (441, .iconst 0, 1, 0, 0, .null),
  (442, .ireturn, 1, 0, 0, .null),
  (443, .aload_n 1, 1, 0, 0, .null),
  (444, .aload_n 0, 1, 0, 0, .null),
  (445, .iload_n 3, 1, 0, 0, .null),
  (446, .iconst 1, 1, 0, 0, .null),
  (447, .iadd, 1, 0, 0, .null),
  (448, .iaload, 1, 0, 0, .null),
  (449, .aload_n 0, 1, 0, 0, .null),
  (450, .iload_n 3, 1, 0, 0, .null),
  (451, .iconst 2, 1, 0, 0, .null),
  (452, .iadd, 1, 0, 0, .null),
  (453, .iaload, 1, 0, 0, .null),
  (454, .invokevirtual 44, 3, 0, 90, .null),
  (457, .aload_n 2, 1, 0, 0, .null),
  (458, .aload_n 0, 1, 0, 0, .null),
  (459, .iload_n 3, 1, 0, 0, .null),
  (460, .iconst 1, 1, 0, 0, .null),
  (461, .iadd, 1, 0, 0, .null),
  (462, .iaload, 1, 0, 0, .null),
  (463, .aload_n 0, 1, 0, 0, .null),
  (464, .iload_n 3, 1, 0, 0, .null),
  (465, .iconst 2, 1, 0, 0, .null),
  (466, .iadd, 1, 0, 0, .null),
  (467, .iaload, 1, 0, 0, .null),
  (468, .invokevirtual 47, 3, 0, 163, .null),
  (471, .if_icmp .eq 735, 3, 1206, 0, .null),
  (474, .iconst 0, 1, 0, 0, .null),
  (475, .ireturn, 1, 0, 0, .null),
  (476, .aload_n 1, 1, 0, 0, .null),
  (477, .aload_n 0, 1, 0, 0, .null)]
set_option maxRecDepth 100000 in
theorem pm_dL3 : pm_cL3.all (pm_decB code) = true := by decide +kernel
def pm_cL4 : List pm_I := [(478, .iload_n 3, 1, 0, 0, .null),
  (479, .iconst 1, 1, 0, 0, .null),
  (480, .iadd, 1, 0, 0, .null),
  (481, .iaload, 1, 0, 0, .null),
  (482, .aload_n 0, 1, 0, 0, .null),
  (483, .iload_n 3, 1, 0, 0, .null),
  (484, .iconst 2, 1, 0, 0, .null),
  (485, .iadd, 1, 0, 0, .null),
  (486, .iaload, 1, 0, 0, .null),
  (487, .aload_n 0, 1, 0, 0, .null),
  (488, .iload_n 3, 1, 0, 0, .null),
  (489, .iconst 3, 1, 0, 0, .null),
  (490, .iadd, 1, 0, 0, .null),
  (491, .iaload, 1, 0, 0, .null),
  (492, .aload_n 0, 1, 0, 0, .null),
  (493, .iload_n 3, 1, 0, 0, .null),
  (494, .iconst 4, 1, 0, 0, .null),
  (495, .iadd, 1, 0, 0, .null),
  (496, .iaload, 1, 0, 0, .null),
  (497, .aload_n 0, 1, 0, 0, .null),
  (498, .iload_n 3, 1, 0, 0, .null),
  (499, .iconst 5, 1, 0, 0, .null),
  (500, .iadd, 1, 0, 0, .null),
  (501, .iaload, 1, 0, 0, .null),
  (502, .invokevirtual 48, 3, 0, 91, .null),
  (505, .aload_n 2, 1, 0, 0, .null),
  (506, .aload_n 0, 1, 0, 0, .null),
  (507, .iload_n 3, 1, 0, 0, .null),
  (508, .iconst 1, 1, 0, 0, .null),
  (509, .iadd, 1, 0, 0, .null),
  (510, .iaload, 1, 0, 0, .null),
  (511, .aload_n 0, 1, 0, 0, .null),
  (512, .iload_n 3, 1, 0, 0, .null),
  (513, .iconst 2, 1, 0, 0, .null),
  (514, .iadd, 1, 0, 0, .null),
  (515, .iaload, 1, 0, 0, .null),
  (516, .aload_n 0, 1, 0, 0, .null),
  (517, .iload_n 3, 1, 0, 0, .null),
  (518, .iconst 3, 1, 0, 0, .null),
  (519, .iadd, 1, 0, 0, .null),
  (520, .iaload, 1, 0, 0, .null),
  (521, .aload_n 0, 1, 0, 0, .null),
  (522, .iload_n 3, 1, 0, 0, .null),
  (523, .iconst 4, 1, 0, 0, .null),
  (524, .iadd, 1, 0, 0, .null),
  (525, .iaload, 1, 0, 0, .null),
  (526, .aload_n 0, 1, 0, 0, .null),
  (527, .iload_n 3, 1, 0, 0, .null),
  (528, .iconst 5, 1, 0, 0, .null),
  (529, .iadd, 1, 0, 0, .null),
  (530, .iaload, 1, 0, 0, .null),
  (531, .invokevirtual 52, 3, 0, 167, .null),
  (534, .if_icmp .eq 672, 3, 1206, 0, .null),
  (537, .iconst 0, 1, 0, 0, .null),
  (538, .ireturn, 1, 0, 0, .null),
  (539, .aload_n 1, 1, 0, 0, .null),
  (540, .aload_n 0, 1, 0, 0, .null),
  (541, .iload_n 3, 1, 0, 0, .null),
  (542, .iconst 1, 1, 0, 0, .null),
  (543, .iadd, 1, 0, 0, .null)]
set_option maxRecDepth 100000 in
theorem pm_dL4 : pm_cL4.all (pm_decB code) = true := by decide +kernel
def pm_cL5 : List pm_I := [(544, .iaload, 1, 0, 0, .null),
  (545, .invokevirtual 53, 3, 0, 92, .null),
  (548, .aload_n 2, 1, 0, 0, .null),
  (549, .aload_n 0, 1, 0, 0, .null),
  (550, .iload_n 3, 1, 0, 0, .null),
  (551, .iconst 1, 1, 0, 0, .null),
  (552, .iadd, 1, 0, 0, .null),
  (553, .iaload, 1, 0, 0, .null),
  (554, .invokevirtual 56, 3, 0, 168, .null),
  (557, .if_icmp .eq 649, 3, 1206, 0, .null),
  (560, .iconst 0, 1, 0, 0, .null),
  (561, .ireturn, 1, 0, 0, .null),
  (562, .aload_n 1, 1, 0, 0, .null),
  (563, .invokevirtual 57, 3, 0, 93, .null),
  (566, .aload_n 2, 1, 0, 0, .null),
  (567, .invokevirtual 61, 3, 0, 164, .null),
  (570, .if_icmp .eq 636, 3, 1206, 0, .null),
  (573, .iconst 0, 1, 0, 0, .null),
  (574, .ireturn, 1, 0, 0, .null),
  (575, .aload_n 1, 1, 0, 0, .null),
  (576, .invokevirtual 62, 3, 0, 94, .null),
  (579, .aload_n 2, 1, 0, 0, .null),
  (580, .invokevirtual 65, 3, 0, 165, .null),
  (583, .if_icmp .eq 623, 3, 1206, 0, .null),
  (586, .iconst 0, 1, 0, 0, .null),
  (587, .ireturn, 1, 0, 0, .null),
  (588, .aload_n 1, 1, 0, 0, .null),
  (589, .invokevirtual 66, 3, 0, 95, .null),
  (592, .aload_n 2, 1, 0, 0, .null),
  (593, .invokevirtual 69, 3, 0, 196, .null),
  (596, .if_icmp .eq 610, 3, 1206, 0, .null),
  (599, .iconst 0, 1, 0, 0, .null),
  (600, .ireturn, 1, 0, 0, .null),
  (601, .aload_n 1, 1, 0, 0, .null),
  (602, .invokevirtual 70, 3, 0, 96, .null),
  (605, .aload_n 2, 1, 0, 0, .null),
  (606, .invokevirtual 73, 3, 0, 249, .null),
  (609, .if_icmp .eq 597, 3, 1206, 0, .null),
  (612, .iconst 0, 1, 0, 0, .null),
  (613, .ireturn, 1, 0, 0, .null),
  (614, .aload_n 1, 1, 0, 0, .null),
  (615, .invokevirtual 74, 3, 0, 97, .null),
  (618, .aload_n 2, 1, 0, 0, .null),
  (619, .invokevirtual 77, 3, 0, 177, .null),
  (622, .if_icmp .eq 584, 3, 1206, 0, .null),
  (625, .iconst 0, 1, 0, 0, .null),
  (626, .ireturn, 1, 0, 0, .null),
  (627, .aload_n 1, 1, 0, 0, .null),
  (628, .invokevirtual 78, 3, 0, 98, .null),
  (631, .aload_n 2, 1, 0, 0, .null),
  (632, .invokevirtual 81, 3, 0, 251, .null),
  (635, .if_icmp .eq 571, 3, 1206, 0, .null),
  (638, .iconst 0, 1, 0, 0, .null),
  (639, .ireturn, 1, 0, 0, .null),
  (640, .aload_n 1, 1, 0, 0, .null),
  (641, .aload_n 0, 1, 0, 0, .null),
  (642, .iload_n 3, 1, 0, 0, .null),
  (643, .iconst 1, 1, 0, 0, .null),
  (644, .iadd, 1, 0, 0, .null),
  (645, .iaload, 1, 0, 0, .null)]
set_option maxRecDepth 100000 in
theorem pm_dL5 : pm_cL5.all (pm_decB code) = true := by decide +kernel
def pm_cL6 : List pm_I := [(646, .invokevirtual 82, 3, 0, 99, .null),
  (649, .aload_n 2, 1, 0, 0, .null),
  (650, .aload_n 0, 1, 0, 0, .null),
  (651, .iload_n 3, 1, 0, 0, .null),
  (652, .iconst 1, 1, 0, 0, .null),
  (653, .iadd, 1, 0, 0, .null),
  (654, .iaload, 1, 0, 0, .null),
  (655, .invokevirtual 85, 3, 0, 198, .null),
  (658, .if_icmp .eq 548, 3, 1206, 0, .null),
  (661, .iconst 0, 1, 0, 0, .null),
  (662, .ireturn, 1, 0, 0, .null),
  (663, .aload_n 1, 1, 0, 0, .null),
  (664, .aload_n 0, 1, 0, 0, .null),
  (665, .iload_n 3, 1, 0, 0, .null),
  (666, .iconst 1, 1, 0, 0, .null),
  (667, .iadd, 1, 0, 0, .null),
  (668, .iaload, 1, 0, 0, .null),
  (669, .aload_n 0, 1, 0, 0, .null),
  (670, .iload_n 3, 1, 0, 0, .null),
  (671, .iconst 2, 1, 0, 0, .null),
  (672, .iadd, 1, 0, 0, .null),
  (673, .iaload, 1, 0, 0, .null),
  (674, .invokevirtual 86, 3, 0, 100, .null),
  (677, .aload_n 2, 1, 0, 0, .null),
  (678, .aload_n 0, 1, 0, 0, .null),
  (679, .iload_n 3, 1, 0, 0, .null),
  (680, .iconst 1, 1, 0, 0, .null),
  (681, .iadd, 1, 0, 0, .null),
  (682, .iaload, 1, 0, 0, .null),
  (683, .aload_n 0, 1, 0, 0, .null),
  (684, .iload_n 3, 1, 0, 0, .null),
  (685, .iconst 2, 1, 0, 0, .null),
  (686, .iadd, 1, 0, 0, .null),
  (687, .iaload, 1, 0, 0, .null),
  (688, .invokevirtual 89, 3, 0, 211, .null),
  (691, .if_icmp .eq 515, 3, 1206, 0, .null),
  (694, .iconst 0, 1, 0, 0, .null),
  (695, .ireturn, 1, 0, 0, .null),
  (696, .aload_n 1, 1, 0, 0, .null),
  (697, .aload_n 0, 1, 0, 0, .null),
  (698, .iload_n 3, 1, 0, 0, .null),
  (699, .iconst 1, 1, 0, 0, .null),
  (700, .iadd, 1, 0, 0, .null),
  (701, .iaload, 1, 0, 0, .null),
  (702, .invokevirtual 90, 3, 0, 101, .null),
  (705, .aload_n 2, 1, 0, 0, .null),
  (706, .aload_n 0, 1, 0, 0, .null),
  (707, .iload_n 3, 1, 0, 0, .null),
  (708, .iconst 1, 1, 0, 0, .null),
  (709, .iadd, 1, 0, 0, .null),
  (710, .iaload, 1, 0, 0, .null),
  (711, .invokevirtual 93, 3, 0, 213, .null),
  (714, .if_icmp .eq 492, 3, 1206, 0, .null),
  (717, .iconst 0, 1, 0, 0, .null),
  (718, .ireturn, 1, 0, 0, .null),
  (719, .aload_n 1, 1, 0, 0, .null),
  (720, .aload_n 0, 1, 0, 0, .null),
  (721, .iload_n 3, 1, 0, 0, .null),
  (722, .iconst 1, 1, 0, 0, .null),
  (723, .iadd, 1, 0, 0, .null)]
set_option maxRecDepth 100000 in
theorem pm_dL6 : pm_cL6.all (pm_decB code) = true := by decide +kernel
def pm_cL7 : List pm_I := [(724, .iaload, 1, 0, 0, .null),
  (725, .invokevirtual 94, 3, 0, 102, .null),
  (728, .aload_n 2, 1, 0, 0, .null),
  (729, .aload_n 0, 1, 0, 0, .null),
  (730, .iload_n 3, 1, 0, 0, .null),
  (731, .iconst 1, 1, 0, 0, .null),
  (732, .iadd, 1, 0, 0, .null),
  (733, .iaload, 1, 0, 0, .null),
  (734, .invokevirtual 97, 3, 0, 218, .null),
  (737, .if_icmp .eq 469, 3, 1206, 0, .null),
  (740, .iconst 0, 1, 0, 0, .null),
  (741, .ireturn, 1, 0, 0, .null),
  (742, .aload_n 1, 1, 0, 0, .null),
  (743, .invokevirtual 98, 3, 0, 103, .null),
  (746, .aload_n 2, 1, 0, 0, .null),
  (747, .invokevirtual 101, 3, 0, 221, .null),
  (750, .if_icmp .eq 456, 3, 1206, 0, .null),
  (753, .iconst 0, 1, 0, 0, .null),
  (754, .ireturn, 1, 0, 0, .null),
  (755, .aload_n 1, 1, 0, 0, .null),
  (756, .invokevirtual 102, 3, 0, 104, .null),
  (759, .aload_n 2, 1, 0, 0, .null),
  (760, .invokevirtual 105, 3, 0, 146, .null),
  (763, .if_icmp .eq 443, 3, 1206, 0, .null),
  (766, .iconst 0, 1, 0, 0, .null),
  (767, .ireturn, 1, 0, 0, .null),
  (768, .aload_n 1, 1, 0, 0, .null),
  (769, .aload_n 0, 1, 0, 0, .null),
  (770, .iload_n 3, 1, 0, 0, .null),
  (771, .iconst 1, 1, 0, 0, .null),
  (772, .iadd, 1, 0, 0, .null),
  (773, .iaload, 1, 0, 0, .null),
  (774, .invokevirtual 106, 3, 0, 105, .null),
  (777, .aload_n 2, 1, 0, 0, .null),
  (778, .aload_n 0, 1, 0, 0, .null),
  (779, .iload_n 3, 1, 0, 0, .null),
  (780, .iconst 1, 1, 0, 0, .null),
  (781, .iadd, 1, 0, 0, .null),
  (782, .iaload, 1, 0, 0, .null),
  (783, .invokevirtual 109, 3, 0, 226, .null),
  (786, .if_icmp .eq 420, 3, 1206, 0, .null),
  (789, .iconst 0, 1, 0, 0, .null),
  (790, .ireturn, 1, 0, 0, .null),
  (791, .aload_n 1, 1, 0, 0, .null),
  (792, .aload_n 0, 1, 0, 0, .null),
  (793, .iload_n 3, 1, 0, 0, .null),
  (794, .iconst 1, 1, 0, 0, .null),
  (795, .iadd, 1, 0, 0, .null),
  (796, .iaload, 1, 0, 0, .null),
  (797, .invokevirtual 110, 3, 0, 106, .null),
  (800, .aload_n 2, 1, 0, 0, .null),
  (801, .aload_n 0, 1, 0, 0, .null),
  (802, .iload_n 3, 1, 0, 0, .null),
  (803, .iconst 1, 1, 0, 0, .null),
  (804, .iadd, 1, 0, 0, .null),
  (805, .iaload, 1, 0, 0, .null),
  (806, .invokevirtual 113, 3, 0, 227, .null),
  (809, .if_icmp .eq 397, 3, 1206, 0, .null),
  (812, .iconst 0, 1, 0, 0, .null),
  (813, .ireturn, 1, 0, 0, .null)]
set_option maxRecDepth 100000 in
theorem pm_dL7 : pm_cL7.all (pm_decB code) = true := by decide +kernel
def pm_cL8 : List pm_I := [(814, .aload_n 1, 1, 0, 0, .null),
  (815, .aload_n 0, 1, 0, 0, .null),
  (816, .iload_n 3, 1, 0, 0, .null),
  (817, .iconst 1, 1, 0, 0, .null),
  (818, .iadd, 1, 0, 0, .null),
  (819, .iaload, 1, 0, 0, .null),
  (820, .aload_n 0, 1, 0, 0, .null),
  (821, .iload_n 3, 1, 0, 0, .null),
  (822, .iconst 2, 1, 0, 0, .null),
  (823, .iadd, 1, 0, 0, .null),
  (824, .iaload, 1, 0, 0, .null),
  (825, .invokevirtual 114, 3, 0, 107, .null),
  (828, .aload_n 2, 1, 0, 0, .null),
  (829, .aload_n 0, 1, 0, 0, .null),
  (830, .iload_n 3, 1, 0, 0, .null),
  (831, .iconst 1, 1, 0, 0, .null),
  (832, .iadd, 1, 0, 0, .null),
  (833, .iaload, 1, 0, 0, .null),
  (834, .aload_n 0, 1, 0, 0, .null),
  (835, .iload_n 3, 1, 0, 0, .null),
  (836, .iconst 2, 1, 0, 0, .null),
  (837, .iadd, 1, 0, 0, .null),
  (838, .iaload, 1, 0, 0, .null),
  (839, .invokevirtual 117, 3, 0, 228, .null),
  (842, .if_icmp .eq 364, 3, 1206, 0, .null),
  (845, .iconst 0, 1, 0, 0, .null),
  (846, .ireturn, 1, 0, 0, .null),
  (847, .aload_n 1, 1, 0, 0, .null),
  (848, .invokevirtual 118, 3, 0, 108, .null),
  (851, .aload_n 2, 1, 0, 0, .null),
  (852, .invokevirtual 121, 3, 0, 229, .null),
  (855, .if_icmp .eq 351, 3, 1206, 0, .null),
  (858, .iconst 0, 1, 0, 0, .null),
  (859, .ireturn, 1, 0, 0, .null),
  (860, .aload_n 1, 1, 0, 0, .null),
  (861, .invokevirtual 122, 3, 0, 109, .null),
  (864, .aload_n 2, 1, 0, 0, .null),
  (865, .invokevirtual 125, 3, 0, 232, .null),
  (868, .if_icmp .eq 338, 3, 1206, 0, .null),
  (871, .iconst 0, 1, 0, 0, .null),
  (872, .ireturn, 1, 0, 0, .null),
  (873, .aload_n 1, 1, 0, 0, .null),
  (874, .aload_n 0, 1, 0, 0, .null),
  (875, .iload_n 3, 1, 0, 0, .null),
  (876, .iconst 1, 1, 0, 0, .null),
  (877, .iadd, 1, 0, 0, .null),
  (878, .iaload, 1, 0, 0, .null),
  (879, .invokevirtual 126, 3, 0, 110, .null),
  (882, .aload_n 2, 1, 0, 0, .null),
  (883, .aload_n 0, 1, 0, 0, .null),
  (884, .iload_n 3, 1, 0, 0, .null),
  (885, .iconst 1, 1, 0, 0, .null),
  (886, .iadd, 1, 0, 0, .null),
  (887, .iaload, 1, 0, 0, .null),
  (888, .invokevirtual 129, 3, 0, 233, .null),
  (891, .if_icmp .eq 315, 3, 1206, 0, .null),
  (894, .iconst 0, 1, 0, 0, .null),
  (895, .ireturn, 1, 0, 0, .null),
  (896, .aload_n 1, 1, 0, 0, .null),
  (897, .aload_n 0, 1, 0, 0, .null)]
set_option maxRecDepth 100000 in
theorem pm_dL8 : pm_cL8.all (pm_decB code) = true := by decide +kernel
def pm_cL9 : List pm_I := [(898, .iload_n 3, 1, 0, 0, .null),
  (899, .iconst 1, 1, 0, 0, .null),
  (900, .iadd, 1, 0, 0, .null),
  (901, .iaload, 1, 0, 0, .null),
  (902, .aload_n 0, 1, 0, 0, .null),
  (903, .iload_n 3, 1, 0, 0, .null),
  (904, .iconst 2, 1, 0, 0, .null),
  (905, .iadd, 1, 0, 0, .null),
  (906, .iaload, 1, 0, 0, .null),
  (907, .invokevirtual 130, 3, 0, 111, .null),
  (910, .aload_n 2, 1, 0, 0, .null),
  (911, .aload_n 0, 1, 0, 0, .null),
  (912, .iload_n 3, 1, 0, 0, .null),
  (913, .iconst 1, 1, 0, 0, .null),
  (914, .iadd, 1, 0, 0, .null),
  (915, .iaload, 1, 0, 0, .null),
  (916, .aload_n 0, 1, 0, 0, .null),
  (917, .iload_n 3, 1, 0, 0, .null),
  (918, .iconst 2, 1, 0, 0, .null),
  (919, .iadd, 1, 0, 0, .null),
  (920, .iaload, 1, 0, 0, .null),
  (921, .invokevirtual 133, 3, 0, 237, .null),
  (924, .if_icmp .eq 282, 3, 1206, 0, .null),
  (927, .iconst 0, 1, 0, 0, .null),
  (928, .ireturn, 1, 0, 0, .null),
  (929, .aload_n 1, 1, 0, 0, .null),
  (930, .aload_n 0, 1, 0, 0, .null),
  (931, .iload_n 3, 1, 0, 0, .null),
  (932, .iconst 1, 1, 0, 0, .null),
  (933, .iadd, 1, 0, 0, .null),
  (934, .iaload, 1, 0, 0, .null),
  (935, .invokevirtual 134, 3, 0, 112, .null),
  (938, .aload_n 2, 1, 0, 0, .null),
  (939, .aload_n 0, 1, 0, 0, .null),
  (940, .iload_n 3, 1, 0, 0, .null),
  (941, .iconst 1, 1, 0, 0, .null),
  (942, .iadd, 1, 0, 0, .null),
  (943, .iaload, 1, 0, 0, .null),
  (944, .invokevirtual 137, 3, 0, 238, .null),
  (947, .if_icmp .eq 259, 3, 1206, 0, .null),
  (950, .iconst 0, 1, 0, 0, .null),
  (951, .ireturn, 1, 0, 0, .null),
  (952, .aload_n 1, 1, 0, 0, .null),
  (953, .aload_n 0, 1, 0, 0, .null),
  (954, .iload_n 3, 1, 0, 0, .null),
  (955, .iconst 1, 1, 0, 0, .null),
  (956, .iadd, 1, 0, 0, .null),
  (957, .iaload, 1, 0, 0, .null),
  (958, .aload_n 0, 1, 0, 0, .null),
  (959, .iload_n 3, 1, 0, 0, .null),
  (960, .iconst 2, 1, 0, 0, .null),
  (961, .iadd, 1, 0, 0, .null),
  (962, .iaload, 1, 0, 0, .null),
  (963, .invokevirtual 138, 3, 0, 113, .null),
  (966, .aload_n 2, 1, 0, 0, .null),
  (967, .aload_n 0, 1, 0, 0, .null),
  (968, .iload_n 3, 1, 0, 0, .null),
  (969, .iconst 1, 1, 0, 0, .null),
  (970, .iadd, 1, 0, 0, .null),
  (971, .iaload, 1, 0, 0, .null)]
set_option maxRecDepth 100000 in
theorem pm_dL9 : pm_cL9.all (pm_decB code) = true := by decide +kernel
def pm_cL10 : List pm_I := [(972, .aload_n 0, 1, 0, 0, .null),
  (973, .iload_n 3, 1, 0, 0, .null),
  (974, .iconst 2, 1, 0, 0, .null),
  (975, .iadd, 1, 0, 0, .null),
  (976, .iaload, 1, 0, 0, .null),
  (977, .invokevirtual 141, 3, 0, 239, .null),
  (980, .if_icmp .eq 226, 3, 1206, 0, .null),
  (983, .iconst 0, 1, 0, 0, .null),
  (984, .ireturn, 1, 0, 0, .null),
  (985, .aload_n 1, 1, 0, 0, .null),
  (986, .aload_n 0, 1, 0, 0, .null),
  (987, .iload_n 3, 1, 0, 0, .null),
  (988, .iconst 1, 1, 0, 0, .null),
  (989, .iadd, 1, 0, 0, .null),
  (990, .iaload, 1, 0, 0, .null),
  (991, .invokevirtual 142, 3, 0, 114, .null),
  (994, .aload_n 2, 1, 0, 0, .null),
  (995, .aload_n 0, 1, 0, 0, .null),
  (996, .iload_n 3, 1, 0, 0, .null),
  (997, .iconst 1, 1, 0, 0, .null),
  (998, .iadd, 1, 0, 0, .null),
  (999, .iaload, 1, 0, 0, .null),
  (1000, .invokevirtual 145, 3, 0, 240, .null),
  (1003, .if_icmp .eq 203, 3, 1206, 0, .null),
  (1006, .iconst 0, 1, 0, 0, .null),
  (1007, .ireturn, 1, 0, 0, .null),
  (1008, .aload_n 1, 1, 0, 0, .null),
  (1009, .invokevirtual 146, 3, 0, 115, .null),
  (1012, .aload_n 2, 1, 0, 0, .null),
  (1013, .invokevirtual 149, 3, 0, 241, .null),
  (1016, .if_icmp .eq 190, 3, 1206, 0, .null),
  (1019, .iconst 0, 1, 0, 0, .null),
  (1020, .ireturn, 1, 0, 0, .null),
  (1021, .aload_n 1, 1, 0, 0, .null),
  (1022, .invokevirtual 150, 3, 0, 116, .null),
  (1025, .aload_n 2, 1, 0, 0, .null),
  (1026, .invokevirtual 154, 3, 0, 242, .null),
  (1029, .lcmp, 1, 0, 0, .null),
  (1030, .ifCond .eq 176, 3, 1206, 0, .null),
  (1033, .iconst 0, 1, 0, 0, .null),
  (1034, .ireturn, 1, 0, 0, .null),
  (1035, .aload_n 1, 1, 0, 0, .null),
  (1036, .aload_n 0, 1, 0, 0, .null),
  (1037, .iload_n 3, 1, 0, 0, .null),
  (1038, .iconst 1, 1, 0, 0, .null),
  (1039, .iadd, 1, 0, 0, .null),
  (1040, .iaload, 1, 0, 0, .null),
  (1041, .invokevirtual 155, 3, 0, 117, .null),
  (1044, .aload_n 2, 1, 0, 0, .null),
  (1045, .aload_n 0, 1, 0, 0, .null),
  (1046, .iload_n 3, 1, 0, 0, .null),
  (1047, .iconst 1, 1, 0, 0, .null),
  (1048, .iadd, 1, 0, 0, .null),
  (1049, .iaload, 1, 0, 0, .null),
  (1050, .invokevirtual 158, 3, 0, 243, .null),
  (1053, .if_icmp .eq 153, 3, 1206, 0, .null),
  (1056, .iconst 0, 1, 0, 0, .null),
  (1057, .ireturn, 1, 0, 0, .null),
  (1058, .aload_n 1, 1, 0, 0, .null),
  (1059, .aload_n 0, 1, 0, 0, .null)]
set_option maxRecDepth 100000 in
theorem pm_dL10 : pm_cL10.all (pm_decB code) = true := by decide +kernel
def pm_cL11 : List pm_I := [(1060, .iload_n 3, 1, 0, 0, .null),
  (1061, .iconst 1, 1, 0, 0, .null),
  (1062, .iadd, 1, 0, 0, .null),
  (1063, .iaload, 1, 0, 0, .null),
  (1064, .aload_n 0, 1, 0, 0, .null),
  (1065, .iload_n 3, 1, 0, 0, .null),
  (1066, .iconst 2, 1, 0, 0, .null),
  (1067, .iadd, 1, 0, 0, .null),
  (1068, .iaload, 1, 0, 0, .null),
  (1069, .invokevirtual 159, 3, 0, 118, .null),
  (1072, .aload_n 2, 1, 0, 0, .null),
  (1073, .aload_n 0, 1, 0, 0, .null),
  (1074, .iload_n 3, 1, 0, 0, .null),
  (1075, .iconst 1, 1, 0, 0, .null),
  (1076, .iadd, 1, 0, 0, .null),
  (1077, .iaload, 1, 0, 0, .null),
  (1078, .aload_n 0, 1, 0, 0, .null),
  (1079, .iload_n 3, 1, 0, 0, .null),
  (1080, .iconst 2, 1, 0, 0, .null),
  (1081, .iadd, 1, 0, 0, .null),
  (1082, .iaload, 1, 0, 0, .null),
  (1083, .invokevirtual 162, 3, 0, 253, .null),
  (1086, .if_icmp .eq 120, 3, 1206, 0, .null),
  (1089, .iconst 0, 1, 0, 0, .null),
  (1090, .ireturn, 1, 0, 0, .null),
  (1091, .aload_n 1, 1, 0, 0, .null),
  (1092, .aload_n 0, 1, 0, 0, .null),
  (1093, .iload_n 3, 1, 0, 0, .null),
  (1094, .iconst 1, 1, 0, 0, .null),
  (1095, .iadd, 1, 0, 0, .null),
  (1096, .iaload, 1, 0, 0, .null),
  (1097, .aload_n 0, 1, 0, 0, .null),
  (1098, .iload_n 3, 1, 0, 0, .null),
  (1099, .iconst 2, 1, 0, 0, .null),
  (1100, .iadd, 1, 0, 0, .null),
  (1101, .iaload, 1, 0, 0, .null),
  (1102, .invokevirtual 163, 3, 0, 119, .null),
  (1105, .aload_n 2, 1, 0, 0, .null),
  (1106, .aload_n 0, 1, 0, 0, .null),
  (1107, .iload_n 3, 1, 0, 0, .null),
  (1108, .iconst 1, 1, 0, 0, .null),
  (1109, .iadd, 1, 0, 0, .null),
  (1110, .iaload, 1, 0, 0, .null),
  (1111, .aload_n 0, 1, 0, 0, .null),
  (1112, .iload_n 3, 1, 0, 0, .null),
  (1113, .iconst 2, 1, 0, 0, .null),
  (1114, .iadd, 1, 0, 0, .null),
  (1115, .iaload, 1, 0, 0, .null),
  (1116, .invokevirtual 166, 3, 0, 254, .null),
  (1119, .if_icmp .eq 87, 3, 1206, 0, .null),
  (1122, .iconst 0, 1, 0, 0, .null),
  (1123, .ireturn, 1, 0, 0, .null),
  (1124, .aload_n 1, 1, 0, 0, .null),
  (1125, .aload_n 0, 1, 0, 0, .null),
  (1126, .iload_n 3, 1, 0, 0, .null),
  (1127, .iconst 1, 1, 0, 0, .null),
  (1128, .iadd, 1, 0, 0, .null),
  (1129, .iaload, 1, 0, 0, .null),
  (1130, .invokevirtual 167, 3, 0, 120, .null),
  (1133, .aload_n 2, 1, 0, 0, .null)]
set_option maxRecDepth 100000 in
theorem pm_dL11 : pm_cL11.all (pm_decB code) = true := by decide +kernel
def pm_cL12 : List pm_I := [(1134, .aload_n 0, 1, 0, 0, .null),
  (1135, .iload_n 3, 1, 0, 0, .null),
  (1136, .iconst 1, 1, 0, 0, .null),
  (1137, .iadd, 1, 0, 0, .null),
  (1138, .iaload, 1, 0, 0, .null),
  (1139, .invokevirtual 170, 3, 0, 147, .null),
  (1142, .if_icmp .eq 64, 3, 1206, 0, .null),
  (1145, .iconst 0, 1, 0, 0, .null),
  (1146, .ireturn, 1, 0, 0, .null),
  (1147, .aload_n 1, 1, 0, 0, .null),
  (1148, .aload_n 0, 1, 0, 0, .null),
  (1149, .iload_n 3, 1, 0, 0, .null),
  (1150, .iconst 1, 1, 0, 0, .null),
  (1151, .iadd, 1, 0, 0, .null),
  (1152, .iaload, 1, 0, 0, .null),
  (1153, .invokevirtual 171, 3, 0, 121, .null),
  (1156, .aload_n 2, 1, 0, 0, .null),
  (1157, .aload_n 0, 1, 0, 0, .null),
  (1158, .iload_n 3, 1, 0, 0, .null),
  (1159, .iconst 1, 1, 0, 0, .null),
  (1160, .iadd, 1, 0, 0, .null),
  (1161, .iaload, 1, 0, 0, .null),
  (1162, .invokevirtual 174, 3, 0, 148, .null),
  (1165, .if_icmp .eq 41, 3, 1206, 0, .null),
  (1168, .iconst 0, 1, 0, 0, .null),
  (1169, .ireturn, 1, 0, 0, .null),
  (1170, .aload_n 1, 1, 0, 0, .null),
  (1171, .aload_n 0, 1, 0, 0, .null),
  (1172, .iload_n 3, 1, 0, 0, .null),
  (1173, .iconst 1, 1, 0, 0, .null),
  (1174, .iadd, 1, 0, 0, .null),
  (1175, .iaload, 1, 0, 0, .null),
  (1176, .invokevirtual 175, 3, 0, 122, .null),
  (1179, .aload_n 2, 1, 0, 0, .null),
  (1180, .aload_n 0, 1, 0, 0, .null),
  (1181, .iload_n 3, 1, 0, 0, .null),
  (1182, .iconst 1, 1, 0, 0, .null),
  (1183, .iadd, 1, 0, 0, .null),
  (1184, .iaload, 1, 0, 0, .null),
  (1185, .invokevirtual 178, 3, 0, 255, .null),
  (1188, .if_icmp .eq 18, 3, 1206, 0, .null),
  (1191, .iconst 0, 1, 0, 0, .null),
  (1192, .ireturn, 1, 0, 0, .null),
  (1193, .aload_n 1, 1, 0, 0, .null),
  (1194, .invokevirtual 179, 3, 0, 123, .null),
  (1197, .aload_n 2, 1, 0, 0, .null),
  (1198, .invokevirtual 182, 3, 0, 256, .null),
  (1201, .if_icmp .eq 5, 3, 1206, 0, .null),
  (1204, .iconst 0, 1, 0, 0, .null),
  (1205, .ireturn, 1, 0, 0, .null),
  (1206, .iinc 3 6, 3, 0, 0, .null),
  (1209, .goto (-1191), 3, 18, 0, .null),
  (1212, .iconst 1, 1, 0, 0, .null),
  (1213, .ireturn, 1, 0, 0, .null)]
set_option maxRecDepth 100000 in
theorem pm_dL12 : pm_cL12.all (pm_decB code) = true := by decide +kernel
def pm_cL : List pm_I := pm_cL0 ++ (pm_cL1 ++ (pm_cL2 ++ (pm_cL3 ++ (pm_cL4 ++ (pm_cL5 ++ (pm_cL6 ++ (pm_cL7 ++ (pm_cL8 ++ (pm_cL9 ++ (pm_cL10 ++ (pm_cL11 ++ (pm_cL12))))))))))))
end
section
def pm_mtL0 : List pm_M := [(⟨"TrainBearers$Bearing", "<init>", "()V"⟩, prog_2_method_1_code, 3, none, 0, 1, pm_c0),
  (⟨"TrainBearers$Bearing", "leastBrought", "()I"⟩, prog_2_method_2_code, 1, (some .int), 0, 1, pm_c1),
  (⟨"TrainBearers$Bearing", "fewestGirls", "()I"⟩, prog_2_method_3_code, 1, (some .int), 0, 1, pm_c2),
  (⟨"TrainBearers$Bearing", "solve", "(LTrainBearers$Train;LTrainBearers$Rules;)V"⟩, prog_2_method_4_code, 5, none, 0, 3, pm_c3),
  (⟨"TrainBearers$Bearing", "weigh", "(LTrainBearers$Train;LTrainBearers$Rules;I)V"⟩, prog_2_method_5_code, 8, none, 0, 4, pm_c4),
  (⟨"TrainBearers$Bearing", "bestOf", "(II)I"⟩, prog_2_method_6_code, 5, (some .int), 0, 3, pm_c5),
  (⟨"TrainBearers$Bearing", "firstBest", "(II)I"⟩, prog_2_method_7_code, 4, (some .int), 0, 3, pm_c6),
  (⟨"TrainBearers$Bearing", "worthWith", "(III)I"⟩, prog_2_method_8_code, 4, (some .int), 0, 4, pm_c7),
  (⟨"TrainBearers$Deeds", "<init>", "()V"⟩, prog_3_method_1_code, 1, none, 1, 1, pm_c8),
  (⟨"TrainBearers$Deeds", "takeHold", "(LTrainBearers$Train;LTrainBearers$Steps;II)I"⟩, prog_3_method_2_code, 5, (some .int), 1, 5, pm_c9),
  (⟨"TrainBearers$Deeds", "letDrop", "(LTrainBearers$Train;LTrainBearers$Steps;I)I"⟩, prog_3_method_3_code, 5, (some .int), 1, 4, pm_c10),
  (⟨"TrainBearers$Deeds", "walkTo", "(LTrainBearers$Train;LTrainBearers$Steps;I)I"⟩, prog_3_method_4_code, 8, (some .int), 1, 4, pm_c11),
  (⟨"TrainBearers$Deeds", "goThere", "(LTrainBearers$Train;II)V"⟩, prog_3_method_5_code, 5, none, 1, 4, pm_c12),
  (⟨"TrainBearers$Deeds", "restAll", "(LTrainBearers$Train;LTrainBearers$Steps;)I"⟩, prog_3_method_6_code, 4, (some .int), 1, 3, pm_c13),
  (⟨"TrainBearers$Deeds", "runText", "(LTrainBearers$Text;LTrainBearers$Train;LTrainBearers$Steps;)I"⟩, prog_3_method_7_code, 11, (some .int), 1, 4, pm_c14),
  (⟨"TrainBearers$Deeds", "fillWords", "(LTrainBearers$Train;III)V"⟩, prog_3_method_8_code, 6, none, 1, 5, pm_c15),
  (⟨"TrainBearers$Deeds", "drawGenerations", "(LTrainBearers$Train;LTrainBearers$Steps;II)V"⟩, prog_3_method_9_code, 11, none, 1, 5, pm_c16),
  (⟨"TrainBearers$Deeds", "drawAfter", "(I)I"⟩, prog_3_method_10_code, 1, (some .int), 1, 1, pm_c17),
  (⟨"TrainBearers$Guess", "<init>", "()V"⟩, prog_4_method_1_code, 1, none, 2, 1, pm_c18),
  (⟨"TrainBearers$Guess", "suspects", "(LTrainBearers$Train;LTrainBearers$Rules;)I"⟩, prog_4_method_2_code, 7, (some .int), 2, 3, pm_c19),
  (⟨"TrainBearers$Guess", "isAsSeen", "(LTrainBearers$Train;I)Z"⟩, prog_4_method_3_code, 4, (some .boolean), 2, 3, pm_c20),
  (⟨"TrainBearers$Guess", "tellingYard", "(II)I"⟩, prog_4_method_4_code, 7, (some .int), 2, 3, pm_c21),
  (⟨"TrainBearers$Guess", "mostAlike", "(II)I"⟩, prog_4_method_5_code, 8, (some .int), 2, 3, pm_c22),
  (⟨"TrainBearers$Reader", "<init>", "()V"⟩, prog_5_method_1_code, 1, none, 3, 1, pm_c23),
  (⟨"TrainBearers$Reader", "append", "(I)V"⟩, prog_5_method_2_code, 3, none, 3, 2, pm_c24),
  (⟨"TrainBearers$Reader", "readText", "(Z)Z"⟩, prog_5_method_3_code, 5, (some .boolean), 3, 2, pm_c25),
  (⟨"TrainBearers$Reader", "lawClause", "(I)Z"⟩, prog_5_method_4_code, 3, (some .boolean), 3, 2, pm_c26),
  (⟨"TrainBearers$Reader", "orderClause", "(I)Z"⟩, prog_5_method_5_code, 3, (some .boolean), 3, 2, pm_c27),
  (⟨"TrainBearers$Reader", "firstSum", "(I)Z"⟩, prog_5_method_6_code, 3, (some .boolean), 3, 2, pm_c28),
  (⟨"TrainBearers$Reader", "secondSum", "(I)Z"⟩, prog_5_method_7_code, 3, (some .boolean), 3, 2, pm_c29)]
def pm_mtL1 : List pm_M := [(⟨"TrainBearers$Reader", "repetition", "(I)Z"⟩, prog_5_method_8_code, 3, (some .boolean), 3, 2, pm_c30),
  (⟨"TrainBearers$Reader", "condition", "(I)Z"⟩, prog_5_method_9_code, 3, (some .boolean), 3, 2, pm_c31),
  (⟨"TrainBearers$Reader", "chain", "(II)Z"⟩, prog_5_method_10_code, 8, (some .boolean), 3, 3, pm_c32),
  (⟨"TrainBearers$Reader", "operatorHere", "(I)I"⟩, prog_5_method_11_code, 2, (some .int), 3, 2, pm_c33),
  (⟨"TrainBearers$Reader", "plain", "(I)Z"⟩, prog_5_method_12_code, 5, (some .boolean), 3, 2, pm_c34),
  (⟨"TrainBearers$Reader", "part", "(I)Z"⟩, prog_5_method_13_code, 2, (some .boolean), 3, 2, pm_c35),
  (⟨"TrainBearers$Reader", "open", "(I)Z"⟩, prog_5_method_14_code, 2, (some .boolean), 3, 2, pm_c36),
  (⟨"TrainBearers$Reader", "numberOrWord", "()Z"⟩, prog_5_method_15_code, 4, (some .boolean), 3, 1, pm_c37),
  (⟨"TrainBearers$Reader", "advance", "()V"⟩, prog_5_method_16_code, 1, none, 3, 1, pm_c38),
  (⟨"TrainBearers$Reader", "pass", "(Ljava/lang/String;)Z"⟩, prog_5_method_17_code, 2, (some .boolean), 3, 2, pm_c39),
  (⟨"TrainBearers$Reader", "isHere", "(Ljava/lang/String;)Z"⟩, prog_5_method_18_code, 3, (some .boolean), 3, 2, pm_c40),
  (⟨"TrainBearers$Reader", "wordHere", "(Ljava/lang/String;)I"⟩, prog_5_method_19_code, 7, (some .int), 3, 2, pm_c41),
  (⟨"TrainBearers$Reader", "numberHere", "()I"⟩, prog_5_method_20_code, 3, (some .int), 3, 1, pm_c42),
  (⟨"TrainBearers$Rules", "<init>", "()V"⟩, prog_6_method_1_code, 1, none, 4, 1, pm_c43),
  (⟨"TrainBearers$Rules", "lifts", "(LTrainBearers$Train;II)I"⟩, prog_6_method_2_code, 5, (some .int), 4, 4, pm_c44),
  (⟨"TrainBearers$Rules", "bars", "(LTrainBearers$Train;II)Z"⟩, prog_6_method_3_code, 4, (some .boolean), 4, 4, pm_c45),
  (⟨"TrainBearers$Rules", "tires", "(LTrainBearers$Train;III)I"⟩, prog_6_method_4_code, 6, (some .int), 4, 5, pm_c46),
  (⟨"TrainBearers$Rules", "brings", "(LTrainBearers$Train;II)I"⟩, prog_6_method_5_code, 5, (some .int), 4, 4, pm_c47),
  (⟨"TrainBearers$Rules", "dip", "(LTrainBearers$Train;I)I"⟩, prog_6_method_6_code, 5, (some .int), 4, 3, pm_c48),
  (⟨"TrainBearers$Rules", "together", "(LTrainBearers$Train;)I"⟩, prog_6_method_7_code, 4, (some .int), 4, 2, pm_c49),
  (⟨"TrainBearers$Rules", "fillWords", "(LTrainBearers$Train;IIII)V"⟩, prog_6_method_8_code, 8, none, 4, 6, pm_c50),
  (⟨"TrainBearers$Rules", "tell", "(LTrainBearers$Train;I)I"⟩, prog_6_method_9_code, 6, (some .int), 4, 3, pm_c51),
  (⟨"TrainBearers$Steps", "<init>", "()V"⟩, prog_7_method_1_code, 1, none, 5, 1, pm_c52),
  (⟨"TrainBearers$Steps", "clear", "()V"⟩, prog_7_method_2_code, 1, none, 5, 1, pm_c53),
  (⟨"TrainBearers$Steps", "keep", "(LTrainBearers$Train;I)V"⟩, prog_7_method_3_code, 4, none, 5, 3, pm_c54),
  (⟨"TrainBearers$Steps", "takeBack", "(LTrainBearers$Train;)I"⟩, prog_7_method_4_code, 3, (some .int), 5, 2, pm_c55),
  (⟨"TrainBearers$Steps", "copyFrom", "(LTrainBearers$Steps;)V"⟩, prog_7_method_5_code, 2, none, 5, 2, pm_c56),
  (⟨"TrainBearers$Sums", "<init>", "()V"⟩, prog_8_method_1_code, 1, none, 6, 1, pm_c57),
  (⟨"TrainBearers$Sums", "ask", "(LTrainBearers$Text;I[I)I"⟩, prog_8_method_2_code, 10, (some .int), 6, 4, pm_c58),
  (⟨"TrainBearers$Sums", "combined", "(IJJ)J"⟩, prog_8_method_3_code, 5, (some .long), 6, 3, pm_c59)]
def pm_mtL2 : List pm_M := [(⟨"TrainBearers$Text", "<init>", "()V"⟩, prog_9_method_1_code, 1, none, 7, 1, pm_c60),
  (⟨"TrainBearers$Text", "<init>", "(LTrainBearers$Text;)V"⟩, prog_9_method_2_code, 2, none, 7, 2, pm_c61),
  (⟨"TrainBearers$Text", "clear", "()V"⟩, prog_9_method_3_code, 1, none, 7, 1, pm_c62),
  (⟨"TrainBearers$Text", "emit", "(II)V"⟩, prog_9_method_4_code, 3, none, 7, 3, pm_c63),
  (⟨"TrainBearers$Text", "emitOf", "(ZI)V"⟩, prog_9_method_5_code, 3, none, 7, 3, pm_c64),
  (⟨"TrainBearers$Text", "aim", "(I)V"⟩, prog_9_method_6_code, 2, none, 7, 2, pm_c65),
  (⟨"TrainBearers$Text", "addClause", "(I)V"⟩, prog_9_method_7_code, 2, none, 7, 2, pm_c66),
  (⟨"TrainBearers$Train", "<init>", "()V"⟩, prog_10_method_1_code, 1, none, 8, 1, pm_c67),
  (⟨"TrainBearers$Train", "copyFrom", "(LTrainBearers$Train;)V"⟩, prog_10_method_2_code, 3, none, 8, 2, pm_c68),
  (⟨"TrainBearers$Train", "hasYard", "(I)Z"⟩, prog_10_method_3_code, 2, (some .boolean), 8, 2, pm_c69),
  (⟨"TrainBearers$Train", "hasGirl", "(I)Z"⟩, prog_10_method_4_code, 2, (some .boolean), 8, 2, pm_c70),
  (⟨"TrainBearers$Train", "hasLaw", "(I)Z"⟩, prog_10_method_5_code, 2, (some .boolean), 8, 2, pm_c71),
  (⟨"TrainBearers$Train", "lawInForce", "()LTrainBearers$Text;"⟩, prog_10_method_6_code, 1, (some (.object "TrainBearers$Text")), 8, 1, pm_c72),
  (⟨"TrainBearers$Train", "holders", "(I)I"⟩, prog_10_method_7_code, 4, (some .int), 8, 2, pm_c73),
  (⟨"TrainBearers$Train", "busyGirls", "()I"⟩, prog_10_method_8_code, 3, (some .int), 8, 1, pm_c74),
  (⟨"TrainBearers$Train", "stilesBetween", "(II)I"⟩, prog_10_method_9_code, 3, (some .int), 8, 3, pm_c75),
  (⟨"TrainBearers$Train", "layLane", "(III)V"⟩, prog_10_method_10_code, 4, none, 8, 4, pm_c76),
  (⟨"TrainBearers$Ways", "<init>", "()V"⟩, prog_11_method_1_code, 1, none, 9, 1, pm_c77),
  (⟨"TrainBearers$Ways", "measure", "(LTrainBearers$Train;I)Z"⟩, prog_11_method_2_code, 6, (some .boolean), 9, 3, pm_c78),
  (⟨"TrainBearers$Ways", "stilesFrom", "(I)I"⟩, prog_11_method_3_code, 2, (some .int), 9, 2, pm_c79),
  (⟨"TrainBearers$Ways", "nextPlace", "(LTrainBearers$Train;I)I"⟩, prog_11_method_4_code, 4, (some .int), 9, 3, pm_c80),
  (⟨"TrainBearers$Ways", "costBy", "(LTrainBearers$Train;II)I"⟩, prog_11_method_5_code, 5, (some .int), 9, 4, pm_c81),
  (⟨"TrainBearers", "<init>", "()V"⟩, prog_1_method_1_code, 1, none, 10, 1, pm_c82),
  (⟨"TrainBearers", "yard", "(I)I"⟩, prog_1_method_2_code, 2, (some .int), 10, 2, pm_c83),
  (⟨"TrainBearers", "at", "(II)I"⟩, prog_1_method_3_code, 3, (some .int), 10, 3, pm_c84),
  (⟨"TrainBearers", "girl", "(I)I"⟩, prog_1_method_4_code, 2, (some .int), 10, 2, pm_c85),
  (⟨"TrainBearers", "of", "(II)I"⟩, prog_1_method_5_code, 3, (some .int), 10, 3, pm_c86),
  (⟨"TrainBearers", "asks", "(III)I"⟩, prog_1_method_6_code, 4, (some .int), 10, 4, pm_c87),
  (⟨"TrainBearers", "lane", "(III)I"⟩, prog_1_method_7_code, 5, (some .int), 10, 4, pm_c88),
  (⟨"TrainBearers", "stiles", "(II)I"⟩, prog_1_method_8_code, 3, (some .int), 10, 3, pm_c89)]
def pm_mtL3 : List pm_M := [(⟨"TrainBearers", "terms", "(II)I"⟩, prog_1_method_9_code, 4, (some .int), 10, 3, pm_c90),
  (⟨"TrainBearers", "feed", "(IIIII)I"⟩, prog_1_method_10_code, 6, (some .int), 10, 6, pm_c91),
  (⟨"TrainBearers", "end", "(I)I"⟩, prog_1_method_11_code, 2, (some .int), 10, 2, pm_c92),
  (⟨"TrainBearers", "row", "()I"⟩, prog_1_method_12_code, 3, (some .int), 10, 1, pm_c93),
  (⟨"TrainBearers", "puddles", "()I"⟩, prog_1_method_13_code, 1, (some .int), 10, 1, pm_c94),
  (⟨"TrainBearers", "law", "()I"⟩, prog_1_method_14_code, 2, (some .int), 10, 1, pm_c95),
  (⟨"TrainBearers", "orders", "()I"⟩, prog_1_method_15_code, 3, (some .int), 10, 1, pm_c96),
  (⟨"TrainBearers", "fault", "()I"⟩, prog_1_method_16_code, 1, (some .int), 10, 1, pm_c97),
  (⟨"TrainBearers", "stopped", "()I"⟩, prog_1_method_17_code, 1, (some .int), 10, 1, pm_c98),
  (⟨"TrainBearers", "force", "(I)I"⟩, prog_1_method_18_code, 3, (some .int), 10, 2, pm_c99),
  (⟨"TrainBearers", "hold", "(II)I"⟩, prog_1_method_19_code, 3, (some .int), 10, 3, pm_c100),
  (⟨"TrainBearers", "drop", "(I)I"⟩, prog_1_method_20_code, 2, (some .int), 10, 2, pm_c101),
  (⟨"TrainBearers", "walk", "(I)I"⟩, prog_1_method_21_code, 2, (some .int), 10, 2, pm_c102),
  (⟨"TrainBearers", "rest", "()I"⟩, prog_1_method_22_code, 1, (some .int), 10, 1, pm_c103),
  (⟨"TrainBearers", "undo", "()I"⟩, prog_1_method_23_code, 1, (some .int), 10, 1, pm_c104),
  (⟨"TrainBearers", "borne", "(I)I"⟩, prog_1_method_24_code, 2, (some .int), 10, 2, pm_c105),
  (⟨"TrainBearers", "exchanged", "(I)I"⟩, prog_1_method_25_code, 3, (some .int), 10, 2, pm_c106),
  (⟨"TrainBearers", "seen", "(II)I"⟩, prog_1_method_26_code, 3, (some .int), 10, 3, pm_c107),
  (⟨"TrainBearers", "forget", "()I"⟩, prog_1_method_27_code, 2, (some .int), 10, 1, pm_c108),
  (⟨"TrainBearers", "letGo", "()I"⟩, prog_1_method_28_code, 1, (some .int), 10, 1, pm_c109),
  (⟨"TrainBearers", "look", "(I)I"⟩, prog_1_method_29_code, 4, (some .int), 10, 2, pm_c110),
  (⟨"TrainBearers", "way", "(II)I"⟩, prog_1_method_30_code, 5, (some .int), 10, 3, pm_c111),
  (⟨"TrainBearers", "brought", "(I)I"⟩, prog_1_method_31_code, 3, (some .int), 10, 2, pm_c112),
  (⟨"TrainBearers", "folds", "(II)I"⟩, prog_1_method_32_code, 8, (some .int), 10, 3, pm_c113),
  (⟨"TrainBearers", "resting", "(I)I"⟩, prog_1_method_33_code, 3, (some .int), 10, 2, pm_c114),
  (⟨"TrainBearers", "far", "()I"⟩, prog_1_method_34_code, 3, (some .int), 10, 1, pm_c115),
  (⟨"TrainBearers", "steady", "()J"⟩, prog_1_method_35_code, 5, (some .long), 10, 1, pm_c116),
  (⟨"TrainBearers", "compare", "(I)I"⟩, prog_1_method_36_code, 2, (some .int), 10, 2, pm_c117),
  (⟨"TrainBearers", "generations", "(II)I"⟩, prog_1_method_37_code, 3, (some .int), 10, 3, pm_c118),
  (⟨"TrainBearers", "drawn", "(II)I"⟩, prog_1_method_38_code, 3, (some .int), 10, 3, pm_c119)]
def pm_mtL4 : List pm_M := [(⟨"TrainBearers", "image", "(I)I"⟩, prog_1_method_39_code, 2, (some .int), 10, 2, pm_c120),
  (⟨"TrainBearers", "back", "(I)I"⟩, prog_1_method_40_code, 2, (some .int), 10, 2, pm_c121),
  (⟨"TrainBearers", "count", "(I)I"⟩, prog_1_method_41_code, 2, (some .int), 10, 2, pm_c122),
  (⟨"TrainBearers", "status", "()I"⟩, prog_1_method_42_code, 1, (some .int), 10, 1, pm_c123),
  (⟨"TrainBearers", "countRefusedOrTerm", "(I)I"⟩, prog_1_method_43_code, 2, (some .int), 10, 2, pm_c124),
  (⟨"TrainBearers", "refuse", "(I)I"⟩, prog_1_method_44_code, 2, (some .int), 10, 2, pm_c125),
  (⟨"TrainBearers", "accept", "(I)I"⟩, prog_1_method_45_code, 2, (some .int), 10, 2, pm_c126),
  (⟨"TrainBearers", "settle", "(I)I"⟩, prog_1_method_46_code, 2, (some .int), 10, 2, pm_c127),
  (⟨"TrainBearers", "isPlace", "(I)Z"⟩, prog_1_method_47_code, 1, (some .boolean), 10, 1, pm_c128),
  (⟨"TrainBearers", "canBeLane", "(III)Z"⟩, prog_1_method_48_code, 3, (some .boolean), 10, 3, pm_c129),
  (⟨"TrainBearers", "within", "(II)I"⟩, prog_1_method_49_code, 2, (some .int), 10, 2, pm_c130),
  (⟨"TrainBearers", "layTold", "(I)Z"⟩, prog_1_method_50_code, 3, (some .boolean), 10, 2, pm_c131),
  (⟨"TrainBearers", "takePaper", "()V"⟩, prog_1_method_51_code, 3, none, 10, 1, pm_c132),
  (⟨"TrainBearers", "bestExchange", "()I"⟩, prog_1_method_52_code, 5, (some .int), 10, 1, pm_c133),
  (⟨"TrainBearers", "mayTake", "(II)Z"⟩, prog_1_method_53_code, 3, (some .boolean), 10, 3, pm_c134),
  (⟨"TrainBearersModel", "<init>", "()V"⟩, prog_13_method_1_code, 2, none, 11, 1, pm_c135),
  (⟨"TrainBearersModel", "in", "(JJJ)Z"⟩, prog_13_method_3_code, 6, (some .boolean), 11, 3, pm_c136),
  (⟨"TrainBearersModel", "is", "(II)Z"⟩, prog_13_method_4_code, 2, (some .boolean), 11, 2, pm_c137),
  (⟨"TrainBearersModel", "ones", "(I)I"⟩, prog_13_method_5_code, 3, (some .int), 11, 1, pm_c138),
  (⟨"TrainBearersModel", "within", "(JII)I"⟩, prog_13_method_6_code, 4, (some .int), 11, 3, pm_c139),
  (⟨"TrainBearersModel", "tell", "(I)I"⟩, prog_13_method_7_code, 2, (some .int), 11, 2, pm_c140),
  (⟨"TrainBearersModel", "change", "(II)I"⟩, prog_13_method_8_code, 4, (some .int), 11, 3, pm_c141),
  (⟨"TrainBearersModel", "settled", "(I)I"⟩, prog_13_method_9_code, 2, (some .int), 11, 2, pm_c142),
  (⟨"TrainBearersModel", "keepAll", "(I)V"⟩, prog_13_method_10_code, 3, none, 11, 2, pm_c143),
  (⟨"TrainBearersModel", "putBack", "(I)V"⟩, prog_13_method_11_code, 3, none, 11, 2, pm_c144),
  (⟨"TrainBearersModel", "remember", "(I)V"⟩, prog_13_method_12_code, 3, none, 11, 2, pm_c145),
  (⟨"TrainBearersModel", "undo", "()I"⟩, prog_13_method_13_code, 1, (some .int), 11, 1, pm_c146),
  (⟨"TrainBearersModel", "image", "(I)I"⟩, prog_13_method_14_code, 3, (some .int), 11, 2, pm_c147),
  (⟨"TrainBearersModel", "back", "(I)I"⟩, prog_13_method_15_code, 3, (some .int), 11, 2, pm_c148),
  (⟨"TrainBearersModel", "isYard", "(I)Z"⟩, prog_13_method_16_code, 2, (some .boolean), 11, 2, pm_c149)]
def pm_mtL5 : List pm_M := [(⟨"TrainBearersModel", "isGirl", "(I)Z"⟩, prog_13_method_17_code, 2, (some .boolean), 11, 2, pm_c150),
  (⟨"TrainBearersModel", "isPlace", "(I)Z"⟩, prog_13_method_18_code, 1, (some .boolean), 11, 1, pm_c151),
  (⟨"TrainBearersModel", "holders", "(I)I"⟩, prog_13_method_19_code, 4, (some .int), 11, 2, pm_c152),
  (⟨"TrainBearersModel", "holding", "()I"⟩, prog_13_method_20_code, 3, (some .int), 11, 1, pm_c153),
  (⟨"TrainBearersModel", "yard", "(I)I"⟩, prog_13_method_21_code, 3, (some .int), 11, 2, pm_c154),
  (⟨"TrainBearersModel", "at", "(II)I"⟩, prog_13_method_22_code, 3, (some .int), 11, 3, pm_c155),
  (⟨"TrainBearersModel", "girl", "(I)I"⟩, prog_13_method_23_code, 3, (some .int), 11, 2, pm_c156),
  (⟨"TrainBearersModel", "of", "(II)I"⟩, prog_13_method_24_code, 3, (some .int), 11, 3, pm_c157),
  (⟨"TrainBearersModel", "asks", "(III)I"⟩, prog_13_method_25_code, 4, (some .int), 11, 4, pm_c158),
  (⟨"TrainBearersModel", "isLane", "(III)Z"⟩, prog_13_method_26_code, 3, (some .boolean), 11, 3, pm_c159),
  (⟨"TrainBearersModel", "setLane", "(III)V"⟩, prog_13_method_27_code, 4, none, 11, 4, pm_c160),
  (⟨"TrainBearersModel", "lane", "(III)I"⟩, prog_13_method_28_code, 5, (some .int), 11, 4, pm_c161),
  (⟨"TrainBearersModel", "stiles", "(II)I"⟩, prog_13_method_29_code, 3, (some .int), 11, 3, pm_c162),
  (⟨"TrainBearersModel", "terms", "(II)I"⟩, prog_13_method_30_code, 4, (some .int), 11, 3, pm_c163),
  (⟨"TrainBearersModel", "row", "()I"⟩, prog_13_method_31_code, 5, (some .int), 11, 1, pm_c164),
  (⟨"TrainBearersModel", "puddles", "()I"⟩, prog_13_method_32_code, 1, (some .int), 11, 1, pm_c165),
  (⟨"TrainBearersModel", "four", "(I)V"⟩, prog_13_method_33_code, 3, none, 11, 2, pm_c166),
  (⟨"TrainBearersModel", "feed", "(IIIII)I"⟩, prog_13_method_34_code, 6, (some .int), 11, 6, pm_c167),
  (⟨"TrainBearersModel", "end", "(I)I"⟩, prog_13_method_35_code, 2, (some .int), 11, 2, pm_c168),
  (⟨"TrainBearersModel", "isSmall", "(I)Z"⟩, prog_13_method_36_code, 1, (some .boolean), 11, 1, pm_c169),
  (⟨"TrainBearersModel", "isDigit", "(I)Z"⟩, prog_13_method_37_code, 1, (some .boolean), 11, 1, pm_c170),
  (⟨"TrainBearersModel", "begin", "()V"⟩, prog_13_method_38_code, 1, none, 11, 1, pm_c171),
  (⟨"TrainBearersModel", "next", "()V"⟩, prog_13_method_39_code, 1, none, 11, 1, pm_c172),
  (⟨"TrainBearersModel", "isWord", "(J)Z"⟩, prog_13_method_40_code, 3, (some .boolean), 11, 2, pm_c173),
  (⟨"TrainBearersModel", "isSign", "(I)Z"⟩, prog_13_method_41_code, 2, (some .boolean), 11, 2, pm_c174),
  (⟨"TrainBearersModel", "must", "(Z)V"⟩, prog_13_method_42_code, 2, none, 11, 2, pm_c175),
  (⟨"TrainBearersModel", "number", "(JJ)I"⟩, prog_13_method_43_code, 6, (some .int), 11, 3, pm_c176),
  (⟨"TrainBearersModel", "fault", "()I"⟩, prog_13_method_44_code, 1, (some .int), 11, 1, pm_c177),
  (⟨"TrainBearersModel", "emit", "(II)V"⟩, prog_13_method_45_code, 3, none, 11, 3, pm_c178),
  (⟨"TrainBearersModel", "push", "(II)V"⟩, prog_13_method_46_code, 3, none, 11, 3, pm_c179)]
def pm_mtL6 : List pm_M := [(⟨"TrainBearersModel", "binds", "(I)I"⟩, prog_13_method_47_code, 1, (some .int), 11, 1, pm_c180),
  (⟨"TrainBearersModel", "settle", "(I)V"⟩, prog_13_method_48_code, 2, none, 11, 2, pm_c181),
  (⟨"TrainBearersModel", "inner", "()I"⟩, prog_13_method_49_code, 3, (some .int), 11, 1, pm_c182),
  (⟨"TrainBearersModel", "isCompared", "()Z"⟩, prog_13_method_50_code, 2, (some .boolean), 11, 1, pm_c183),
  (⟨"TrainBearersModel", "partAt", "()I"⟩, prog_13_method_51_code, 3, (some .int), 11, 1, pm_c184),
  (⟨"TrainBearersModel", "orderPartAt", "()I"⟩, prog_13_method_52_code, 3, (some .int), 11, 1, pm_c185),
  (⟨"TrainBearersModel", "openBracket", "(I)V"⟩, prog_13_method_53_code, 2, none, 11, 2, pm_c186),
  (⟨"TrainBearersModel", "leaf", "(ZII)V"⟩, prog_13_method_54_code, 4, none, 11, 4, pm_c187),
  (⟨"TrainBearersModel", "readPart", "()I"⟩, prog_13_method_55_code, 4, (some .int), 11, 1, pm_c188),
  (⟨"TrainBearersModel", "readPlain", "()I"⟩, prog_13_method_56_code, 1, (some .int), 11, 1, pm_c189),
  (⟨"TrainBearersModel", "behindSum", "(Z)I"⟩, prog_13_method_57_code, 4, (some .int), 11, 2, pm_c190),
  (⟨"TrainBearersModel", "behindTest", "()I"⟩, prog_13_method_58_code, 2, (some .int), 11, 1, pm_c191),
  (⟨"TrainBearersModel", "readExpression", "(Z)V"⟩, prog_13_method_59_code, 3, none, 11, 2, pm_c192),
  (⟨"TrainBearersModel", "beginText", "(Z)V"⟩, prog_13_method_60_code, 2, none, 11, 2, pm_c193),
  (⟨"TrainBearersModel", "endText", "()V"⟩, prog_13_method_61_code, 1, none, 11, 1, pm_c194),
  (⟨"TrainBearersModel", "readLaw", "()V"⟩, prog_13_method_62_code, 4, none, 11, 1, pm_c195),
  (⟨"TrainBearersModel", "law", "()I"⟩, prog_13_method_63_code, 3, (some .int), 11, 1, pm_c196),
  (⟨"TrainBearersModel", "isLaw", "(I)Z"⟩, prog_13_method_64_code, 2, (some .boolean), 11, 2, pm_c197),
  (⟨"TrainBearersModel", "force", "(I)I"⟩, prog_13_method_65_code, 2, (some .int), 11, 2, pm_c198),
  (⟨"TrainBearersModel", "reckon", "(IJJ)J"⟩, prog_13_method_66_code, 6, (some .long), 11, 4, pm_c199),
  (⟨"TrainBearersModel", "reckonAll", "(II)V"⟩, prog_13_method_67_code, 7, none, 11, 3, pm_c200),
  (⟨"TrainBearersModel", "isSo", "(I)Z"⟩, prog_13_method_68_code, 2, (some .boolean), 11, 2, pm_c201),
  (⟨"TrainBearersModel", "tells", "(IIIIIJ)J"⟩, prog_13_method_69_code, 12, (some .long), 11, 7, pm_c202),
  (⟨"TrainBearersModel", "liftsOf", "(II)I"⟩, prog_13_method_70_code, 3, (some .int), 11, 3, pm_c203),
  (⟨"TrainBearersModel", "isBarred", "(II)Z"⟩, prog_13_method_71_code, 3, (some .boolean), 11, 3, pm_c204),
  (⟨"TrainBearersModel", "tiresOf", "(II)I"⟩, prog_13_method_72_code, 3, (some .int), 11, 3, pm_c205),
  (⟨"TrainBearersModel", "bringsOf", "(II)I"⟩, prog_13_method_73_code, 3, (some .int), 11, 3, pm_c206),
  (⟨"TrainBearersModel", "dipOf", "(II)I"⟩, prog_13_method_74_code, 5, (some .int), 11, 3, pm_c207),
  (⟨"TrainBearersModel", "broughtNow", "()I"⟩, prog_13_method_75_code, 3, (some .int), 11, 1, pm_c208),
  (⟨"TrainBearersModel", "canHold", "(II)Z"⟩, prog_13_method_76_code, 3, (some .boolean), 11, 3, pm_c209)]
def pm_mtL7 : List pm_M := [(⟨"TrainBearersModel", "holdNow", "(II)I"⟩, prog_13_method_77_code, 3, (some .int), 11, 3, pm_c210),
  (⟨"TrainBearersModel", "hold", "(II)I"⟩, prog_13_method_78_code, 3, (some .int), 11, 3, pm_c211),
  (⟨"TrainBearersModel", "dropNow", "(I)I"⟩, prog_13_method_79_code, 3, (some .int), 11, 2, pm_c212),
  (⟨"TrainBearersModel", "drop", "(I)I"⟩, prog_13_method_80_code, 2, (some .int), 11, 2, pm_c213),
  (⟨"TrainBearersModel", "layDips", "()V"⟩, prog_13_method_81_code, 2, none, 11, 1, pm_c214),
  (⟨"TrainBearersModel", "canWalk", "(I)Z"⟩, prog_13_method_82_code, 2, (some .boolean), 11, 2, pm_c215),
  (⟨"TrainBearersModel", "walkIt", "(I)I"⟩, prog_13_method_83_code, 5, (some .int), 11, 2, pm_c216),
  (⟨"TrainBearersModel", "walkNow", "(I)I"⟩, prog_13_method_84_code, 2, (some .int), 11, 2, pm_c217),
  (⟨"TrainBearersModel", "walk", "(I)I"⟩, prog_13_method_85_code, 2, (some .int), 11, 2, pm_c218),
  (⟨"TrainBearersModel", "restIt", "()V"⟩, prog_13_method_86_code, 2, none, 11, 1, pm_c219),
  (⟨"TrainBearersModel", "restNow", "()I"⟩, prog_13_method_87_code, 1, (some .int), 11, 1, pm_c220),
  (⟨"TrainBearersModel", "rest", "()I"⟩, prog_13_method_88_code, 1, (some .int), 11, 1, pm_c221),
  (⟨"TrainBearersModel", "costOf", "(II)I"⟩, prog_13_method_89_code, 5, (some .int), 11, 3, pm_c222),
  (⟨"TrainBearersModel", "layCosts", "()V"⟩, prog_13_method_90_code, 3, none, 11, 1, pm_c223),
  (⟨"TrainBearersModel", "with", "(III)I"⟩, prog_13_method_91_code, 4, (some .int), 11, 4, pm_c224),
  (⟨"TrainBearersModel", "layBorne", "()V"⟩, prog_13_method_92_code, 7, none, 11, 1, pm_c225),
  (⟨"TrainBearersModel", "borne", "(I)I"⟩, prog_13_method_93_code, 5, (some .int), 11, 2, pm_c226),
  (⟨"TrainBearersModel", "exchanged", "(I)I"⟩, prog_13_method_94_code, 10, (some .int), 11, 2, pm_c227),
  (⟨"TrainBearersModel", "seen", "(II)I"⟩, prog_13_method_95_code, 4, (some .int), 11, 3, pm_c228),
  (⟨"TrainBearersModel", "forget", "()I"⟩, prog_13_method_96_code, 2, (some .int), 11, 1, pm_c229),
  (⟨"TrainBearersModel", "dipWithout", "(II)I"⟩, prog_13_method_97_code, 3, (some .int), 11, 3, pm_c230),
  (⟨"TrainBearersModel", "whoLetGo", "()I"⟩, prog_13_method_98_code, 5, (some .int), 11, 1, pm_c231),
  (⟨"TrainBearersModel", "letGo", "()I"⟩, prog_13_method_99_code, 1, (some .int), 11, 1, pm_c232),
  (⟨"TrainBearersModel", "look", "(I)I"⟩, prog_13_method_100_code, 9, (some .int), 11, 2, pm_c233),
  (⟨"TrainBearersModel", "costTo", "(II)I"⟩, prog_13_method_101_code, 4, (some .int), 11, 3, pm_c234),
  (⟨"TrainBearersModel", "layLeft", "(I)V"⟩, prog_13_method_102_code, 5, none, 11, 2, pm_c235),
  (⟨"TrainBearersModel", "nextOf", "(I)I"⟩, prog_13_method_103_code, 3, (some .int), 11, 2, pm_c236),
  (⟨"TrainBearersModel", "way", "(II)I"⟩, prog_13_method_104_code, 6, (some .int), 11, 3, pm_c237),
  (⟨"TrainBearersModel", "brought", "(I)I"⟩, prog_13_method_105_code, 3, (some .int), 11, 2, pm_c238),
  (⟨"TrainBearersModel", "folds", "(II)I"⟩, prog_13_method_106_code, 9, (some .int), 11, 3, pm_c239)]
def pm_mtL8 : List pm_M := [(⟨"TrainBearersModel", "resting", "(I)I"⟩, prog_13_method_107_code, 3, (some .int), 11, 2, pm_c240),
  (⟨"TrainBearersModel", "far", "()I"⟩, prog_13_method_108_code, 4, (some .int), 11, 1, pm_c241),
  (⟨"TrainBearersModel", "steady", "()J"⟩, prog_13_method_109_code, 4, (some .long), 11, 1, pm_c242),
  (⟨"TrainBearersModel", "compare", "(I)I"⟩, prog_13_method_110_code, 4, (some .int), 11, 2, pm_c243),
  (⟨"TrainBearersModel", "readSum", "(I)V"⟩, prog_13_method_111_code, 2, none, 11, 2, pm_c244),
  (⟨"TrainBearersModel", "readOrder", "()V"⟩, prog_13_method_112_code, 4, none, 11, 1, pm_c245),
  (⟨"TrainBearersModel", "sumOf", "(I)I"⟩, prog_13_method_113_code, 2, (some .int), 11, 2, pm_c246),
  (⟨"TrainBearersModel", "act", "(III)I"⟩, prog_13_method_114_code, 4, (some .int), 11, 4, pm_c247),
  (⟨"TrainBearersModel", "run", "(I)I"⟩, prog_13_method_115_code, 5, (some .int), 11, 2, pm_c248),
  (⟨"TrainBearersModel", "orders", "()I"⟩, prog_13_method_116_code, 4, (some .int), 11, 1, pm_c249),
  (⟨"TrainBearersModel", "giveBack", "(I)V"⟩, prog_13_method_117_code, 3, none, 11, 2, pm_c250),
  (⟨"TrainBearersModel", "stopped", "()I"⟩, prog_13_method_118_code, 1, (some .int), 11, 1, pm_c251),
  (⟨"TrainBearersModel", "draw", "(I)I"⟩, prog_13_method_119_code, 2, (some .int), 11, 2, pm_c252),
  (⟨"TrainBearersModel", "generations", "(II)I"⟩, prog_13_method_120_code, 9, (some .int), 11, 3, pm_c253),
  (⟨"TrainBearersModel", "drawn", "(II)I"⟩, prog_13_method_121_code, 3, (some .int), 11, 3, pm_c254),
  (⟨"TrainBearersModel", "count", "(I)I"⟩, prog_13_method_122_code, 2, (some .int), 11, 2, pm_c255),
  (⟨"TrainBearersModel", "status", "()I"⟩, prog_13_method_123_code, 1, (some .int), 11, 1, pm_c256),
  (⟨"java/lang/Integer", "bitCount", "(I)I"⟩, prog_15_method_49_code, 1, (some .int), 13, 1, pm_c257),
  (⟨"java/lang/Math", "max", "(II)I"⟩, prog_16_method_65_code, 2, (some .int), 14, 2, pm_c258),
  (⟨"java/lang/Math", "min", "(II)I"⟩, prog_16_method_69_code, 2, (some .int), 14, 2, pm_c259),
  (⟨"java/lang/String", "length", "()I"⟩, prog_17_method_54_code, 1, (some .int), 15, 1, pm_c260),
  (⟨"java/lang/String", "charAt", "(I)C"⟩, prog_17_method_56_code, 2, (some .char), 15, 2, pm_c261),
  (⟨"java/lang/String", "coder", "()B"⟩, prog_17_method_152_code, 1, (some .byte), 15, 1, pm_c262),
  (⟨"java/lang/String", "isLatin1", "()Z"⟩, prog_17_method_154_code, 1, (some .boolean), 15, 1, pm_c263),
  (⟨"java/lang/String", "checkIndex", "(II)V"⟩, prog_17_method_155_code, 2, none, 15, 2, pm_c264),
  (⟨"java/lang/StringLatin1", "charAt", "([BI)C"⟩, prog_18_method_2_code, 2, (some .char), 16, 2, pm_c265),
  (⟨"java/util/Arrays", "fill", "([II)V"⟩, prog_21_method_103_code, 4, none, 17, 2, pm_c266),
  (⟨"java/util/Arrays", "copyOf", "([II)[I"⟩, prog_21_method_123_code, 3, (some (.array .int)), 17, 2, pm_c267),
  (⟨"jdk/internal/util/Preconditions", "checkIndex", "(IILjava/util/function/BiFunction;)I"⟩, prog_22_method_11_code, 3, (some .int), 18, 3, pm_c268)]
def pm_mtL : List pm_M := pm_mtL0 ++ (pm_mtL1 ++ (pm_mtL2 ++ (pm_mtL3 ++ (pm_mtL4 ++ (pm_mtL5 ++ (pm_mtL6 ++ (pm_mtL7 ++ (pm_mtL8))))))))
/-- fields linked: class, entry, kind, slot, the word's place -/
def pm_flA : List (Nat × Nat × Nat × Nat × Nat) := [(0, 42, 8, 0, 149),
  (0, 66, 8, 1, 154),
  (0, 69, 8, 2, 160),
  (0, 37, 8, 3, 164),
  (0, 11, 0, 0, 424),
  (0, 15, 0, 1, 425),
  (0, 18, 0, 2, 426),
  (0, 21, 0, 3, 427),
  (0, 33, 0, 4, 428),
  (0, 24, 0, 5, 429),
  (1, 84, 8, 0, 150),
  (1, 102, 8, 2, 159),
  (1, 91, 8, 3, 166),
  (1, 110, 8, 5, 175),
  (1, 48, 8, 6, 178),
  (1, 77, 8, 8, 186),
  (1, 113, 8, 9, 190),
  (1, 116, 8, 13, 203),
  (1, 122, 7, 0, 280),
  (1, 150, 7, 1, 283),
  (1, 143, 7, 2, 287),
  (1, 146, 7, 3, 291),
  (1, 136, 7, 4, 293),
  (1, 127, 7, 5, 297),
  (1, 130, 7, 9, 307),
  (1, 12, 1, 0, 392),
  (1, 21, 1, 1, 393),
  (1, 25, 1, 2, 394),
  (1, 29, 1, 3, 395),
  (1, 32, 1, 4, 396),
  (1, 35, 1, 5, 397),
  (2, 24, 8, 0, 148),
  (2, 15, 8, 3, 162),
  (2, 21, 8, 6, 177),
  (2, 37, 8, 10, 193),
  (2, 40, 8, 11, 196),
  (2, 43, 8, 12, 199),
  (2, 9, 2, 0, 450),
  (3, 85, 7, 2, 286),
  (3, 99, 7, 3, 290),
  (3, 114, 7, 4, 294),
  (3, 110, 7, 5, 298),
  (3, 88, 7, 6, 301),
  (3, 9, 3, 0, 329),
  (3, 26, 3, 1, 331),
  (3, 15, 3, 2, 333),
  (3, 55, 3, 3, 335),
  (3, 39, 3, 4, 336),
  (3, 36, 3, 5, 337),
  (3, 32, 3, 6, 338),
  (3, 22, 3, 7, 339),
  (4, 72, 8, 0, 151),
  (4, 55, 8, 1, 155),
  (4, 58, 8, 2, 161),
  (4, 61, 8, 3, 167),
  (4, 41, 8, 4, 169),
  (4, 44, 8, 5, 172),
  (4, 65, 8, 6, 181),
  (4, 81, 8, 13, 204),
  (4, 88, 7, 0, 281),
  (4, 93, 7, 1, 284),
  (4, 103, 7, 2, 288),
  (4, 96, 7, 4, 295),
  (4, 12, 4, 0, 375),
  (4, 18, 4, 1, 376),
  (5, 22, 8, 2, 158),
  (5, 33, 8, 5, 173),
  (5, 36, 8, 6, 179),
  (5, 39, 8, 8, 185),
  (5, 42, 8, 9, 189),
  (5, 45, 8, 13, 202),
  (5, 11, 5, 0, 255),
  (5, 19, 5, 1, 256),
  (5, 15, 5, 2, 257),
  (6, 21, 7, 6, 299),
  (6, 27, 7, 7, 303),
  (6, 31, 7, 8, 305),
  (6, 9, 6, 0, 370),
  (7, 33, 7, 0, 279),
  (7, 9, 7, 1, 282),
  (7, 15, 7, 2, 285),
  (7, 18, 7, 3, 289),
  (7, 21, 7, 4, 292),
  (7, 24, 7, 5, 296),
  (7, 43, 7, 6, 300),
  (7, 27, 7, 7, 302),
  (7, 30, 7, 8, 304),
  (7, 46, 7, 9, 306),
  (8, 55, 8, 0, 146),
  (8, 9, 8, 1, 152),
  (8, 15, 8, 2, 156),
  (8, 58, 8, 3, 163),
  (8, 18, 8, 4, 168),
  (8, 21, 8, 5, 171),
  (8, 24, 8, 6, 176),
  (8, 27, 8, 7, 182),
  (8, 61, 8, 8, 183),
  (8, 64, 8, 9, 188),
  (8, 67, 8, 10, 192),
  (8, 30, 8, 11, 195),
  (8, 33, 8, 12, 198),
  (8, 36, 8, 13, 201),
  (8, 70, 8, 14, 206),
  (8, 41, 8, 15, 208),
  (8, 45, 8, 16, 210),
  (9, 36, 8, 8, 184),
  (9, 9, 9, 0, 460),
  (10, 90, 8, 0, 147),
  (10, 94, 8, 1, 153),
  (10, 97, 8, 2, 157),
  (10, 121, 8, 3, 165),
  (10, 124, 8, 4, 170),
  (10, 127, 8, 5, 174),
  (10, 130, 8, 6, 180),
  (10, 282, 8, 8, 187),
  (10, 291, 8, 9, 191),
  (10, 259, 8, 10, 194),
  (10, 262, 8, 11, 197),
  (10, 265, 8, 12, 200),
  (10, 158, 8, 13, 205),
  (10, 174, 8, 14, 207),
  (10, 181, 8, 15, 209),
  (10, 217, 8, 16, 211),
  (10, 309, 5, 2, 258),
  (10, 327, 3, 0, 330),
  (10, 161, 3, 1, 332),
  (10, 211, 3, 2, 334),
  (10, 187, 3, 7, 340),
  (10, 194, 1, 5, 398),
  (10, 253, 0, 5, 430),
  (10, 12, 10, 0, 464),
  (10, 16, 10, 1, 465),
  (10, 19, 10, 2, 466),
  (10, 22, 10, 3, 467),
  (10, 26, 10, 4, 468),
  (10, 33, 10, 5, 469),
  (10, 37, 10, 6, 470),
  (10, 43, 10, 7, 471),
  (10, 50, 10, 8, 472),
  (10, 57, 10, 9, 473),
  (10, 64, 10, 10, 474),
  (10, 71, 10, 11, 475),
  (10, 78, 10, 12, 476),
  (10, 82, 10, 13, 477),
  (10, 313, 10, 14, 478),
  (10, 168, 10, 15, 479),
  (11, 162, 11, 0, 1177),
  (11, 165, 11, 1, 1178),
  (11, 7, 11, 2, 1179),
  (11, 13, 11, 3, 1180),
  (11, 16, 11, 4, 1181),
  (11, 19, 11, 5, 1182),
  (11, 23, 11, 6, 1183),
  (11, 26, 11, 7, 1184),
  (11, 168, 11, 8, 1185),
  (11, 29, 11, 9, 1186),
  (11, 32, 11, 10, 1187),
  (11, 242, 11, 11, 1188),
  (11, 35, 11, 12, 1189),
  (11, 239, 11, 13, 1190),
  (11, 259, 11, 14, 1191),
  (11, 249, 11, 15, 1192),
  (11, 272, 11, 16, 1193),
  (11, 262, 11, 17, 1194),
  (11, 38, 11, 18, 1195),
  (11, 252, 11, 19, 1196),
  (11, 325, 11, 20, 1197),
  (11, 379, 11, 21, 1198),
  (11, 42, 11, 22, 1199),
  (11, 287, 11, 23, 1200),
  (11, 45, 11, 24, 1201),
  (11, 48, 11, 25, 1202),
  (11, 316, 11, 26, 1203),
  (11, 51, 11, 27, 1204),
  (11, 54, 11, 28, 1205),
  (11, 290, 11, 29, 1206),
  (11, 310, 11, 30, 1207),
  (11, 77, 11, 31, 1208),
  (11, 89, 11, 32, 1209),
  (11, 100, 11, 33, 1210),
  (11, 402, 11, 34, 1211),
  (11, 103, 11, 35, 1212),
  (11, 106, 11, 36, 1213),
  (11, 109, 11, 37, 1214),
  (11, 399, 11, 38, 1215),
  (11, 413, 11, 39, 1216),
  (11, 419, 11, 40, 1217),
  (11, 112, 11, 41, 1218),
  (11, 115, 11, 42, 1219),
  (11, 118, 11, 43, 1220),
  (11, 121, 11, 44, 1221),
  (11, 124, 11, 45, 1222),
  (11, 127, 11, 46, 1223),
  (11, 130, 11, 47, 1224),
  (11, 133, 11, 48, 1225),
  (11, 144, 11, 49, 1226),
  (11, 147, 11, 50, 1227),
  (11, 519, 11, 51, 1228),
  (11, 522, 11, 52, 1229),
  (11, 150, 11, 53, 1230),
  (11, 516, 11, 54, 1231),
  (11, 540, 11, 55, 1232),
  (11, 153, 11, 56, 1233),
  (11, 156, 11, 57, 1234),
  (11, 159, 11, 58, 1235),
  (15, 9, 100, 0, 1863),
  (15, 15, 100, 1, 1864)]
def pm_slA : List (Nat × Nat × Value × String × String × String × Nat) := [(10, 155, .retAddr 201, "TrainBearers", "MOST_TERM", "[I", 642),
  (15, 38, .int 1, "java/lang/String", "COMPACT_STRINGS", "Z", 701),
  (15, 1053, .retAddr 300, "jdk/internal/util/Preconditions", "SIOOBE_FORMATTER", "Ljava/util/function/BiFunction;", 717)]
def pm_mlA : List (Nat × Nat × Nat × Nat × Nat) := [(0, 3, 4, 0, 417),
  (0, 27, 1, 257, 418),
  (0, 45, 0, 4, 975),
  (0, 56, 0, 44, 979),
  (0, 62, 0, 45, 980),
  (0, 73, 0, 47, 982),
  (0, 49, 0, 5, 983),
  (0, 76, 0, 7, 987),
  (0, 80, 1, 259, 991),
  (0, 53, 0, 6, 992),
  (1, 3, 4, 0, 387),
  (1, 11, 2, 43, 389),
  (1, 20, 2, 57, 391),
  (1, 132, 0, 15, 873),
  (1, 70, 0, 48, 877),
  (1, 39, 0, 70, 878),
  (1, 139, 0, 58, 879),
  (1, 153, 0, 9, 881),
  (1, 45, 0, 69, 885),
  (1, 51, 0, 73, 886),
  (1, 55, 1, 257, 887),
  (1, 60, 0, 45, 888),
  (1, 64, 0, 54, 889),
  (1, 157, 0, 10, 893),
  (1, 161, 0, 11, 897),
  (1, 74, 3, 128, 901),
  (1, 80, 0, 75, 902),
  (1, 87, 0, 47, 903),
  (1, 94, 0, 46, 904),
  (1, 98, 0, 12, 908),
  (1, 105, 1, 259, 912),
  (1, 164, 0, 13, 913),
  (1, 119, 1, 258, 917),
  (1, 168, 1, 17, 1117),
  (2, 3, 4, 0, 449),
  (2, 27, 0, 48, 1038),
  (2, 33, 0, 20, 1039),
  (2, 46, 0, 22, 1051),
  (2, 50, 1, 258, 1055),
  (3, 3, 4, 0, 272),
  (3, 21, 2, 60, 275),
  (3, 29, 0, 62, 676),
  (3, 42, 0, 38, 680),
  (3, 45, 0, 26, 684),
  (3, 66, 0, 41, 689),
  (3, 178, 7, 260, 693),
  (3, 182, 7, 261, 703),
  (3, 70, 0, 66, 741),
  (3, 74, 0, 28, 745),
  (3, 91, 0, 32, 749),
  (3, 117, 0, 34, 753),
  (3, 60, 0, 39, 758),
  (3, 132, 0, 40, 762),
  (3, 151, 0, 36, 767),
  (3, 95, 0, 63, 775),
  (3, 120, 0, 35, 779),
  (3, 166, 0, 37, 785),
  (3, 106, 0, 42, 789),
  (3, 174, 0, 64, 795),
  (3, 123, 0, 65, 800),
  (3, 126, 0, 33, 804),
  (3, 49, 0, 27, 815),
  (3, 79, 0, 29, 820),
  (3, 82, 0, 30, 825),
  (3, 52, 0, 31, 830),
  (4, 3, 4, 0, 363),
  (4, 11, 2, 57, 366),
  (4, 52, 0, 69, 545),
  (4, 68, 0, 44, 546),
  (4, 22, 0, 50, 550),
  (4, 35, 0, 70, 554),
  (4, 26, 0, 51, 558),
  (4, 84, 0, 72, 562),
  (4, 99, 0, 58, 571),
  (4, 31, 3, 130, 585),
  (4, 47, 1, 258, 592),
  (4, 75, 0, 48, 1016),
  (4, 78, 0, 47, 1017),
  (5, 5, 4, 0, 254),
  (5, 27, 5, 0, 868),
  (6, 3, 4, 0, 369),
  (6, 15, 1, 258, 575),
  (6, 35, 1, 59, 579),
  (7, 3, 4, 0, 278),
  (7, 49, 0, 63, 799),
  (7, 37, 1, 267, 840),
  (8, 3, 4, 0, 140),
  (8, 49, 1, 266, 143),
  (8, 79, 0, 71, 566),
  (8, 83, 3, 128, 629),
  (8, 73, 5, 0, 863),
  (9, 3, 4, 0, 459),
  (9, 15, 3, 128, 1065),
  (9, 20, 1, 266, 1067),
  (9, 26, 0, 81, 1068),
  (9, 42, 0, 75, 1072),
  (9, 30, 1, 259, 1073),
  (10, 3, 4, 0, 132),
  (10, 11, 2, 67, 137),
  (10, 32, 2, 52, 251),
  (10, 42, 2, 23, 269),
  (10, 49, 2, 43, 360),
  (10, 56, 2, 8, 384),
  (10, 63, 2, 0, 414),
  (10, 70, 2, 18, 446),
  (10, 77, 2, 77, 456),
  (10, 86, 0, 125, 517),
  (10, 100, 0, 53, 521),
  (10, 103, 0, 126, 525),
  (10, 106, 0, 69, 533),
  (10, 110, 0, 73, 537),
  (10, 113, 0, 48, 541),
  (10, 319, 1, 259, 588),
  (10, 324, 1, 258, 591),
  (10, 117, 0, 47, 593),
  (10, 133, 0, 70, 605),
  (10, 136, 0, 44, 610),
  (10, 139, 0, 45, 611),
  (10, 143, 1, 129, 619),
  (10, 316, 1, 128, 622),
  (10, 147, 0, 75, 625),
  (10, 151, 0, 76, 630),
  (10, 164, 0, 24, 648),
  (10, 171, 0, 131, 660),
  (10, 177, 0, 25, 672),
  (10, 191, 2, 61, 837),
  (10, 197, 0, 68, 859),
  (10, 201, 0, 56, 864),
  (10, 204, 0, 14, 869),
  (10, 208, 0, 132, 918),
  (10, 214, 0, 71, 934),
  (10, 220, 0, 9, 939),
  (10, 224, 0, 127, 940),
  (10, 227, 0, 10, 948),
  (10, 231, 0, 11, 953),
  (10, 234, 0, 13, 958),
  (10, 238, 0, 55, 963),
  (10, 242, 0, 3, 971),
  (10, 246, 0, 1, 996),
  (10, 250, 0, 2, 1000),
  (10, 256, 0, 133, 1008),
  (10, 294, 0, 49, 1012),
  (10, 330, 0, 134, 1018),
  (10, 268, 0, 19, 1034),
  (10, 272, 0, 21, 1047),
  (10, 275, 0, 22, 1056),
  (10, 278, 0, 78, 1061),
  (10, 285, 0, 79, 1074),
  (10, 288, 0, 80, 1078),
  (10, 302, 0, 16, 1113),
  (10, 306, 0, 74, 1137),
  (10, 310, 0, 124, 1141),
  (11, 1, 4, 0, 1154),
  (11, 171, 0, 140, 1359),
  (11, 179, 0, 144, 1363),
  (11, 182, 1, 136, 1371),
  (11, 186, 0, 142, 1378),
  (11, 193, 0, 149, 1391),
  (11, 197, 0, 152, 1395),
  (11, 200, 0, 207, 1399),
  (11, 433, 1, 137, 1403),
  (11, 212, 0, 203, 1406),
  (11, 425, 0, 202, 1410),
  (11, 422, 0, 201, 1415),
  (11, 416, 0, 200, 1419),
  (11, 209, 0, 150, 1423),
  (11, 405, 0, 199, 1427),
  (11, 429, 1, 139, 1433),
  (11, 204, 0, 206, 1436),
  (11, 215, 0, 204, 1453),
  (11, 224, 1, 159, 1461),
  (11, 219, 1, 151, 1464),
  (11, 228, 0, 160, 1468),
  (11, 236, 0, 141, 1482),
  (11, 246, 0, 166, 1499),
  (11, 387, 0, 193, 1515),
  (11, 376, 0, 171, 1519),
  (11, 256, 0, 172, 1523),
  (11, 266, 1, 169, 1527),
  (11, 269, 1, 170, 1530),
  (11, 390, 0, 195, 1537),
  (11, 306, 0, 173, 1541),
  (11, 283, 0, 175, 1545),
  (11, 382, 0, 192, 1549),
  (11, 366, 0, 189, 1553),
  (11, 313, 0, 179, 1558),
  (11, 319, 0, 174, 1562),
  (11, 322, 0, 186, 1566),
  (11, 349, 0, 188, 1570),
  (11, 328, 0, 185, 1574),
  (11, 332, 0, 184, 1578),
  (11, 337, 0, 187, 1583),
  (11, 296, 0, 178, 1587),
  (11, 343, 0, 176, 1592),
  (11, 369, 0, 190, 1596),
  (11, 293, 1, 180, 1600),
  (11, 352, 0, 181, 1603),
  (11, 355, 0, 182, 1607),
  (11, 358, 0, 183, 1611),
  (11, 373, 0, 191, 1618),
  (11, 393, 0, 194, 1625),
  (11, 396, 0, 197, 1633),
  (11, 445, 0, 210, 1641),
  (11, 439, 0, 209, 1645),
  (11, 436, 1, 138, 1649),
  (11, 442, 0, 145, 1652),
  (11, 175, 0, 143, 1656),
  (11, 448, 0, 212, 1664),
  (11, 466, 0, 217, 1672),
  (11, 460, 0, 215, 1676),
  (11, 463, 0, 216, 1680),
  (11, 451, 0, 208, 1684),
  (11, 454, 0, 214, 1688),
  (11, 457, 0, 205, 1692),
  (11, 472, 0, 220, 1700),
  (11, 469, 0, 219, 1704),
  (11, 482, 0, 223, 1712),
  (11, 475, 0, 222, 1716),
  (11, 485, 0, 225, 1720),
  (11, 478, 0, 224, 1724),
  (11, 493, 0, 231, 1745),
  (11, 490, 0, 230, 1749),
  (11, 499, 0, 235, 1761),
  (11, 496, 0, 234, 1765),
  (11, 502, 0, 236, 1769),
  (11, 531, 0, 245, 1803),
  (11, 509, 0, 244, 1807),
  (11, 534, 0, 248, 1813),
  (11, 525, 0, 246, 1817),
  (11, 528, 0, 247, 1821),
  (11, 537, 0, 250, 1825),
  (11, 549, 0, 252, 1837),
  (11, 554, 0, 153, 1853),
  (12, 9, 2, 82, 129),
  (12, 13, 0, 83, 513),
  (12, 18, 0, 84, 529),
  (12, 23, 0, 85, 597),
  (12, 27, 0, 86, 601),
  (12, 31, 0, 87, 606),
  (12, 36, 0, 88, 615),
  (12, 40, 0, 89, 634),
  (12, 44, 0, 90, 638),
  (12, 48, 0, 91, 644),
  (12, 53, 0, 92, 652),
  (12, 57, 0, 93, 656),
  (12, 62, 0, 94, 664),
  (12, 66, 0, 95, 668),
  (12, 70, 0, 96, 855),
  (12, 74, 0, 97, 922),
  (12, 78, 0, 98, 926),
  (12, 82, 0, 99, 930),
  (12, 86, 0, 100, 935),
  (12, 90, 0, 101, 944),
  (12, 94, 0, 102, 949),
  (12, 98, 0, 103, 954),
  (12, 102, 0, 104, 959),
  (12, 106, 0, 105, 967),
  (12, 110, 0, 106, 1004),
  (12, 114, 0, 107, 1022),
  (12, 118, 0, 108, 1026),
  (12, 122, 0, 109, 1030),
  (12, 126, 0, 110, 1043),
  (12, 130, 0, 111, 1057),
  (12, 134, 0, 112, 1082),
  (12, 138, 0, 113, 1086),
  (12, 142, 0, 114, 1090),
  (12, 146, 0, 115, 1094),
  (12, 150, 0, 116, 1098),
  (12, 155, 0, 117, 1104),
  (12, 159, 0, 118, 1108),
  (12, 163, 0, 119, 1121),
  (12, 167, 0, 120, 1125),
  (12, 171, 0, 121, 1129),
  (12, 175, 0, 122, 1133),
  (12, 179, 0, 123, 1145),
  (12, 12, 2, 135, 1151),
  (12, 105, 0, 146, 1355),
  (12, 170, 0, 147, 1367),
  (12, 174, 0, 148, 1374),
  (12, 17, 0, 154, 1382),
  (12, 22, 0, 155, 1387),
  (12, 26, 0, 156, 1440),
  (12, 30, 0, 157, 1445),
  (12, 35, 0, 158, 1449),
  (12, 39, 0, 161, 1457),
  (12, 43, 0, 162, 1472),
  (12, 47, 0, 163, 1476),
  (12, 61, 0, 164, 1486),
  (12, 65, 0, 165, 1491),
  (12, 52, 0, 167, 1495),
  (12, 56, 0, 168, 1503),
  (12, 77, 0, 177, 1507),
  (12, 69, 0, 196, 1511),
  (12, 85, 0, 198, 1629),
  (12, 89, 0, 211, 1637),
  (12, 93, 0, 213, 1660),
  (12, 97, 0, 218, 1668),
  (12, 101, 0, 221, 1696),
  (12, 109, 0, 226, 1708),
  (12, 113, 0, 227, 1728),
  (12, 117, 0, 228, 1732),
  (12, 121, 0, 229, 1737),
  (12, 125, 0, 232, 1741),
  (12, 129, 0, 233, 1753),
  (12, 133, 0, 237, 1757),
  (12, 137, 0, 238, 1773),
  (12, 141, 0, 239, 1777),
  (12, 145, 0, 240, 1782),
  (12, 149, 0, 241, 1786),
  (12, 154, 0, 242, 1790),
  (12, 158, 0, 243, 1795),
  (12, 73, 0, 249, 1799),
  (12, 81, 0, 251, 1829),
  (12, 162, 0, 253, 1833),
  (12, 166, 0, 254, 1844),
  (12, 178, 0, 255, 1849),
  (12, 182, 0, 256, 1859),
  (15, 335, 7, 262, 697),
  (15, 492, 7, 263, 707),
  (15, 495, 1, 265, 711),
  (15, 1059, 1, 268, 719),
  (16, 9, 1, 264, 714),
  (17, 316, 6, 0, 843),
  (17, 304, 1, 259, 850),
  (17, 150, 5, 0, 851)]
def pm_klA : List (Nat × Nat × Nat × Value × Nat) := [(0, 72, 0, .int (1048576), 981),
  (1, 149, 0, .int (-2000000000), 880),
  (1, 171, 0, .int (1000003), 1120),
  (3, 64, 2, .retAddr 0, 688),
  (3, 147, 2, .retAddr 1, 757),
  (3, 149, 2, .retAddr 2, 766),
  (3, 154, 2, .retAddr 3, 771),
  (3, 156, 2, .retAddr 4, 772),
  (3, 158, 2, .retAddr 5, 773),
  (3, 160, 2, .retAddr 6, 774),
  (3, 162, 2, .retAddr 7, 783),
  (3, 164, 2, .retAddr 8, 784),
  (3, 170, 2, .retAddr 9, 793),
  (3, 172, 2, .retAddr 10, 794),
  (3, 130, 2, .retAddr 11, 808),
  (3, 135, 2, .retAddr 12, 809),
  (3, 137, 2, .retAddr 13, 810),
  (3, 139, 2, .retAddr 14, 811),
  (3, 141, 2, .retAddr 15, 812),
  (3, 143, 2, .retAddr 16, 813),
  (3, 145, 2, .retAddr 17, 814),
  (3, 77, 2, .retAddr 18, 819),
  (3, 102, 2, .retAddr 19, 824),
  (3, 104, 2, .retAddr 20, 829),
  (3, 112, 2, .retAddr 21, 834),
  (3, 58, 2, .retAddr 22, 835),
  (4, 30, 0, .int (-2000000000), 570),
  (6, 34, 0, .int (-2000000000), 578),
  (6, 43, 1, .long (1000000001), 582),
  (6, 39, 1, .long (1000000000), 583),
  (6, 41, 1, .long (-1000000000), 584),
  (9, 19, 0, .int (1048576), 1066),
  (10, 297, 1, .long (1000000000000), 1102),
  (10, 299, 1, .long (10), 1103),
  (10, 301, 0, .int (1000000), 1112),
  (11, 57, 1, .long (239180), 1155),
  (11, 59, 1, .long (659111367), 1156),
  (11, 61, 1, .long (21285028), 1157),
  (11, 63, 1, .long (820804), 1158),
  (11, 65, 1, .long (8554201), 1159),
  (11, 67, 1, .long (13988), 1160),
  (11, 69, 1, .long (4400), 1161),
  (11, 71, 1, .long (658813107), 1162),
  (11, 73, 1, .long (278194), 1163),
  (11, 75, 1, .long (441828), 1164),
  (11, 81, 1, .long (146885), 1165),
  (11, 83, 1, .long (404362868), 1166),
  (11, 85, 1, .long (198277), 1167),
  (11, 87, 1, .long (17171557), 1168),
  (11, 92, 1, .long (12884627), 1169),
  (11, 94, 1, .long (21285043), 1170),
  (11, 96, 1, .long (86292723), 1171),
  (11, 98, 1, .long (67155), 1172),
  (11, 136, 1, .long (277892), 1173),
  (11, 138, 1, .long (150000), 1174),
  (11, 140, 1, .long (755083), 1175),
  (11, 142, 1, .long (595572), 1176),
  (11, 191, 1, .long (20), 1386),
  (11, 222, 1, .long (-1), 1414),
  (11, 409, 1, .long (-1000000000), 1431),
  (11, 411, 1, .long (1000000000), 1432),
  (11, 207, 1, .long (9), 1444),
  (11, 189, 1, .long (5), 1467),
  (11, 232, 1, .long (999), 1480),
  (11, 234, 1, .long (10), 1481),
  (11, 245, 0, .int (100000000), 1490),
  (11, 275, 1, .long (32), 1533),
  (11, 277, 1, .long (96), 1534),
  (11, 279, 1, .long (1000000), 1535),
  (11, 281, 1, .long (48), 1536),
  (11, 347, 1, .long (14836), 1557),
  (11, 335, 1, .long (1000), 1582),
  (11, 341, 1, .long (7), 1591),
  (11, 300, 1, .long (24), 1615),
  (11, 302, 1, .long (25), 1616),
  (11, 304, 1, .long (27), 1617),
  (11, 362, 1, .long (1476), 1622),
  (11, 364, 1, .long (498), 1623),
  (11, 385, 1, .long (294), 1624),
  (11, 488, 1, .long (40), 1736),
  (11, 505, 1, .long (60), 1781),
  (11, 507, 1, .long (1000000000000), 1794),
  (11, 512, 1, .long (52), 1811),
  (11, 514, 1, .long (21279923), 1812),
  (11, 543, 1, .long (1103), 1841),
  (11, 545, 1, .long (12345), 1842),
  (11, 547, 1, .long (1000003), 1843),
  (11, 552, 1, .long (2), 1848),
  (11, 557, 1, .long (15), 1857),
  (11, 559, 1, .long (17), 1858),
  (13, 265, 0, .int (1431655765), 421),
  (13, 266, 0, .int (858993459), 422),
  (13, 267, 0, .int (252645135), 423)]
def pm_nlA : List (Nat × Nat × Nat × Nat) := [(1, 9, 4, 388),
  (1, 18, 6, 390),
  (3, 19, 7, 273),
  (4, 9, 6, 364),
  (8, 39, 7, 141),
  (10, 9, 8, 135),
  (10, 30, 5, 249),
  (10, 40, 3, 267),
  (10, 47, 4, 358),
  (10, 54, 1, 382),
  (10, 61, 0, 412),
  (10, 68, 2, 444),
  (10, 75, 9, 454),
  (10, 185, 7, 836),
  (12, 7, 10, 127),
  (12, 10, 11, 1149)]
def pm_alA : List (Nat × Nat × Nat × Nat) := [(3, 19, 3, 273),
  (8, 39, 3, 141),
  (10, 9, 4, 135),
  (10, 185, 3, 836),
  (17, 317, 0, 849)]
/-- the places of a method's words: code, initialized, static or instanceMethod, selects -/
def pm_mP : List (Nat × Nat × Nat × Nat) := [(416, 116, 415, 9999), (999, 116, 997, 998), (1003, 116, 1001, 1002), (974, 116, 972, 973), (978, 116, 977, 26), (986, 116, 985, 27), (995, 116, 994, 29), (990, 116, 989, 28), (386, 115, 385, 9999), (884, 115, 882, 883), (896, 115, 894, 895), (900, 115, 898, 899), (911, 115, 910, 23), (916, 115, 914, 915), (872, 115, 870, 871), (876, 115, 875, 22), (1116, 115, 1114, 1115), (1119, 115, 1118, 9999), (448, 118, 447, 9999), (1037, 118, 1035, 1036), (1042, 118, 1041, 32), (1050, 118, 1048, 1049), (1054, 118, 1052, 1053), (271, 111, 270, 9999), (651, 111, 649, 650), (675, 111, 673, 674), (687, 111, 686, 6), (818, 111, 817, 18), (748, 111, 747, 8), (823, 111, 822, 19), (828, 111, 827, 20), (833, 111, 832, 21), (752, 111, 751, 9), (807, 111, 806, 17), (756, 111, 755, 10), (782, 111, 781, 14), (770, 111, 769, 13), (788, 111, 787, 15), (683, 111, 682, 5), (761, 111, 760, 11), (765, 111, 764, 12), (692, 111, 691, 7), (792, 111, 791, 16), (362, 113, 361, 9999), (549, 113, 547, 548), (614, 113, 612, 613), (907, 113, 905, 906), (596, 113, 594, 595), (544, 113, 542, 543), (1015, 113, 1013, 1014), (553, 113, 552, 2), (561, 113, 560, 3), (253, 110, 252, 9999), (524, 110, 522, 523), (892, 110, 890, 891), (966, 110, 964, 965), (867, 110, 865, 866), (368, 114, 367, 9999), (574, 114, 572, 573), (581, 114, 580, 9999), (277, 112, 276, 9999), (839, 112, 838, 9999), (679, 112, 677, 678), (778, 112, 776, 777), (798, 112, 796, 797), (803, 112, 801, 802), (744, 112, 742, 743), (139, 108, 138, 9999), (862, 108, 860, 861), (536, 108, 534, 535), (557, 108, 555, 556), (569, 108, 567, 568), (565, 108, 563, 564), (540, 108, 538, 539), (1140, 108, 1138, 1139), (628, 108, 626, 627), (633, 108, 631, 632), (458, 119, 457, 9999), (1064, 119, 1062, 1063), (1077, 119, 1075, 1076), (1081, 119, 1079, 1080), (1071, 119, 1070, 33), (131, 107, 130, 9999), (516, 107, 514, 515), (532, 107, 530, 531), (600, 107, 598, 599), (604, 107, 602, 603), (609, 107, 607, 608), (618, 107, 616, 617), (637, 107, 635, 636), (641, 107, 639, 640), (647, 107, 645, 646), (655, 107, 653, 654), (659, 107, 657, 658), (667, 107, 665, 666), (671, 107, 669, 670), (858, 107, 856, 857), (925, 107, 923, 924), (929, 107, 927, 928), (933, 107, 931, 932), (938, 107, 936, 937), (947, 107, 945, 946), (952, 107, 950, 951), (957, 107, 955, 956), (962, 107, 960, 961), (970, 107, 968, 969), (1007, 107, 1005, 1006), (1025, 107, 1023, 1024), (1029, 107, 1027, 1028), (1033, 107, 1031, 1032), (1046, 107, 1044, 1045), (1060, 107, 1058, 1059), (1085, 107, 1083, 1084), (1089, 107, 1087, 1088), (1093, 107, 1091, 1092), (1097, 107, 1095, 1096), (1101, 107, 1099, 1100), (1107, 107, 1105, 1106), (1111, 107, 1109, 1110), (1124, 107, 1122, 1123), (1128, 107, 1126, 1127), (1132, 107, 1130, 1131), (1136, 107, 1134, 1135), (1148, 107, 1146, 1147), (1144, 107, 1143, 34), (520, 107, 519, 0), (528, 107, 527, 1), (943, 107, 942, 25), (624, 107, 623, 9999), (621, 107, 620, 9999), (587, 107, 586, 9999), (663, 107, 662, 4), (921, 107, 920, 24), (1011, 107, 1010, 30), (1021, 107, 1020, 31), (1153, 120, 1152, 9999), (1373, 120, 1372, 9999), (1405, 120, 1404, 9999), (1651, 120, 1650, 9999), (1435, 120, 1434, 9999), (1362, 120, 1361, 35), (1485, 120, 1484, 50), (1381, 120, 1380, 37), (1659, 120, 1658, 79), (1366, 120, 1365, 36), (1655, 120, 1654, 78), (1358, 120, 1356, 1357), (1370, 120, 1368, 1369), (1377, 120, 1375, 1376), (1394, 120, 1393, 38), (1426, 120, 1425, 45), (1466, 120, 1465, 9999), (1398, 120, 1397, 39), (1856, 120, 1855, 105), (1385, 120, 1383, 1384), (1390, 120, 1388, 1389), (1443, 120, 1441, 1442), (1448, 120, 1446, 1447), (1452, 120, 1450, 1451), (1463, 120, 1462, 9999), (1471, 120, 1470, 49), (1460, 120, 1458, 1459), (1475, 120, 1473, 1474), (1479, 120, 1477, 1478), (1489, 120, 1487, 1488), (1494, 120, 1492, 1493), (1502, 120, 1501, 51), (1498, 120, 1496, 1497), (1506, 120, 1504, 1505), (1529, 120, 1528, 9999), (1532, 120, 1531, 9999), (1522, 120, 1521, 53), (1526, 120, 1525, 54), (1544, 120, 1543, 56), (1565, 120, 1564, 61), (1548, 120, 1547, 57), (1595, 120, 1594, 68), (1510, 120, 1508, 1509), (1590, 120, 1589, 67), (1561, 120, 1560, 60), (1602, 120, 1601, 9999), (1606, 120, 1605, 70), (1610, 120, 1609, 71), (1614, 120, 1613, 72), (1581, 120, 1580, 65), (1577, 120, 1576, 64), (1569, 120, 1568, 62), (1586, 120, 1585, 66), (1573, 120, 1572, 63), (1556, 120, 1555, 59), (1599, 120, 1598, 69), (1621, 120, 1620, 73), (1552, 120, 1551, 58), (1518, 120, 1517, 52), (1628, 120, 1627, 74), (1540, 120, 1539, 55), (1514, 120, 1512, 1513), (1636, 120, 1635, 75), (1632, 120, 1630, 1631), (1430, 120, 1429, 46), (1422, 120, 1421, 44), (1418, 120, 1417, 43), (1413, 120, 1412, 42), (1409, 120, 1408, 41), (1456, 120, 1455, 48), (1695, 120, 1694, 86), (1439, 120, 1438, 47), (1402, 120, 1401, 40), (1687, 120, 1686, 84), (1648, 120, 1647, 77), (1644, 120, 1643, 76), (1640, 120, 1638, 1639), (1667, 120, 1666, 80), (1663, 120, 1661, 1662), (1691, 120, 1690, 85), (1679, 120, 1678, 82), (1683, 120, 1682, 83), (1675, 120, 1674, 81), (1671, 120, 1669, 1670), (1707, 120, 1706, 88), (1703, 120, 1702, 87), (1699, 120, 1697, 1698), (1719, 120, 1718, 90), (1715, 120, 1714, 89), (1727, 120, 1726, 92), (1723, 120, 1722, 91), (1711, 120, 1709, 1710), (1731, 120, 1729, 1730), (1735, 120, 1733, 1734), (1740, 120, 1738, 1739), (1752, 120, 1751, 94), (1748, 120, 1747, 93), (1744, 120, 1742, 1743), (1756, 120, 1754, 1755), (1768, 120, 1767, 96), (1764, 120, 1763, 95), (1772, 120, 1771, 97), (1760, 120, 1758, 1759), (1776, 120, 1774, 1775), (1780, 120, 1778, 1779), (1785, 120, 1783, 1784), (1789, 120, 1787, 1788), (1793, 120, 1791, 1792), (1798, 120, 1796, 1797), (1810, 120, 1809, 99), (1806, 120, 1805, 98), (1820, 120, 1819, 101), (1824, 120, 1823, 102), (1816, 120, 1815, 100), (1802, 120, 1800, 1801), (1828, 120, 1827, 103), (1832, 120, 1830, 1831), (1840, 120, 1839, 104), (1836, 120, 1834, 1835), (1847, 120, 1845, 1846), (1852, 120, 1850, 1851), (1862, 120, 1860, 1861), (420, 117, 419, 9999), (577, 121, 576, 9999), (590, 121, 589, 9999), (696, 122, 694, 695), (706, 122, 704, 705), (700, 122, 698, 699), (710, 122, 708, 709), (716, 122, 715, 9999), (713, 123, 712, 9999), (145, 109, 144, 9999), (842, 109, 841, 9999), (721, 124, 720, 9999)]
/-- the places of a class's words: initialized, instantiable, its fields -/
def pm_cP : List (Nat × Nat × List Nat) := [(116, 413, [431, 433, 435, 437, 439, 441]), (115, 383, [399, 401, 403, 405, 407, 409]), (118, 445, [451]), (111, 268, [341, 343, 345, 347, 349, 351, 353, 355]), (113, 359, [377, 379]), (110, 250, [259, 261, 263]), (114, 365, [371]), (112, 274, [308, 310, 312, 314, 316, 318, 320, 322, 324, 326]), (108, 136, [212, 214, 216, 218, 220, 222, 224, 226, 228, 230, 232, 234, 236, 238, 240, 242, 244]), (119, 455, [461]), (107, 128, [480, 482, 484, 486, 488, 490, 492, 494, 496, 498, 500, 502, 504, 506, 508, 510]), (120, 1150, [1236, 1238, 1240, 1242, 1244, 1246, 1248, 1250, 1252, 1254, 1256, 1258, 1260, 1262, 1264, 1266, 1268, 1270, 1272, 1274, 1276, 1278, 1280, 1282, 1284, 1286, 1288, 1290, 1292, 1294, 1296, 1298, 1300, 1302, 1304, 1306, 1308, 1310, 1312, 1314, 1316, 1318, 1320, 1322, 1324, 1326, 1328, 1330, 1332, 1334, 1336, 1338, 1340, 1342, 1344, 1346, 1348, 1350, 1352])]
/-- String constants: entry, text, bytes -/
def pm_strT : List (Nat × String) := [(64, "lifts tires brings bars "), (147, "not"), (149, "("), (154, ")"), (156, "<"), (158, ">"), (160, "="), (162, "["), (164, "]"), (170, "girl strong tired yard heavy mud dip stiles hour mood "), (172, "hour done latest fate place dip tired "), (130, "or"), (135, "and"), (137, "+"), (139, "-"), (141, "*"), (143, "/"), (145, "%"), (77, "hold drop walk rest "), (102, "at"), (104, "times"), (112, "if"), (58, ";")]
def pm_strB : List (List Int32) := [[108, 105, 102, 116, 115, 32, 116, 105, 114, 101, 115, 32, 98, 114, 105, 110, 103, 115, 32, 98, 97, 114, 115, 32], [110, 111, 116], [40], [41], [60], [62], [61], [91], [93], [103, 105, 114, 108, 32, 115, 116, 114, 111, 110, 103, 32, 116, 105, 114, 101, 100, 32, 121, 97, 114, 100, 32, 104, 101, 97, 118, 121, 32, 109, 117, 100, 32, 100, 105, 112, 32, 115, 116, 105, 108, 101, 115, 32, 104, 111, 117, 114, 32, 109, 111, 111, 100, 32], [104, 111, 117, 114, 32, 100, 111, 110, 101, 32, 108, 97, 116, 101, 115, 116, 32, 102, 97, 116, 101, 32, 112, 108, 97, 99, 101, 32, 100, 105, 112, 32, 116, 105, 114, 101, 100, 32], [111, 114], [97, 110, 100], [43], [45], [42], [47], [37], [104, 111, 108, 100, 32, 100, 114, 111, 112, 32, 119, 97, 108, 107, 32, 114, 101, 115, 116, 32], [97, 116], [116, 105, 109, 101, 115], [105, 102], [59]]
def pm_strP : List Nat := [688, 757, 766, 771, 772, 773, 774, 783, 784, 793, 794, 808, 809, 810, 811, 812, 813, 814, 819, 824, 829, 834, 835]
end
section
/-! THE PURE MACHINE. A value's reference is a cell's number from the law's first one on; .retAddr k stands for what was there before (String constants 0 .. 22, their bytes 100 .. 122, the script 200, MOST_TERM 201, a formatter 300). -/
abbrev pm_C : Type := (Nat × vp_A) ⊕ (Nat × List Value)
/-- a heap: how many cells, how many slots, what each holds. Arrays: kind 0 int, 1 long, 2 boolean, 3 Text, 4 Train (5 byte: static ones alone) -/
abbrev pm_H : Type := Nat × Nat × (Nat → pm_C)
abbrev pm_Ls : Type := List (Option Value)
abbrev pm_S : Type := Nat × pm_Ls × List Value × pm_H
abbrev pm_R : Type := pm_H × Option Value
abbrev pm_X : Type := Nat → Option (Nat × Nat × (Nat → Int32))
def pm_hset (h : pm_H) (a : Nat) (c : pm_C) : pm_H := (h.1, h.2.1, va_up h.2.2 a c)
def pm_hpush (h : pm_H) (n : Nat) (c : pm_C) : pm_H := (h.1 + 1, h.2.1 + n, va_up h.2.2 h.1 c)
def pm_in (i : Int32) (n : Nat) : Bool := !decide (i < 0) && decide (i.toNatClampNeg < n)
def pm_go (pc : Nat) (ls : pm_Ls) (st : List Value) (h : pm_H) : Option (pm_S ⊕ pm_R) := some (.inl (pc, ls, st, h))
def pm_isR (v : Value) : Bool := match v with
  | .ref _ => true
  | .null => true
  | .retAddr _ => true
  | _ => false
def pm_isS (v : Value) : Bool := match v with
  | .retAddr _ => true
  | _ => false
def pm_cat1 (v : Value) : Bool := match v with
  | .int _ => true
  | .ref _ => true
  | .null => true
  | .retAddr _ => true
  | _ => false
/-- a local variable -/
def pm_ld (ls : pm_Ls) (k : Nat) : Option Value := ls.getD k none
def pm_two (v : Option Value) : Bool := match v with
  | some (.long _) => true
  | _ => false
def pm_clr (ls : pm_Ls) : Nat → pm_Ls
  | 0 => ls
  | j + 1 => bif pm_two (ls.getD j none) then ls.set j none else ls
def pm_st1 (ls : pm_Ls) (k : Nat) (v : Value) : pm_Ls := (pm_clr ls k).set k (some v)
def pm_st2 (ls : pm_Ls) (k : Nat) (v : Value) : pm_Ls := ((pm_clr ls k).set k (some v)).set (k + 1) none
def pm_lay : List Value → pm_Ls
  | [] => []
  | .long x :: t => some (.long x) :: none :: pm_lay t
  | v :: t => some v :: pm_lay t
def pm_ini (args : List Value) (n : Nat) : pm_Ls := pm_lay args ++ List.replicate (n - (pm_lay args).length) none
def pm_arr (X : pm_X) (h : pm_H) (v : Value) : Option (Nat × vp_A) := match v with
  | .ref a => bif decide (a < h.1) then (match h.2.2 a with
    | .inl x => some x
    | .inr _ => none) else none
  | .retAddr k => (match X k with
    | some x => some (x.1, x.2.1, .inl x.2.2)
    | none => none)
  | _ => none
def pm_obj (h : pm_H) (v : Value) : Option (Nat × Nat × List Value) := match v with
  | .ref a => bif decide (a < h.1) then (match h.2.2 a with
    | .inr x => some (a, x)
    | .inl _ => none) else none
  | _ => none
/-- may a field of this type take this value as it is? -/
def pm_fit (ty : FieldType) (v : Value) : Bool := match ty, v with
  | .int, .int _ => true
  | .long, .long _ => true
  | .boolean, .int x => x == 0 || x == 1
  | .object _, .ref _ => true
  | .object _, .null => true
  | .array _, .ref _ => true
  | .array _, .null => true
  | _, _ => false
/-- may it be answered as it is? -/
def pm_ret (ret : Option FieldType) (x : Int32) : Bool := match ret with
  | some .int => true
  | some .boolean => x == 0 || x == 1
  | some .char => decide (narrow .char (.int x) = .int x)
  | some .byte => decide (narrow .byte (.int x) = .int x)
  | _ => false
def pm_newN (ci : Nat) : List Value := match pm_cls[ci]? with
  | some q => (List.range q.2.2).map (fun k => defaultValue (pm_ty ci k))
  | none => []
def pm_fin (ci k : Nat) : Bool := match pm_cls[ci]? with
  | some q => (q.2.1 k).2.2.2
  | none => true
def pm_cnm (ci : Nat) : String := match pm_cls[ci]? with
  | some q => q.1
  | none => ""
def pm_cn (ci : Nat) : Nat := match pm_cls[ci]? with
  | some q => q.2.2
  | none => 0
/-- the class (its number) whose objects an array of this kind takes -/
def pm_ak (t : Nat) : Nat := if t = 3 then 7 else if t = 4 then 8 else 999
def pm_w8 (st : List Value) : Bool := decide ((st.map fun v => v.category).sum ≤ 8)
def pm_cmp (c : ClassFile.Cond) (x y : Int32) : Bool := match c with
  | .eq => decide (x = y)
  | .ne => !decide (x = y)
  | .lt => decide (x < y)
  | .ge => decide (y ≤ x)
  | .gt => decide (y < x)
  | .le => decide (x ≤ y)
def pm_cmp0 (c : ClassFile.Cond) (x : Int32) : Bool := match c with
  | .eq => decide (x = 0)
  | .ne => !decide (x = 0)
  | .lt => decide (x < 0)
  | .ge => decide (0 ≤ x)
  | .gt => decide (0 < x)
  | .le => decide (x ≤ 0)
def pm_i2 (pc : Nat) (ls : pm_Ls) (st : List Value) (h : pm_H) (f : Int32 → Int32 → Int32) : Option (pm_S ⊕ pm_R) := match st with
  | .int y :: .int x :: r => pm_go pc ls (.int (f x y) :: r) h
  | _ => none
def pm_l2 (pc : Nat) (ls : pm_Ls) (st : List Value) (h : pm_H) (f : Int64 → Int64 → Int64) : Option (pm_S ⊕ pm_R) := match st with
  | .long y :: .long x :: r => pm_go pc ls (.long (f x y) :: r) h
  | _ => none
def pm_ldi (pc : Nat) (ls : pm_Ls) (st : List Value) (h : pm_H) (k : Nat) : Option (pm_S ⊕ pm_R) := match pm_ld ls k with
  | some (.int x) => pm_go pc ls (.int x :: st) h
  | _ => none
def pm_ldl (pc : Nat) (ls : pm_Ls) (st : List Value) (h : pm_H) (k : Nat) : Option (pm_S ⊕ pm_R) := match pm_ld ls k with
  | some (.long x) => pm_go pc ls (.long x :: st) h
  | _ => none
def pm_lda (pc : Nat) (ls : pm_Ls) (st : List Value) (h : pm_H) (k : Nat) : Option (pm_S ⊕ pm_R) := match pm_ld ls k with
  | some v => bif pm_isR v then pm_go pc ls (v :: st) h else none
  | none => none
def pm_sti (pc : Nat) (ls : pm_Ls) (st : List Value) (h : pm_H) (k : Nat) : Option (pm_S ⊕ pm_R) := match st with
  | .int x :: r => bif decide (k < ls.length) then pm_go pc (pm_st1 ls k (.int x)) r h else none
  | _ => none
def pm_stl (pc : Nat) (ls : pm_Ls) (st : List Value) (h : pm_H) (k : Nat) : Option (pm_S ⊕ pm_R) := match st with
  | .long x :: r => bif decide (k + 1 < ls.length) then pm_go pc (pm_st2 ls k (.long x)) r h else none
  | _ => none
def pm_sta (pc : Nat) (ls : pm_Ls) (st : List Value) (h : pm_H) (k : Nat) : Option (pm_S ⊕ pm_R) := match st with
  | v :: r => bif pm_isR v && decide (k < ls.length) then pm_go pc (pm_st1 ls k v) r h else none
  | _ => none
/-- a call of a method of the table, its arguments taken from the stack -/
def pm_call (call : Nat → List Value → pm_H → Option pm_R) (kind mid na : Nat) (cls : String) (pc : Nat) (ls : pm_Ls) (st : List Value) (h : pm_H) : Option (pm_S ⊕ pm_R) :=
  bif decide (na ≤ st.length) && pm_w8 (st.drop na) && (bif kind == 0 || kind == 2 then (match pm_obj h ((st.take na).getLastD .null) with
      | some x => decide (pm_cnm x.2.1 = cls)
      | none => false) else bif kind == 7 then (match (st.take na).getLastD .null with
      | .retAddr k => decide (k < 23)
      | _ => false) else kind == 1 || kind == 3) then
    (match call mid (st.take na).reverse h with
    | some (h', some v) => pm_go (pc + 3) ls (v :: st.drop na) h'
    | some (h', none) => pm_go (pc + 3) ls (st.drop na) h'
    | none => none) else none
def pm_inv (X : pm_X) (call : Nat → List Value → pm_H → Option pm_R) (ik : Nat) (pc : Nat) (ls : pm_Ls) (st : List Value) (h : pm_H) (kind mid : Nat) : Option (pm_S ⊕ pm_R) :=
  match kind with
  | 4 => (match ik, st with
    | 2, .ref _ :: r => bif pm_w8 r then pm_go (pc + 3) ls r h else none
    | _, _ => none)
  | 5 => (match ik, st with
    | 1, .int n :: .int dp :: .ref d :: .int sp :: .ref s :: r =>
      (match pm_arr X h (.ref s), pm_arr X h (.ref d) with
      | some (t0, n0, .inl f), some (t1, n1, .inl g) => bif t0 == 0 && t1 == 0 && !decide (sp < 0) && !decide (dp < 0) && !decide (n < 0) && decide (sp.toNatClampNeg + n.toNatClampNeg ≤ n0) && decide (dp.toNatClampNeg + n.toNatClampNeg ≤ n1) && pm_w8 r then
          pm_go (pc + 3) ls r (pm_hset h d (.inl (0, n1, .inl (va_cpy f g sp.toNatClampNeg dp.toNatClampNeg n.toNatClampNeg)))) else none
      | _, _ => none)
    | _, _ => none)
  | 6 => (match ik, st with
    | 0, .ref s :: r => (match pm_arr X h (.ref s) with
      | some (t0, n0, .inl f) => bif t0 == 0 && pm_w8 r then pm_go (pc + 3) ls (.ref h.1 :: r) (pm_hpush h n0 (.inl (0, n0, .inl f))) else none
      | _ => none)
    | _, _ => none)
  | k => (match pm_mtL[mid]? with
    | some (y, _, _, _, _, na, _) => bif (bif k == 0 || k == 7 then ik == 0 else bif k == 2 then ik == 2 else ik == 1) then pm_call call k mid na y.cls pc ls st h else none
    | none => none)
def pm_tsw (pc : Nat) (ls : pm_Ls) (st : List Value) (h : pm_H) (dflt lo hi : Int) (offs : Array Int) : Option (pm_S ⊕ pm_R) := match st with
  | .int x :: r => bif decide (x.toInt < lo) || decide (hi < x.toInt) then (bif decide (0 ≤ (pc : Int) + dflt) then pm_go ((pc : Int) + dflt).toNat ls r h else none) else
    (match offs.toList[(x.toInt - lo).toNat]? with
    | some off => bif decide (0 ≤ (pc : Int) + off) then pm_go ((pc : Int) + off).toNat ls r h else none
    | none => none)
  | _ => none
def pm_step (X : pm_X) (call : Nat → List Value → pm_H → Option pm_R) (o : Nat) (ini : Bool) (ret : Option FieldType) (pc : Nat) (ls : pm_Ls) (st : List Value) (h : pm_H) (i : Instr) (len a b : Nat) (v : Value) : Option (pm_S ⊕ pm_R) :=
  match i with
  | .aconst_null => pm_go (pc + 1) ls (.null :: st) h
  | .iconst n => pm_go (pc + 1) ls (.int (Int32.ofInt n) :: st) h
  | .lconst n => pm_go (pc + 1) ls (.long (Int64.ofNat n.val) :: st) h
  | .bipush n => pm_go (pc + 2) ls (.int (Int8.ofInt n).toInt32 :: st) h
  | .sipush n => pm_go (pc + 3) ls (.int (Int16.ofInt n).toInt32 :: st) h
  | .ldc _ => bif a == 0 || a == 2 then pm_go (pc + 2) ls (v :: st) h else none
  | .ldc_w _ => bif a == 0 then pm_go (pc + 3) ls (v :: st) h else none
  | .ldc2_w _ => bif a == 1 then pm_go (pc + 3) ls (v :: st) h else none
  | .iload k => pm_ldi (pc + 2) ls st h k
  | .iload_n k => pm_ldi (pc + 1) ls st h k.val
  | .lload k => pm_ldl (pc + 2) ls st h k
  | .lload_n k => pm_ldl (pc + 1) ls st h k.val
  | .aload k => pm_lda (pc + 2) ls st h k
  | .aload_n k => pm_lda (pc + 1) ls st h k.val
  | .istore k => pm_sti (pc + 2) ls st h k
  | .istore_n k => pm_sti (pc + 1) ls st h k.val
  | .lstore k => pm_stl (pc + 2) ls st h k
  | .lstore_n k => pm_stl (pc + 1) ls st h k.val
  | .astore k => pm_sta (pc + 2) ls st h k
  | .astore_n k => pm_sta (pc + 1) ls st h k.val
  | .iinc k n => (match pm_ld ls k with
    | some (.int x) => pm_go (pc + 3) (pm_st1 ls k (.int (x + Int32.ofInt n))) st h
    | _ => none)
  | .pop => (match st with
    | w :: r => bif pm_cat1 w then pm_go (pc + 1) ls r h else none
    | _ => none)
  | .pop2 => (match st with
    | .long _ :: r => pm_go (pc + 1) ls r h
    | _ => none)
  | .dup => (match st with
    | w :: r => bif pm_cat1 w then pm_go (pc + 1) ls (w :: w :: r) h else none
    | _ => none)
  | .dup2 => (match st with
    | w :: u :: r => bif pm_cat1 w && pm_cat1 u then pm_go (pc + 1) ls (w :: u :: w :: u :: r) h else none
    | _ => none)
  | .iadd => pm_i2 (pc + 1) ls st h (fun x y => x + y)
  | .isub => pm_i2 (pc + 1) ls st h (fun x y => x - y)
  | .imul => pm_i2 (pc + 1) ls st h (fun x y => x * y)
  | .iand => pm_i2 (pc + 1) ls st h (fun x y => x &&& y)
  | .ior => pm_i2 (pc + 1) ls st h (fun x y => x ||| y)
  | .ixor => pm_i2 (pc + 1) ls st h (fun x y => x ^^^ y)
  | .ishl => pm_i2 (pc + 1) ls st h (fun x y => x <<< (y &&& 31))
  | .ishr => pm_i2 (pc + 1) ls st h (fun x y => x >>> (y &&& 31))
  | .iushr => pm_i2 (pc + 1) ls st h (fun x y => (x.toUInt32 >>> (y.toUInt32 &&& Int32.toUInt32 31)).toInt32)
  | .idiv => (match st with
    | .int y :: .int x :: r => bif decide (y = 0) then none else pm_go (pc + 1) ls (.int (x / y) :: r) h
    | _ => none)
  | .irem => (match st with
    | .int y :: .int x :: r => bif decide (y = 0) then none else pm_go (pc + 1) ls (.int (x - x / y * y) :: r) h
    | _ => none)
  | .ineg => (match st with
    | .int x :: r => pm_go (pc + 1) ls (.int (-x) :: r) h
    | _ => none)
  | .ladd => pm_l2 (pc + 1) ls st h (fun x y => x + y)
  | .lsub => pm_l2 (pc + 1) ls st h (fun x y => x - y)
  | .lmul => pm_l2 (pc + 1) ls st h (fun x y => x * y)
  | .ldiv => (match st with
    | .long y :: .long x :: r => bif decide (y = 0) then none else pm_go (pc + 1) ls (.long (x / y) :: r) h
    | _ => none)
  | .lrem => (match st with
    | .long y :: .long x :: r => bif decide (y = 0) then none else pm_go (pc + 1) ls (.long (x - x / y * y) :: r) h
    | _ => none)
  | .lcmp => (match st with
    | .long y :: .long x :: r => pm_go (pc + 1) ls (.int (lg_cmp x y) :: r) h
    | _ => none)
  | .i2l => (match st with
    | .int x :: r => pm_go (pc + 1) ls (.long x.toInt64 :: r) h
    | _ => none)
  | .l2i => (match st with
    | .long x :: r => pm_go (pc + 1) ls (.int x.toInt32 :: r) h
    | _ => none)
  | .i2c => (match st with
    | .int x :: r => pm_go (pc + 1) ls (.int (x.toUInt32 % 65536).toInt32 :: r) h
    | _ => none)
  | .goto _ => pm_go a ls st h
  | .ifCond c _ => (match st with
    | .int x :: r => bif pm_cmp0 c x then pm_go a ls r h else pm_go (pc + 3) ls r h
    | _ => none)
  | .if_icmp c _ => (match st with
    | .int y :: .int x :: r => bif pm_cmp c x y then pm_go a ls r h else pm_go (pc + 3) ls r h
    | _ => none)
  | .ifnull _ => (match st with
    | .ref _ :: r => pm_go (pc + 3) ls r h
    | .null :: r => pm_go a ls r h
    | _ => none)
  | .ifnonnull _ => (match st with
    | .ref _ :: r => pm_go a ls r h
    | .null :: r => pm_go (pc + 3) ls r h
    | _ => none)
  | .tableswitch dflt lo hi offs => pm_tsw pc ls st h dflt lo hi offs
  | .getstatic _ => pm_go (pc + 3) ls (v :: st) h
  | .getfield _ => (match st with
    | .retAddr j :: r => bif a == 100 && decide (j < 23) then (bif b == 0 then pm_go (pc + 3) ls (.retAddr (100 + j) :: r) h else pm_go (pc + 3) ls (.int 0 :: r) h) else none
    | w :: r => (match pm_obj h w with
      | some (_, ci, fs) => bif ci == a && decide (b < pm_cn a) then (match fs[b]? with
        | some u => pm_go (pc + 3) ls (u :: r) h
        | none => none) else none
      | none => none)
    | _ => none)
  | .putfield _ => (match st with
    | u :: w :: r => (match pm_obj h w with
      | some (x, ci, fs) => bif ci == a && decide (b < pm_cn a) && decide (b < fs.length) && pm_fit (pm_ty a b) u && (!pm_fin a b || (ini && decide (pm_cnm a = pm_own o))) then pm_go (pc + 3) ls r (pm_hset h x (.inr (a, fs.set b u))) else none
      | none => none)
    | _ => none)
  | .new _ => bif decide (a < 12) then pm_go (pc + 3) ls (.ref h.1 :: st) (pm_hpush h (pm_cn a) (.inr (a, pm_newN a))) else none
  | .newarray at1 => (match st with
    | .int n :: r => bif decide (n < 0) || decide (16777216 < n.toNatClampNeg) then none else (match at1 with
      | .int => pm_go (pc + 2) ls (.ref h.1 :: r) (pm_hpush h n.toNatClampNeg (.inl (0, n.toNatClampNeg, .inl (fun _ => 0))))
      | .long => pm_go (pc + 2) ls (.ref h.1 :: r) (pm_hpush h n.toNatClampNeg (.inl (1, n.toNatClampNeg, .inr (.inl (fun _ => 0)))))
      | .boolean => pm_go (pc + 2) ls (.ref h.1 :: r) (pm_hpush h n.toNatClampNeg (.inl (2, n.toNatClampNeg, .inl (fun _ => 0))))
      | _ => none)
    | _ => none)
  | .anewarray _ => (match st with
    | .int n :: r => bif decide (n < 0) || decide (16777216 < n.toNatClampNeg) || !(a == 3 || a == 4) then none else pm_go (pc + 3) ls (.ref h.1 :: r) (pm_hpush h n.toNatClampNeg (.inl (a, n.toNatClampNeg, .inr (.inr (.inr (.inr (fun _ => none)))))))
    | _ => none)
  | .arraylength => (match st with
    | w :: r => (match pm_arr X h w with
      | some (t, n, _) => bif decide (t < 5) || pm_isS w then pm_go (pc + 1) ls (.int (Int32.ofNat n) :: r) h else none
      | none => none)
    | _ => none)
  | .iaload => (match st with
    | .int j :: w :: r => (match pm_arr X h w with
      | some (t, n, .inl f) => bif t == 0 && pm_in j n then pm_go (pc + 1) ls (.int (f j.toNatClampNeg) :: r) h else none
      | _ => none)
    | _ => none)
  | .baload => (match st with
    | .int j :: w :: r => (match pm_arr X h w with
      | some (t, n, .inl f) => bif (t == 2 || (t == 5 && pm_isS w)) && pm_in j n then pm_go (pc + 1) ls (.int (f j.toNatClampNeg) :: r) h else none
      | _ => none)
    | _ => none)
  | .laload => (match st with
    | .int j :: w :: r => (match pm_arr X h w with
      | some (t, n, .inr (.inl f)) => bif t == 1 && pm_in j n then pm_go (pc + 1) ls (.long (f j.toNatClampNeg) :: r) h else none
      | _ => none)
    | _ => none)
  | .aaload => (match st with
    | .int j :: w :: r => (match pm_arr X h w with
      | some (t, n, .inr (.inr (.inr (.inr f)))) => bif (t == 3 || t == 4) && pm_in j n then pm_go (pc + 1) ls (va_rf (f j.toNatClampNeg) :: r) h else none
      | _ => none)
    | _ => none)
  | .iastore => (match st with
    | .int x :: .int j :: .ref q :: r => (match pm_arr X h (.ref q) with
      | some (t, n, .inl f) => bif t == 0 && pm_in j n then pm_go (pc + 1) ls r (pm_hset h q (.inl (0, n, .inl (upd f j.toNatClampNeg x)))) else none
      | _ => none)
    | _ => none)
  | .bastore => (match st with
    | .int x :: .int j :: .ref q :: r => (match pm_arr X h (.ref q) with
      | some (t, n, .inl f) => bif t == 2 && pm_in j n then pm_go (pc + 1) ls r (pm_hset h q (.inl (2, n, .inl (upd f j.toNatClampNeg (x &&& 1))))) else none
      | _ => none)
    | _ => none)
  | .lastore => (match st with
    | .long x :: .int j :: .ref q :: r => (match pm_arr X h (.ref q) with
      | some (t, n, .inr (.inl f)) => bif t == 1 && pm_in j n then pm_go (pc + 1) ls r (pm_hset h q (.inl (1, n, .inr (.inl (vp_updL f j.toNatClampNeg x))))) else none
      | _ => none)
    | _ => none)
  | .aastore => (match st with
    | .null :: .int j :: .ref q :: r => (match pm_arr X h (.ref q) with
      | some (t, n, .inr (.inr (.inr (.inr f)))) => bif (t == 3 || t == 4) && pm_in j n then pm_go (pc + 1) ls r (pm_hset h q (.inl (t, n, .inr (.inr (.inr (.inr (va_up f j.toNatClampNeg none))))))) else none
      | _ => none)
    | .ref x :: .int j :: .ref q :: r => (match pm_arr X h (.ref q), pm_obj h (.ref x) with
      | some (t, n, .inr (.inr (.inr (.inr f)))), some (_, ci, _) => bif (t == 3 || t == 4) && pm_in j n && ci == pm_ak t then pm_go (pc + 1) ls r (pm_hset h q (.inl (t, n, .inr (.inr (.inr (.inr (va_up f j.toNatClampNeg (some x)))))))) else none
      | _, _ => none)
    | _ => none)
  | .checkcast _ => (match st with
    | .ref q :: r => (match pm_arr X h (.ref q) with
      | some (t, _, _) => bif t == 0 && a == 0 then pm_go (pc + 3) ls (.ref q :: r) h else none
      | none => none)
    | _ => none)
  | .invokevirtual _ => pm_inv X call 0 pc ls st h a b
  | .invokestatic _ => pm_inv X call 1 pc ls st h a b
  | .invokespecial _ => pm_inv X call 2 pc ls st h a b
  | .ireturn => (match st with
    | [.int x] => bif pm_ret ret x then some (.inr (h, some (.int x))) else none
    | _ => none)
  | .lreturn => (match st with
    | [.long x] => bif decide (ret = some .long) then some (.inr (h, some (.long x))) else none
    | _ => none)
  | .areturn => (match st, ret with
    | [.ref x], some (.object _) => some (.inr (h, some (.ref x)))
    | [.ref x], some (.array _) => some (.inr (h, some (.ref x)))
    | [.null], some (.object _) => some (.inr (h, some .null))
    | [.null], some (.array _) => some (.inr (h, some .null))
    | _, _ => none)
  | .return_ => (match st, ret with
    | [], none => some (.inr (h, none))
    | _, _ => none)
  | _ => none
def pm_find : List pm_I → Nat → Option (Instr × Nat × Nat × Nat × Value)
  | [], _ => none
  | e :: t, pc => bif e.1 == pc then some e.2 else pm_find t pc
def pm_ex (X : pm_X) (call : Nat → List Value → pm_H → Option pm_R) (o : Nat) (ini : Bool) (ret : Option FieldType) (code : List pm_I) : Nat → pm_S → Option pm_R
  | 0, _ => none
  | n + 1, s => match pm_find code s.1 with
    | none => none
    | some e => match pm_step X call o ini ret s.1 s.2.1 s.2.2.1 s.2.2.2 e.1 e.2.1 e.2.2.1 e.2.2.2.1 e.2.2.2.2 with
      | none => none
      | some (.inr r) => some r
      | some (.inl s') => pm_ex X call o ini ret code n s'
/-- method number mid, with calls to the depth d, each of at most n steps -/
def pm_run (X : pm_X) (n : Nat) : Nat → Nat → List Value → pm_H → Option pm_R
  | 0, _, _, _ => none
  | d + 1, mid, args, h => match pm_mtL[mid]? with
    | none => none
    | some q => bif decide (args.length = q.2.2.2.2.2.1) && decide ((pm_lay args).length ≤ q.2.2.1) then
        pm_ex X (pm_run X n d) q.2.2.2.2.1 (decide (q.1.name = "<init>")) q.2.2.2.1 q.2.2.2.2.2.2 n (0, pm_ini args q.2.2.1, [], h) else none
/-- what was there before -/
def pm_sX (L : Nat) (xs : Nat → Int32) : pm_X := fun k =>
  bif k == 200 then some (0, L, xs) else bif k == 201 then some (0, 3, fun j => [999, 10, 9].getD j 0) else
  bif decide (100 ≤ k) && decide (k < 123) then some (5, (pm_strB.getD (k - 100) []).length, fun j => (pm_strB.getD (k - 100) []).getD j 0) else none
end
section
/-! what the tables say of the linked instructions: checked once, by the kernel, by the words' places -/
def pm_gw : List Cond := lw_tbl.filter goodWord
theorem pm_gw_of {w : Cond} {i : Nat} (h : lw_tbl[i]? = some w) (hg : goodWord w = true) : w ∈ pm_gw := List.mem_filter.mpr ⟨List.mem_of_getElem? h, hg⟩
def pm_y (mid : Nat) : MethodName := match pm_mtL[mid]? with
  | some q => q.1
  | none => ⟨"", "", ""⟩
def pm_fw (o ix ci k : Nat) : Cond := if ci = 100 then (if k = 0 then .fieldLink (pm_own o) ix "java/lang/String" "value" "[B" else .fieldLink (pm_own o) ix "java/lang/String" "coder" "B") else
  match pm_cls[ci]? with
  | some q => .fieldLink (pm_own o) ix (q.2.1 k).1 (q.2.1 k).2.1 (q.2.1 k).2.2.1
  | none => .tt
def pm_mw (o ix kind mid : Nat) : Cond := if kind = 3 then .methodLinkNest (pm_own o) ix (pm_y mid) "TrainBearers" else if kind = 4 then .methodLink (pm_own o) ix Lib.objectInit else if kind = 5 then .methodLink (pm_own o) ix arraycopyName else
  if kind = 6 then .methodLink (pm_own o) ix ⟨"[I", "clone", "()Ljava/lang/Object;"⟩ else .methodLink (pm_own o) ix (pm_y mid)
def pm_kw (o ix kind : Nat) (v : Value) : Cond := match kind, v with
  | 0, .int x => .constant (pm_own o) ix x
  | 1, .long x => .constantLong (pm_own o) ix x
  | 2, .retAddr i => .stringRef (pm_own o) ix (pm_strT.getD i (0, "")).2
  | _, _ => .tt
def pm_anm (t : Nat) : String := if t = 0 then "[I" else if t = 3 then "TrainBearers$Text" else if t = 4 then "TrainBearers$Train" else ""
theorem pm_flA_ok : pm_flA.all (fun e => decide (lw_tbl[e.2.2.2.2]? = some (pm_fw e.1 e.2.1 e.2.2.1 e.2.2.2.1)) && goodWord (pm_fw e.1 e.2.1 e.2.2.1 e.2.2.2.1)) = true := by decide +kernel
theorem pm_mlA_ok : pm_mlA.all (fun e => decide (lw_tbl[e.2.2.2.2]? = some (pm_mw e.1 e.2.1 e.2.2.1 e.2.2.2.1)) && (decide (e.2.2.1 = 3) || goodWord (pm_mw e.1 e.2.1 e.2.2.1 e.2.2.2.1))) = true := by decide +kernel
theorem pm_klA_ok : pm_klA.all (fun e => decide (lw_tbl[e.2.2.2.2]? = some (pm_kw e.1 e.2.1 e.2.2.1 e.2.2.2.1)) && (decide (e.2.2.1 = 2) || goodWord (pm_kw e.1 e.2.1 e.2.2.1 e.2.2.2.1))) = true := by decide +kernel
theorem pm_slA_ok : pm_slA.all (fun e => decide (lw_tbl[e.2.2.2.2.2.2]? = some (.fieldLink (pm_own e.1) e.2.1 e.2.2.2.1 e.2.2.2.2.1 e.2.2.2.2.2.1)) && goodWord (.fieldLink (pm_own e.1) e.2.1 e.2.2.2.1 e.2.2.2.2.1 e.2.2.2.2.2.1)) = true := by decide +kernel
theorem pm_nlA_ok : pm_nlA.all (fun e => decide (lw_tbl[e.2.2.2]? = some (.classLink (pm_own e.1) e.2.1 (pm_cnm e.2.2.1))) && goodWord (.classLink (pm_own e.1) e.2.1 (pm_cnm e.2.2.1))) = true := by decide +kernel
theorem pm_alA_ok : pm_alA.all (fun e => decide (lw_tbl[e.2.2.2]? = some (.classLink (pm_own e.1) e.2.1 (pm_anm e.2.2.1))) && goodWord (.classLink (pm_own e.1) e.2.1 (pm_anm e.2.2.1))) = true := by decide +kernel
/-- what is asked of an instruction in its row -/
def pm_lk (i : Instr) (o pc len a b : Nat) (v : Value) : Bool := match i with
  | .getfield ix => len == 3 && pm_flA.any (fun q => q.1 == o && q.2.1 == ix && q.2.2.1 == a && q.2.2.2.1 == b)
  | .putfield ix => len == 3 && !decide (a = 100) && pm_flA.any (fun q => q.1 == o && q.2.1 == ix && q.2.2.1 == a && q.2.2.2.1 == b)
  | .getstatic ix => len == 3 && pm_slA.any (fun q => q.1 == o && q.2.1 == ix && decide (q.2.2.1 = v))
  | .ldc ix => len == 2 && pm_klA.any (fun q => q.1 == o && q.2.1 == ix && q.2.2.1 == a && decide (q.2.2.2.1 = v))
  | .ldc_w ix => len == 3 && pm_klA.any (fun q => q.1 == o && q.2.1 == ix && q.2.2.1 == a && decide (q.2.2.2.1 = v))
  | .ldc2_w ix => len == 3 && pm_klA.any (fun q => q.1 == o && q.2.1 == ix && q.2.2.1 == a && decide (q.2.2.2.1 = v))
  | .invokevirtual ix => len == 3 && pm_mlA.any (fun q => q.1 == o && q.2.1 == ix && q.2.2.1 == a && q.2.2.2.1 == b)
  | .invokespecial ix => len == 3 && pm_mlA.any (fun q => q.1 == o && q.2.1 == ix && q.2.2.1 == a && q.2.2.2.1 == b)
  | .invokestatic ix => len == 3 && pm_mlA.any (fun q => q.1 == o && q.2.1 == ix && q.2.2.1 == a && q.2.2.2.1 == b)
  | .new ix => len == 3 && pm_nlA.any (fun q => q.1 == o && q.2.1 == ix && q.2.2.1 == a)
  | .anewarray ix => len == 3 && pm_alA.any (fun q => q.1 == o && q.2.1 == ix && q.2.2.1 == a)
  | .checkcast ix => len == 3 && pm_alA.any (fun q => q.1 == o && q.2.1 == ix && q.2.2.1 == a)
  | .goto off => len == 3 && decide ((pc : Int) + off = (a : Int))
  | .ifCond _ off => len == 3 && decide ((pc : Int) + off = (a : Int))
  | .if_icmp _ off => len == 3 && decide ((pc : Int) + off = (a : Int))
  | .ifnull off => len == 3 && decide ((pc : Int) + off = (a : Int))
  | .ifnonnull off => len == 3 && decide ((pc : Int) + off = (a : Int))
  | .bipush _ => len == 2
  | .sipush _ => len == 3
  | .iload _ => len == 2
  | .lload _ => len == 2
  | .aload _ => len == 2
  | .istore _ => len == 2
  | .lstore _ => len == 2
  | .astore _ => len == 2
  | .iinc _ _ => len == 3
  | .newarray _ => len == 2
  | .tableswitch _ _ _ _ => true
  | _ => len == 1
/-- an instruction that isn't linked is never gone through -/
def pm_unl (i : Instr) (a : Nat) : Bool := match i with
  | .invokestatic _ => a == 99
  | _ => false
def pm_rokB (o : Nat) (e : pm_I) : Bool := pm_unl e.2.1 e.2.2.2.1 || pm_lk e.2.1 o e.1 e.2.2.1 e.2.2.2.1 e.2.2.2.2.1 e.2.2.2.2.2
def pm_mB (q : pm_M) (w : Nat × Nat × Nat × Nat) : Bool :=
  decide (lw_tbl[w.2.1]? = some (.initialized q.1.cls)) && goodWord (.initialized q.1.cls) && plainFor q.1 && decide (q.1.cls ≠ "java/lang/invoke/MethodHandle" ∧ q.1.cls ≠ "java/lang/invoke/VarHandle") && decide (pm_own q.2.2.2.2.1 = q.1.cls) &&
  (match parseMethodDescriptor q.1.desc with
  | some d => (decide (d.parameters.length = q.2.2.2.2.2.1) && decide (lw_tbl[w.2.2.1]? = some (.static q.1)) && goodWord (.static q.1)) || (decide (d.parameters.length + 1 = q.2.2.2.2.2.1) && decide (lw_tbl[w.2.2.1]? = some (.instanceMethod q.1)) && goodWord (.instanceMethod q.1) && (decide (q.1.name = "<init>") || (decide (lw_tbl[w.2.2.2]? = some (.selects q.1.cls q.1 q.1)) && goodWord (.selects q.1.cls q.1 q.1))))
  | none => false) && goodWord (.code q.1 q.2.1 q.2.2.1 q.2.2.2.1) && decide (q.2.2.1 ≤ 22)
end
section
theorem pm_ka0 : ∀ q ∈ pm_mtL0, q.2.2.2.2.2.2.all (pm_decB q.2.1) = true := List.forall_mem_cons.mpr ⟨pm_d0, List.forall_mem_cons.mpr ⟨pm_d1, List.forall_mem_cons.mpr ⟨pm_d2, List.forall_mem_cons.mpr ⟨pm_d3, List.forall_mem_cons.mpr ⟨pm_d4, List.forall_mem_cons.mpr ⟨pm_d5, List.forall_mem_cons.mpr ⟨pm_d6, List.forall_mem_cons.mpr ⟨pm_d7, List.forall_mem_cons.mpr ⟨pm_d8, List.forall_mem_cons.mpr ⟨pm_d9, List.forall_mem_cons.mpr ⟨pm_d10, List.forall_mem_cons.mpr ⟨pm_d11, List.forall_mem_cons.mpr ⟨pm_d12, List.forall_mem_cons.mpr ⟨pm_d13, List.forall_mem_cons.mpr ⟨pm_d14, List.forall_mem_cons.mpr ⟨pm_d15, List.forall_mem_cons.mpr ⟨pm_d16, List.forall_mem_cons.mpr ⟨pm_d17, List.forall_mem_cons.mpr ⟨pm_d18, List.forall_mem_cons.mpr ⟨pm_d19, List.forall_mem_cons.mpr ⟨pm_d20, List.forall_mem_cons.mpr ⟨pm_d21, List.forall_mem_cons.mpr ⟨pm_d22, List.forall_mem_cons.mpr ⟨pm_d23, List.forall_mem_cons.mpr ⟨pm_d24, List.forall_mem_cons.mpr ⟨pm_d25, List.forall_mem_cons.mpr ⟨pm_d26, List.forall_mem_cons.mpr ⟨pm_d27, List.forall_mem_cons.mpr ⟨pm_d28, List.forall_mem_cons.mpr ⟨pm_d29, fun _ h => absurd h List.not_mem_nil⟩⟩⟩⟩⟩⟩⟩⟩⟩⟩⟩⟩⟩⟩⟩⟩⟩⟩⟩⟩⟩⟩⟩⟩⟩⟩⟩⟩⟩⟩
set_option maxRecDepth 100000 in
theorem pm_kb0 : (pm_mtL0.zip ((pm_mP.drop 0).take 30)).all (fun x => pm_mB x.1 x.2) = true := by decide +kernel
set_option maxRecDepth 100000 in
theorem pm_kc0 : pm_mtL0.all (fun q => q.2.2.2.2.2.2.all (pm_rokB q.2.2.2.2.1)) = true := by decide +kernel
set_option maxRecDepth 100000 in
theorem pm_kd0 : ∀ q ∈ pm_mtL0, Cond.code q.1 q.2.1 q.2.2.1 q.2.2.2.1 ∈ lw_tbl := List.forall_mem_cons.mpr ⟨List.mem_of_getElem? (i := 416) rfl, List.forall_mem_cons.mpr ⟨List.mem_of_getElem? (i := 999) rfl, List.forall_mem_cons.mpr ⟨List.mem_of_getElem? (i := 1003) rfl, List.forall_mem_cons.mpr ⟨List.mem_of_getElem? (i := 974) rfl, List.forall_mem_cons.mpr ⟨List.mem_of_getElem? (i := 978) rfl, List.forall_mem_cons.mpr ⟨List.mem_of_getElem? (i := 986) rfl, List.forall_mem_cons.mpr ⟨List.mem_of_getElem? (i := 995) rfl, List.forall_mem_cons.mpr ⟨List.mem_of_getElem? (i := 990) rfl, List.forall_mem_cons.mpr ⟨List.mem_of_getElem? (i := 386) rfl, List.forall_mem_cons.mpr ⟨List.mem_of_getElem? (i := 884) rfl, List.forall_mem_cons.mpr ⟨List.mem_of_getElem? (i := 896) rfl, List.forall_mem_cons.mpr ⟨List.mem_of_getElem? (i := 900) rfl, List.forall_mem_cons.mpr ⟨List.mem_of_getElem? (i := 911) rfl, List.forall_mem_cons.mpr ⟨List.mem_of_getElem? (i := 916) rfl, List.forall_mem_cons.mpr ⟨List.mem_of_getElem? (i := 872) rfl, List.forall_mem_cons.mpr ⟨List.mem_of_getElem? (i := 876) rfl, List.forall_mem_cons.mpr ⟨List.mem_of_getElem? (i := 1116) rfl, List.forall_mem_cons.mpr ⟨List.mem_of_getElem? (i := 1119) rfl, List.forall_mem_cons.mpr ⟨List.mem_of_getElem? (i := 448) rfl, List.forall_mem_cons.mpr ⟨List.mem_of_getElem? (i := 1037) rfl, List.forall_mem_cons.mpr ⟨List.mem_of_getElem? (i := 1042) rfl, List.forall_mem_cons.mpr ⟨List.mem_of_getElem? (i := 1050) rfl, List.forall_mem_cons.mpr ⟨List.mem_of_getElem? (i := 1054) rfl, List.forall_mem_cons.mpr ⟨List.mem_of_getElem? (i := 271) rfl, List.forall_mem_cons.mpr ⟨List.mem_of_getElem? (i := 651) rfl, List.forall_mem_cons.mpr ⟨List.mem_of_getElem? (i := 675) rfl, List.forall_mem_cons.mpr ⟨List.mem_of_getElem? (i := 687) rfl, List.forall_mem_cons.mpr ⟨List.mem_of_getElem? (i := 818) rfl, List.forall_mem_cons.mpr ⟨List.mem_of_getElem? (i := 748) rfl, List.forall_mem_cons.mpr ⟨List.mem_of_getElem? (i := 823) rfl, fun _ h => absurd h List.not_mem_nil⟩⟩⟩⟩⟩⟩⟩⟩⟩⟩⟩⟩⟩⟩⟩⟩⟩⟩⟩⟩⟩⟩⟩⟩⟩⟩⟩⟩⟩⟩
theorem pm_ka1 : ∀ q ∈ pm_mtL1, q.2.2.2.2.2.2.all (pm_decB q.2.1) = true := List.forall_mem_cons.mpr ⟨pm_d30, List.forall_mem_cons.mpr ⟨pm_d31, List.forall_mem_cons.mpr ⟨pm_d32, List.forall_mem_cons.mpr ⟨pm_d33, List.forall_mem_cons.mpr ⟨pm_d34, List.forall_mem_cons.mpr ⟨pm_d35, List.forall_mem_cons.mpr ⟨pm_d36, List.forall_mem_cons.mpr ⟨pm_d37, List.forall_mem_cons.mpr ⟨pm_d38, List.forall_mem_cons.mpr ⟨pm_d39, List.forall_mem_cons.mpr ⟨pm_d40, List.forall_mem_cons.mpr ⟨pm_d41, List.forall_mem_cons.mpr ⟨pm_d42, List.forall_mem_cons.mpr ⟨pm_d43, List.forall_mem_cons.mpr ⟨pm_d44, List.forall_mem_cons.mpr ⟨pm_d45, List.forall_mem_cons.mpr ⟨pm_d46, List.forall_mem_cons.mpr ⟨pm_d47, List.forall_mem_cons.mpr ⟨pm_d48, List.forall_mem_cons.mpr ⟨pm_d49, List.forall_mem_cons.mpr ⟨pm_d50, List.forall_mem_cons.mpr ⟨pm_d51, List.forall_mem_cons.mpr ⟨pm_d52, List.forall_mem_cons.mpr ⟨pm_d53, List.forall_mem_cons.mpr ⟨pm_d54, List.forall_mem_cons.mpr ⟨pm_d55, List.forall_mem_cons.mpr ⟨pm_d56, List.forall_mem_cons.mpr ⟨pm_d57, List.forall_mem_cons.mpr ⟨pm_d58, List.forall_mem_cons.mpr ⟨pm_d59, fun _ h => absurd h List.not_mem_nil⟩⟩⟩⟩⟩⟩⟩⟩⟩⟩⟩⟩⟩⟩⟩⟩⟩⟩⟩⟩⟩⟩⟩⟩⟩⟩⟩⟩⟩⟩
set_option maxRecDepth 100000 in
theorem pm_kb1 : (pm_mtL1.zip ((pm_mP.drop 30).take 30)).all (fun x => pm_mB x.1 x.2) = true := by decide +kernel
set_option maxRecDepth 100000 in
theorem pm_kc1 : pm_mtL1.all (fun q => q.2.2.2.2.2.2.all (pm_rokB q.2.2.2.2.1)) = true := by decide +kernel
set_option maxRecDepth 100000 in
theorem pm_kd1 : ∀ q ∈ pm_mtL1, Cond.code q.1 q.2.1 q.2.2.1 q.2.2.2.1 ∈ lw_tbl := List.forall_mem_cons.mpr ⟨List.mem_of_getElem? (i := 828) rfl, List.forall_mem_cons.mpr ⟨List.mem_of_getElem? (i := 833) rfl, List.forall_mem_cons.mpr ⟨List.mem_of_getElem? (i := 752) rfl, List.forall_mem_cons.mpr ⟨List.mem_of_getElem? (i := 807) rfl, List.forall_mem_cons.mpr ⟨List.mem_of_getElem? (i := 756) rfl, List.forall_mem_cons.mpr ⟨List.mem_of_getElem? (i := 782) rfl, List.forall_mem_cons.mpr ⟨List.mem_of_getElem? (i := 770) rfl, List.forall_mem_cons.mpr ⟨List.mem_of_getElem? (i := 788) rfl, List.forall_mem_cons.mpr ⟨List.mem_of_getElem? (i := 683) rfl, List.forall_mem_cons.mpr ⟨List.mem_of_getElem? (i := 761) rfl, List.forall_mem_cons.mpr ⟨List.mem_of_getElem? (i := 765) rfl, List.forall_mem_cons.mpr ⟨List.mem_of_getElem? (i := 692) rfl, List.forall_mem_cons.mpr ⟨List.mem_of_getElem? (i := 792) rfl, List.forall_mem_cons.mpr ⟨List.mem_of_getElem? (i := 362) rfl, List.forall_mem_cons.mpr ⟨List.mem_of_getElem? (i := 549) rfl, List.forall_mem_cons.mpr ⟨List.mem_of_getElem? (i := 614) rfl, List.forall_mem_cons.mpr ⟨List.mem_of_getElem? (i := 907) rfl, List.forall_mem_cons.mpr ⟨List.mem_of_getElem? (i := 596) rfl, List.forall_mem_cons.mpr ⟨List.mem_of_getElem? (i := 544) rfl, List.forall_mem_cons.mpr ⟨List.mem_of_getElem? (i := 1015) rfl, List.forall_mem_cons.mpr ⟨List.mem_of_getElem? (i := 553) rfl, List.forall_mem_cons.mpr ⟨List.mem_of_getElem? (i := 561) rfl, List.forall_mem_cons.mpr ⟨List.mem_of_getElem? (i := 253) rfl, List.forall_mem_cons.mpr ⟨List.mem_of_getElem? (i := 524) rfl, List.forall_mem_cons.mpr ⟨List.mem_of_getElem? (i := 892) rfl, List.forall_mem_cons.mpr ⟨List.mem_of_getElem? (i := 966) rfl, List.forall_mem_cons.mpr ⟨List.mem_of_getElem? (i := 867) rfl, List.forall_mem_cons.mpr ⟨List.mem_of_getElem? (i := 368) rfl, List.forall_mem_cons.mpr ⟨List.mem_of_getElem? (i := 574) rfl, List.forall_mem_cons.mpr ⟨List.mem_of_getElem? (i := 581) rfl, fun _ h => absurd h List.not_mem_nil⟩⟩⟩⟩⟩⟩⟩⟩⟩⟩⟩⟩⟩⟩⟩⟩⟩⟩⟩⟩⟩⟩⟩⟩⟩⟩⟩⟩⟩⟩
theorem pm_ka2 : ∀ q ∈ pm_mtL2, q.2.2.2.2.2.2.all (pm_decB q.2.1) = true := List.forall_mem_cons.mpr ⟨pm_d60, List.forall_mem_cons.mpr ⟨pm_d61, List.forall_mem_cons.mpr ⟨pm_d62, List.forall_mem_cons.mpr ⟨pm_d63, List.forall_mem_cons.mpr ⟨pm_d64, List.forall_mem_cons.mpr ⟨pm_d65, List.forall_mem_cons.mpr ⟨pm_d66, List.forall_mem_cons.mpr ⟨pm_d67, List.forall_mem_cons.mpr ⟨pm_d68, List.forall_mem_cons.mpr ⟨pm_d69, List.forall_mem_cons.mpr ⟨pm_d70, List.forall_mem_cons.mpr ⟨pm_d71, List.forall_mem_cons.mpr ⟨pm_d72, List.forall_mem_cons.mpr ⟨pm_d73, List.forall_mem_cons.mpr ⟨pm_d74, List.forall_mem_cons.mpr ⟨pm_d75, List.forall_mem_cons.mpr ⟨pm_d76, List.forall_mem_cons.mpr ⟨pm_d77, List.forall_mem_cons.mpr ⟨pm_d78, List.forall_mem_cons.mpr ⟨pm_d79, List.forall_mem_cons.mpr ⟨pm_d80, List.forall_mem_cons.mpr ⟨pm_d81, List.forall_mem_cons.mpr ⟨pm_d82, List.forall_mem_cons.mpr ⟨pm_d83, List.forall_mem_cons.mpr ⟨pm_d84, List.forall_mem_cons.mpr ⟨pm_d85, List.forall_mem_cons.mpr ⟨pm_d86, List.forall_mem_cons.mpr ⟨pm_d87, List.forall_mem_cons.mpr ⟨pm_d88, List.forall_mem_cons.mpr ⟨pm_d89, fun _ h => absurd h List.not_mem_nil⟩⟩⟩⟩⟩⟩⟩⟩⟩⟩⟩⟩⟩⟩⟩⟩⟩⟩⟩⟩⟩⟩⟩⟩⟩⟩⟩⟩⟩⟩
set_option maxRecDepth 100000 in
theorem pm_kb2 : (pm_mtL2.zip ((pm_mP.drop 60).take 30)).all (fun x => pm_mB x.1 x.2) = true := by decide +kernel
set_option maxRecDepth 100000 in
theorem pm_kc2 : pm_mtL2.all (fun q => q.2.2.2.2.2.2.all (pm_rokB q.2.2.2.2.1)) = true := by decide +kernel
set_option maxRecDepth 100000 in
theorem pm_kd2 : ∀ q ∈ pm_mtL2, Cond.code q.1 q.2.1 q.2.2.1 q.2.2.2.1 ∈ lw_tbl := List.forall_mem_cons.mpr ⟨List.mem_of_getElem? (i := 277) rfl, List.forall_mem_cons.mpr ⟨List.mem_of_getElem? (i := 839) rfl, List.forall_mem_cons.mpr ⟨List.mem_of_getElem? (i := 679) rfl, List.forall_mem_cons.mpr ⟨List.mem_of_getElem? (i := 778) rfl, List.forall_mem_cons.mpr ⟨List.mem_of_getElem? (i := 798) rfl, List.forall_mem_cons.mpr ⟨List.mem_of_getElem? (i := 803) rfl, List.forall_mem_cons.mpr ⟨List.mem_of_getElem? (i := 744) rfl, List.forall_mem_cons.mpr ⟨List.mem_of_getElem? (i := 139) rfl, List.forall_mem_cons.mpr ⟨List.mem_of_getElem? (i := 862) rfl, List.forall_mem_cons.mpr ⟨List.mem_of_getElem? (i := 536) rfl, List.forall_mem_cons.mpr ⟨List.mem_of_getElem? (i := 557) rfl, List.forall_mem_cons.mpr ⟨List.mem_of_getElem? (i := 569) rfl, List.forall_mem_cons.mpr ⟨List.mem_of_getElem? (i := 565) rfl, List.forall_mem_cons.mpr ⟨List.mem_of_getElem? (i := 540) rfl, List.forall_mem_cons.mpr ⟨List.mem_of_getElem? (i := 1140) rfl, List.forall_mem_cons.mpr ⟨List.mem_of_getElem? (i := 628) rfl, List.forall_mem_cons.mpr ⟨List.mem_of_getElem? (i := 633) rfl, List.forall_mem_cons.mpr ⟨List.mem_of_getElem? (i := 458) rfl, List.forall_mem_cons.mpr ⟨List.mem_of_getElem? (i := 1064) rfl, List.forall_mem_cons.mpr ⟨List.mem_of_getElem? (i := 1077) rfl, List.forall_mem_cons.mpr ⟨List.mem_of_getElem? (i := 1081) rfl, List.forall_mem_cons.mpr ⟨List.mem_of_getElem? (i := 1071) rfl, List.forall_mem_cons.mpr ⟨List.mem_of_getElem? (i := 131) rfl, List.forall_mem_cons.mpr ⟨List.mem_of_getElem? (i := 516) rfl, List.forall_mem_cons.mpr ⟨List.mem_of_getElem? (i := 532) rfl, List.forall_mem_cons.mpr ⟨List.mem_of_getElem? (i := 600) rfl, List.forall_mem_cons.mpr ⟨List.mem_of_getElem? (i := 604) rfl, List.forall_mem_cons.mpr ⟨List.mem_of_getElem? (i := 609) rfl, List.forall_mem_cons.mpr ⟨List.mem_of_getElem? (i := 618) rfl, List.forall_mem_cons.mpr ⟨List.mem_of_getElem? (i := 637) rfl, fun _ h => absurd h List.not_mem_nil⟩⟩⟩⟩⟩⟩⟩⟩⟩⟩⟩⟩⟩⟩⟩⟩⟩⟩⟩⟩⟩⟩⟩⟩⟩⟩⟩⟩⟩⟩
theorem pm_ka3 : ∀ q ∈ pm_mtL3, q.2.2.2.2.2.2.all (pm_decB q.2.1) = true := List.forall_mem_cons.mpr ⟨pm_d90, List.forall_mem_cons.mpr ⟨pm_d91, List.forall_mem_cons.mpr ⟨pm_d92, List.forall_mem_cons.mpr ⟨pm_d93, List.forall_mem_cons.mpr ⟨pm_d94, List.forall_mem_cons.mpr ⟨pm_d95, List.forall_mem_cons.mpr ⟨pm_d96, List.forall_mem_cons.mpr ⟨pm_d97, List.forall_mem_cons.mpr ⟨pm_d98, List.forall_mem_cons.mpr ⟨pm_d99, List.forall_mem_cons.mpr ⟨pm_d100, List.forall_mem_cons.mpr ⟨pm_d101, List.forall_mem_cons.mpr ⟨pm_d102, List.forall_mem_cons.mpr ⟨pm_d103, List.forall_mem_cons.mpr ⟨pm_d104, List.forall_mem_cons.mpr ⟨pm_d105, List.forall_mem_cons.mpr ⟨pm_d106, List.forall_mem_cons.mpr ⟨pm_d107, List.forall_mem_cons.mpr ⟨pm_d108, List.forall_mem_cons.mpr ⟨pm_d109, List.forall_mem_cons.mpr ⟨pm_d110, List.forall_mem_cons.mpr ⟨pm_d111, List.forall_mem_cons.mpr ⟨pm_d112, List.forall_mem_cons.mpr ⟨pm_d113, List.forall_mem_cons.mpr ⟨pm_d114, List.forall_mem_cons.mpr ⟨pm_d115, List.forall_mem_cons.mpr ⟨pm_d116, List.forall_mem_cons.mpr ⟨pm_d117, List.forall_mem_cons.mpr ⟨pm_d118, List.forall_mem_cons.mpr ⟨pm_d119, fun _ h => absurd h List.not_mem_nil⟩⟩⟩⟩⟩⟩⟩⟩⟩⟩⟩⟩⟩⟩⟩⟩⟩⟩⟩⟩⟩⟩⟩⟩⟩⟩⟩⟩⟩⟩
set_option maxRecDepth 100000 in
theorem pm_kb3 : (pm_mtL3.zip ((pm_mP.drop 90).take 30)).all (fun x => pm_mB x.1 x.2) = true := by decide +kernel
set_option maxRecDepth 100000 in
theorem pm_kc3 : pm_mtL3.all (fun q => q.2.2.2.2.2.2.all (pm_rokB q.2.2.2.2.1)) = true := by decide +kernel
set_option maxRecDepth 100000 in
theorem pm_kd3 : ∀ q ∈ pm_mtL3, Cond.code q.1 q.2.1 q.2.2.1 q.2.2.2.1 ∈ lw_tbl := List.forall_mem_cons.mpr ⟨List.mem_of_getElem? (i := 641) rfl, List.forall_mem_cons.mpr ⟨List.mem_of_getElem? (i := 647) rfl, List.forall_mem_cons.mpr ⟨List.mem_of_getElem? (i := 655) rfl, List.forall_mem_cons.mpr ⟨List.mem_of_getElem? (i := 659) rfl, List.forall_mem_cons.mpr ⟨List.mem_of_getElem? (i := 667) rfl, List.forall_mem_cons.mpr ⟨List.mem_of_getElem? (i := 671) rfl, List.forall_mem_cons.mpr ⟨List.mem_of_getElem? (i := 858) rfl, List.forall_mem_cons.mpr ⟨List.mem_of_getElem? (i := 925) rfl, List.forall_mem_cons.mpr ⟨List.mem_of_getElem? (i := 929) rfl, List.forall_mem_cons.mpr ⟨List.mem_of_getElem? (i := 933) rfl, List.forall_mem_cons.mpr ⟨List.mem_of_getElem? (i := 938) rfl, List.forall_mem_cons.mpr ⟨List.mem_of_getElem? (i := 947) rfl, List.forall_mem_cons.mpr ⟨List.mem_of_getElem? (i := 952) rfl, List.forall_mem_cons.mpr ⟨List.mem_of_getElem? (i := 957) rfl, List.forall_mem_cons.mpr ⟨List.mem_of_getElem? (i := 962) rfl, List.forall_mem_cons.mpr ⟨List.mem_of_getElem? (i := 970) rfl, List.forall_mem_cons.mpr ⟨List.mem_of_getElem? (i := 1007) rfl, List.forall_mem_cons.mpr ⟨List.mem_of_getElem? (i := 1025) rfl, List.forall_mem_cons.mpr ⟨List.mem_of_getElem? (i := 1029) rfl, List.forall_mem_cons.mpr ⟨List.mem_of_getElem? (i := 1033) rfl, List.forall_mem_cons.mpr ⟨List.mem_of_getElem? (i := 1046) rfl, List.forall_mem_cons.mpr ⟨List.mem_of_getElem? (i := 1060) rfl, List.forall_mem_cons.mpr ⟨List.mem_of_getElem? (i := 1085) rfl, List.forall_mem_cons.mpr ⟨List.mem_of_getElem? (i := 1089) rfl, List.forall_mem_cons.mpr ⟨List.mem_of_getElem? (i := 1093) rfl, List.forall_mem_cons.mpr ⟨List.mem_of_getElem? (i := 1097) rfl, List.forall_mem_cons.mpr ⟨List.mem_of_getElem? (i := 1101) rfl, List.forall_mem_cons.mpr ⟨List.mem_of_getElem? (i := 1107) rfl, List.forall_mem_cons.mpr ⟨List.mem_of_getElem? (i := 1111) rfl, List.forall_mem_cons.mpr ⟨List.mem_of_getElem? (i := 1124) rfl, fun _ h => absurd h List.not_mem_nil⟩⟩⟩⟩⟩⟩⟩⟩⟩⟩⟩⟩⟩⟩⟩⟩⟩⟩⟩⟩⟩⟩⟩⟩⟩⟩⟩⟩⟩⟩
theorem pm_ka4 : ∀ q ∈ pm_mtL4, q.2.2.2.2.2.2.all (pm_decB q.2.1) = true := List.forall_mem_cons.mpr ⟨pm_d120, List.forall_mem_cons.mpr ⟨pm_d121, List.forall_mem_cons.mpr ⟨pm_d122, List.forall_mem_cons.mpr ⟨pm_d123, List.forall_mem_cons.mpr ⟨pm_d124, List.forall_mem_cons.mpr ⟨pm_d125, List.forall_mem_cons.mpr ⟨pm_d126, List.forall_mem_cons.mpr ⟨pm_d127, List.forall_mem_cons.mpr ⟨pm_d128, List.forall_mem_cons.mpr ⟨pm_d129, List.forall_mem_cons.mpr ⟨pm_d130, List.forall_mem_cons.mpr ⟨pm_d131, List.forall_mem_cons.mpr ⟨pm_d132, List.forall_mem_cons.mpr ⟨pm_d133, List.forall_mem_cons.mpr ⟨pm_d134, List.forall_mem_cons.mpr ⟨pm_d135, List.forall_mem_cons.mpr ⟨pm_d136, List.forall_mem_cons.mpr ⟨pm_d137, List.forall_mem_cons.mpr ⟨pm_d138, List.forall_mem_cons.mpr ⟨pm_d139, List.forall_mem_cons.mpr ⟨pm_d140, List.forall_mem_cons.mpr ⟨pm_d141, List.forall_mem_cons.mpr ⟨pm_d142, List.forall_mem_cons.mpr ⟨pm_d143, List.forall_mem_cons.mpr ⟨pm_d144, List.forall_mem_cons.mpr ⟨pm_d145, List.forall_mem_cons.mpr ⟨pm_d146, List.forall_mem_cons.mpr ⟨pm_d147, List.forall_mem_cons.mpr ⟨pm_d148, List.forall_mem_cons.mpr ⟨pm_d149, fun _ h => absurd h List.not_mem_nil⟩⟩⟩⟩⟩⟩⟩⟩⟩⟩⟩⟩⟩⟩⟩⟩⟩⟩⟩⟩⟩⟩⟩⟩⟩⟩⟩⟩⟩⟩
set_option maxRecDepth 100000 in
theorem pm_kb4 : (pm_mtL4.zip ((pm_mP.drop 120).take 30)).all (fun x => pm_mB x.1 x.2) = true := by decide +kernel
set_option maxRecDepth 100000 in
theorem pm_kc4 : pm_mtL4.all (fun q => q.2.2.2.2.2.2.all (pm_rokB q.2.2.2.2.1)) = true := by decide +kernel
set_option maxRecDepth 100000 in
theorem pm_kd4 : ∀ q ∈ pm_mtL4, Cond.code q.1 q.2.1 q.2.2.1 q.2.2.2.1 ∈ lw_tbl := List.forall_mem_cons.mpr ⟨List.mem_of_getElem? (i := 1128) rfl, List.forall_mem_cons.mpr ⟨List.mem_of_getElem? (i := 1132) rfl, List.forall_mem_cons.mpr ⟨List.mem_of_getElem? (i := 1136) rfl, List.forall_mem_cons.mpr ⟨List.mem_of_getElem? (i := 1148) rfl, List.forall_mem_cons.mpr ⟨List.mem_of_getElem? (i := 1144) rfl, List.forall_mem_cons.mpr ⟨List.mem_of_getElem? (i := 520) rfl, List.forall_mem_cons.mpr ⟨List.mem_of_getElem? (i := 528) rfl, List.forall_mem_cons.mpr ⟨List.mem_of_getElem? (i := 943) rfl, List.forall_mem_cons.mpr ⟨List.mem_of_getElem? (i := 624) rfl, List.forall_mem_cons.mpr ⟨List.mem_of_getElem? (i := 621) rfl, List.forall_mem_cons.mpr ⟨List.mem_of_getElem? (i := 587) rfl, List.forall_mem_cons.mpr ⟨List.mem_of_getElem? (i := 663) rfl, List.forall_mem_cons.mpr ⟨List.mem_of_getElem? (i := 921) rfl, List.forall_mem_cons.mpr ⟨List.mem_of_getElem? (i := 1011) rfl, List.forall_mem_cons.mpr ⟨List.mem_of_getElem? (i := 1021) rfl, List.forall_mem_cons.mpr ⟨List.mem_of_getElem? (i := 1153) rfl, List.forall_mem_cons.mpr ⟨List.mem_of_getElem? (i := 1373) rfl, List.forall_mem_cons.mpr ⟨List.mem_of_getElem? (i := 1405) rfl, List.forall_mem_cons.mpr ⟨List.mem_of_getElem? (i := 1651) rfl, List.forall_mem_cons.mpr ⟨List.mem_of_getElem? (i := 1435) rfl, List.forall_mem_cons.mpr ⟨List.mem_of_getElem? (i := 1362) rfl, List.forall_mem_cons.mpr ⟨List.mem_of_getElem? (i := 1485) rfl, List.forall_mem_cons.mpr ⟨List.mem_of_getElem? (i := 1381) rfl, List.forall_mem_cons.mpr ⟨List.mem_of_getElem? (i := 1659) rfl, List.forall_mem_cons.mpr ⟨List.mem_of_getElem? (i := 1366) rfl, List.forall_mem_cons.mpr ⟨List.mem_of_getElem? (i := 1655) rfl, List.forall_mem_cons.mpr ⟨List.mem_of_getElem? (i := 1358) rfl, List.forall_mem_cons.mpr ⟨List.mem_of_getElem? (i := 1370) rfl, List.forall_mem_cons.mpr ⟨List.mem_of_getElem? (i := 1377) rfl, List.forall_mem_cons.mpr ⟨List.mem_of_getElem? (i := 1394) rfl, fun _ h => absurd h List.not_mem_nil⟩⟩⟩⟩⟩⟩⟩⟩⟩⟩⟩⟩⟩⟩⟩⟩⟩⟩⟩⟩⟩⟩⟩⟩⟩⟩⟩⟩⟩⟩
theorem pm_ka5 : ∀ q ∈ pm_mtL5, q.2.2.2.2.2.2.all (pm_decB q.2.1) = true := List.forall_mem_cons.mpr ⟨pm_d150, List.forall_mem_cons.mpr ⟨pm_d151, List.forall_mem_cons.mpr ⟨pm_d152, List.forall_mem_cons.mpr ⟨pm_d153, List.forall_mem_cons.mpr ⟨pm_d154, List.forall_mem_cons.mpr ⟨pm_d155, List.forall_mem_cons.mpr ⟨pm_d156, List.forall_mem_cons.mpr ⟨pm_d157, List.forall_mem_cons.mpr ⟨pm_d158, List.forall_mem_cons.mpr ⟨pm_d159, List.forall_mem_cons.mpr ⟨pm_d160, List.forall_mem_cons.mpr ⟨pm_d161, List.forall_mem_cons.mpr ⟨pm_d162, List.forall_mem_cons.mpr ⟨pm_d163, List.forall_mem_cons.mpr ⟨pm_d164, List.forall_mem_cons.mpr ⟨pm_d165, List.forall_mem_cons.mpr ⟨pm_d166, List.forall_mem_cons.mpr ⟨pm_d167, List.forall_mem_cons.mpr ⟨pm_d168, List.forall_mem_cons.mpr ⟨pm_d169, List.forall_mem_cons.mpr ⟨pm_d170, List.forall_mem_cons.mpr ⟨pm_d171, List.forall_mem_cons.mpr ⟨pm_d172, List.forall_mem_cons.mpr ⟨pm_d173, List.forall_mem_cons.mpr ⟨pm_d174, List.forall_mem_cons.mpr ⟨pm_d175, List.forall_mem_cons.mpr ⟨pm_d176, List.forall_mem_cons.mpr ⟨pm_d177, List.forall_mem_cons.mpr ⟨pm_d178, List.forall_mem_cons.mpr ⟨pm_d179, fun _ h => absurd h List.not_mem_nil⟩⟩⟩⟩⟩⟩⟩⟩⟩⟩⟩⟩⟩⟩⟩⟩⟩⟩⟩⟩⟩⟩⟩⟩⟩⟩⟩⟩⟩⟩
set_option maxRecDepth 100000 in
theorem pm_kb5 : (pm_mtL5.zip ((pm_mP.drop 150).take 30)).all (fun x => pm_mB x.1 x.2) = true := by decide +kernel
set_option maxRecDepth 100000 in
theorem pm_kc5 : pm_mtL5.all (fun q => q.2.2.2.2.2.2.all (pm_rokB q.2.2.2.2.1)) = true := by decide +kernel
set_option maxRecDepth 100000 in
theorem pm_kd5 : ∀ q ∈ pm_mtL5, Cond.code q.1 q.2.1 q.2.2.1 q.2.2.2.1 ∈ lw_tbl := List.forall_mem_cons.mpr ⟨List.mem_of_getElem? (i := 1426) rfl, List.forall_mem_cons.mpr ⟨List.mem_of_getElem? (i := 1466) rfl, List.forall_mem_cons.mpr ⟨List.mem_of_getElem? (i := 1398) rfl, List.forall_mem_cons.mpr ⟨List.mem_of_getElem? (i := 1856) rfl, List.forall_mem_cons.mpr ⟨List.mem_of_getElem? (i := 1385) rfl, List.forall_mem_cons.mpr ⟨List.mem_of_getElem? (i := 1390) rfl, List.forall_mem_cons.mpr ⟨List.mem_of_getElem? (i := 1443) rfl, List.forall_mem_cons.mpr ⟨List.mem_of_getElem? (i := 1448) rfl, List.forall_mem_cons.mpr ⟨List.mem_of_getElem? (i := 1452) rfl, List.forall_mem_cons.mpr ⟨List.mem_of_getElem? (i := 1463) rfl, List.forall_mem_cons.mpr ⟨List.mem_of_getElem? (i := 1471) rfl, List.forall_mem_cons.mpr ⟨List.mem_of_getElem? (i := 1460) rfl, List.forall_mem_cons.mpr ⟨List.mem_of_getElem? (i := 1475) rfl, List.forall_mem_cons.mpr ⟨List.mem_of_getElem? (i := 1479) rfl, List.forall_mem_cons.mpr ⟨List.mem_of_getElem? (i := 1489) rfl, List.forall_mem_cons.mpr ⟨List.mem_of_getElem? (i := 1494) rfl, List.forall_mem_cons.mpr ⟨List.mem_of_getElem? (i := 1502) rfl, List.forall_mem_cons.mpr ⟨List.mem_of_getElem? (i := 1498) rfl, List.forall_mem_cons.mpr ⟨List.mem_of_getElem? (i := 1506) rfl, List.forall_mem_cons.mpr ⟨List.mem_of_getElem? (i := 1529) rfl, List.forall_mem_cons.mpr ⟨List.mem_of_getElem? (i := 1532) rfl, List.forall_mem_cons.mpr ⟨List.mem_of_getElem? (i := 1522) rfl, List.forall_mem_cons.mpr ⟨List.mem_of_getElem? (i := 1526) rfl, List.forall_mem_cons.mpr ⟨List.mem_of_getElem? (i := 1544) rfl, List.forall_mem_cons.mpr ⟨List.mem_of_getElem? (i := 1565) rfl, List.forall_mem_cons.mpr ⟨List.mem_of_getElem? (i := 1548) rfl, List.forall_mem_cons.mpr ⟨List.mem_of_getElem? (i := 1595) rfl, List.forall_mem_cons.mpr ⟨List.mem_of_getElem? (i := 1510) rfl, List.forall_mem_cons.mpr ⟨List.mem_of_getElem? (i := 1590) rfl, List.forall_mem_cons.mpr ⟨List.mem_of_getElem? (i := 1561) rfl, fun _ h => absurd h List.not_mem_nil⟩⟩⟩⟩⟩⟩⟩⟩⟩⟩⟩⟩⟩⟩⟩⟩⟩⟩⟩⟩⟩⟩⟩⟩⟩⟩⟩⟩⟩⟩
theorem pm_ka6 : ∀ q ∈ pm_mtL6, q.2.2.2.2.2.2.all (pm_decB q.2.1) = true := List.forall_mem_cons.mpr ⟨pm_d180, List.forall_mem_cons.mpr ⟨pm_d181, List.forall_mem_cons.mpr ⟨pm_d182, List.forall_mem_cons.mpr ⟨pm_d183, List.forall_mem_cons.mpr ⟨pm_d184, List.forall_mem_cons.mpr ⟨pm_d185, List.forall_mem_cons.mpr ⟨pm_d186, List.forall_mem_cons.mpr ⟨pm_d187, List.forall_mem_cons.mpr ⟨pm_d188, List.forall_mem_cons.mpr ⟨pm_d189, List.forall_mem_cons.mpr ⟨pm_d190, List.forall_mem_cons.mpr ⟨pm_d191, List.forall_mem_cons.mpr ⟨pm_d192, List.forall_mem_cons.mpr ⟨pm_d193, List.forall_mem_cons.mpr ⟨pm_d194, List.forall_mem_cons.mpr ⟨pm_d195, List.forall_mem_cons.mpr ⟨pm_d196, List.forall_mem_cons.mpr ⟨pm_d197, List.forall_mem_cons.mpr ⟨pm_d198, List.forall_mem_cons.mpr ⟨pm_d199, List.forall_mem_cons.mpr ⟨pm_d200, List.forall_mem_cons.mpr ⟨pm_d201, List.forall_mem_cons.mpr ⟨pm_d202, List.forall_mem_cons.mpr ⟨pm_d203, List.forall_mem_cons.mpr ⟨pm_d204, List.forall_mem_cons.mpr ⟨pm_d205, List.forall_mem_cons.mpr ⟨pm_d206, List.forall_mem_cons.mpr ⟨pm_d207, List.forall_mem_cons.mpr ⟨pm_d208, List.forall_mem_cons.mpr ⟨pm_d209, fun _ h => absurd h List.not_mem_nil⟩⟩⟩⟩⟩⟩⟩⟩⟩⟩⟩⟩⟩⟩⟩⟩⟩⟩⟩⟩⟩⟩⟩⟩⟩⟩⟩⟩⟩⟩
set_option maxRecDepth 100000 in
theorem pm_kb6 : (pm_mtL6.zip ((pm_mP.drop 180).take 30)).all (fun x => pm_mB x.1 x.2) = true := by decide +kernel
set_option maxRecDepth 100000 in
theorem pm_kc6 : pm_mtL6.all (fun q => q.2.2.2.2.2.2.all (pm_rokB q.2.2.2.2.1)) = true := by decide +kernel
set_option maxRecDepth 100000 in
theorem pm_kd6 : ∀ q ∈ pm_mtL6, Cond.code q.1 q.2.1 q.2.2.1 q.2.2.2.1 ∈ lw_tbl := List.forall_mem_cons.mpr ⟨List.mem_of_getElem? (i := 1602) rfl, List.forall_mem_cons.mpr ⟨List.mem_of_getElem? (i := 1606) rfl, List.forall_mem_cons.mpr ⟨List.mem_of_getElem? (i := 1610) rfl, List.forall_mem_cons.mpr ⟨List.mem_of_getElem? (i := 1614) rfl, List.forall_mem_cons.mpr ⟨List.mem_of_getElem? (i := 1581) rfl, List.forall_mem_cons.mpr ⟨List.mem_of_getElem? (i := 1577) rfl, List.forall_mem_cons.mpr ⟨List.mem_of_getElem? (i := 1569) rfl, List.forall_mem_cons.mpr ⟨List.mem_of_getElem? (i := 1586) rfl, List.forall_mem_cons.mpr ⟨List.mem_of_getElem? (i := 1573) rfl, List.forall_mem_cons.mpr ⟨List.mem_of_getElem? (i := 1556) rfl, List.forall_mem_cons.mpr ⟨List.mem_of_getElem? (i := 1599) rfl, List.forall_mem_cons.mpr ⟨List.mem_of_getElem? (i := 1621) rfl, List.forall_mem_cons.mpr ⟨List.mem_of_getElem? (i := 1552) rfl, List.forall_mem_cons.mpr ⟨List.mem_of_getElem? (i := 1518) rfl, List.forall_mem_cons.mpr ⟨List.mem_of_getElem? (i := 1628) rfl, List.forall_mem_cons.mpr ⟨List.mem_of_getElem? (i := 1540) rfl, List.forall_mem_cons.mpr ⟨List.mem_of_getElem? (i := 1514) rfl, List.forall_mem_cons.mpr ⟨List.mem_of_getElem? (i := 1636) rfl, List.forall_mem_cons.mpr ⟨List.mem_of_getElem? (i := 1632) rfl, List.forall_mem_cons.mpr ⟨List.mem_of_getElem? (i := 1430) rfl, List.forall_mem_cons.mpr ⟨List.mem_of_getElem? (i := 1422) rfl, List.forall_mem_cons.mpr ⟨List.mem_of_getElem? (i := 1418) rfl, List.forall_mem_cons.mpr ⟨List.mem_of_getElem? (i := 1413) rfl, List.forall_mem_cons.mpr ⟨List.mem_of_getElem? (i := 1409) rfl, List.forall_mem_cons.mpr ⟨List.mem_of_getElem? (i := 1456) rfl, List.forall_mem_cons.mpr ⟨List.mem_of_getElem? (i := 1695) rfl, List.forall_mem_cons.mpr ⟨List.mem_of_getElem? (i := 1439) rfl, List.forall_mem_cons.mpr ⟨List.mem_of_getElem? (i := 1402) rfl, List.forall_mem_cons.mpr ⟨List.mem_of_getElem? (i := 1687) rfl, List.forall_mem_cons.mpr ⟨List.mem_of_getElem? (i := 1648) rfl, fun _ h => absurd h List.not_mem_nil⟩⟩⟩⟩⟩⟩⟩⟩⟩⟩⟩⟩⟩⟩⟩⟩⟩⟩⟩⟩⟩⟩⟩⟩⟩⟩⟩⟩⟩⟩
theorem pm_ka7 : ∀ q ∈ pm_mtL7, q.2.2.2.2.2.2.all (pm_decB q.2.1) = true := List.forall_mem_cons.mpr ⟨pm_d210, List.forall_mem_cons.mpr ⟨pm_d211, List.forall_mem_cons.mpr ⟨pm_d212, List.forall_mem_cons.mpr ⟨pm_d213, List.forall_mem_cons.mpr ⟨pm_d214, List.forall_mem_cons.mpr ⟨pm_d215, List.forall_mem_cons.mpr ⟨pm_d216, List.forall_mem_cons.mpr ⟨pm_d217, List.forall_mem_cons.mpr ⟨pm_d218, List.forall_mem_cons.mpr ⟨pm_d219, List.forall_mem_cons.mpr ⟨pm_d220, List.forall_mem_cons.mpr ⟨pm_d221, List.forall_mem_cons.mpr ⟨pm_d222, List.forall_mem_cons.mpr ⟨pm_d223, List.forall_mem_cons.mpr ⟨pm_d224, List.forall_mem_cons.mpr ⟨pm_d225, List.forall_mem_cons.mpr ⟨pm_d226, List.forall_mem_cons.mpr ⟨pm_d227, List.forall_mem_cons.mpr ⟨pm_d228, List.forall_mem_cons.mpr ⟨pm_d229, List.forall_mem_cons.mpr ⟨pm_d230, List.forall_mem_cons.mpr ⟨pm_d231, List.forall_mem_cons.mpr ⟨pm_d232, List.forall_mem_cons.mpr ⟨pm_d233, List.forall_mem_cons.mpr ⟨pm_d234, List.forall_mem_cons.mpr ⟨pm_d235, List.forall_mem_cons.mpr ⟨pm_d236, List.forall_mem_cons.mpr ⟨pm_d237, List.forall_mem_cons.mpr ⟨pm_d238, List.forall_mem_cons.mpr ⟨pm_d239, fun _ h => absurd h List.not_mem_nil⟩⟩⟩⟩⟩⟩⟩⟩⟩⟩⟩⟩⟩⟩⟩⟩⟩⟩⟩⟩⟩⟩⟩⟩⟩⟩⟩⟩⟩⟩
set_option maxRecDepth 100000 in
theorem pm_kb7 : (pm_mtL7.zip ((pm_mP.drop 210).take 30)).all (fun x => pm_mB x.1 x.2) = true := by decide +kernel
set_option maxRecDepth 100000 in
theorem pm_kc7 : pm_mtL7.all (fun q => q.2.2.2.2.2.2.all (pm_rokB q.2.2.2.2.1)) = true := by decide +kernel
set_option maxRecDepth 100000 in
theorem pm_kd7 : ∀ q ∈ pm_mtL7, Cond.code q.1 q.2.1 q.2.2.1 q.2.2.2.1 ∈ lw_tbl := List.forall_mem_cons.mpr ⟨List.mem_of_getElem? (i := 1644) rfl, List.forall_mem_cons.mpr ⟨List.mem_of_getElem? (i := 1640) rfl, List.forall_mem_cons.mpr ⟨List.mem_of_getElem? (i := 1667) rfl, List.forall_mem_cons.mpr ⟨List.mem_of_getElem? (i := 1663) rfl, List.forall_mem_cons.mpr ⟨List.mem_of_getElem? (i := 1691) rfl, List.forall_mem_cons.mpr ⟨List.mem_of_getElem? (i := 1679) rfl, List.forall_mem_cons.mpr ⟨List.mem_of_getElem? (i := 1683) rfl, List.forall_mem_cons.mpr ⟨List.mem_of_getElem? (i := 1675) rfl, List.forall_mem_cons.mpr ⟨List.mem_of_getElem? (i := 1671) rfl, List.forall_mem_cons.mpr ⟨List.mem_of_getElem? (i := 1707) rfl, List.forall_mem_cons.mpr ⟨List.mem_of_getElem? (i := 1703) rfl, List.forall_mem_cons.mpr ⟨List.mem_of_getElem? (i := 1699) rfl, List.forall_mem_cons.mpr ⟨List.mem_of_getElem? (i := 1719) rfl, List.forall_mem_cons.mpr ⟨List.mem_of_getElem? (i := 1715) rfl, List.forall_mem_cons.mpr ⟨List.mem_of_getElem? (i := 1727) rfl, List.forall_mem_cons.mpr ⟨List.mem_of_getElem? (i := 1723) rfl, List.forall_mem_cons.mpr ⟨List.mem_of_getElem? (i := 1711) rfl, List.forall_mem_cons.mpr ⟨List.mem_of_getElem? (i := 1731) rfl, List.forall_mem_cons.mpr ⟨List.mem_of_getElem? (i := 1735) rfl, List.forall_mem_cons.mpr ⟨List.mem_of_getElem? (i := 1740) rfl, List.forall_mem_cons.mpr ⟨List.mem_of_getElem? (i := 1752) rfl, List.forall_mem_cons.mpr ⟨List.mem_of_getElem? (i := 1748) rfl, List.forall_mem_cons.mpr ⟨List.mem_of_getElem? (i := 1744) rfl, List.forall_mem_cons.mpr ⟨List.mem_of_getElem? (i := 1756) rfl, List.forall_mem_cons.mpr ⟨List.mem_of_getElem? (i := 1768) rfl, List.forall_mem_cons.mpr ⟨List.mem_of_getElem? (i := 1764) rfl, List.forall_mem_cons.mpr ⟨List.mem_of_getElem? (i := 1772) rfl, List.forall_mem_cons.mpr ⟨List.mem_of_getElem? (i := 1760) rfl, List.forall_mem_cons.mpr ⟨List.mem_of_getElem? (i := 1776) rfl, List.forall_mem_cons.mpr ⟨List.mem_of_getElem? (i := 1780) rfl, fun _ h => absurd h List.not_mem_nil⟩⟩⟩⟩⟩⟩⟩⟩⟩⟩⟩⟩⟩⟩⟩⟩⟩⟩⟩⟩⟩⟩⟩⟩⟩⟩⟩⟩⟩⟩
theorem pm_ka8 : ∀ q ∈ pm_mtL8, q.2.2.2.2.2.2.all (pm_decB q.2.1) = true := List.forall_mem_cons.mpr ⟨pm_d240, List.forall_mem_cons.mpr ⟨pm_d241, List.forall_mem_cons.mpr ⟨pm_d242, List.forall_mem_cons.mpr ⟨pm_d243, List.forall_mem_cons.mpr ⟨pm_d244, List.forall_mem_cons.mpr ⟨pm_d245, List.forall_mem_cons.mpr ⟨pm_d246, List.forall_mem_cons.mpr ⟨pm_d247, List.forall_mem_cons.mpr ⟨pm_d248, List.forall_mem_cons.mpr ⟨pm_d249, List.forall_mem_cons.mpr ⟨pm_d250, List.forall_mem_cons.mpr ⟨pm_d251, List.forall_mem_cons.mpr ⟨pm_d252, List.forall_mem_cons.mpr ⟨pm_d253, List.forall_mem_cons.mpr ⟨pm_d254, List.forall_mem_cons.mpr ⟨pm_d255, List.forall_mem_cons.mpr ⟨pm_d256, List.forall_mem_cons.mpr ⟨pm_d257, List.forall_mem_cons.mpr ⟨pm_d258, List.forall_mem_cons.mpr ⟨pm_d259, List.forall_mem_cons.mpr ⟨pm_d260, List.forall_mem_cons.mpr ⟨pm_d261, List.forall_mem_cons.mpr ⟨pm_d262, List.forall_mem_cons.mpr ⟨pm_d263, List.forall_mem_cons.mpr ⟨pm_d264, List.forall_mem_cons.mpr ⟨pm_d265, List.forall_mem_cons.mpr ⟨pm_d266, List.forall_mem_cons.mpr ⟨pm_d267, List.forall_mem_cons.mpr ⟨pm_d268, fun _ h => absurd h List.not_mem_nil⟩⟩⟩⟩⟩⟩⟩⟩⟩⟩⟩⟩⟩⟩⟩⟩⟩⟩⟩⟩⟩⟩⟩⟩⟩⟩⟩⟩⟩
set_option maxRecDepth 100000 in
theorem pm_kb8 : (pm_mtL8.zip ((pm_mP.drop 240).take 29)).all (fun x => pm_mB x.1 x.2) = true := by decide +kernel
set_option maxRecDepth 100000 in
theorem pm_kc8 : pm_mtL8.all (fun q => q.2.2.2.2.2.2.all (pm_rokB q.2.2.2.2.1)) = true := by decide +kernel
set_option maxRecDepth 100000 in
theorem pm_kd8 : ∀ q ∈ pm_mtL8, Cond.code q.1 q.2.1 q.2.2.1 q.2.2.2.1 ∈ lw_tbl := List.forall_mem_cons.mpr ⟨List.mem_of_getElem? (i := 1785) rfl, List.forall_mem_cons.mpr ⟨List.mem_of_getElem? (i := 1789) rfl, List.forall_mem_cons.mpr ⟨List.mem_of_getElem? (i := 1793) rfl, List.forall_mem_cons.mpr ⟨List.mem_of_getElem? (i := 1798) rfl, List.forall_mem_cons.mpr ⟨List.mem_of_getElem? (i := 1810) rfl, List.forall_mem_cons.mpr ⟨List.mem_of_getElem? (i := 1806) rfl, List.forall_mem_cons.mpr ⟨List.mem_of_getElem? (i := 1820) rfl, List.forall_mem_cons.mpr ⟨List.mem_of_getElem? (i := 1824) rfl, List.forall_mem_cons.mpr ⟨List.mem_of_getElem? (i := 1816) rfl, List.forall_mem_cons.mpr ⟨List.mem_of_getElem? (i := 1802) rfl, List.forall_mem_cons.mpr ⟨List.mem_of_getElem? (i := 1828) rfl, List.forall_mem_cons.mpr ⟨List.mem_of_getElem? (i := 1832) rfl, List.forall_mem_cons.mpr ⟨List.mem_of_getElem? (i := 1840) rfl, List.forall_mem_cons.mpr ⟨List.mem_of_getElem? (i := 1836) rfl, List.forall_mem_cons.mpr ⟨List.mem_of_getElem? (i := 1847) rfl, List.forall_mem_cons.mpr ⟨List.mem_of_getElem? (i := 1852) rfl, List.forall_mem_cons.mpr ⟨List.mem_of_getElem? (i := 1862) rfl, List.forall_mem_cons.mpr ⟨List.mem_of_getElem? (i := 420) rfl, List.forall_mem_cons.mpr ⟨List.mem_of_getElem? (i := 577) rfl, List.forall_mem_cons.mpr ⟨List.mem_of_getElem? (i := 590) rfl, List.forall_mem_cons.mpr ⟨List.mem_of_getElem? (i := 696) rfl, List.forall_mem_cons.mpr ⟨List.mem_of_getElem? (i := 706) rfl, List.forall_mem_cons.mpr ⟨List.mem_of_getElem? (i := 700) rfl, List.forall_mem_cons.mpr ⟨List.mem_of_getElem? (i := 710) rfl, List.forall_mem_cons.mpr ⟨List.mem_of_getElem? (i := 716) rfl, List.forall_mem_cons.mpr ⟨List.mem_of_getElem? (i := 713) rfl, List.forall_mem_cons.mpr ⟨List.mem_of_getElem? (i := 145) rfl, List.forall_mem_cons.mpr ⟨List.mem_of_getElem? (i := 842) rfl, List.forall_mem_cons.mpr ⟨List.mem_of_getElem? (i := 721) rfl, fun _ h => absurd h List.not_mem_nil⟩⟩⟩⟩⟩⟩⟩⟩⟩⟩⟩⟩⟩⟩⟩⟩⟩⟩⟩⟩⟩⟩⟩⟩⟩⟩⟩⟩⟩
def pm_mP_len : pm_mP.length = 269 := by decide +kernel
end
section
/-! the pure machine's values and heap in the machine's -/
def pm_emb (base : Nat) (adr : Nat → Nat) (fo : Value) : Value → Value
  | .ref k => .ref (base + k)
  | .retAddr k => bif k == 300 then fo else .ref (adr k)
  | v => v
def pm_embA (base : Nat) : vp_A → vp_A
  | (n, .inr (.inr (.inr (.inr f)))) => (n, .inr (.inr (.inr (.inr (fun j => (f j).map (fun k => base + k))))))
  | x => x
def pm_embE (base : Nat) (dA : Nat → ClassId) (adr : Nat → Nat) (fo : Value) : pm_C → va_E
  | .inl x => .inl (dA x.1, pm_embA base x.2)
  | .inr x => .inr (x.1, x.2.map (pm_emb base adr fo))
def pm_tys (dA : Nat → ClassId) : List (ClassId × FieldType) := [(dA 0, .int), (dA 1, .long), (dA 2, .boolean), (dA 3, .object "TrainBearers$Text"), (dA 4, .object "TrainBearers$Train")]
def pm_sty (t : Nat) : FieldType := if t = 0 then .int else .byte
def pm_A (base : Nat) : Nat → Prop := fun q => base ≤ q
def pm_nest : List (Nat × Nat × Nat) := pm_mlA.filterMap (fun e => if e.2.2.1 = 3 then some (e.1, e.2.1, e.2.2.2.1) else none)
/-- what stays true of the tables and of what was there before -/
def pm_F (base : Nat) (D : va_G) (dA : Nat → ClassId) (adr : Nat → Nat) (fo : Value) (L : Nat) (xs : Nat → Int32) (U : State) : Prop :=
  va_K D pm_cls (pm_tys dA) U ∧
  (∀ k t n f, pm_sX L xs k = some (t, n, f) → va_T (pm_sty t) (adr k) n (fun j => .int (f j)) (pm_A base) U U.heap) ∧
  (∀ i, i < 23 → vk_R "TrainBearers$Reader" (pm_strT.getD i (0, "")).1 (pm_strT.getD i (0, "")).2 (adr i) U ∧ va_O "java/lang/String" (adr i) (pm_A base) U U.heap ∧ va_OF "java/lang/String" "coder" "B" (.int 0) (adr i) (pm_A base) U U.heap ∧ va_OF "java/lang/String" "value" "[B" (.ref (adr (100 + i))) (adr i) (pm_A base) U U.heap) ∧
  va_AO "TrainBearers$Text" U ∧ va_AO "TrainBearers$Train" U ∧ (∀ q ∈ pm_nest, va_Nw (.methodLinkNest (pm_own q.1) q.2.1 (pm_y q.2.2) "TrainBearers") U) ∧ va_Nw (.castable "[I" "java/lang/Cloneable") U ∧
  va_Z "TrainBearers" "MOST_TERM" "[I" (.ref (adr 201)) (pm_A base) U U.heap ∧ va_Z "java/lang/String" "COMPACT_STRINGS" "Z" (.int 1) (pm_A base) U U.heap ∧ va_Z "jdk/internal/util/Preconditions" "SIOOBE_FORMATTER" "Ljava/util/function/BiFunction;" fo (pm_A base) U U.heap ∧
  (fo = .null ∨ ∃ q, fo = .ref q) ∧ base ≤ U.heap.size
def pm_W (base : Nat) (D : va_G) (dA : Nat → ClassId) (adr : Nat → Nat) (fo : Value) (h : pm_H) (H : Heap) : Prop :=
  H.size = base + h.1 ∧ ∀ k, k < h.1 → va_at D pm_cls (base + k, pm_embE base dA adr fo (h.2.2 k)) H
def pm_lvl (base : Nat) (adr : Nat → Nat) (fo : Value) (ls : pm_Ls) : List (Nat × Value) := (List.range ls.length).filterMap (fun k => (ls.getD k none).map (fun v => (k, pm_emb base adr fo v)))
def pm_L (base : Nat) (adr : Nat → Nat) (fo : Value) (lsA : Array Slot) (ls : pm_Ls) : Prop := lv_has lsA ls.length (pm_lvl base adr fo ls)
section PW
variable {base : Nat} {D : va_G} {dA : Nat → ClassId} {adr : Nat → Nat} {fo : Value} {L : Nat} {xs : Nat → Int32}
theorem pm_lvl_mem {ls : pm_Ls} {q : Nat × Value} : q ∈ pm_lvl base adr fo ls ↔ q.1 < ls.length ∧ ∃ v, ls.getD q.1 none = some v ∧ q.2 = pm_emb base adr fo v := by
  unfold pm_lvl
  rw [List.mem_filterMap]
  constructor
  · rintro ⟨k, hk, h⟩
    rw [List.mem_range] at hk
    cases hg : ls.getD k none with
    | none => rw [hg] at h; cases h
    | some v =>
      rw [hg] at h
      cases h
      exact ⟨hk, v, hg, rfl⟩
  · rintro ⟨hk, v, hg, he⟩
    refine ⟨q.1, List.mem_range.mpr hk, ?_⟩
    rw [hg]
    show some (q.1, pm_emb base adr fo v) = some q
    rw [← he]
theorem pm_has_mono {lsA : Array Slot} {n : Nat} {l l' : List (Nat × Value)} (h : lv_has lsA n l) (hm : ∀ q ∈ l', q ∈ l) : lv_has lsA n l' := ⟨h.1, h.2.1, fun q hq => h.2.2 q (hm q hq)⟩
theorem pm_L_get {lsA : Array Slot} {ls : pm_Ls} {k : Nat} {v : Value} (h : pm_L base adr fo lsA ls) (hk : pm_ld ls k = some v) : lsA[k]? = some (.val (pm_emb base adr fo v)) := by
  have hlt : k < ls.length := by
    rcases Nat.lt_or_ge k ls.length with q | q
    · exact q
    · unfold pm_ld at hk
      rw [List.getD_eq_getElem?_getD, List.getElem?_eq_none q] at hk
      cases hk
  exact h.2.2 (k, pm_emb base adr fo v) (pm_lvl_mem.mpr ⟨hlt, v, hk, rfl⟩)
theorem pm_getD_set {ls : pm_Ls} {j k : Nat} {x : Option Value} (hk : k < ls.length) : (ls.set k x).getD j none = if j = k then x else ls.getD j none := by
  rw [List.getD_eq_getElem?_getD, List.getD_eq_getElem?_getD, List.getElem?_set]
  by_cases h : k = j
  · subst h
    simp [hk]
  · rw [if_neg h, if_neg (Ne.symm h)]
theorem pm_emb_cat {v : Value} (hv : v.category = 2) : (pm_emb base adr fo v).category = 2 := by
  cases v <;> first | exact hv | (simp [Value.category] at hv)
theorem pm_clr_succ (ls : pm_Ls) (j : Nat) : pm_clr ls (j + 1) = bif pm_two (ls.getD j none) then ls.set j none else ls := rfl
theorem pm_clr_len (ls : pm_Ls) (k : Nat) : (pm_clr ls k).length = ls.length := by
  cases k with
  | zero => rfl
  | succ j =>
    rw [pm_clr_succ]
    cases pm_two (ls.getD j none) <;> simp
theorem pm_emb_two {v : Value} (h : (pm_emb base adr fo v).category = 2) (hfo : fo = .null ∨ ∃ q, fo = .ref q) : (∃ x, v = .long x) ∨ ∃ x, v = .double x := by
  cases v with
  | long x => exact Or.inl ⟨x, rfl⟩
  | double x => exact Or.inr ⟨x, rfl⟩
  | retAddr k =>
    exfalso
    have h : (bif k == 300 then fo else Value.ref (adr k)).category = 2 := h
    cases hk : (k == 300) with
    | true =>
      rw [hk] at h
      rcases hfo with h1 | ⟨q, h1⟩ <;> rw [h1] at h <;> simp [Value.category] at h
    | false => rw [hk] at h; simp [Value.category] at h
  | _ => simp [pm_emb, Value.category] at h
theorem pm_clr_get {ls : pm_Ls} {k j : Nat} {v : Value} (h : (pm_clr ls k).getD j none = some v) (hj : j < ls.length) : ls.getD j none = some v ∧ ¬ (j + 1 = k ∧ ∃ x, v = .long x) := by
  cases k with
  | zero => exact ⟨h, fun q => by omega⟩
  | succ i =>
    rw [pm_clr_succ] at h
    cases hb : pm_two (ls.getD i none) with
    | false =>
      rw [hb] at h
      have h' : ls.getD j none = some v := h
      refine ⟨h', ?_⟩
      rintro ⟨e, x, rfl⟩
      have : j = i := by omega
      subst this
      rw [h'] at hb
      cases hb
    | true =>
      rw [hb] at h
      have h' : (ls.set i none).getD j none = some v := h
      by_cases hi : i < ls.length
      · rw [pm_getD_set hi] at h'
        by_cases e : j = i
        · rw [if_pos e] at h'; cases h'
        · rw [if_neg e] at h'
          exact ⟨h', fun q => e (by omega)⟩
      · rw [List.set_eq_of_length_le (by omega)] at h'
        exact ⟨h', fun q => by omega⟩
/-- no double is ever in the pure locals -/
def pm_nd (ls : pm_Ls) : Prop := ∀ k x, ls.getD k none ≠ some (.double x)
theorem pm_st1_L {lsA : Array Slot} {ls : pm_Ls} {k : Nat} {v : Value} {l' : Array Slot} (hfo : fo = .null ∨ ∃ q, fo = .ref q) (hnd : pm_nd ls) (hk : k < ls.length) (h : lv_has l' ls.length ((k, pm_emb base adr fo v) :: (pm_lvl base adr fo ls).filter (fun q => !(q.1 == k) && !(q.1 + 1 == k && q.2.category == 2)))) : pm_L base adr fo l' (pm_st1 ls k v) := by
  unfold pm_L
  have hlen : (pm_st1 ls k v).length = ls.length := by unfold pm_st1; rw [List.length_set, pm_clr_len]
  rw [hlen]
  refine pm_has_mono h (fun q hq => ?_)
  obtain ⟨h1, w, h2, h3⟩ := pm_lvl_mem.mp hq
  rw [hlen] at h1
  unfold pm_st1 at h2
  rw [pm_getD_set (by rw [pm_clr_len]; exact hk)] at h2
  by_cases e : q.1 = k
  · rw [if_pos e] at h2
    cases h2
    have : q = (k, pm_emb base adr fo v) := Prod.ext e h3
    rw [this]
    exact List.mem_cons_self
  · rw [if_neg e] at h2
    obtain ⟨g1, g2⟩ := pm_clr_get h2 h1
    refine List.mem_cons_of_mem _ (List.mem_filter.mpr ⟨pm_lvl_mem.mpr ⟨h1, w, g1, h3⟩, ?_⟩)
    have e1 : (q.1 == k) = false := by simpa using e
    rw [e1]
    cases hc : (q.1 + 1 == k && q.2.category == 2) with
    | false => rfl
    | true =>
      exfalso
      rw [Bool.and_eq_true] at hc
      have c1 : q.1 + 1 = k := by simpa using hc.1
      have c2 : q.2.category = 2 := by simpa using hc.2
      rw [h3] at c2
      rcases pm_emb_two c2 hfo with ⟨x, hx⟩ | ⟨x, hx⟩
      · exact g2 ⟨c1, x, hx⟩
      · exact hnd q.1 x (by rw [g1, hx])
theorem pm_st2_L {lsA : Array Slot} {ls : pm_Ls} {k : Nat} {v : Value} {l' : Array Slot} (hfo : fo = .null ∨ ∃ q, fo = .ref q) (hnd : pm_nd ls) (hk : k + 1 < ls.length) (h : lv_has l' ls.length ((k, pm_emb base adr fo v) :: (pm_lvl base adr fo ls).filter (fun q => !(q.1 == k) && (!(q.1 == k + 1) && !(q.1 + 1 == k && q.2.category == 2))))) : pm_L base adr fo l' (pm_st2 ls k v) := by
  unfold pm_L
  have hlen : (pm_st2 ls k v).length = ls.length := by unfold pm_st2; rw [List.length_set, List.length_set, pm_clr_len]
  rw [hlen]
  refine pm_has_mono h (fun q hq => ?_)
  obtain ⟨h1, w, h2, h3⟩ := pm_lvl_mem.mp hq
  rw [hlen] at h1
  unfold pm_st2 at h2
  rw [pm_getD_set (by rw [List.length_set, pm_clr_len]; exact hk)] at h2
  by_cases e0 : q.1 = k + 1
  · rw [if_pos e0] at h2; cases h2
  · rw [if_neg e0, pm_getD_set (by rw [pm_clr_len]; omega)] at h2
    by_cases e : q.1 = k
    · rw [if_pos e] at h2
      cases h2
      have : q = (k, pm_emb base adr fo v) := Prod.ext e h3
      rw [this]
      exact List.mem_cons_self
    · rw [if_neg e] at h2
      obtain ⟨g1, g2⟩ := pm_clr_get h2 h1
      refine List.mem_cons_of_mem _ (List.mem_filter.mpr ⟨pm_lvl_mem.mpr ⟨h1, w, g1, h3⟩, ?_⟩)
      have e1 : (q.1 == k) = false := by simpa using e
      have e2 : (q.1 == k + 1) = false := by simpa using e0
      rw [e1, e2]
      cases hc : (q.1 + 1 == k && q.2.category == 2) with
      | false => rfl
      | true =>
        exfalso
        rw [Bool.and_eq_true] at hc
        have c1 : q.1 + 1 = k := by simpa using hc.1
        have c2 : q.2.category = 2 := by simpa using hc.2
        rw [h3] at c2
        rcases pm_emb_two c2 hfo with ⟨x, hx⟩ | ⟨x, hx⟩
        · exact g2 ⟨c1, x, hx⟩
        · exact hnd q.1 x (by rw [g1, hx])
theorem pm_nd_set {ls : pm_Ls} (h : pm_nd ls) {k : Nat} {v : Option Value} (hv : ∀ x, v ≠ some (.double x)) : pm_nd (ls.set k v) := by
  intro j x
  by_cases hk : k < ls.length
  · rw [pm_getD_set hk]
    by_cases e : j = k
    · rw [if_pos e]; exact hv x
    · rw [if_neg e]; exact h j x
  · rw [List.set_eq_of_length_le (by omega)]; exact h j x
theorem pm_nd_clr {ls : pm_Ls} (h : pm_nd ls) (k : Nat) : pm_nd (pm_clr ls k) := by
  cases k with
  | zero => exact h
  | succ j =>
    rw [pm_clr_succ]
    cases pm_two (ls.getD j none) with
    | false => exact h
    | true => exact pm_nd_set h (fun x => by simp)
theorem pm_nd_st1 {ls : pm_Ls} (h : pm_nd ls) {k : Nat} {v : Value} (hv : ∀ x, v ≠ .double x) : pm_nd (pm_st1 ls k v) := pm_nd_set (pm_nd_clr h k) (fun x q => hv x (Option.some.inj q))
theorem pm_nd_st2 {ls : pm_Ls} (h : pm_nd ls) {k : Nat} {v : Value} (hv : ∀ x, v ≠ .double x) : pm_nd (pm_st2 ls k v) := pm_nd_set (pm_nd_set (pm_nd_clr h k) (fun x q => hv x (Option.some.inj q))) (fun x => by simp)
/-- the heap -/
theorem pm_W.get {h : pm_H} {H : Heap} (hW : pm_W base D dA adr fo h H) {k : Nat} (hk : k < h.1) : va_at D pm_cls (base + k, pm_embE base dA adr fo (h.2.2 k)) H := hW.2 k hk
theorem pm_W.set {h : pm_H} {H H' : Heap} (hW : pm_W base D dA adr fo h H) {a : Nat} {c : pm_C} (hz : H'.size = H.size) (ho : ∀ q : Nat, q ≠ base + a → H'[q]? = H[q]?) (hc : va_at D pm_cls (base + a, pm_embE base dA adr fo c) H') : pm_W base D dA adr fo (pm_hset h a c) H' := by
  refine ⟨hz.trans hW.1, fun k hk => ?_⟩
  show va_at D pm_cls (base + k, pm_embE base dA adr fo (va_up h.2.2 a c k)) H'
  by_cases e : k = a
  · subst e
    rw [va_up_self]
    exact hc
  · rw [va_up_ne _ _ e]
    exact (hW.2 k hk).kept (ho _ (by show base + k ≠ base + a; omega))
theorem pm_W.push {h : pm_H} {H H' : Heap} (hW : pm_W base D dA adr fo h H) {n : Nat} {c : pm_C} (hz : H'.size = H.size + 1) (ho : ∀ q : Nat, q < H.size → H'[q]? = H[q]?) (hc : va_at D pm_cls (base + h.1, pm_embE base dA adr fo c) H') : pm_W base D dA adr fo (pm_hpush h n c) H' := by
  refine ⟨by rw [hz, hW.1]; rfl, fun k hk => ?_⟩
  have hk' : k < h.1 + 1 := hk
  show va_at D pm_cls (base + k, pm_embE base dA adr fo (va_up h.2.2 h.1 c k)) H'
  by_cases e : k = h.1
  · subst e
    rw [va_up_self]
    exact hc
  · rw [va_up_ne _ _ e]
    exact (hW.2 k (by omega)).kept (ho _ (by show base + k < _; rw [hW.1]; omega))
def pm_wl (base : Nat) (dA : Nat → ClassId) (adr : Nat → Nat) (fo : Value) (h : pm_H) : va_W := (List.range h.1).map (fun k => (base + k, pm_embE base dA adr fo (h.2.2 k)))
theorem pm_wl_get {h : pm_H} {k : Nat} (hk : k < h.1) : (pm_wl base dA adr fo h)[k]? = some (base + k, pm_embE base dA adr fo (h.2.2 k)) := by
  unfold pm_wl
  rw [List.getElem?_map, List.getElem?_range hk]
  rfl
theorem pm_wl_inv {h : pm_H} {k : Nat} {q : Nat × va_E} (hq : (pm_wl base dA adr fo h)[k]? = some q) : k < h.1 ∧ q = (base + k, pm_embE base dA adr fo (h.2.2 k)) := by
  have hk : k < h.1 := by
    have := (List.getElem?_eq_some_iff.mp hq).1
    unfold pm_wl at this
    simpa using this
  rw [pm_wl_get hk] at hq
  exact ⟨hk, (Option.some.inj hq).symm⟩
theorem pm_W.P {h : pm_H} {H : Heap} (hW : pm_W base D dA adr fo h H) : va_P D pm_cls (pm_wl base dA adr fo h) H := by
  intro k q hq
  obtain ⟨hk, rfl⟩ := pm_wl_inv hq
  exact hW.2 k hk
theorem pm_W.of {h : pm_H} {H : Heap} (hz : H.size = base + h.1) (hP : va_P D pm_cls (pm_wl base dA adr fo h) H) : pm_W base D dA adr fo h H := ⟨hz, fun k hk => hP k _ (pm_wl_get hk)⟩
theorem pm_wl_D {h : pm_H} : va_D (pm_A base) (pm_wl base dA adr fo h) := by
  refine ⟨fun i j x y hi hj e => ?_, fun k q hq => ?_⟩
  · obtain ⟨-, rfl⟩ := pm_wl_inv hi
    obtain ⟨-, rfl⟩ := pm_wl_inv hj
    have e : base + i = base + j := e
    omega
  · obtain ⟨-, rfl⟩ := pm_wl_inv hq
    show base ≤ base + k
    omega
theorem pm_wl_set {h : pm_H} {a : Nat} {c : pm_C} (ha : a < h.1) : (pm_wl base dA adr fo h).set a (base + a, pm_embE base dA adr fo c) = pm_wl base dA adr fo (pm_hset h a c) := by
  apply List.ext_getElem?
  intro k
  have hlen : (pm_wl base dA adr fo h).length = h.1 := by unfold pm_wl; simp
  by_cases hk : k < h.1
  · have h2 : k < (pm_hset h a c).1 := hk
    rw [pm_wl_get h2]
    show _ = some (base + k, pm_embE base dA adr fo (va_up h.2.2 a c k))
    by_cases e : k = a
    · subst e
      rw [List.getElem?_set_self (by rw [hlen]; exact ha), va_up_self]
    · rw [List.getElem?_set_ne (Ne.symm e), pm_wl_get hk, va_up_ne _ _ e]
  · rw [List.getElem?_eq_none (by rw [List.length_set, hlen]; omega), List.getElem?_eq_none]
    unfold pm_wl
    simp only [List.length_map, List.length_range]
    exact Nat.le_of_not_lt hk
theorem pm_wl_push {h : pm_H} {n : Nat} {c : pm_C} : pm_wl base dA adr fo h ++ [(base + h.1, pm_embE base dA adr fo c)] = pm_wl base dA adr fo (pm_hpush h n c) := by
  unfold pm_wl pm_hpush
  show _ = (List.range (h.1 + 1)).map _
  rw [List.range_succ, List.map_append]
  congr 1
  · apply List.map_congr_left
    intro k hk
    rw [List.mem_range] at hk
    show _ = (base + k, pm_embE base dA adr fo (va_up h.2.2 h.1 c k))
    rw [va_up_ne _ _ (by omega)]
  · show _ = [(base + h.1, pm_embE base dA adr fo (va_up h.2.2 h.1 c h.1))]
    rw [va_up_self]
theorem pm_F.moved {s U : State} (hF : pm_F base D dA adr fo L xs s) (hW : s.WarmedH U.vm) (hz : s.heap.size ≤ U.heap.size) (hq : ∀ a : Nat, a < s.heap.size → ¬ pm_A base a → U.heap[a]? = s.heap[a]?) : pm_F base D dA adr fo L xs U := by
  obtain ⟨f1, f2, f3, f4, f5, f6, f7, f8, f9, f10, f11, f12⟩ := hF
  refine ⟨va_K.moved hW.alike f1, fun k t n f h => (va_T.moved hW.alike (f2 k t n f h)).kept hq, fun i hi => ?_, va_AO.moved hW.alike f4, va_AO.moved hW.alike f5, fun q h => va_Nw.warmM hW (f6 q h), va_Nw.warmC hW f7, (va_Z.moved hW.alike f8).kept hq, (va_Z.moved hW.alike f9).kept hq, (va_Z.moved hW.alike f10).kept hq, f11, Nat.le_trans f12 hz⟩
  obtain ⟨g1, g2, g3, g4⟩ := f3 i hi
  exact ⟨vk_R.warm hW g1, (va_O.moved hW.alike g2).kept hq, (va_OF.moved hW.alike g3).kept hq, (va_OF.moved hW.alike g4).kept hq⟩
theorem pm_F.calling {U : State} {g : JFrame} {mk : MethodId} {a : Array Value} (hF : pm_F base D dA adr fo L xs U) : pm_F base D dA adr fo L xs (U.calling g mk a) := by
  obtain ⟨f1, f2, f3, f4, f5, f6, f7, f8, f9, f10, f11, f12⟩ := hF
  have al : U.vm.Alike (U.calling g mk a).vm := Vm.Alike.refl U.vm
  refine ⟨va_K.moved al f1, fun k t n f h => va_T.moved al (f2 k t n f h), fun i hi => ?_, va_AO.moved al f4, va_AO.moved al f5, fun q h => va_Nw.same rfl rfl (f6 q h), va_Nw.same rfl rfl f7, va_Z.moved al f8, va_Z.moved al f9, va_Z.moved al f10, f11, f12⟩
  obtain ⟨g1, g2, g3, g4⟩ := f3 i hi
  exact ⟨vk_R.same rfl g1, va_O.moved al g2, va_OF.moved al g3, va_OF.moved al g4⟩
end PW
end
section
/-! classes and methods as the tables have them -/
def pm_cB (q : vw_C) (w : Nat × Nat × List Nat) : Bool := decide (u_ws q.1 q.2.1 q.2.2 = w.2.2.filterMap (fun i => lw_tbl[i]?)) && (u_ws q.1 q.2.1 q.2.2).all goodWord && decide (lw_tbl[w.1]? = some (.initialized q.1)) && goodWord (.initialized q.1) && decide (lw_tbl[w.2.1]? = some (.instantiable q.1 q.2.2)) && goodWord (.instantiable q.1 q.2.2)
theorem pm_cB_ok : (pm_cls.zip pm_cP).all (fun x => pm_cB x.1 x.2) = true := by decide +kernel
theorem pm_clen : pm_cls.length = 12 ∧ pm_cP.length = 12 := by decide +kernel
theorem pm_zip {α β : Type} {l : List α} {m : List β} {f : α × β → Bool} (h : (l.zip m).all f = true) (hl : l.length ≤ m.length) {k : Nat} {x : α} (hx : l[k]? = some x) : ∃ y, m[k]? = some y ∧ f (x, y) = true := by
  have hk : k < l.length := (List.getElem?_eq_some_iff.mp hx).1
  have hm : k < m.length := Nat.lt_of_lt_of_le hk hl
  refine ⟨m[k], List.getElem?_eq_getElem hm, ?_⟩
  have hz : (l.zip m)[k]? = some (x, m[k]) := by
    rw [List.getElem?_zip_eq_some]
    exact ⟨hx, List.getElem?_eq_getElem hm⟩
  exact List.all_eq_true.mp h _ (List.mem_of_getElem? hz)
theorem pm_cls_ok {ci : Nat} {q : vw_C} (h : pm_cls[ci]? = some q) : (∀ w ∈ u_ws q.1 q.2.1 q.2.2, w ∈ pm_gw) ∧ Cond.initialized q.1 ∈ pm_gw ∧ Cond.instantiable q.1 q.2.2 ∈ pm_gw := by
  obtain ⟨w, hw, hb⟩ := pm_zip pm_cB_ok (by rw [pm_clen.1, pm_clen.2]; exact Nat.le_refl _) h
  simp only [pm_cB, Bool.and_eq_true, decide_eq_true_eq] at hb
  obtain ⟨⟨⟨⟨⟨b1, b2⟩, b3⟩, b4⟩, b5⟩, b6⟩ := hb
  refine ⟨fun x hx => ?_, pm_gw_of b3 b4, pm_gw_of b5 b6⟩
  have hg := List.all_eq_true.mp b2 x hx
  rw [b1] at hx
  obtain ⟨i, -, hi⟩ := List.mem_filterMap.mp hx
  exact pm_gw_of hi hg
theorem pm_cls_lt {ci : Nat} {q : vw_C} (h : pm_cls[ci]? = some q) : ci < 12 := by
  have := (List.getElem?_eq_some_iff.mp h).1
  rw [pm_clen.1] at this
  exact this
theorem pm_cls_ty {ci : Nat} {q : vw_C} (h : pm_cls[ci]? = some q) : ∀ k, k < q.2.2 → parseFieldDescriptor (q.2.1 k).2.2.1 = some (pm_ty ci k) := by
  have hlt := pm_cls_lt h
  match ci, h, hlt with
  | 0, h, _ => cases h; exact tyX0_ok
  | 1, h, _ => cases h; exact tyX1_ok
  | 2, h, _ => cases h; exact tyX2_ok
  | 3, h, _ => cases h; exact tyX3_ok
  | 4, h, _ => cases h; exact tyX4_ok
  | 5, h, _ => cases h; exact tyX5_ok
  | 6, h, _ => cases h; exact tyX6_ok
  | 7, h, _ => cases h; exact tyX7_ok
  | 8, h, _ => cases h; exact tyX8_ok
  | 9, h, _ => cases h; exact tyX9_ok
  | 10, h, _ => cases h; exact tyX10_ok
  | 11, h, _ => cases h; exact tyX11_ok
  | n + 12, _, h => exact absurd h (by omega)
theorem pm_cls_nm {ci : Nat} {q : vw_C} (h : pm_cls[ci]? = some q) : ∀ a, a < q.2.2 → ∀ b, b < q.2.2 → a ≠ b → (q.2.1 a).2.1 ≠ (q.2.1 b).2.1 := by
  have hlt := pm_cls_lt h
  match ci, h, hlt with
  | 0, h, _ => cases h; exact nmX0
  | 1, h, _ => cases h; exact nmX1
  | 2, h, _ => cases h; exact nmX2
  | 3, h, _ => cases h; exact nmX3
  | 4, h, _ => cases h; exact nmX4
  | 5, h, _ => cases h; exact nmX5
  | 6, h, _ => cases h; exact nmX6
  | 7, h, _ => cases h; exact nmX7
  | 8, h, _ => cases h; exact nmX8
  | 9, h, _ => cases h; exact nmX9
  | 10, h, _ => cases h; exact nmX10
  | 11, h, _ => cases h; exact nmX11
  | n + 12, _, h => exact absurd h (by omega)
theorem pm_decl_all : pm_cls.all (fun q => (List.range q.2.2).all (fun k => decide ((q.2.1 k).1 = q.1))) = true := by decide +kernel
theorem pm_cls_decl {ci : Nat} {q : vw_C} (h : pm_cls[ci]? = some q) {k : Nat} (hk : k < q.2.2) : (q.2.1 k).1 = q.1 := by
  have := List.all_eq_true.mp pm_decl_all q (List.mem_of_getElem? h)
  have := List.all_eq_true.mp this k (List.mem_range.mpr hk)
  simpa using this
/-- a method as the tables have it -/
def pm_mOK (q : pm_M) : Prop := plainFor q.1 = true ∧ Cond.code q.1 q.2.1 q.2.2.1 q.2.2.2.1 ∈ pm_gw ∧ Cond.initialized q.1.cls ∈ pm_gw ∧ (q.1.cls ≠ "java/lang/invoke/MethodHandle" ∧ q.1.cls ≠ "java/lang/invoke/VarHandle") ∧ pm_own q.2.2.2.2.1 = q.1.cls ∧
  (∃ d, parseMethodDescriptor q.1.desc = some d ∧ ((d.parameters.length = q.2.2.2.2.2.1 ∧ Cond.static q.1 ∈ pm_gw) ∨ (d.parameters.length + 1 = q.2.2.2.2.2.1 ∧ Cond.instanceMethod q.1 ∈ pm_gw ∧ (q.1.name = "<init>" ∨ Cond.selects q.1.cls q.1 q.1 ∈ pm_gw)))) ∧ q.2.2.1 ≤ 22 ∧
  (∀ e ∈ q.2.2.2.2.2.2, decode q.2.1 e.1 = .ok (e.2.1, e.2.2.1)) ∧ ∀ e ∈ q.2.2.2.2.2.2, pm_rokB q.2.2.2.2.1 e = true
theorem pm_mOK_of {q : pm_M} {w : Nat × Nat × Nat × Nat} (ha : q.2.2.2.2.2.2.all (pm_decB q.2.1) = true) (hb : pm_mB q w = true) (hc : q.2.2.2.2.2.2.all (pm_rokB q.2.2.2.2.1) = true) (hd : Cond.code q.1 q.2.1 q.2.2.1 q.2.2.2.1 ∈ lw_tbl) : pm_mOK q := by
  unfold pm_mB at hb
  rw [Bool.and_eq_true, Bool.and_eq_true, Bool.and_eq_true, Bool.and_eq_true, Bool.and_eq_true, Bool.and_eq_true, Bool.and_eq_true] at hb
  obtain ⟨⟨⟨⟨⟨⟨⟨b1, b2⟩, b3⟩, b4⟩, b5⟩, b6⟩, b7⟩, b8⟩ := hb
  rw [decide_eq_true_eq] at b1 b4 b5 b8
  refine ⟨b3, List.mem_filter.mpr ⟨hd, b7⟩, pm_gw_of b1 b2, b4, b5, ?_, b8, fun e he => ?_, fun e he => List.all_eq_true.mp hc e he⟩
  · cases hp : parseMethodDescriptor q.1.desc with
    | none => rw [hp] at b6; cases b6
    | some d =>
      rw [hp] at b6
      simp only [Bool.or_eq_true, Bool.and_eq_true, decide_eq_true_eq] at b6
      refine ⟨d, rfl, ?_⟩
      rcases b6 with ⟨⟨g1, g2⟩, g3⟩ | ⟨⟨⟨g1, g2⟩, g3⟩, g4⟩
      · exact Or.inl ⟨g1, pm_gw_of g2 g3⟩
      · refine Or.inr ⟨g1, pm_gw_of g2 g3, ?_⟩
        rcases g4 with g4 | ⟨g4, g5⟩
        · exact Or.inl g4
        · exact Or.inr (pm_gw_of g4 g5)
  · have := List.all_eq_true.mp ha e he
    simpa [pm_decB] using this
theorem pm_ke0 : ∀ q ∈ pm_mtL0, pm_mOK q := by
  intro q hq
  obtain ⟨k, hk⟩ := List.getElem?_of_mem hq
  obtain ⟨w, -, hb⟩ := pm_zip pm_kb0 (Nat.le_of_ble_eq_true (by decide +kernel)) hk
  exact pm_mOK_of (pm_ka0 q hq) hb (List.all_eq_true.mp pm_kc0 q hq) (pm_kd0 q hq)
theorem pm_ke1 : ∀ q ∈ pm_mtL1, pm_mOK q := by
  intro q hq
  obtain ⟨k, hk⟩ := List.getElem?_of_mem hq
  obtain ⟨w, -, hb⟩ := pm_zip pm_kb1 (Nat.le_of_ble_eq_true (by decide +kernel)) hk
  exact pm_mOK_of (pm_ka1 q hq) hb (List.all_eq_true.mp pm_kc1 q hq) (pm_kd1 q hq)
theorem pm_ke2 : ∀ q ∈ pm_mtL2, pm_mOK q := by
  intro q hq
  obtain ⟨k, hk⟩ := List.getElem?_of_mem hq
  obtain ⟨w, -, hb⟩ := pm_zip pm_kb2 (Nat.le_of_ble_eq_true (by decide +kernel)) hk
  exact pm_mOK_of (pm_ka2 q hq) hb (List.all_eq_true.mp pm_kc2 q hq) (pm_kd2 q hq)
theorem pm_ke3 : ∀ q ∈ pm_mtL3, pm_mOK q := by
  intro q hq
  obtain ⟨k, hk⟩ := List.getElem?_of_mem hq
  obtain ⟨w, -, hb⟩ := pm_zip pm_kb3 (Nat.le_of_ble_eq_true (by decide +kernel)) hk
  exact pm_mOK_of (pm_ka3 q hq) hb (List.all_eq_true.mp pm_kc3 q hq) (pm_kd3 q hq)
theorem pm_ke4 : ∀ q ∈ pm_mtL4, pm_mOK q := by
  intro q hq
  obtain ⟨k, hk⟩ := List.getElem?_of_mem hq
  obtain ⟨w, -, hb⟩ := pm_zip pm_kb4 (Nat.le_of_ble_eq_true (by decide +kernel)) hk
  exact pm_mOK_of (pm_ka4 q hq) hb (List.all_eq_true.mp pm_kc4 q hq) (pm_kd4 q hq)
theorem pm_ke5 : ∀ q ∈ pm_mtL5, pm_mOK q := by
  intro q hq
  obtain ⟨k, hk⟩ := List.getElem?_of_mem hq
  obtain ⟨w, -, hb⟩ := pm_zip pm_kb5 (Nat.le_of_ble_eq_true (by decide +kernel)) hk
  exact pm_mOK_of (pm_ka5 q hq) hb (List.all_eq_true.mp pm_kc5 q hq) (pm_kd5 q hq)
theorem pm_ke6 : ∀ q ∈ pm_mtL6, pm_mOK q := by
  intro q hq
  obtain ⟨k, hk⟩ := List.getElem?_of_mem hq
  obtain ⟨w, -, hb⟩ := pm_zip pm_kb6 (Nat.le_of_ble_eq_true (by decide +kernel)) hk
  exact pm_mOK_of (pm_ka6 q hq) hb (List.all_eq_true.mp pm_kc6 q hq) (pm_kd6 q hq)
theorem pm_ke7 : ∀ q ∈ pm_mtL7, pm_mOK q := by
  intro q hq
  obtain ⟨k, hk⟩ := List.getElem?_of_mem hq
  obtain ⟨w, -, hb⟩ := pm_zip pm_kb7 (Nat.le_of_ble_eq_true (by decide +kernel)) hk
  exact pm_mOK_of (pm_ka7 q hq) hb (List.all_eq_true.mp pm_kc7 q hq) (pm_kd7 q hq)
theorem pm_ke8 : ∀ q ∈ pm_mtL8, pm_mOK q := by
  intro q hq
  obtain ⟨k, hk⟩ := List.getElem?_of_mem hq
  obtain ⟨w, -, hb⟩ := pm_zip pm_kb8 (Nat.le_of_ble_eq_true (by decide +kernel)) hk
  exact pm_mOK_of (pm_ka8 q hq) hb (List.all_eq_true.mp pm_kc8 q hq) (pm_kd8 q hq)
theorem pm_mOKs : ∀ q ∈ pm_mtL, pm_mOK q := List.forall_mem_append.mpr ⟨pm_ke0, List.forall_mem_append.mpr ⟨pm_ke1, List.forall_mem_append.mpr ⟨pm_ke2, List.forall_mem_append.mpr ⟨pm_ke3, List.forall_mem_append.mpr ⟨pm_ke4, List.forall_mem_append.mpr ⟨pm_ke5, List.forall_mem_append.mpr ⟨pm_ke6, List.forall_mem_append.mpr ⟨pm_ke7, pm_ke8⟩⟩⟩⟩⟩⟩⟩⟩
theorem pm_mt_ok {mid : Nat} {q : pm_M} (h : pm_mtL[mid]? = some q) : pm_mOK q := pm_mOKs q (List.mem_of_getElem? h)
end
section
/-! THE SIMULATION: what a step of the pure machine does, the machine does -/
/-- the goal at a pure state -/
def pm_K (p : Program) (l : Launch) (e : Env) (R : Room) (s : State) (m : MethodId) (args : Array Value) (below : List Frame) (meth : Method) (c : Code) (Q : State → Prop) (base : Nat) (D : va_G) (dA : Nat → ClassId) (adr : Nat → Nat) (fo : Value) (nL c0 s0 : Nat) (t : pm_S) : Prop :=
  ∀ (H : Heap) (locs : List Loc) (lsA : Array Slot), pm_W base D dA adr fo t.2.2.2 H → va_S (pm_A base) s.heap H locs → pm_L base adr fo lsA t.2.1 → pm_nd t.2.1 → t.2.1.length = nL → c0 ≤ t.2.2.2.1 → s0 ≤ t.2.2.2.2.1 →
    W p l e R s m args below meth c H locs (t.2.2.2.1 - c0) (t.2.2.2.2.1 - s0) Q (F0 m t.1 lsA (t.2.2.1.map (pm_emb base adr fo)))
/-- what holds all through a method -/
def pm_Fx (p : Program) (s : State) (m : MethodId) (args : Array Value) (meth : Method) (c : Code) (cc : ByteArray) (nL o : Nat) (ini : Bool) (base : Nat) (D : va_G) (dA : Nat → ClassId) (adr : Nat → Nat) (fo : Value) (L : Nat) (xs : Nat → Int32) (c0 : Nat) : Prop :=
  p.tables.exec = Jvm.exec ∧ c.code = cc ∧ c.maxLocals = nL ∧ s.vm.findClass (pm_own o) = some m.cls ∧ (∀ w ∈ pm_gw, w.before args s = true) ∧ (ini = true → meth.name = "<init>") ∧ pm_F base D dA adr fo L xs s ∧ s.heap.size = base + c0
def pm_ws (q : pm_M) : List Cond := .code q.1 q.2.1 q.2.2.1 q.2.2.2.1 :: pm_gw
def pm_Q (base : Nat) (D : va_G) (dA : Nat → ClassId) (adr : Nat → Nat) (fo : Value) (h : pm_H) (r : Option Value) : Array Value → State → Outcome → State → Prop := fun _ st oc t => oc = .returned (r.map (pm_emb base adr fo)) ∧ pm_W base D dA adr fo h t.heap ∧ va_F (pm_A base) st t
/-- a method's contract, for one run of the pure machine -/
def pm_Met (l : Launch) (base : Nat) (D : va_G) (dA : Nat → ClassId) (adr : Nat → Nat) (fo : Value) (L : Nat) (xs : Nat → Int32) (d mid : Nat) (as : List Value) (h h' : pm_H) (r : Option Value) : Prop :=
  ∀ q, pm_mtL[mid]? = some q → Met l q.1 (pm_ws q) { frames := d, cells := h'.1 - h.1, slots := h'.2.1 - h.2.1, locals := 64 * d } (va_Pc (as.map (pm_emb base adr fo)) (fun U => pm_F base D dA adr fo L xs U ∧ pm_W base D dA adr fo h U.heap)) (pm_Q base D dA adr fo h' r) (h'.1 - h.1) (h'.2.1 - h.2.1) (pm_A base)
def pm_Call (l : Launch) (base : Nat) (D : va_G) (dA : Nat → ClassId) (adr : Nat → Nat) (fo : Value) (L : Nat) (xs : Nat → Int32) (d : Nat) (call : Nat → List Value → pm_H → Option pm_R) : Prop :=
  ∀ mid as h h' r, call mid as h = some (h', r) → h.1 ≤ h'.1 ∧ h.2.1 ≤ h'.2.1 ∧ pm_Met l base D dA adr fo L xs d mid as h h' r
section SIM
variable {p : Program} {l : Launch} {e : Env} {R : Room} {s : State} {m : MethodId} {args : Array Value} {below : List Frame} {meth : Method} {c : Code} {Q : State → Prop}
variable {base : Nat} {D : va_G} {dA : Nat → ClassId} {adr : Nat → Nat} {fo : Value} {L : Nat} {xs : Nat → Int32} {nL c0 s0 o d : Nat} {ini : Bool} {cc : ByteArray} {X : pm_X} {call : Nat → List Value → pm_H → Option pm_R} {ret : Option FieldType}
variable {pc len a b : Nat} {ls : pm_Ls} {st : List Value} {h : pm_H} {v : Value} {s' : pm_S}
theorem pm_len1 {i : Instr} (h : pm_rokB o (pc, i, len, a, b, v) = true) (h1 : pm_rokB o (pc, i, len, a, b, v) = (len == 1)) : len = 1 := by
  rw [h1] at h
  simpa using h
theorem pm_go_inv {pc' : Nat} {ls' : pm_Ls} {st' : List Value} {h' : pm_H} (hs : pm_go pc' ls' st' h' = some (.inl s')) : s' = (pc', ls', st', h') := (Sum.inl.inj (Option.some.inj hs)).symm
theorem pm_Wsz {H : Heap} {locs : List Loc} {cells slots : Nat} {g : JFrame} (k : H.size ≤ s.heap.size + cells → W p l e R s m args below meth c H locs cells slots Q g) : W p l e R s m args below meth c H locs cells slots Q g := fun T hT Z => k (by rw [← hT]; exact Z.heapSize) T hT Z
theorem pm_obj_inv {w : Value} {x : Nat × Nat × List Value} (hx : pm_obj h w = some x) : w = .ref x.1 ∧ x.1 < h.1 ∧ h.2.2 x.1 = .inr x.2 := by
  cases w with
  | ref q =>
    have hx : (bif decide (q < h.1) then (match h.2.2 q with
      | .inr x => some (q, x)
      | .inl _ => none) else none) = some x := hx
    by_cases hq : q < h.1
    · rw [decide_eq_true hq] at hx
      cases hc : h.2.2 q with
      | inl y => rw [hc] at hx; cases hx
      | inr y => rw [hc] at hx; cases hx; exact ⟨rfl, hq, hc⟩
    · rw [decide_eq_false hq] at hx; cases hx
  | _ => cases hx
theorem pm_arr_inv {q : Nat} {x : Nat × vp_A} (hx : pm_arr X h (.ref q) = some x) : q < h.1 ∧ h.2.2 q = .inl x := by
  have hx : (bif decide (q < h.1) then (match h.2.2 q with
      | .inl x => some x
      | .inr _ => none) else none) = some x := hx
  by_cases hq : q < h.1
  · rw [decide_eq_true hq] at hx
    cases hc : h.2.2 q with
    | inr y => rw [hc] at hx; cases hx
    | inl y => rw [hc] at hx; cases hx; exact ⟨hq, rfl⟩
  · rw [decide_eq_false hq] at hx; cases hx
/-- an array is one of ours, or was there before -/
theorem pm_arr_or {w : Value} {x : Nat × vp_A} (hx : pm_arr X h w = some x) : (∃ q, w = .ref q ∧ q < h.1 ∧ h.2.2 q = .inl x) ∨ ∃ k y, w = .retAddr k ∧ X k = some y ∧ x = (y.1, y.2.1, .inl y.2.2) := by
  cases w with
  | ref q => exact Or.inl ⟨q, rfl, pm_arr_inv hx⟩
  | retAddr k =>
    have hx : (match X k with
    | some x => some (x.1, x.2.1, Sum.inl x.2.2)
    | none => none) = some x := hx
    cases hc : X k with
    | none => rw [hc] at hx; cases hx
    | some y => rw [hc] at hx; cases hx; exact Or.inr ⟨k, y, rfl, hc, rfl⟩
  | _ => cases hx
theorem pm_in_iff {i : Int32} {n : Nat} (hi : pm_in i n = true) : vp_in i n := by
  unfold pm_in at hi
  simp only [Bool.and_eq_true, Bool.not_eq_true', decide_eq_false_iff_not, decide_eq_true_eq] at hi
  rintro (q | q)
  · exact hi.1 q
  · omega
theorem pm_at_arr {H : Heap} {q : Nat} {x : Nat × vp_A} (hW : pm_W base D dA adr fo h H) (hq : q < h.1) (hc : h.2.2 q = .inl x) : (pm_wl base dA adr fo h)[q]? = some (base + q, .inl (dA x.1, pm_embA base x.2)) := by
  rw [pm_wl_get hq, hc]
  rfl
theorem pm_at_obj {H : Heap} {q : Nat} {x : Nat × List Value} (hW : pm_W base D dA adr fo h H) (hq : q < h.1) (hc : h.2.2 q = .inr x) : (pm_wl base dA adr fo h)[q]? = some (base + q, .inr (x.1, x.2.map (pm_emb base adr fo))) := by
  rw [pm_wl_get hq, hc]
  rfl
/-- behind a store: the size is as it was -/
theorem pm_store {h' : pm_H} {H1 : Heap} {locs1 locs : List Loc} {H : Heap} {pc' : Nat} {ls' : pm_Ls} {st' : List Value} {lsA : Array Slot} (fx : pm_Fx p s m args meth c cc nL o ini base D dA adr fo L xs c0) (hW : pm_W base D dA adr fo h H) (hS : va_S (pm_A base) s.heap H locs) (hc : c0 ≤ h.1) (hs : s0 ≤ h.2.1) (hl : pm_L base adr fo lsA ls') (hn : pm_nd ls') (hz : ls'.length = nL)
    (e1 : h'.1 = h.1) (e2 : h'.2.1 = h.2.1) (hP : va_P D pm_cls (pm_wl base dA adr fo h') H1) (hS1 : va_S (pm_A base) H H1 locs1) (k : pm_K p l e R s m args below meth c Q base D dA adr fo nL c0 s0 (pc', ls', st', h')) :
    W p l e R s m args below meth c H1 locs1 (h.1 - c0) (h.2.1 - s0) Q (F0 m pc' lsA (st'.map (pm_emb base adr fo))) := by
  refine pm_Wsz (fun hz1 => ?_)
  have hbc := fx.2.2.2.2.2.2.2
  have hz0 := hW.1
  have hsz : H1.size = base + h'.1 := by
    have := hS1.1
    rw [hbc] at hz1
    omega
  have := k H1 locs1 lsA (pm_W.of hsz hP) ⟨Nat.le_trans hS.1 hS1.1, fun q g1 g2 => (hS1.2.1 q (Nat.lt_of_lt_of_le g1 hS.1) g2).trans (hS.2.1 q g1 g2), hS1.2.2⟩ hl hn hz (by show c0 ≤ h'.1; omega) (by show s0 ≤ h'.2.1; omega)
  have this : W p l e R s m args below meth c H1 locs1 (h'.1 - c0) (h'.2.1 - s0) Q (F0 m pc' lsA (st'.map (pm_emb base adr fo))) := this
  rw [e1, e2] at this
  exact this
theorem pm_S0 {H : Heap} {locs : List Loc} (hS : va_S (pm_A base) s.heap H locs) : va_S (pm_A base) H H locs := ⟨Nat.le_refl _, fun _ _ _ => rfl, hS.2.2⟩
/-- behind a new cell -/
theorem pm_newc {H1 : Heap} {locs1 : List Loc} {H : Heap} {locs : List Loc} {pc' : Nat} {ls' : pm_Ls} {r : List Value} {lsA : Array Slot} {q n : Nat} {x : pm_C} (fx : pm_Fx p s m args meth c cc nL o ini base D dA adr fo L xs c0) (hW : pm_W base D dA adr fo h H) (hS : va_S (pm_A base) s.heap H locs) (hc : c0 ≤ h.1) (hs : s0 ≤ h.2.1) (hl : pm_L base adr fo lsA ls') (hn : pm_nd ls') (hz : ls'.length = nL)
    (hP : va_P D pm_cls (pm_wl base dA adr fo h ++ [(q, pm_embE base dA adr fo x)]) H1) (hD : va_D (pm_A base) (pm_wl base dA adr fo h ++ [(q, pm_embE base dA adr fo x)])) (hS1 : va_S (pm_A base) H H1 locs1) (k : pm_K p l e R s m args below meth c Q base D dA adr fo nL c0 s0 (pc', ls', .ref h.1 :: r, pm_hpush h n x)) :
    W p l e R s m args below meth c H1 locs1 (h.1 - c0 + 1) (h.2.1 - s0 + n) Q (F0 m pc' lsA (.ref q :: r.map (pm_emb base adr fo))) := by
  refine pm_Wsz (fun hz1 => ?_)
  have hbc := fx.2.2.2.2.2.2.2
  have hz0 := hW.1
  have hlen : (pm_wl base dA adr fo h).length = h.1 := by unfold pm_wl; simp
  have hlast : (pm_wl base dA adr fo h ++ [(q, pm_embE base dA adr fo x)])[h.1]? = some (q, pm_embE base dA adr fo x) := by
    rw [List.getElem?_append_right (by omega), hlen, Nat.sub_self]
    rfl
  have hq1 : q < H1.size := (hP h.1 _ hlast).lt
  have hq2 : base ≤ q := hD.2 h.1 _ hlast
  have hq3 : ¬ q < base + h.1 := by
    intro hlt
    have hk : q - base < h.1 := by omega
    have h2 : (pm_wl base dA adr fo h ++ [(q, pm_embE base dA adr fo x)])[q - base]? = some (base + (q - base), pm_embE base dA adr fo (h.2.2 (q - base))) := by
      rw [List.getElem?_append_left (by omega), pm_wl_get hk]
    have := hD.1 _ _ _ _ h2 hlast (by show base + (q - base) = q; omega)
    omega
  rw [hbc] at hz1
  have hqe : q = base + h.1 := by omega
  have hsz : H1.size = base + (h.1 + 1) := by omega
  subst hqe
  rw [pm_wl_push (n := n)] at hP
  have := k H1 locs1 lsA (pm_W.of hsz hP) ⟨Nat.le_trans hS.1 hS1.1, fun q g1 g2 => (hS1.2.1 q (Nat.lt_of_lt_of_le g1 hS.1) g2).trans (hS.2.1 q g1 g2), hS1.2.2⟩ hl hn hz (by show c0 ≤ h.1 + 1; omega) (by show s0 ≤ h.2.1 + n; omega)
  have this : W p l e R s m args below meth c H1 locs1 (h.1 + 1 - c0) (h.2.1 + n - s0) Q (F0 m pc' lsA (.ref (base + h.1) :: r.map (pm_emb base adr fo))) := this
  rw [show h.1 - c0 + 1 = h.1 + 1 - c0 by omega, show h.2.1 - s0 + n = h.2.1 + n - s0 by omega]
  exact this
theorem pm_i2_inv {pc' : Nat} {f : Int32 → Int32 → Int32} (hs : pm_i2 pc' ls st h f = some (.inl s')) : ∃ x y r, st = .int y :: .int x :: r ∧ s' = (pc', ls, .int (f x y) :: r, h) := by
  unfold pm_i2 at hs
  split at hs
  · exact ⟨_, _, _, rfl, pm_go_inv hs⟩
  · cases hs
theorem pm_l2_inv {pc' : Nat} {f : Int64 → Int64 → Int64} (hs : pm_l2 pc' ls st h f = some (.inl s')) : ∃ x y r, st = .long y :: .long x :: r ∧ s' = (pc', ls, .long (f x y) :: r, h) := by
  unfold pm_l2 at hs
  split at hs
  · exact ⟨_, _, _, rfl, pm_go_inv hs⟩
  · cases hs
theorem pm_ldi_inv {pc' k : Nat} (hs : pm_ldi pc' ls st h k = some (.inl s')) : ∃ x, pm_ld ls k = some (.int x) ∧ s' = (pc', ls, .int x :: st, h) := by
  unfold pm_ldi at hs
  split at hs
  · next hx => exact ⟨_, hx, pm_go_inv hs⟩
  · cases hs
theorem pm_ldl_inv {pc' k : Nat} (hs : pm_ldl pc' ls st h k = some (.inl s')) : ∃ x, pm_ld ls k = some (.long x) ∧ s' = (pc', ls, .long x :: st, h) := by
  unfold pm_ldl at hs
  split at hs
  · next hx => exact ⟨_, hx, pm_go_inv hs⟩
  · cases hs
theorem pm_lda_inv {pc' k : Nat} (hs : pm_lda pc' ls st h k = some (.inl s')) : ∃ x, pm_ld ls k = some x ∧ pm_isR x = true ∧ s' = (pc', ls, x :: st, h) := by
  unfold pm_lda at hs
  split at hs
  · next w hx =>
    cases hr : pm_isR w with
    | false => rw [hr] at hs; cases hs
    | true => rw [hr] at hs; exact ⟨_, hx, hr, pm_go_inv hs⟩
  · cases hs
theorem pm_sti_inv {pc' k : Nat} (hs : pm_sti pc' ls st h k = some (.inl s')) : ∃ x r, st = .int x :: r ∧ k < ls.length ∧ s' = (pc', pm_st1 ls k (.int x), r, h) := by
  unfold pm_sti at hs
  split at hs
  · by_cases hk : k < ls.length
    · rw [decide_eq_true hk] at hs; exact ⟨_, _, rfl, hk, pm_go_inv hs⟩
    · rw [decide_eq_false hk] at hs; cases hs
  · cases hs
theorem pm_stl_inv {pc' k : Nat} (hs : pm_stl pc' ls st h k = some (.inl s')) : ∃ x r, st = .long x :: r ∧ k + 1 < ls.length ∧ s' = (pc', pm_st2 ls k (.long x), r, h) := by
  unfold pm_stl at hs
  split at hs
  · by_cases hk : k + 1 < ls.length
    · rw [decide_eq_true hk] at hs; exact ⟨_, _, rfl, hk, pm_go_inv hs⟩
    · rw [decide_eq_false hk] at hs; cases hs
  · cases hs
theorem pm_sta_inv {pc' k : Nat} (hs : pm_sta pc' ls st h k = some (.inl s')) : ∃ x r, st = x :: r ∧ pm_isR x = true ∧ k < ls.length ∧ s' = (pc', pm_st1 ls k x, r, h) := by
  unfold pm_sta at hs
  split at hs
  · next w r =>
    cases hr : pm_isR w with
    | false => rw [hr] at hs; cases hs
    | true =>
      rw [hr] at hs
      by_cases hk : k < ls.length
      · rw [decide_eq_true hk] at hs; exact ⟨_, _, rfl, hr, hk, pm_go_inv hs⟩
      · rw [decide_eq_false hk] at hs; cases hs
  · cases hs
/-- a reference, in the machine -/
theorem pm_isR_emb {x : Value} (hx : pm_isR x = true) (hfo : fo = .null ∨ ∃ q, fo = .ref q) : pm_emb base adr fo x = .null ∨ ∃ q, pm_emb base adr fo x = .ref q := by
  cases x with
  | ref k => exact Or.inr ⟨_, rfl⟩
  | null => exact Or.inl rfl
  | retAddr k =>
    show (bif k == 300 then fo else Value.ref (adr k)) = .null ∨ ∃ q, (bif k == 300 then fo else Value.ref (adr k)) = .ref q
    cases (k == 300) with
    | true => exact hfo
    | false => exact Or.inr ⟨_, rfl⟩
  | _ => cases hx
theorem pm_cat1_emb {x : Value} (hx : pm_cat1 x = true) (hfo : fo = .null ∨ ∃ q, fo = .ref q) : (pm_emb base adr fo x).category = 1 := by
  cases x with
  | int k => rfl
  | ref k => rfl
  | null => rfl
  | retAddr k =>
    show (bif k == 300 then fo else Value.ref (adr k)).category = 1
    cases (k == 300) with
    | true => rcases hfo with rfl | ⟨q, rfl⟩ <;> rfl
    | false => rfl
  | _ => cases hx
theorem pm_isR_nd {x : Value} (hx : pm_isR x = true) : ∀ y, x ≠ .double y := by
  rintro y rfl
  cases hx
theorem pm_t_iadd (fx : pm_Fx p s m args meth c cc nL o ini base D dA adr fo L xs c0) (hd : decode cc pc = .ok (.iadd, len)) (hr : pm_rokB o (pc, .iadd, len, a, b, v) = true) (hst : pm_step X call o ini ret pc ls st h (.iadd) len a b v = some (.inl s')) (k : pm_K p l e R s m args below meth c Q base D dA adr fo nL c0 s0 s') : pm_K p l e R s m args below meth c Q base D dA adr fo nL c0 s0 (pc, ls, st, h) := by
  obtain rfl := pm_len1 hr rfl
  obtain ⟨x, y, r, rfl, rfl⟩ := pm_i2_inv hst
  intro H locs lsA hW hS hl hn hz hc hs
  exact lv_iadd fx.1 fx.2.1 hd (k H locs lsA hW hS hl hn hz hc hs)
theorem pm_t_isub (fx : pm_Fx p s m args meth c cc nL o ini base D dA adr fo L xs c0) (hd : decode cc pc = .ok (.isub, len)) (hr : pm_rokB o (pc, .isub, len, a, b, v) = true) (hst : pm_step X call o ini ret pc ls st h (.isub) len a b v = some (.inl s')) (k : pm_K p l e R s m args below meth c Q base D dA adr fo nL c0 s0 s') : pm_K p l e R s m args below meth c Q base D dA adr fo nL c0 s0 (pc, ls, st, h) := by
  obtain rfl := pm_len1 hr rfl
  obtain ⟨x, y, r, rfl, rfl⟩ := pm_i2_inv hst
  intro H locs lsA hW hS hl hn hz hc hs
  exact lv_isub fx.1 fx.2.1 hd (k H locs lsA hW hS hl hn hz hc hs)
theorem pm_t_imul (fx : pm_Fx p s m args meth c cc nL o ini base D dA adr fo L xs c0) (hd : decode cc pc = .ok (.imul, len)) (hr : pm_rokB o (pc, .imul, len, a, b, v) = true) (hst : pm_step X call o ini ret pc ls st h (.imul) len a b v = some (.inl s')) (k : pm_K p l e R s m args below meth c Q base D dA adr fo nL c0 s0 s') : pm_K p l e R s m args below meth c Q base D dA adr fo nL c0 s0 (pc, ls, st, h) := by
  obtain rfl := pm_len1 hr rfl
  obtain ⟨x, y, r, rfl, rfl⟩ := pm_i2_inv hst
  intro H locs lsA hW hS hl hn hz hc hs
  exact lv_imul fx.1 fx.2.1 hd (k H locs lsA hW hS hl hn hz hc hs)
theorem pm_t_iand (fx : pm_Fx p s m args meth c cc nL o ini base D dA adr fo L xs c0) (hd : decode cc pc = .ok (.iand, len)) (hr : pm_rokB o (pc, .iand, len, a, b, v) = true) (hst : pm_step X call o ini ret pc ls st h (.iand) len a b v = some (.inl s')) (k : pm_K p l e R s m args below meth c Q base D dA adr fo nL c0 s0 s') : pm_K p l e R s m args below meth c Q base D dA adr fo nL c0 s0 (pc, ls, st, h) := by
  obtain rfl := pm_len1 hr rfl
  obtain ⟨x, y, r, rfl, rfl⟩ := pm_i2_inv hst
  intro H locs lsA hW hS hl hn hz hc hs
  exact lv_iand fx.1 fx.2.1 hd (k H locs lsA hW hS hl hn hz hc hs)
theorem pm_t_ior (fx : pm_Fx p s m args meth c cc nL o ini base D dA adr fo L xs c0) (hd : decode cc pc = .ok (.ior, len)) (hr : pm_rokB o (pc, .ior, len, a, b, v) = true) (hst : pm_step X call o ini ret pc ls st h (.ior) len a b v = some (.inl s')) (k : pm_K p l e R s m args below meth c Q base D dA adr fo nL c0 s0 s') : pm_K p l e R s m args below meth c Q base D dA adr fo nL c0 s0 (pc, ls, st, h) := by
  obtain rfl := pm_len1 hr rfl
  obtain ⟨x, y, r, rfl, rfl⟩ := pm_i2_inv hst
  intro H locs lsA hW hS hl hn hz hc hs
  exact lv_ior fx.1 fx.2.1 hd (k H locs lsA hW hS hl hn hz hc hs)
theorem pm_t_ixor (fx : pm_Fx p s m args meth c cc nL o ini base D dA adr fo L xs c0) (hd : decode cc pc = .ok (.ixor, len)) (hr : pm_rokB o (pc, .ixor, len, a, b, v) = true) (hst : pm_step X call o ini ret pc ls st h (.ixor) len a b v = some (.inl s')) (k : pm_K p l e R s m args below meth c Q base D dA adr fo nL c0 s0 s') : pm_K p l e R s m args below meth c Q base D dA adr fo nL c0 s0 (pc, ls, st, h) := by
  obtain rfl := pm_len1 hr rfl
  obtain ⟨x, y, r, rfl, rfl⟩ := pm_i2_inv hst
  intro H locs lsA hW hS hl hn hz hc hs
  exact lv_ixor fx.1 fx.2.1 hd (k H locs lsA hW hS hl hn hz hc hs)
theorem pm_t_ishl (fx : pm_Fx p s m args meth c cc nL o ini base D dA adr fo L xs c0) (hd : decode cc pc = .ok (.ishl, len)) (hr : pm_rokB o (pc, .ishl, len, a, b, v) = true) (hst : pm_step X call o ini ret pc ls st h (.ishl) len a b v = some (.inl s')) (k : pm_K p l e R s m args below meth c Q base D dA adr fo nL c0 s0 s') : pm_K p l e R s m args below meth c Q base D dA adr fo nL c0 s0 (pc, ls, st, h) := by
  obtain rfl := pm_len1 hr rfl
  obtain ⟨x, y, r, rfl, rfl⟩ := pm_i2_inv hst
  intro H locs lsA hW hS hl hn hz hc hs
  exact lv_ishl fx.1 fx.2.1 hd (k H locs lsA hW hS hl hn hz hc hs)
theorem pm_t_ishr (fx : pm_Fx p s m args meth c cc nL o ini base D dA adr fo L xs c0) (hd : decode cc pc = .ok (.ishr, len)) (hr : pm_rokB o (pc, .ishr, len, a, b, v) = true) (hst : pm_step X call o ini ret pc ls st h (.ishr) len a b v = some (.inl s')) (k : pm_K p l e R s m args below meth c Q base D dA adr fo nL c0 s0 s') : pm_K p l e R s m args below meth c Q base D dA adr fo nL c0 s0 (pc, ls, st, h) := by
  obtain rfl := pm_len1 hr rfl
  obtain ⟨x, y, r, rfl, rfl⟩ := pm_i2_inv hst
  intro H locs lsA hW hS hl hn hz hc hs
  exact lv_ishr fx.1 fx.2.1 hd (k H locs lsA hW hS hl hn hz hc hs)
theorem pm_t_iushr (fx : pm_Fx p s m args meth c cc nL o ini base D dA adr fo L xs c0) (hd : decode cc pc = .ok (.iushr, len)) (hr : pm_rokB o (pc, .iushr, len, a, b, v) = true) (hst : pm_step X call o ini ret pc ls st h (.iushr) len a b v = some (.inl s')) (k : pm_K p l e R s m args below meth c Q base D dA adr fo nL c0 s0 s') : pm_K p l e R s m args below meth c Q base D dA adr fo nL c0 s0 (pc, ls, st, h) := by
  obtain rfl := pm_len1 hr rfl
  obtain ⟨x, y, r, rfl, rfl⟩ := pm_i2_inv hst
  intro H locs lsA hW hS hl hn hz hc hs
  exact lv_iushr fx.1 fx.2.1 hd rfl (k H locs lsA hW hS hl hn hz hc hs)
theorem pm_t_ladd (fx : pm_Fx p s m args meth c cc nL o ini base D dA adr fo L xs c0) (hd : decode cc pc = .ok (.ladd, len)) (hr : pm_rokB o (pc, .ladd, len, a, b, v) = true) (hst : pm_step X call o ini ret pc ls st h (.ladd) len a b v = some (.inl s')) (k : pm_K p l e R s m args below meth c Q base D dA adr fo nL c0 s0 s') : pm_K p l e R s m args below meth c Q base D dA adr fo nL c0 s0 (pc, ls, st, h) := by
  obtain rfl := pm_len1 hr rfl
  obtain ⟨x, y, r, rfl, rfl⟩ := pm_l2_inv hst
  intro H locs lsA hW hS hl hn hz hc hs
  exact lv_ladd fx.1 fx.2.1 hd (k H locs lsA hW hS hl hn hz hc hs)
theorem pm_t_lsub (fx : pm_Fx p s m args meth c cc nL o ini base D dA adr fo L xs c0) (hd : decode cc pc = .ok (.lsub, len)) (hr : pm_rokB o (pc, .lsub, len, a, b, v) = true) (hst : pm_step X call o ini ret pc ls st h (.lsub) len a b v = some (.inl s')) (k : pm_K p l e R s m args below meth c Q base D dA adr fo nL c0 s0 s') : pm_K p l e R s m args below meth c Q base D dA adr fo nL c0 s0 (pc, ls, st, h) := by
  obtain rfl := pm_len1 hr rfl
  obtain ⟨x, y, r, rfl, rfl⟩ := pm_l2_inv hst
  intro H locs lsA hW hS hl hn hz hc hs
  exact lv_lsub fx.1 fx.2.1 hd (k H locs lsA hW hS hl hn hz hc hs)
theorem pm_t_lmul (fx : pm_Fx p s m args meth c cc nL o ini base D dA adr fo L xs c0) (hd : decode cc pc = .ok (.lmul, len)) (hr : pm_rokB o (pc, .lmul, len, a, b, v) = true) (hst : pm_step X call o ini ret pc ls st h (.lmul) len a b v = some (.inl s')) (k : pm_K p l e R s m args below meth c Q base D dA adr fo nL c0 s0 s') : pm_K p l e R s m args below meth c Q base D dA adr fo nL c0 s0 (pc, ls, st, h) := by
  obtain rfl := pm_len1 hr rfl
  obtain ⟨x, y, r, rfl, rfl⟩ := pm_l2_inv hst
  intro H locs lsA hW hS hl hn hz hc hs
  exact lv_lmul fx.1 fx.2.1 hd (k H locs lsA hW hS hl hn hz hc hs)
theorem pm_t_idiv (fx : pm_Fx p s m args meth c cc nL o ini base D dA adr fo L xs c0) (hd : decode cc pc = .ok (.idiv, len)) (hr : pm_rokB o (pc, .idiv, len, a, b, v) = true) (hst : pm_step X call o ini ret pc ls st h (.idiv) len a b v = some (.inl s')) (k : pm_K p l e R s m args below meth c Q base D dA adr fo nL c0 s0 s') : pm_K p l e R s m args below meth c Q base D dA adr fo nL c0 s0 (pc, ls, st, h) := by
  obtain rfl := pm_len1 hr rfl
  replace hst : (match st with
    | .int y :: .int x :: r => bif decide (y = 0) then none else pm_go (pc + 1) ls (.int (x / y) :: r) h
    | _ => none) = some (.inl s') := hst
  split at hst
  · next y x r =>
    by_cases hy : y = 0
    · rw [decide_eq_true hy] at hst; cases hst
    · rw [decide_eq_false hy] at hst
      obtain rfl := pm_go_inv hst
      intro H locs lsA hW hS hl hn hz hc hs
      exact lv_idiv fx.1 fx.2.1 hd hy (k H locs lsA hW hS hl hn hz hc hs)
  · cases hst
theorem pm_t_irem (fx : pm_Fx p s m args meth c cc nL o ini base D dA adr fo L xs c0) (hd : decode cc pc = .ok (.irem, len)) (hr : pm_rokB o (pc, .irem, len, a, b, v) = true) (hst : pm_step X call o ini ret pc ls st h (.irem) len a b v = some (.inl s')) (k : pm_K p l e R s m args below meth c Q base D dA adr fo nL c0 s0 s') : pm_K p l e R s m args below meth c Q base D dA adr fo nL c0 s0 (pc, ls, st, h) := by
  obtain rfl := pm_len1 hr rfl
  replace hst : (match st with
    | .int y :: .int x :: r => bif decide (y = 0) then none else pm_go (pc + 1) ls (.int (x - x / y * y) :: r) h
    | _ => none) = some (.inl s') := hst
  split at hst
  · next y x r =>
    by_cases hy : y = 0
    · rw [decide_eq_true hy] at hst; cases hst
    · rw [decide_eq_false hy] at hst
      obtain rfl := pm_go_inv hst
      intro H locs lsA hW hS hl hn hz hc hs
      exact lv_irem fx.1 fx.2.1 hd hy (k H locs lsA hW hS hl hn hz hc hs)
  · cases hst
theorem pm_t_ldiv (fx : pm_Fx p s m args meth c cc nL o ini base D dA adr fo L xs c0) (hd : decode cc pc = .ok (.ldiv, len)) (hr : pm_rokB o (pc, .ldiv, len, a, b, v) = true) (hst : pm_step X call o ini ret pc ls st h (.ldiv) len a b v = some (.inl s')) (k : pm_K p l e R s m args below meth c Q base D dA adr fo nL c0 s0 s') : pm_K p l e R s m args below meth c Q base D dA adr fo nL c0 s0 (pc, ls, st, h) := by
  obtain rfl := pm_len1 hr rfl
  replace hst : (match st with
    | .long y :: .long x :: r => bif decide (y = 0) then none else pm_go (pc + 1) ls (.long (x / y) :: r) h
    | _ => none) = some (.inl s') := hst
  split at hst
  · next y x r =>
    by_cases hy : y = 0
    · rw [decide_eq_true hy] at hst; cases hst
    · rw [decide_eq_false hy] at hst
      obtain rfl := pm_go_inv hst
      intro H locs lsA hW hS hl hn hz hc hs
      exact lv_ldiv fx.1 fx.2.1 hd hy (k H locs lsA hW hS hl hn hz hc hs)
  · cases hst
theorem pm_t_lrem (fx : pm_Fx p s m args meth c cc nL o ini base D dA adr fo L xs c0) (hd : decode cc pc = .ok (.lrem, len)) (hr : pm_rokB o (pc, .lrem, len, a, b, v) = true) (hst : pm_step X call o ini ret pc ls st h (.lrem) len a b v = some (.inl s')) (k : pm_K p l e R s m args below meth c Q base D dA adr fo nL c0 s0 s') : pm_K p l e R s m args below meth c Q base D dA adr fo nL c0 s0 (pc, ls, st, h) := by
  obtain rfl := pm_len1 hr rfl
  replace hst : (match st with
    | .long y :: .long x :: r => bif decide (y = 0) then none else pm_go (pc + 1) ls (.long (x - x / y * y) :: r) h
    | _ => none) = some (.inl s') := hst
  split at hst
  · next y x r =>
    by_cases hy : y = 0
    · rw [decide_eq_true hy] at hst; cases hst
    · rw [decide_eq_false hy] at hst
      obtain rfl := pm_go_inv hst
      intro H locs lsA hW hS hl hn hz hc hs
      exact lv_lrem fx.1 fx.2.1 hd hy (k H locs lsA hW hS hl hn hz hc hs)
  · cases hst
theorem pm_t_ineg (fx : pm_Fx p s m args meth c cc nL o ini base D dA adr fo L xs c0) (hd : decode cc pc = .ok (.ineg, len)) (hr : pm_rokB o (pc, .ineg, len, a, b, v) = true) (hst : pm_step X call o ini ret pc ls st h (.ineg) len a b v = some (.inl s')) (k : pm_K p l e R s m args below meth c Q base D dA adr fo nL c0 s0 s') : pm_K p l e R s m args below meth c Q base D dA adr fo nL c0 s0 (pc, ls, st, h) := by
  obtain rfl := pm_len1 hr rfl
  replace hst : (match st with
    | .int x :: r => pm_go (pc + 1) ls (.int (-x) :: r) h
    | _ => none) = some (.inl s') := hst
  split at hst
  · obtain rfl := pm_go_inv hst
    intro H locs lsA hW hS hl hn hz hc hs
    exact lv_ineg fx.1 fx.2.1 hd (k H locs lsA hW hS hl hn hz hc hs)
  · cases hst
theorem pm_t_lcmp (fx : pm_Fx p s m args meth c cc nL o ini base D dA adr fo L xs c0) (hd : decode cc pc = .ok (.lcmp, len)) (hr : pm_rokB o (pc, .lcmp, len, a, b, v) = true) (hst : pm_step X call o ini ret pc ls st h (.lcmp) len a b v = some (.inl s')) (k : pm_K p l e R s m args below meth c Q base D dA adr fo nL c0 s0 s') : pm_K p l e R s m args below meth c Q base D dA adr fo nL c0 s0 (pc, ls, st, h) := by
  obtain rfl := pm_len1 hr rfl
  replace hst : (match st with
    | .long y :: .long x :: r => pm_go (pc + 1) ls (.int (lg_cmp x y) :: r) h
    | _ => none) = some (.inl s') := hst
  split at hst
  · obtain rfl := pm_go_inv hst
    intro H locs lsA hW hS hl hn hz hc hs
    exact W.lcmp fx.1 fx.2.1 hd (k H locs lsA hW hS hl hn hz hc hs)
  · cases hst
theorem pm_t_i2l (fx : pm_Fx p s m args meth c cc nL o ini base D dA adr fo L xs c0) (hd : decode cc pc = .ok (.i2l, len)) (hr : pm_rokB o (pc, .i2l, len, a, b, v) = true) (hst : pm_step X call o ini ret pc ls st h (.i2l) len a b v = some (.inl s')) (k : pm_K p l e R s m args below meth c Q base D dA adr fo nL c0 s0 s') : pm_K p l e R s m args below meth c Q base D dA adr fo nL c0 s0 (pc, ls, st, h) := by
  obtain rfl := pm_len1 hr rfl
  replace hst : (match st with
    | .int x :: r => pm_go (pc + 1) ls (.long x.toInt64 :: r) h
    | _ => none) = some (.inl s') := hst
  split at hst
  · obtain rfl := pm_go_inv hst
    intro H locs lsA hW hS hl hn hz hc hs
    exact lv_i2l fx.1 fx.2.1 hd rfl (k H locs lsA hW hS hl hn hz hc hs)
  · cases hst
theorem pm_t_l2i (fx : pm_Fx p s m args meth c cc nL o ini base D dA adr fo L xs c0) (hd : decode cc pc = .ok (.l2i, len)) (hr : pm_rokB o (pc, .l2i, len, a, b, v) = true) (hst : pm_step X call o ini ret pc ls st h (.l2i) len a b v = some (.inl s')) (k : pm_K p l e R s m args below meth c Q base D dA adr fo nL c0 s0 s') : pm_K p l e R s m args below meth c Q base D dA adr fo nL c0 s0 (pc, ls, st, h) := by
  obtain rfl := pm_len1 hr rfl
  replace hst : (match st with
    | .long x :: r => pm_go (pc + 1) ls (.int x.toInt32 :: r) h
    | _ => none) = some (.inl s') := hst
  split at hst
  · obtain rfl := pm_go_inv hst
    intro H locs lsA hW hS hl hn hz hc hs
    exact lv_l2i fx.1 fx.2.1 hd rfl (k H locs lsA hW hS hl hn hz hc hs)
  · cases hst
theorem pm_t_i2c (fx : pm_Fx p s m args meth c cc nL o ini base D dA adr fo L xs c0) (hd : decode cc pc = .ok (.i2c, len)) (hr : pm_rokB o (pc, .i2c, len, a, b, v) = true) (hst : pm_step X call o ini ret pc ls st h (.i2c) len a b v = some (.inl s')) (k : pm_K p l e R s m args below meth c Q base D dA adr fo nL c0 s0 s') : pm_K p l e R s m args below meth c Q base D dA adr fo nL c0 s0 (pc, ls, st, h) := by
  obtain rfl := pm_len1 hr rfl
  replace hst : (match st with
    | .int x :: r => pm_go (pc + 1) ls (.int (x.toUInt32 % 65536).toInt32 :: r) h
    | _ => none) = some (.inl s') := hst
  split at hst
  · obtain rfl := pm_go_inv hst
    intro H locs lsA hW hS hl hn hz hc hs
    exact lv_i2c fx.1 fx.2.1 hd rfl (k H locs lsA hW hS hl hn hz hc hs)
  · cases hst
theorem pm_t_pop2 (fx : pm_Fx p s m args meth c cc nL o ini base D dA adr fo L xs c0) (hd : decode cc pc = .ok (.pop2, len)) (hr : pm_rokB o (pc, .pop2, len, a, b, v) = true) (hst : pm_step X call o ini ret pc ls st h (.pop2) len a b v = some (.inl s')) (k : pm_K p l e R s m args below meth c Q base D dA adr fo nL c0 s0 s') : pm_K p l e R s m args below meth c Q base D dA adr fo nL c0 s0 (pc, ls, st, h) := by
  obtain rfl := pm_len1 hr rfl
  replace hst : (match st with
    | .long _ :: r => pm_go (pc + 1) ls (r) h
    | _ => none) = some (.inl s') := hst
  split at hst
  · obtain rfl := pm_go_inv hst
    intro H locs lsA hW hS hl hn hz hc hs
    exact lv_pop2_2 fx.1 fx.2.1 hd rfl (k H locs lsA hW hS hl hn hz hc hs)
  · cases hst
theorem pm_t_aconst_null (fx : pm_Fx p s m args meth c cc nL o ini base D dA adr fo L xs c0) (hd : decode cc pc = .ok (.aconst_null, len)) (hr : pm_rokB o (pc, .aconst_null, len, a, b, v) = true) (hst : pm_step X call o ini ret pc ls st h (.aconst_null) len a b v = some (.inl s')) (k : pm_K p l e R s m args below meth c Q base D dA adr fo nL c0 s0 s') : pm_K p l e R s m args below meth c Q base D dA adr fo nL c0 s0 (pc, ls, st, h) := by
  have hlen : len = 1 := by simpa [pm_rokB, pm_unl, pm_lk] using hr
  subst hlen
  obtain rfl := pm_go_inv hst
  intro H locs lsA hW hS hl hn hz hc hs
  exact lv_null fx.1 fx.2.1 hd (k H locs lsA hW hS hl hn hz hc hs)
theorem pm_t_iconst {n : Int} (fx : pm_Fx p s m args meth c cc nL o ini base D dA adr fo L xs c0) (hd : decode cc pc = .ok (.iconst n, len)) (hr : pm_rokB o (pc, .iconst n, len, a, b, v) = true) (hst : pm_step X call o ini ret pc ls st h (.iconst n) len a b v = some (.inl s')) (k : pm_K p l e R s m args below meth c Q base D dA adr fo nL c0 s0 s') : pm_K p l e R s m args below meth c Q base D dA adr fo nL c0 s0 (pc, ls, st, h) := by
  have hlen : len = 1 := by simpa [pm_rokB, pm_unl, pm_lk] using hr
  subst hlen
  obtain rfl := pm_go_inv hst
  intro H locs lsA hW hS hl hn hz hc hs
  exact lv_iconst fx.1 fx.2.1 hd rfl (k H locs lsA hW hS hl hn hz hc hs)
theorem pm_t_lconst {n : Fin 2} (fx : pm_Fx p s m args meth c cc nL o ini base D dA adr fo L xs c0) (hd : decode cc pc = .ok (.lconst n, len)) (hr : pm_rokB o (pc, .lconst n, len, a, b, v) = true) (hst : pm_step X call o ini ret pc ls st h (.lconst n) len a b v = some (.inl s')) (k : pm_K p l e R s m args below meth c Q base D dA adr fo nL c0 s0 s') : pm_K p l e R s m args below meth c Q base D dA adr fo nL c0 s0 (pc, ls, st, h) := by
  have hlen : len = 1 := by simpa [pm_rokB, pm_unl, pm_lk] using hr
  subst hlen
  obtain rfl := pm_go_inv hst
  intro H locs lsA hW hS hl hn hz hc hs
  exact lv_lconst fx.1 fx.2.1 hd rfl (k H locs lsA hW hS hl hn hz hc hs)
theorem pm_t_bipush {n : Int} (fx : pm_Fx p s m args meth c cc nL o ini base D dA adr fo L xs c0) (hd : decode cc pc = .ok (.bipush n, len)) (hr : pm_rokB o (pc, .bipush n, len, a, b, v) = true) (hst : pm_step X call o ini ret pc ls st h (.bipush n) len a b v = some (.inl s')) (k : pm_K p l e R s m args below meth c Q base D dA adr fo nL c0 s0 s') : pm_K p l e R s m args below meth c Q base D dA adr fo nL c0 s0 (pc, ls, st, h) := by
  have hlen : len = 2 := by simpa [pm_rokB, pm_unl, pm_lk] using hr
  subst hlen
  obtain rfl := pm_go_inv hst
  intro H locs lsA hW hS hl hn hz hc hs
  exact lv_bipush fx.1 fx.2.1 hd rfl (k H locs lsA hW hS hl hn hz hc hs)
theorem pm_t_sipush {n : Int} (fx : pm_Fx p s m args meth c cc nL o ini base D dA adr fo L xs c0) (hd : decode cc pc = .ok (.sipush n, len)) (hr : pm_rokB o (pc, .sipush n, len, a, b, v) = true) (hst : pm_step X call o ini ret pc ls st h (.sipush n) len a b v = some (.inl s')) (k : pm_K p l e R s m args below meth c Q base D dA adr fo nL c0 s0 s') : pm_K p l e R s m args below meth c Q base D dA adr fo nL c0 s0 (pc, ls, st, h) := by
  have hlen : len = 3 := by simpa [pm_rokB, pm_unl, pm_lk] using hr
  subst hlen
  obtain rfl := pm_go_inv hst
  intro H locs lsA hW hS hl hn hz hc hs
  exact lv_sipush fx.1 fx.2.1 hd rfl (k H locs lsA hW hS hl hn hz hc hs)
theorem pm_t_iload {i : Nat} (fx : pm_Fx p s m args meth c cc nL o ini base D dA adr fo L xs c0) (hd : decode cc pc = .ok (.iload i, len)) (hr : pm_rokB o (pc, .iload i, len, a, b, v) = true) (hst : pm_step X call o ini ret pc ls st h (.iload i) len a b v = some (.inl s')) (k : pm_K p l e R s m args below meth c Q base D dA adr fo nL c0 s0 s') : pm_K p l e R s m args below meth c Q base D dA adr fo nL c0 s0 (pc, ls, st, h) := by
  have hlen : len = 2 := by simpa [pm_rokB, pm_unl, pm_lk] using hr
  subst hlen
  obtain ⟨x, hx, rfl⟩ := pm_ldi_inv hst
  intro H locs lsA hW hS hl hn hz hc hs
  exact lv_iload fx.1 fx.2.1 hd (pm_L_get hl hx) (k H locs lsA hW hS hl hn hz hc hs)
theorem pm_t_iload_n {i : Fin 4} (fx : pm_Fx p s m args meth c cc nL o ini base D dA adr fo L xs c0) (hd : decode cc pc = .ok (.iload_n i, len)) (hr : pm_rokB o (pc, .iload_n i, len, a, b, v) = true) (hst : pm_step X call o ini ret pc ls st h (.iload_n i) len a b v = some (.inl s')) (k : pm_K p l e R s m args below meth c Q base D dA adr fo nL c0 s0 s') : pm_K p l e R s m args below meth c Q base D dA adr fo nL c0 s0 (pc, ls, st, h) := by
  have hlen : len = 1 := by simpa [pm_rokB, pm_unl, pm_lk] using hr
  subst hlen
  obtain ⟨x, hx, rfl⟩ := pm_ldi_inv hst
  intro H locs lsA hW hS hl hn hz hc hs
  exact lv_iload_n fx.1 fx.2.1 hd rfl (pm_L_get hl hx) (k H locs lsA hW hS hl hn hz hc hs)
theorem pm_t_lload {i : Nat} (fx : pm_Fx p s m args meth c cc nL o ini base D dA adr fo L xs c0) (hd : decode cc pc = .ok (.lload i, len)) (hr : pm_rokB o (pc, .lload i, len, a, b, v) = true) (hst : pm_step X call o ini ret pc ls st h (.lload i) len a b v = some (.inl s')) (k : pm_K p l e R s m args below meth c Q base D dA adr fo nL c0 s0 s') : pm_K p l e R s m args below meth c Q base D dA adr fo nL c0 s0 (pc, ls, st, h) := by
  have hlen : len = 2 := by simpa [pm_rokB, pm_unl, pm_lk] using hr
  subst hlen
  obtain ⟨x, hx, rfl⟩ := pm_ldl_inv hst
  intro H locs lsA hW hS hl hn hz hc hs
  exact lv_lload fx.1 fx.2.1 hd (pm_L_get hl hx) (k H locs lsA hW hS hl hn hz hc hs)
theorem pm_t_lload_n {i : Fin 4} (fx : pm_Fx p s m args meth c cc nL o ini base D dA adr fo L xs c0) (hd : decode cc pc = .ok (.lload_n i, len)) (hr : pm_rokB o (pc, .lload_n i, len, a, b, v) = true) (hst : pm_step X call o ini ret pc ls st h (.lload_n i) len a b v = some (.inl s')) (k : pm_K p l e R s m args below meth c Q base D dA adr fo nL c0 s0 s') : pm_K p l e R s m args below meth c Q base D dA adr fo nL c0 s0 (pc, ls, st, h) := by
  have hlen : len = 1 := by simpa [pm_rokB, pm_unl, pm_lk] using hr
  subst hlen
  obtain ⟨x, hx, rfl⟩ := pm_ldl_inv hst
  intro H locs lsA hW hS hl hn hz hc hs
  exact lv_lload_n fx.1 fx.2.1 hd rfl (pm_L_get hl hx) (k H locs lsA hW hS hl hn hz hc hs)
theorem pm_t_aload {i : Nat} (fx : pm_Fx p s m args meth c cc nL o ini base D dA adr fo L xs c0) (hd : decode cc pc = .ok (.aload i, len)) (hr : pm_rokB o (pc, .aload i, len, a, b, v) = true) (hst : pm_step X call o ini ret pc ls st h (.aload i) len a b v = some (.inl s')) (k : pm_K p l e R s m args below meth c Q base D dA adr fo nL c0 s0 s') : pm_K p l e R s m args below meth c Q base D dA adr fo nL c0 s0 (pc, ls, st, h) := by
  have hlen : len = 2 := by simpa [pm_rokB, pm_unl, pm_lk] using hr
  subst hlen
  obtain ⟨x, hx, hx2, rfl⟩ := pm_lda_inv hst
  intro H locs lsA hW hS hl hn hz hc hs
  have hg := pm_L_get hl hx
  have kk := (k H locs lsA hW hS hl hn hz hc hs)
  have kk : W p l e R s m args below meth c H locs (h.1 - c0) (h.2.1 - s0) Q (F0 m (pc + 2) lsA (pm_emb base adr fo x :: st.map (pm_emb base adr fo))) := kk
  rcases pm_isR_emb (base := base) (adr := adr) hx2 fx.2.2.2.2.2.2.1.2.2.2.2.2.2.2.2.2.2.1 with g | ⟨q, g⟩
  · rw [g] at hg kk
    exact lv_aloadN fx.1 fx.2.1 hd hg kk
  · rw [g] at hg kk
    exact lv_aload fx.1 fx.2.1 hd hg kk
theorem pm_t_aload_n {i : Fin 4} (fx : pm_Fx p s m args meth c cc nL o ini base D dA adr fo L xs c0) (hd : decode cc pc = .ok (.aload_n i, len)) (hr : pm_rokB o (pc, .aload_n i, len, a, b, v) = true) (hst : pm_step X call o ini ret pc ls st h (.aload_n i) len a b v = some (.inl s')) (k : pm_K p l e R s m args below meth c Q base D dA adr fo nL c0 s0 s') : pm_K p l e R s m args below meth c Q base D dA adr fo nL c0 s0 (pc, ls, st, h) := by
  have hlen : len = 1 := by simpa [pm_rokB, pm_unl, pm_lk] using hr
  subst hlen
  obtain ⟨x, hx, hx2, rfl⟩ := pm_lda_inv hst
  intro H locs lsA hW hS hl hn hz hc hs
  have hg := pm_L_get hl hx
  have kk := (k H locs lsA hW hS hl hn hz hc hs)
  have kk : W p l e R s m args below meth c H locs (h.1 - c0) (h.2.1 - s0) Q (F0 m (pc + 1) lsA (pm_emb base adr fo x :: st.map (pm_emb base adr fo))) := kk
  rcases pm_isR_emb (base := base) (adr := adr) hx2 fx.2.2.2.2.2.2.1.2.2.2.2.2.2.2.2.2.2.1 with g | ⟨q, g⟩
  · rw [g] at hg kk
    exact lv_aload_nN fx.1 fx.2.1 hd rfl hg kk
  · rw [g] at hg kk
    exact lv_aload_n fx.1 fx.2.1 hd rfl hg kk
theorem pm_t_istore {i : Nat} (fx : pm_Fx p s m args meth c cc nL o ini base D dA adr fo L xs c0) (hd : decode cc pc = .ok (.istore i, len)) (hr : pm_rokB o (pc, .istore i, len, a, b, v) = true) (hst : pm_step X call o ini ret pc ls st h (.istore i) len a b v = some (.inl s')) (k : pm_K p l e R s m args below meth c Q base D dA adr fo nL c0 s0 s') : pm_K p l e R s m args below meth c Q base D dA adr fo nL c0 s0 (pc, ls, st, h) := by
  have hlen : len = 2 := by simpa [pm_rokB, pm_unl, pm_lk] using hr
  subst hlen
  obtain ⟨x, r, rfl, hk, rfl⟩ := pm_sti_inv hst
  intro H locs lsA hW hS hl hn hz hc hs
  have hfo := fx.2.2.2.2.2.2.1.2.2.2.2.2.2.2.2.2.2.1
  refine lv_istore fx.1 fx.2.1 hd hl hk rfl (fun l1 g => ?_)
  exact k H locs l1 hW hS (pm_st1_L (lsA := l1) (v := .int x) hfo hn hk g) (pm_nd_st1 hn (fun y q => by cases q)) (by show (pm_st1 ls _ _).length = nL; rw [← hz]; simp [pm_st1, pm_clr_len]) hc hs
theorem pm_t_istore_n {i : Fin 4} (fx : pm_Fx p s m args meth c cc nL o ini base D dA adr fo L xs c0) (hd : decode cc pc = .ok (.istore_n i, len)) (hr : pm_rokB o (pc, .istore_n i, len, a, b, v) = true) (hst : pm_step X call o ini ret pc ls st h (.istore_n i) len a b v = some (.inl s')) (k : pm_K p l e R s m args below meth c Q base D dA adr fo nL c0 s0 s') : pm_K p l e R s m args below meth c Q base D dA adr fo nL c0 s0 (pc, ls, st, h) := by
  have hlen : len = 1 := by simpa [pm_rokB, pm_unl, pm_lk] using hr
  subst hlen
  obtain ⟨x, r, rfl, hk, rfl⟩ := pm_sti_inv hst
  intro H locs lsA hW hS hl hn hz hc hs
  have hfo := fx.2.2.2.2.2.2.1.2.2.2.2.2.2.2.2.2.2.1
  refine lv_istore_n fx.1 fx.2.1 hd rfl hl hk rfl (fun l1 g => ?_)
  exact k H locs l1 hW hS (pm_st1_L (lsA := l1) (v := .int x) hfo hn hk g) (pm_nd_st1 hn (fun y q => by cases q)) (by show (pm_st1 ls _ _).length = nL; rw [← hz]; simp [pm_st1, pm_clr_len]) hc hs
theorem pm_t_lstore {i : Nat} (fx : pm_Fx p s m args meth c cc nL o ini base D dA adr fo L xs c0) (hd : decode cc pc = .ok (.lstore i, len)) (hr : pm_rokB o (pc, .lstore i, len, a, b, v) = true) (hst : pm_step X call o ini ret pc ls st h (.lstore i) len a b v = some (.inl s')) (k : pm_K p l e R s m args below meth c Q base D dA adr fo nL c0 s0 s') : pm_K p l e R s m args below meth c Q base D dA adr fo nL c0 s0 (pc, ls, st, h) := by
  have hlen : len = 2 := by simpa [pm_rokB, pm_unl, pm_lk] using hr
  subst hlen
  obtain ⟨x, r, rfl, hk, rfl⟩ := pm_stl_inv hst
  intro H locs lsA hW hS hl hn hz hc hs
  have hfo := fx.2.2.2.2.2.2.1.2.2.2.2.2.2.2.2.2.2.1
  refine lv_lstore fx.1 fx.2.1 hd hl hk rfl (fun l1 g => ?_)
  exact k H locs l1 hW hS (pm_st2_L (lsA := l1) (v := .long x) hfo hn hk g) (pm_nd_st2 hn (fun y q => by cases q)) (by show (pm_st2 ls _ _).length = nL; rw [← hz]; simp [pm_st2, pm_clr_len]) hc hs
theorem pm_t_lstore_n {i : Fin 4} (fx : pm_Fx p s m args meth c cc nL o ini base D dA adr fo L xs c0) (hd : decode cc pc = .ok (.lstore_n i, len)) (hr : pm_rokB o (pc, .lstore_n i, len, a, b, v) = true) (hst : pm_step X call o ini ret pc ls st h (.lstore_n i) len a b v = some (.inl s')) (k : pm_K p l e R s m args below meth c Q base D dA adr fo nL c0 s0 s') : pm_K p l e R s m args below meth c Q base D dA adr fo nL c0 s0 (pc, ls, st, h) := by
  have hlen : len = 1 := by simpa [pm_rokB, pm_unl, pm_lk] using hr
  subst hlen
  obtain ⟨x, r, rfl, hk, rfl⟩ := pm_stl_inv hst
  intro H locs lsA hW hS hl hn hz hc hs
  have hfo := fx.2.2.2.2.2.2.1.2.2.2.2.2.2.2.2.2.2.1
  refine lv_lstore_n fx.1 fx.2.1 hd rfl hl hk rfl (fun l1 g => ?_)
  exact k H locs l1 hW hS (pm_st2_L (lsA := l1) (v := .long x) hfo hn hk g) (pm_nd_st2 hn (fun y q => by cases q)) (by show (pm_st2 ls _ _).length = nL; rw [← hz]; simp [pm_st2, pm_clr_len]) hc hs
theorem pm_t_astore {i : Nat} (fx : pm_Fx p s m args meth c cc nL o ini base D dA adr fo L xs c0) (hd : decode cc pc = .ok (.astore i, len)) (hr : pm_rokB o (pc, .astore i, len, a, b, v) = true) (hst : pm_step X call o ini ret pc ls st h (.astore i) len a b v = some (.inl s')) (k : pm_K p l e R s m args below meth c Q base D dA adr fo nL c0 s0 s') : pm_K p l e R s m args below meth c Q base D dA adr fo nL c0 s0 (pc, ls, st, h) := by
  have hlen : len = 2 := by simpa [pm_rokB, pm_unl, pm_lk] using hr
  subst hlen
  obtain ⟨x, r, rfl, hx2, hk, rfl⟩ := pm_sta_inv hst
  intro H locs lsA hW hS hl hn hz hc hs
  have hfo := fx.2.2.2.2.2.2.1.2.2.2.2.2.2.2.2.2.2.1
  have fin : ∀ l1 : Array Slot, lv_has l1 ls.length ((_, pm_emb base adr fo x) :: _) → _ := fun l1 g => k H locs l1 hW hS (pm_st1_L (lsA := l1) (v := x) hfo hn hk g) (pm_nd_st1 hn (pm_isR_nd hx2)) (by show (pm_st1 ls _ _).length = nL; rw [← hz]; simp [pm_st1, pm_clr_len]) hc hs
  show W p l e R s m args below meth c H locs (h.1 - c0) (h.2.1 - s0) Q (F0 m pc lsA (pm_emb base adr fo x :: r.map (pm_emb base adr fo)))
  rcases pm_isR_emb (base := base) (adr := adr) hx2 hfo with g | ⟨q, g⟩
  · rw [g] at fin ⊢
    exact lv_astoreN fx.1 fx.2.1 hd hl hk rfl fin
  · rw [g] at fin ⊢
    exact lv_astore fx.1 fx.2.1 hd hl hk rfl fin
theorem pm_t_astore_n {i : Fin 4} (fx : pm_Fx p s m args meth c cc nL o ini base D dA adr fo L xs c0) (hd : decode cc pc = .ok (.astore_n i, len)) (hr : pm_rokB o (pc, .astore_n i, len, a, b, v) = true) (hst : pm_step X call o ini ret pc ls st h (.astore_n i) len a b v = some (.inl s')) (k : pm_K p l e R s m args below meth c Q base D dA adr fo nL c0 s0 s') : pm_K p l e R s m args below meth c Q base D dA adr fo nL c0 s0 (pc, ls, st, h) := by
  have hlen : len = 1 := by simpa [pm_rokB, pm_unl, pm_lk] using hr
  subst hlen
  obtain ⟨x, r, rfl, hx2, hk, rfl⟩ := pm_sta_inv hst
  intro H locs lsA hW hS hl hn hz hc hs
  have hfo := fx.2.2.2.2.2.2.1.2.2.2.2.2.2.2.2.2.2.1
  have fin : ∀ l1 : Array Slot, lv_has l1 ls.length ((_, pm_emb base adr fo x) :: _) → _ := fun l1 g => k H locs l1 hW hS (pm_st1_L (lsA := l1) (v := x) hfo hn hk g) (pm_nd_st1 hn (pm_isR_nd hx2)) (by show (pm_st1 ls _ _).length = nL; rw [← hz]; simp [pm_st1, pm_clr_len]) hc hs
  show W p l e R s m args below meth c H locs (h.1 - c0) (h.2.1 - s0) Q (F0 m pc lsA (pm_emb base adr fo x :: r.map (pm_emb base adr fo)))
  rcases pm_isR_emb (base := base) (adr := adr) hx2 hfo with g | ⟨q, g⟩
  · rw [g] at fin ⊢
    exact lv_astore_nN fx.1 fx.2.1 hd rfl hl hk rfl fin
  · rw [g] at fin ⊢
    exact lv_astore_n fx.1 fx.2.1 hd rfl hl hk rfl fin
theorem pm_t_iinc {i : Nat} {n : Int} (fx : pm_Fx p s m args meth c cc nL o ini base D dA adr fo L xs c0) (hd : decode cc pc = .ok (.iinc i n, len)) (hr : pm_rokB o (pc, .iinc i n, len, a, b, v) = true) (hst : pm_step X call o ini ret pc ls st h (.iinc i n) len a b v = some (.inl s')) (k : pm_K p l e R s m args below meth c Q base D dA adr fo nL c0 s0 s') : pm_K p l e R s m args below meth c Q base D dA adr fo nL c0 s0 (pc, ls, st, h) := by
  have hlen : len = 3 := by simpa [pm_rokB, pm_unl, pm_lk] using hr
  subst hlen
  replace hst : (match pm_ld ls i with
    | some (.int x) => pm_go (pc + 3) (pm_st1 ls i (.int (x + Int32.ofInt n))) st h
    | _ => none) = some (.inl s') := hst
  split at hst
  · next x hx =>
    obtain rfl := pm_go_inv hst
    intro H locs lsA hW hS hl hn hz hc hs
    have hfo := fx.2.2.2.2.2.2.1.2.2.2.2.2.2.2.2.2.2.1
    have hk : i < ls.length := by
      rcases Nat.lt_or_ge i ls.length with q | q
      · exact q
      · unfold pm_ld at hx
        rw [List.getD_eq_getElem?_getD, List.getElem?_eq_none q] at hx
        cases hx
    obtain ⟨kk, hkk⟩ := List.getElem?_of_mem (show (i, Value.int x) ∈ pm_lvl base adr fo ls from pm_lvl_mem.mpr ⟨hk, _, hx, rfl⟩)
    refine lv_iinc fx.1 fx.2.1 hd hl hkk rfl hk rfl (fun l1 g => ?_)
    exact k H locs l1 hW hS (pm_st1_L (lsA := l1) (v := .int (x + Int32.ofInt n)) hfo hn hk g) (pm_nd_st1 hn (fun y q => by cases q)) (by show (pm_st1 ls _ _).length = nL; rw [← hz]; simp [pm_st1, pm_clr_len]) hc hs
  · cases hst
theorem pm_t_pop (fx : pm_Fx p s m args meth c cc nL o ini base D dA adr fo L xs c0) (hd : decode cc pc = .ok (.pop, len)) (hr : pm_rokB o (pc, .pop, len, a, b, v) = true) (hst : pm_step X call o ini ret pc ls st h (.pop) len a b v = some (.inl s')) (k : pm_K p l e R s m args below meth c Q base D dA adr fo nL c0 s0 s') : pm_K p l e R s m args below meth c Q base D dA adr fo nL c0 s0 (pc, ls, st, h) := by
  obtain rfl := pm_len1 hr rfl
  replace hst : (match st with
    | w :: r => bif pm_cat1 w then pm_go (pc + 1) ls r h else none
    | _ => none) = some (.inl s') := hst
  split at hst
  · next w r =>
    cases hw : pm_cat1 w with
    | false => rw [hw] at hst; cases hst
    | true =>
      rw [hw] at hst
      obtain rfl := pm_go_inv hst
      intro H locs lsA hW hS hl hn hz hc hs
      exact lv_pop fx.1 fx.2.1 hd (pm_cat1_emb hw fx.2.2.2.2.2.2.1.2.2.2.2.2.2.2.2.2.2.1) (k H locs lsA hW hS hl hn hz hc hs)
  · cases hst
theorem pm_t_dup (fx : pm_Fx p s m args meth c cc nL o ini base D dA adr fo L xs c0) (hd : decode cc pc = .ok (.dup, len)) (hr : pm_rokB o (pc, .dup, len, a, b, v) = true) (hst : pm_step X call o ini ret pc ls st h (.dup) len a b v = some (.inl s')) (k : pm_K p l e R s m args below meth c Q base D dA adr fo nL c0 s0 s') : pm_K p l e R s m args below meth c Q base D dA adr fo nL c0 s0 (pc, ls, st, h) := by
  obtain rfl := pm_len1 hr rfl
  replace hst : (match st with
    | w :: r => bif pm_cat1 w then pm_go (pc + 1) ls (w :: w :: r) h else none
    | _ => none) = some (.inl s') := hst
  split at hst
  · next w r =>
    cases hw : pm_cat1 w with
    | false => rw [hw] at hst; cases hst
    | true =>
      rw [hw] at hst
      obtain rfl := pm_go_inv hst
      intro H locs lsA hW hS hl hn hz hc hs
      exact lv_dup fx.1 fx.2.1 hd (pm_cat1_emb hw fx.2.2.2.2.2.2.1.2.2.2.2.2.2.2.2.2.2.1) (k H locs lsA hW hS hl hn hz hc hs)
  · cases hst
theorem pm_t_dup2 (fx : pm_Fx p s m args meth c cc nL o ini base D dA adr fo L xs c0) (hd : decode cc pc = .ok (.dup2, len)) (hr : pm_rokB o (pc, .dup2, len, a, b, v) = true) (hst : pm_step X call o ini ret pc ls st h (.dup2) len a b v = some (.inl s')) (k : pm_K p l e R s m args below meth c Q base D dA adr fo nL c0 s0 s') : pm_K p l e R s m args below meth c Q base D dA adr fo nL c0 s0 (pc, ls, st, h) := by
  obtain rfl := pm_len1 hr rfl
  replace hst : (match st with
    | w :: u :: r => bif pm_cat1 w && pm_cat1 u then pm_go (pc + 1) ls (w :: u :: w :: u :: r) h else none
    | _ => none) = some (.inl s') := hst
  split at hst
  · next w u r =>
    cases hw : pm_cat1 w with
    | false => rw [hw] at hst; cases hst
    | true =>
      cases hu : pm_cat1 u with
      | false => rw [hw, hu] at hst; cases hst
      | true =>
        rw [hw, hu] at hst
        obtain rfl := pm_go_inv hst
        intro H locs lsA hW hS hl hn hz hc hs
        exact lv_dup2_11 fx.1 fx.2.1 hd (pm_cat1_emb hw fx.2.2.2.2.2.2.1.2.2.2.2.2.2.2.2.2.2.1) (pm_cat1_emb hu fx.2.2.2.2.2.2.1.2.2.2.2.2.2.2.2.2.2.1) (k H locs lsA hW hS hl hn hz hc hs)
  · cases hst
theorem pm_t_goto {off : Int} (fx : pm_Fx p s m args meth c cc nL o ini base D dA adr fo L xs c0) (hd : decode cc pc = .ok (.goto off, len)) (hr : pm_rokB o (pc, .goto off, len, a, b, v) = true) (hst : pm_step X call o ini ret pc ls st h (.goto off) len a b v = some (.inl s')) (k : pm_K p l e R s m args below meth c Q base D dA adr fo nL c0 s0 s') : pm_K p l e R s m args below meth c Q base D dA adr fo nL c0 s0 (pc, ls, st, h) := by
  have hlen : len = 3 ∧ (pc : Int) + off = (a : Int) := by simpa [pm_rokB, pm_unl, pm_lk] using hr
  obtain ⟨rfl, ht⟩ := hlen
  obtain rfl := pm_go_inv hst
  intro H locs lsA hW hS hl hn hz hc hs
  exact lv_goto fx.1 fx.2.1 hd ht (k H locs lsA hW hS hl hn hz hc hs)
theorem pm_t_ifCond {cd : ClassFile.Cond} {off : Int} (fx : pm_Fx p s m args meth c cc nL o ini base D dA adr fo L xs c0) (hd : decode cc pc = .ok (.ifCond cd off, len)) (hr : pm_rokB o (pc, .ifCond cd off, len, a, b, v) = true) (hst : pm_step X call o ini ret pc ls st h (.ifCond cd off) len a b v = some (.inl s')) (k : pm_K p l e R s m args below meth c Q base D dA adr fo nL c0 s0 s') : pm_K p l e R s m args below meth c Q base D dA adr fo nL c0 s0 (pc, ls, st, h) := by
  have hlen : len = 3 ∧ (pc : Int) + off = (a : Int) := by simpa [pm_rokB, pm_unl, pm_lk] using hr
  obtain ⟨rfl, ht⟩ := hlen
  replace hst : (match st with
    | .int x :: r => bif pm_cmp0 cd x then pm_go a ls r h else pm_go (pc + 3) ls r h
    | _ => none) = some (.inl s') := hst
  split at hst
  · next x r =>
    have kt : pm_cmp0 cd x = true → pm_K p l e R s m args below meth c Q base D dA adr fo nL c0 s0 (a, ls, r, h) := fun g => by
      rw [g] at hst
      obtain rfl := pm_go_inv hst
      exact k
    have kf : pm_cmp0 cd x = false → pm_K p l e R s m args below meth c Q base D dA adr fo nL c0 s0 (pc + 3, ls, r, h) := fun g => by
      rw [g] at hst
      obtain rfl := pm_go_inv hst
      exact k
    intro H locs lsA hW hS hl hn hz hc hs
    cases cd with
    | eq => exact lv_if_eq fx.1 fx.2.1 hd ht (fun g => kt (decide_eq_true g) H locs lsA hW hS hl hn hz hc hs) (fun g => kf (decide_eq_false g) H locs lsA hW hS hl hn hz hc hs)
    | ne => exact lv_if_ne fx.1 fx.2.1 hd ht (fun g => kt (by show (!decide (x = 0)) = true; rw [decide_eq_false g]; rfl) H locs lsA hW hS hl hn hz hc hs) (fun g => kf (by show (!decide (x = 0)) = false; rw [decide_eq_true g]; rfl) H locs lsA hW hS hl hn hz hc hs)
    | lt => exact lv_if_lt fx.1 fx.2.1 hd ht (fun g => kt (decide_eq_true g) H locs lsA hW hS hl hn hz hc hs) (fun g => kf (decide_eq_false g) H locs lsA hW hS hl hn hz hc hs)
    | ge => exact lv_if_ge fx.1 fx.2.1 hd ht (fun g => kt (decide_eq_true g) H locs lsA hW hS hl hn hz hc hs) (fun g => kf (decide_eq_false g) H locs lsA hW hS hl hn hz hc hs)
    | gt => exact lv_if_gt fx.1 fx.2.1 hd ht (fun g => kt (decide_eq_true g) H locs lsA hW hS hl hn hz hc hs) (fun g => kf (decide_eq_false g) H locs lsA hW hS hl hn hz hc hs)
    | le => exact lv_if_le fx.1 fx.2.1 hd ht (fun g => kt (decide_eq_true g) H locs lsA hW hS hl hn hz hc hs) (fun g => kf (decide_eq_false g) H locs lsA hW hS hl hn hz hc hs)
  · cases hst
theorem pm_t_if_icmp {cd : ClassFile.Cond} {off : Int} (fx : pm_Fx p s m args meth c cc nL o ini base D dA adr fo L xs c0) (hd : decode cc pc = .ok (.if_icmp cd off, len)) (hr : pm_rokB o (pc, .if_icmp cd off, len, a, b, v) = true) (hst : pm_step X call o ini ret pc ls st h (.if_icmp cd off) len a b v = some (.inl s')) (k : pm_K p l e R s m args below meth c Q base D dA adr fo nL c0 s0 s') : pm_K p l e R s m args below meth c Q base D dA adr fo nL c0 s0 (pc, ls, st, h) := by
  have hlen : len = 3 ∧ (pc : Int) + off = (a : Int) := by simpa [pm_rokB, pm_unl, pm_lk] using hr
  obtain ⟨rfl, ht⟩ := hlen
  replace hst : (match st with
    | .int y :: .int x :: r => bif pm_cmp cd x y then pm_go a ls r h else pm_go (pc + 3) ls r h
    | _ => none) = some (.inl s') := hst
  split at hst
  · next y x r =>
    have kt : pm_cmp cd x y = true → pm_K p l e R s m args below meth c Q base D dA adr fo nL c0 s0 (a, ls, r, h) := fun g => by
      rw [g] at hst
      obtain rfl := pm_go_inv hst
      exact k
    have kf : pm_cmp cd x y = false → pm_K p l e R s m args below meth c Q base D dA adr fo nL c0 s0 (pc + 3, ls, r, h) := fun g => by
      rw [g] at hst
      obtain rfl := pm_go_inv hst
      exact k
    intro H locs lsA hW hS hl hn hz hc hs
    cases cd with
    | eq => exact lv_icmp_eq fx.1 fx.2.1 hd ht (fun g => kt (decide_eq_true g) H locs lsA hW hS hl hn hz hc hs) (fun g => kf (decide_eq_false g) H locs lsA hW hS hl hn hz hc hs)
    | ne => exact lv_icmp_ne fx.1 fx.2.1 hd ht (fun g => kt (by show (!decide (x = y)) = true; rw [decide_eq_false g]; rfl) H locs lsA hW hS hl hn hz hc hs) (fun g => kf (by show (!decide (x = y)) = false; rw [decide_eq_true g]; rfl) H locs lsA hW hS hl hn hz hc hs)
    | lt => exact lv_icmp_lt fx.1 fx.2.1 hd ht (fun g => kt (decide_eq_true g) H locs lsA hW hS hl hn hz hc hs) (fun g => kf (decide_eq_false g) H locs lsA hW hS hl hn hz hc hs)
    | ge => exact lv_icmp_ge fx.1 fx.2.1 hd ht (fun g => kt (decide_eq_true g) H locs lsA hW hS hl hn hz hc hs) (fun g => kf (decide_eq_false g) H locs lsA hW hS hl hn hz hc hs)
    | gt => exact lv_icmp_gt fx.1 fx.2.1 hd ht (fun g => kt (decide_eq_true g) H locs lsA hW hS hl hn hz hc hs) (fun g => kf (decide_eq_false g) H locs lsA hW hS hl hn hz hc hs)
    | le => exact lv_icmp_le fx.1 fx.2.1 hd ht (fun g => kt (decide_eq_true g) H locs lsA hW hS hl hn hz hc hs) (fun g => kf (decide_eq_false g) H locs lsA hW hS hl hn hz hc hs)
  · cases hst
theorem pm_t_ifnull {off : Int} (fx : pm_Fx p s m args meth c cc nL o ini base D dA adr fo L xs c0) (hd : decode cc pc = .ok (.ifnull off, len)) (hr : pm_rokB o (pc, .ifnull off, len, a, b, v) = true) (hst : pm_step X call o ini ret pc ls st h (.ifnull off) len a b v = some (.inl s')) (k : pm_K p l e R s m args below meth c Q base D dA adr fo nL c0 s0 s') : pm_K p l e R s m args below meth c Q base D dA adr fo nL c0 s0 (pc, ls, st, h) := by
  have hlen : len = 3 ∧ (pc : Int) + off = (a : Int) := by simpa [pm_rokB, pm_unl, pm_lk] using hr
  obtain ⟨rfl, ht⟩ := hlen
  replace hst : (match st with
    | .ref _ :: r => pm_go (pc + 3) ls r h
    | .null :: r => pm_go (a) ls r h
    | _ => none) = some (.inl s') := hst
  split at hst
  · obtain rfl := pm_go_inv hst
    intro H locs lsA hW hS hl hn hz hc hs
    exact lv_ifnull fx.1 fx.2.1 hd (k H locs lsA hW hS hl hn hz hc hs)
  · obtain rfl := pm_go_inv hst
    intro H locs lsA hW hS hl hn hz hc hs
    exact lv_ifnullN fx.1 fx.2.1 hd ht (k H locs lsA hW hS hl hn hz hc hs)
  · cases hst
theorem pm_t_ifnonnull {off : Int} (fx : pm_Fx p s m args meth c cc nL o ini base D dA adr fo L xs c0) (hd : decode cc pc = .ok (.ifnonnull off, len)) (hr : pm_rokB o (pc, .ifnonnull off, len, a, b, v) = true) (hst : pm_step X call o ini ret pc ls st h (.ifnonnull off) len a b v = some (.inl s')) (k : pm_K p l e R s m args below meth c Q base D dA adr fo nL c0 s0 s') : pm_K p l e R s m args below meth c Q base D dA adr fo nL c0 s0 (pc, ls, st, h) := by
  have hlen : len = 3 ∧ (pc : Int) + off = (a : Int) := by simpa [pm_rokB, pm_unl, pm_lk] using hr
  obtain ⟨rfl, ht⟩ := hlen
  replace hst : (match st with
    | .ref _ :: r => pm_go (a) ls r h
    | .null :: r => pm_go (pc + 3) ls r h
    | _ => none) = some (.inl s') := hst
  split at hst
  · obtain rfl := pm_go_inv hst
    intro H locs lsA hW hS hl hn hz hc hs
    exact lv_ifnonnull fx.1 fx.2.1 hd ht (k H locs lsA hW hS hl hn hz hc hs)
  · obtain rfl := pm_go_inv hst
    intro H locs lsA hW hS hl hn hz hc hs
    exact lv_ifnonnullN fx.1 fx.2.1 hd (k H locs lsA hW hS hl hn hz hc hs)
  · cases hst
theorem pm_t_tableswitch {dflt lo hi : Int} {offs : Array Int} (fx : pm_Fx p s m args meth c cc nL o ini base D dA adr fo L xs c0) (hd : decode cc pc = .ok (.tableswitch dflt lo hi offs, len)) (hst : pm_step X call o ini ret pc ls st h (.tableswitch dflt lo hi offs) len a b v = some (.inl s')) (k : pm_K p l e R s m args below meth c Q base D dA adr fo nL c0 s0 s') : pm_K p l e R s m args below meth c Q base D dA adr fo nL c0 s0 (pc, ls, st, h) := by
  replace hst : pm_tsw pc ls st h dflt lo hi offs = some (.inl s') := hst
  unfold pm_tsw at hst
  split at hst
  · next x r =>
    by_cases hx : x.toInt < lo ∨ hi < x.toInt
    · have e : (decide (x.toInt < lo) || decide (hi < x.toInt)) = true := by simpa using hx
      rw [e] at hst
      by_cases hp : 0 ≤ (pc : Int) + dflt
      · rw [decide_eq_true hp] at hst
        obtain rfl := pm_go_inv hst
        intro H locs lsA hW hS hl hn hz hc hs
        exact lv_tableOut fx.1 fx.2.1 hd hx (by omega) (k H locs lsA hW hS hl hn hz hc hs)
      · rw [decide_eq_false hp] at hst; cases hst
    · have e : (decide (x.toInt < lo) || decide (hi < x.toInt)) = false := by simpa using hx
      rw [e] at hst
      replace hst : (match offs.toList[(x.toInt - lo).toNat]? with
        | some off => bif decide (0 ≤ (pc : Int) + off) then pm_go ((pc : Int) + off).toNat ls r h else none
        | none => none) = some (.inl s') := hst
      split at hst
      · next off ho =>
        by_cases hp : 0 ≤ (pc : Int) + off
        · rw [decide_eq_true hp] at hst
          obtain rfl := pm_go_inv hst
          intro H locs lsA hW hS hl hn hz hc hs
          refine lv_tableIn fx.1 fx.2.1 hd (fun q => hx (Or.inl q)) (fun q => hx (Or.inr q)) (off := off) (by rw [← Array.getElem?_toList]; exact ho) (by omega) (k H locs lsA hW hS hl hn hz hc hs)
        · rw [decide_eq_false hp] at hst; cases hst
      · cases hst
  · cases hst
end SIM
end
section
/-! the simulation: constants, fields, arrays, new cells -/
theorem pm_fl_word {o ix a b : Nat} (h : pm_flA.any (fun q => q.1 == o && q.2.1 == ix && q.2.2.1 == a && q.2.2.2.1 == b) = true) : pm_fw o ix a b ∈ pm_gw := by
  obtain ⟨q, hq, hb⟩ := List.any_eq_true.mp h
  simp only [Bool.and_eq_true, beq_iff_eq] at hb
  obtain ⟨⟨⟨e1, e2⟩, e3⟩, e4⟩ := hb
  have := List.all_eq_true.mp pm_flA_ok q hq
  simp only [Bool.and_eq_true, decide_eq_true_eq] at this
  rw [e1, e2, e3, e4] at this
  exact pm_gw_of this.1 this.2
theorem pm_ml_word {o ix a b : Nat} (h : pm_mlA.any (fun q => q.1 == o && q.2.1 == ix && q.2.2.1 == a && q.2.2.2.1 == b) = true) (h3 : a ≠ 3) : pm_mw o ix a b ∈ pm_gw := by
  obtain ⟨q, hq, hb⟩ := List.any_eq_true.mp h
  simp only [Bool.and_eq_true, beq_iff_eq] at hb
  obtain ⟨⟨⟨e1, e2⟩, e3⟩, e4⟩ := hb
  have := List.all_eq_true.mp pm_mlA_ok q hq
  simp only [Bool.and_eq_true, Bool.or_eq_true, decide_eq_true_eq] at this
  rw [e1, e2, e3, e4] at this
  exact pm_gw_of this.1 (this.2.resolve_left h3)
theorem pm_nl_word {o ix a : Nat} (h : pm_nlA.any (fun q => q.1 == o && q.2.1 == ix && q.2.2.1 == a) = true) : Cond.classLink (pm_own o) ix (pm_cnm a) ∈ pm_gw := by
  obtain ⟨q, hq, hb⟩ := List.any_eq_true.mp h
  simp only [Bool.and_eq_true, beq_iff_eq] at hb
  obtain ⟨⟨e1, e2⟩, e3⟩ := hb
  have := List.all_eq_true.mp pm_nlA_ok q hq
  simp only [Bool.and_eq_true, decide_eq_true_eq] at this
  rw [e1, e2, e3] at this
  exact pm_gw_of this.1 this.2
theorem pm_al_word {o ix a : Nat} (h : pm_alA.any (fun q => q.1 == o && q.2.1 == ix && q.2.2.1 == a) = true) : Cond.classLink (pm_own o) ix (pm_anm a) ∈ pm_gw := by
  obtain ⟨q, hq, hb⟩ := List.any_eq_true.mp h
  simp only [Bool.and_eq_true, beq_iff_eq] at hb
  obtain ⟨⟨e1, e2⟩, e3⟩ := hb
  have := List.all_eq_true.mp pm_alA_ok q hq
  simp only [Bool.and_eq_true, decide_eq_true_eq] at this
  rw [e1, e2, e3] at this
  exact pm_gw_of this.1 this.2
def pm_klS (e : Nat × Nat × Nat × Value × Nat) : Bool := match e.2.2.1, e.2.2.2.1 with
  | 0, .int _ => true
  | 1, .long _ => true
  | 2, .retAddr i => decide (e.1 = 3) && decide (i < 23) && decide ((pm_strT.getD i (0, "")).1 = e.2.1)
  | _, _ => false
theorem pm_klS_ok : pm_klA.all pm_klS = true := by decide +kernel
theorem pm_own3 : pm_own 3 = "TrainBearers$Reader" := by decide +kernel
theorem pm_kl_word {o ix a : Nat} {v : Value} (h : pm_klA.any (fun q => q.1 == o && q.2.1 == ix && q.2.2.1 == a && decide (q.2.2.2.1 = v)) = true) :
    (a = 0 → ∃ x, v = .int x ∧ Cond.constant (pm_own o) ix x ∈ pm_gw) ∧ (a = 1 → ∃ x, v = .long x ∧ Cond.constantLong (pm_own o) ix x ∈ pm_gw) ∧ (a = 2 → ∃ i, v = .retAddr i ∧ o = 3 ∧ i < 23 ∧ (pm_strT.getD i (0, "")).1 = ix) := by
  obtain ⟨q, hq, hb⟩ := List.any_eq_true.mp h
  simp only [Bool.and_eq_true, beq_iff_eq, decide_eq_true_eq] at hb
  obtain ⟨⟨⟨e1, e2⟩, e3⟩, e4⟩ := hb
  have hk := List.all_eq_true.mp pm_klA_ok q hq
  have hs := List.all_eq_true.mp pm_klS_ok q hq
  simp only [Bool.and_eq_true, Bool.or_eq_true, decide_eq_true_eq] at hk
  obtain ⟨q1, q2, q3, q4, q5⟩ := q
  dsimp only at e1 e2 e3 e4 hk
  subst e1; subst e2; subst e3; subst e4
  refine ⟨fun g => ?_, fun g => ?_, fun g => ?_⟩
  · subst g
    cases q4 with
    | int x => exact ⟨x, rfl, pm_gw_of hk.1 (hk.2.resolve_left (by decide))⟩
    | _ => cases hs
  · subst g
    cases q4 with
    | long x => exact ⟨x, rfl, pm_gw_of hk.1 (hk.2.resolve_left (by decide))⟩
    | _ => cases hs
  · subst g
    cases q4 with
    | retAddr i =>
      have hs : (decide (q1 = 3) && decide (i < 23) && decide ((pm_strT.getD i (0, "")).1 = q2)) = true := hs
      simp only [Bool.and_eq_true, decide_eq_true_eq] at hs
      exact ⟨i, rfl, hs.1.1, hs.1.2, hs.2⟩
    | _ => cases hs
theorem pm_cn_some {a b : Nat} (h : b < pm_cn a) : ∃ q, pm_cls[a]? = some q ∧ b < q.2.2 := by
  unfold pm_cn at h
  cases hq : pm_cls[a]? with
  | none => rw [hq] at h; exact absurd h (Nat.not_lt_zero _)
  | some q => rw [hq] at h; exact ⟨q, rfl, h⟩
theorem pm_fw_of {o ix a b : Nat} {q : vw_C} (hq : pm_cls[a]? = some q) : pm_fw o ix a b = .fieldLink (pm_own o) ix (q.2.1 b).1 (q.2.1 b).2.1 (q.2.1 b).2.2.1 := by
  unfold pm_fw
  rw [if_neg (by have := pm_cls_lt hq; omega), hq]
theorem pm_ac0 : Cond.arrayClass .int ∈ pm_gw := List.mem_filter.mpr ⟨by decide +kernel, rfl⟩
theorem pm_ac1 : Cond.arrayClass .long ∈ pm_gw := List.mem_filter.mpr ⟨by decide +kernel, rfl⟩
theorem pm_ac2 : Cond.arrayClass .boolean ∈ pm_gw := List.mem_filter.mpr ⟨by decide +kernel, rfl⟩
theorem pm_sX_kind {L k : Nat} {xs : Nat → Int32} {y : Nat × Nat × (Nat → Int32)} (h : pm_sX L xs k = some y) : y.1 = 0 ∨ y.1 = 5 := by
  unfold pm_sX at h
  cases h1 : (k == 200) with
  | true => rw [h1] at h; cases h; exact Or.inl rfl
  | false =>
    rw [h1] at h
    cases h2 : (k == 201) with
    | true => rw [h2] at h; cases h; exact Or.inl rfl
    | false =>
      rw [h2] at h
      cases h3 : (decide (100 ≤ k) && decide (k < 123)) with
      | true => rw [h3] at h; cases h; exact Or.inr rfl
      | false => rw [h3] at h; cases h
theorem pm_sX_not300 {L k : Nat} {xs : Nat → Int32} {y : Nat × Nat × (Nat → Int32)} (h : pm_sX L xs k = some y) : (k == 300) = false := by
  cases h3 : (k == 300) with
  | false => rfl
  | true =>
    have : k = 300 := by simpa using h3
    subst this
    cases h
section SIM2
variable {p : Program} {l : Launch} {e : Env} {R : Room} {s : State} {m : MethodId} {args : Array Value} {below : List Frame} {meth : Method} {c : Code} {Q : State → Prop}
variable {base : Nat} {D : va_G} {dA : Nat → ClassId} {adr : Nat → Nat} {fo : Value} {L : Nat} {xs : Nat → Int32} {nL c0 s0 o d : Nat} {ini : Bool} {cc : ByteArray} {X : pm_X} {call : Nat → List Value → pm_H → Option pm_R} {ret : Option FieldType}
variable {pc len a b : Nat} {ls : pm_Ls} {st : List Value} {h : pm_H} {v : Value} {s' : pm_S}
theorem pm_emb_st {k : Nat} (hk : (k == 300) = false) : pm_emb base adr fo (.retAddr k) = .ref (adr k) := by
  show (bif k == 300 then fo else Value.ref (adr k)) = _
  rw [hk]
  rfl
theorem pm_fit_ok {ty : FieldType} {u : Value} (hu : pm_fit ty u = true) : narrow ty (pm_emb base adr fo u) = pm_emb base adr fo u ∧ fits ty (pm_emb base adr fo u) = true := by
  unfold pm_fit at hu
  split at hu
  · exact ⟨rfl, rfl⟩
  · exact ⟨rfl, rfl⟩
  · next x =>
    rw [Bool.or_eq_true, beq_iff_eq, beq_iff_eq] at hu
    rcases hu with rfl | rfl
    · exact ⟨(by decide +kernel : narrow .boolean (.int 0) = .int 0), (by decide +kernel : fits .boolean (.int 0) = true)⟩
    · exact ⟨(by decide +kernel : narrow .boolean (.int 1) = .int 1), (by decide +kernel : fits .boolean (.int 1) = true)⟩
  · exact ⟨rfl, rfl⟩
  · exact ⟨rfl, rfl⟩
  · exact ⟨rfl, rfl⟩
  · exact ⟨rfl, rfl⟩
  · cases hu
theorem pm_t_ldc {ix : Nat} (fx : pm_Fx p s m args meth c cc nL o ini base D dA adr fo L xs c0) (hd : decode cc pc = .ok (.ldc ix, len)) (hr : pm_rokB o (pc, .ldc ix, len, a, b, v) = true) (hst : pm_step X call o ini ret pc ls st h (.ldc ix) len a b v = some (.inl s')) (k : pm_K p l e R s m args below meth c Q base D dA adr fo nL c0 s0 s') : pm_K p l e R s m args below meth c Q base D dA adr fo nL c0 s0 (pc, ls, st, h) := by
  have hr2 : (len == 2 && pm_klA.any (fun q => q.1 == o && q.2.1 == ix && q.2.2.1 == a && decide (q.2.2.2.1 = v))) = true := hr
  rw [Bool.and_eq_true, beq_iff_eq] at hr2
  obtain ⟨rfl, hw⟩ := hr2
  obtain ⟨w0, -, w2⟩ := pm_kl_word hw
  replace hst : (bif a == 0 || a == 2 then pm_go (pc + 2) ls (v :: st) h else none) = some (.inl s') := hst
  cases ha : (a == 0 || a == 2) with
  | false => rw [ha] at hst; cases hst
  | true =>
    rw [ha] at hst
    obtain rfl := pm_go_inv hst
    rw [Bool.or_eq_true, beq_iff_eq, beq_iff_eq] at ha
    intro H locs lsA hW hS hl hn hz hc hs
    rcases ha with ha | ha
    · obtain ⟨x, rfl, hwd⟩ := w0 ha
      exact lv_ldc fx.1 fx.2.1 fx.2.2.2.1 (fx.2.2.2.2.1 _ hwd) hd (k H locs lsA hW hS hl hn hz hc hs)
    · obtain ⟨i, rfl, rfl, hi, he⟩ := w2 ha
      have hZ := (fx.2.2.2.2.2.2.1.2.2.1 i hi).1
      rw [he] at hZ
      have hown := fx.2.2.2.1
      rw [pm_own3] at hown
      have kk := k H locs lsA hW hS hl hn hz hc hs
      have kk : W p l e R s m args below meth c H locs (h.1 - c0) (h.2.1 - s0) Q (F0 m (pc + 2) lsA (pm_emb base adr fo (.retAddr i) :: st.map (pm_emb base adr fo))) := kk
      have hne : (i == 300) = false := by
        rw [beq_eq_false_iff_ne]
        omega
      rw [pm_emb_st hne] at kk
      exact va_ldcS fx.1 fx.2.1 hown hZ hd kk
theorem pm_t_ldc_w {ix : Nat} (fx : pm_Fx p s m args meth c cc nL o ini base D dA adr fo L xs c0) (hd : decode cc pc = .ok (.ldc_w ix, len)) (hr : pm_rokB o (pc, .ldc_w ix, len, a, b, v) = true) (hst : pm_step X call o ini ret pc ls st h (.ldc_w ix) len a b v = some (.inl s')) (k : pm_K p l e R s m args below meth c Q base D dA adr fo nL c0 s0 s') : pm_K p l e R s m args below meth c Q base D dA adr fo nL c0 s0 (pc, ls, st, h) := by
  have hr2 : (len == 3 && pm_klA.any (fun q => q.1 == o && q.2.1 == ix && q.2.2.1 == a && decide (q.2.2.2.1 = v))) = true := hr
  rw [Bool.and_eq_true, beq_iff_eq] at hr2
  obtain ⟨rfl, hw⟩ := hr2
  obtain ⟨w0, -, -⟩ := pm_kl_word hw
  replace hst : (bif a == 0 then pm_go (pc + 3) ls (v :: st) h else none) = some (.inl s') := hst
  cases ha : (a == 0) with
  | false => rw [ha] at hst; cases hst
  | true =>
    rw [ha] at hst
    obtain rfl := pm_go_inv hst
    obtain ⟨x, rfl, hwd⟩ := w0 (by simpa using ha)
    intro H locs lsA hW hS hl hn hz hc hs
    exact lv_ldcw fx.1 fx.2.1 fx.2.2.2.1 (fx.2.2.2.2.1 _ hwd) hd (k H locs lsA hW hS hl hn hz hc hs)
theorem pm_t_ldc2_w {ix : Nat} (fx : pm_Fx p s m args meth c cc nL o ini base D dA adr fo L xs c0) (hd : decode cc pc = .ok (.ldc2_w ix, len)) (hr : pm_rokB o (pc, .ldc2_w ix, len, a, b, v) = true) (hst : pm_step X call o ini ret pc ls st h (.ldc2_w ix) len a b v = some (.inl s')) (k : pm_K p l e R s m args below meth c Q base D dA adr fo nL c0 s0 s') : pm_K p l e R s m args below meth c Q base D dA adr fo nL c0 s0 (pc, ls, st, h) := by
  have hr2 : (len == 3 && pm_klA.any (fun q => q.1 == o && q.2.1 == ix && q.2.2.1 == a && decide (q.2.2.2.1 = v))) = true := hr
  rw [Bool.and_eq_true, beq_iff_eq] at hr2
  obtain ⟨rfl, hw⟩ := hr2
  obtain ⟨-, w1, -⟩ := pm_kl_word hw
  replace hst : (bif a == 1 then pm_go (pc + 3) ls (v :: st) h else none) = some (.inl s') := hst
  cases ha : (a == 1) with
  | false => rw [ha] at hst; cases hst
  | true =>
    rw [ha] at hst
    obtain rfl := pm_go_inv hst
    obtain ⟨x, rfl, hwd⟩ := w1 (by simpa using ha)
    intro H locs lsA hW hS hl hn hz hc hs
    exact lv_ldc2 fx.1 fx.2.1 fx.2.2.2.1 (fx.2.2.2.2.1 _ hwd) hd (k H locs lsA hW hS hl hn hz hc hs)
theorem pm_t_getstatic {ix : Nat} (fx : pm_Fx p s m args meth c cc nL o ini base D dA adr fo L xs c0) (hd : decode cc pc = .ok (.getstatic ix, len)) (hr : pm_rokB o (pc, .getstatic ix, len, a, b, v) = true) (hst : pm_step X call o ini ret pc ls st h (.getstatic ix) len a b v = some (.inl s')) (k : pm_K p l e R s m args below meth c Q base D dA adr fo nL c0 s0 s') : pm_K p l e R s m args below meth c Q base D dA adr fo nL c0 s0 (pc, ls, st, h) := by
  have hr2 : (len == 3 && pm_slA.any (fun q => q.1 == o && q.2.1 == ix && decide (q.2.2.1 = v))) = true := hr
  rw [Bool.and_eq_true, beq_iff_eq] at hr2
  obtain ⟨rfl, hw⟩ := hr2
  obtain ⟨q, hq, hb⟩ := List.any_eq_true.mp hw
  simp only [Bool.and_eq_true, beq_iff_eq, decide_eq_true_eq] at hb
  obtain ⟨⟨e1, e2⟩, e3⟩ := hb
  have hk := List.all_eq_true.mp pm_slA_ok q hq
  simp only [Bool.and_eq_true, decide_eq_true_eq] at hk
  have hwd := fx.2.2.2.2.1 _ (pm_gw_of hk.1 hk.2)
  obtain rfl := pm_go_inv hst
  obtain ⟨-, -, -, -, -, -, -, z1, z2, z3, -⟩ := fx.2.2.2.2.2.2.1
  intro H locs lsA hW hS hl hn hz hc hs
  have kk := k H locs lsA hW hS hl hn hz hc hs
  have kk : W p l e R s m args below meth c H locs (h.1 - c0) (h.2.1 - s0) Q (F0 m (pc + 3) lsA (pm_emb base adr fo v :: st.map (pm_emb base adr fo))) := kk
  rw [e1, e2] at hwd
  subst e3
  unfold pm_slA at hq
  simp only [List.mem_cons, List.not_mem_nil, or_false] at hq
  rcases hq with rfl | rfl | rfl
  · exact va_gets fx.1 fx.2.1 z1 hS fx.2.2.2.1 hwd (fun _ g => g) hd kk
  · exact va_gets fx.1 fx.2.1 z2 hS fx.2.2.2.1 hwd (fun _ g => g) hd kk
  · exact va_gets fx.1 fx.2.1 z3 hS fx.2.2.2.1 hwd (fun _ g => g) hd kk
theorem pm_t_getfield {ix : Nat} (fx : pm_Fx p s m args meth c cc nL o ini base D dA adr fo L xs c0) (hd : decode cc pc = .ok (.getfield ix, len)) (hr : pm_rokB o (pc, .getfield ix, len, a, b, v) = true) (hst : pm_step X call o ini ret pc ls st h (.getfield ix) len a b v = some (.inl s')) (k : pm_K p l e R s m args below meth c Q base D dA adr fo nL c0 s0 s') : pm_K p l e R s m args below meth c Q base D dA adr fo nL c0 s0 (pc, ls, st, h) := by
  have hr2 : (len == 3 && pm_flA.any (fun q => q.1 == o && q.2.1 == ix && q.2.2.1 == a && q.2.2.2.1 == b)) = true := hr
  rw [Bool.and_eq_true, beq_iff_eq] at hr2
  obtain ⟨rfl, hw⟩ := hr2
  have hwd := pm_fl_word hw
  replace hst : (match st with
    | .retAddr j :: r => bif a == 100 && decide (j < 23) then (bif b == 0 then pm_go (pc + 3) ls (.retAddr (100 + j) :: r) h else pm_go (pc + 3) ls (.int 0 :: r) h) else none
    | w :: r => (match pm_obj h w with
      | some (_, ci, fs) => bif ci == a && decide (b < pm_cn a) then (match fs[b]? with
        | some u => pm_go (pc + 3) ls (u :: r) h
        | none => none) else none
      | none => none)
    | _ => none) = some (.inl s') := hst
  split at hst
  · next j r =>
    cases hj : (a == 100 && decide (j < 23)) with
    | false => rw [hj] at hst; cases hst
    | true =>
      rw [hj] at hst
      rw [Bool.and_eq_true, beq_iff_eq, decide_eq_true_eq] at hj
      obtain ⟨rfl, hj⟩ := hj
      obtain ⟨-, -, f3, f4⟩ := fx.2.2.2.2.2.2.1.2.2.1 j hj
      have n1 : (j == 300) = false := by rw [beq_eq_false_iff_ne]; omega
      have n2 : (100 + j == 300) = false := by rw [beq_eq_false_iff_ne]; omega
      intro H locs lsA hW hS hl hn hz hc hs
      show W p l e R s m args below meth c H locs (h.1 - c0) (h.2.1 - s0) Q (F0 m pc lsA (pm_emb base adr fo (.retAddr j) :: r.map (pm_emb base adr fo)))
      rw [pm_emb_st n1]
      cases hb : (b == 0) with
      | true =>
        rw [hb] at hst
        obtain rfl := pm_go_inv hst
        have hb0 : b = 0 := by simpa using hb
        subst hb0
        have kk := k H locs lsA hW hS hl hn hz hc hs
        have kk : W p l e R s m args below meth c H locs (h.1 - c0) (h.2.1 - s0) Q (F0 m (pc + 3) lsA (pm_emb base adr fo (.retAddr (100 + j)) :: r.map (pm_emb base adr fo))) := kk
        rw [pm_emb_st n2] at kk
        exact vk_getf fx.1 fx.2.1 f4 hS fx.2.2.2.1 (fx.2.2.2.2.1 _ hwd) (fun _ g => g) hd kk
      | false =>
        rw [hb] at hst
        obtain rfl := pm_go_inv hst
        have hb0 : ¬ b = 0 := by simpa using hb
        have hwd2 : Cond.fieldLink (pm_own o) ix "java/lang/String" "coder" "B" ∈ pm_gw := by
          unfold pm_fw at hwd
          rw [if_pos rfl, if_neg hb0] at hwd
          exact hwd
        exact vk_getf fx.1 fx.2.1 f3 hS fx.2.2.2.1 (fx.2.2.2.2.1 _ hwd2) (fun _ g => g) hd (k H locs lsA hW hS hl hn hz hc hs)
  · next w r hne =>
    split at hst
    · next x ci fs hx =>
      obtain ⟨rfl, hxl, hcell⟩ := pm_obj_inv hx
      cases hg : (ci == a && decide (b < pm_cn a)) with
      | false => rw [hg] at hst; cases hst
      | true =>
        rw [hg] at hst
        rw [Bool.and_eq_true, beq_iff_eq, decide_eq_true_eq] at hg
        obtain ⟨rfl, hb⟩ := hg
        obtain ⟨q, hq, hbq⟩ := pm_cn_some hb
        replace hst : (match fs[b]? with
          | some u => pm_go (pc + 3) ls (u :: r) h
          | none => none) = some (.inl s') := hst
        split at hst
        · next u hu =>
          obtain rfl := pm_go_inv hst
          rw [pm_fw_of hq] at hwd
          intro H locs lsA hW hS hl hn hz hc hs
          exact va_get (C := q.1) (T := q.2.1) (N := q.2.2) (ci := ci) fx.1 fx.2.1 fx.2.2.2.2.1 (pm_cls_ok hq).1 fx.2.2.2.1 fx.2.2.2.2.2.2.1.1 hW.P x (pm_at_obj hW hxl hcell) hq b hbq (fx.2.2.2.2.1 _ hwd) (fun _ g => g) (v := pm_emb base adr fo u) (by rw [List.getElem?_map, hu]; rfl) hd (k H locs lsA hW hS hl hn hz hc hs)
        · cases hst
    · cases hst
  · cases hst
theorem pm_t_putfield {ix : Nat} (fx : pm_Fx p s m args meth c cc nL o ini base D dA adr fo L xs c0) (hd : decode cc pc = .ok (.putfield ix, len)) (hr : pm_rokB o (pc, .putfield ix, len, a, b, v) = true) (hst : pm_step X call o ini ret pc ls st h (.putfield ix) len a b v = some (.inl s')) (k : pm_K p l e R s m args below meth c Q base D dA adr fo nL c0 s0 s') : pm_K p l e R s m args below meth c Q base D dA adr fo nL c0 s0 (pc, ls, st, h) := by
  have hr2 : (len == 3 && !decide (a = 100) && pm_flA.any (fun q => q.1 == o && q.2.1 == ix && q.2.2.1 == a && q.2.2.2.1 == b)) = true := hr
  rw [Bool.and_eq_true, Bool.and_eq_true, beq_iff_eq] at hr2
  obtain ⟨⟨rfl, -⟩, hw⟩ := hr2
  have hwd := pm_fl_word hw
  replace hst : (match st with
    | u :: w :: r => (match pm_obj h w with
      | some (x, ci, fs) => bif ci == a && decide (b < pm_cn a) && decide (b < fs.length) && pm_fit (pm_ty a b) u && (!pm_fin a b || (ini && decide (pm_cnm a = pm_own o))) then pm_go (pc + 3) ls r (pm_hset h x (.inr (a, fs.set b u))) else none
      | none => none)
    | _ => none) = some (.inl s') := hst
  split at hst
  · next u w r =>
    split at hst
    · next x ci fs hx =>
      obtain ⟨rfl, hxl, hcell⟩ := pm_obj_inv hx
      cases hg : (ci == a && decide (b < pm_cn a) && decide (b < fs.length) && pm_fit (pm_ty a b) u && (!pm_fin a b || (ini && decide (pm_cnm a = pm_own o)))) with
      | false => rw [hg] at hst; cases hst
      | true =>
        rw [hg] at hst
        rw [Bool.and_eq_true, Bool.and_eq_true, Bool.and_eq_true, Bool.and_eq_true, beq_iff_eq, decide_eq_true_eq, decide_eq_true_eq] at hg
        obtain ⟨⟨⟨⟨rfl, hb⟩, hbl⟩, hf⟩, hfin⟩ := hg
        obtain ⟨q, hq, hbq⟩ := pm_cn_some hb
        obtain rfl := pm_go_inv hst
        rw [pm_fw_of hq] at hwd
        obtain ⟨hn1, hf1⟩ := pm_fit_ok (base := base) (adr := adr) (fo := fo) hf
        have hfe : pm_fin ci b = (q.2.1 b).2.2.2 := by unfold pm_fin; rw [hq]
        have hce : pm_cnm ci = q.1 := by unfold pm_cnm; rw [hq]
        intro H locs lsA hW hS hl hn hz hc hs
        have fin : ∀ (H1 : Heap) (locs1 : List Loc), va_P D pm_cls ((pm_wl base dA adr fo h).set x (base + x, .inr (ci, (fs.map (pm_emb base adr fo)).set b (pm_emb base adr fo u)))) H1 → va_D (pm_A base) ((pm_wl base dA adr fo h).set x (base + x, .inr (ci, (fs.map (pm_emb base adr fo)).set b (pm_emb base adr fo u)))) → va_S (pm_A base) H H1 locs1 → W p l e R s m args below meth c H1 locs1 (h.1 - c0) (h.2.1 - s0) Q (F0 m (pc + 3) lsA (r.map (pm_emb base adr fo))) := by
          intro H1 locs1 hP1 _ hS1
          have e1 : (pm_wl base dA adr fo h).set x (base + x, .inr (ci, (fs.map (pm_emb base adr fo)).set b (pm_emb base adr fo u))) = pm_wl base dA adr fo (pm_hset h x (.inr (ci, fs.set b u))) := by
            rw [← pm_wl_set hxl, ← List.map_set]
            rfl
          rw [e1] at hP1
          exact pm_store (h' := pm_hset h x (.inr (ci, fs.set b u))) fx hW hS hc hs hl hn hz rfl rfl hP1 hS1 k
        cases hfb : (q.2.1 b).2.2.2 with
        | false => exact va_put (C := q.1) (T := q.2.1) (N := q.2.2) (ci := ci) fx.1 fx.2.1 fx.2.2.2.2.1 (pm_cls_ok hq).1 (pm_ty ci) (pm_cls_ty hq) (pm_cls_nm hq) fx.2.2.2.1 fx.2.2.2.2.2.2.1.1 hW.P pm_wl_D (pm_S0 hS) x (pm_at_obj hW hxl hcell) hq b hbq (fx.2.2.2.2.1 _ hwd) (fun _ g => g) hfb (pm_cls_ty hq b hbq) hn1 hf1 (by rw [List.length_map]; exact hbl) hd fin
        | true =>
          rw [hfe, hfb] at hfin
          have hfin : (ini && decide (pm_cnm ci = pm_own o)) = true := by simpa using hfin
          rw [Bool.and_eq_true, decide_eq_true_eq, hce] at hfin
          exact va_putF (C := q.1) (T := q.2.1) (N := q.2.2) (ci := ci) fx.1 fx.2.1 fx.2.2.2.2.1 (pm_cls_ok hq).1 (pm_ty ci) (pm_cls_ty hq) (pm_cls_nm hq) fx.2.2.2.1 fx.2.2.2.2.2.2.1.1 hW.P pm_wl_D (pm_S0 hS) x (pm_at_obj hW hxl hcell) hq b hbq (fx.2.2.2.2.1 _ hwd) (fun _ g => g) hfb (fx.2.2.2.2.2.1 hfin.1) ((pm_cls_decl hq hbq).trans hfin.2) (pm_cls_ty hq b hbq) hn1 hf1 (by rw [List.length_map]; exact hbl) hd fin
    · cases hst
  · cases hst
end SIM2
end
section
/-! the simulation: new cells, arrays, returns -/
theorem pm_RA_nm {U : State} {cA : ClassId} {ty : FieldType} (h : va_RA U cA ty) : U.vm.findClass ("[" ++ ty.toString) = some cA := by
  cases ty with
  | object C => obtain ⟨_, _, _, _, _, h4⟩ := h; exact h4
  | _ => exact h
theorem pm_RA_eq {U : State} {c1 c2 : ClassId} {ty : FieldType} (h1 : va_RA U c1 ty) (h2 : va_RA U c2 ty) : c1 = c2 := Option.some.inj ((pm_RA_nm h1).symm.trans (pm_RA_nm h2))
theorem pm_dflt {base : Nat} {adr : Nat → Nat} {fo : Value} (ty : FieldType) : pm_emb base adr fo (defaultValue ty) = defaultValue ty := by cases ty <;> rfl
theorem pm_embA_1 {base : Nat} (x : vp_A) : (pm_embA base x).1 = x.1 := by
  obtain ⟨n, f | f | f | f | f⟩ := x <;> rfl
def pm_rI (ret : Option FieldType) (st : List Value) (h : pm_H) : Option (pm_S ⊕ pm_R) := match st with
      | [.int x] => bif pm_ret ret x then some (.inr (h, some (.int x))) else none
      | _ => none
def pm_rL (ret : Option FieldType) (st : List Value) (h : pm_H) : Option (pm_S ⊕ pm_R) := match st with
      | [.long x] => bif decide (ret = some .long) then some (.inr (h, some (.long x))) else none
      | _ => none
def pm_rA (ret : Option FieldType) (st : List Value) (h : pm_H) : Option (pm_S ⊕ pm_R) := match st, ret with
      | [.ref x], some (.object _) => some (.inr (h, some (.ref x)))
      | [.ref x], some (.array _) => some (.inr (h, some (.ref x)))
      | [.null], some (.object _) => some (.inr (h, some .null))
      | [.null], some (.array _) => some (.inr (h, some .null))
      | _, _ => none
def pm_rV (ret : Option FieldType) (st : List Value) (h : pm_H) : Option (pm_S ⊕ pm_R) := match st, ret with
      | [], none => some (.inr (h, none))
      | _, _ => none
section SIM3
variable {p : Program} {l : Launch} {e : Env} {R : Room} {s : State} {m : MethodId} {args : Array Value} {below : List Frame} {meth : Method} {c : Code} {Q : State → Prop}
variable {base : Nat} {D : va_G} {dA : Nat → ClassId} {adr : Nat → Nat} {fo : Value} {L : Nat} {xs : Nat → Int32} {nL c0 s0 o d : Nat} {ini : Bool} {cc : ByteArray} {X : pm_X} {call : Nat → List Value → pm_H → Option pm_R} {ret : Option FieldType}
variable {pc len a b : Nat} {ls : pm_Ls} {st : List Value} {h : pm_H} {v : Value} {s' : pm_S}
theorem pm_hA {H : Heap} (hW : pm_W base D dA adr fo h H) : ∀ q, H.size ≤ q → pm_A base q := by
  intro q hq
  have := hW.1
  show base ≤ q
  omega
theorem pm_newV (ci : Nat) {q : vw_C} (hq : pm_cls[ci]? = some q) : ∀ j, j < q.2.2 → defaultValue (pm_ty ci j) = vp_V ((pm_newN ci).map (pm_emb base adr fo)) j := by
  intro j hj
  unfold vp_V pm_newN
  rw [hq]
  simp only [List.map_map]
  rw [List.getD_eq_getElem?_getD, List.getElem?_map, List.getElem?_range hj]
  show _ = pm_emb base adr fo (defaultValue (pm_ty ci j))
  rw [pm_dflt]
theorem pm_t_new {ix : Nat} (fx : pm_Fx p s m args meth c cc nL o ini base D dA adr fo L xs c0) (hd : decode cc pc = .ok (.new ix, len)) (hr : pm_rokB o (pc, .new ix, len, a, b, v) = true) (hst : pm_step X call o ini ret pc ls st h (.new ix) len a b v = some (.inl s')) (hrc : s'.2.2.2.1 - c0 ≤ R.cells) (hrs : s'.2.2.2.2.1 - s0 ≤ R.slots) (k : pm_K p l e R s m args below meth c Q base D dA adr fo nL c0 s0 s') : pm_K p l e R s m args below meth c Q base D dA adr fo nL c0 s0 (pc, ls, st, h) := by
  have hr2 : (len == 3 && pm_nlA.any (fun q => q.1 == o && q.2.1 == ix && q.2.2.1 == a)) = true := hr
  rw [Bool.and_eq_true, beq_iff_eq] at hr2
  obtain ⟨rfl, hw⟩ := hr2
  have hwd := pm_nl_word hw
  replace hst : (bif decide (a < 12) then pm_go (pc + 3) ls (.ref h.1 :: st) (pm_hpush h (pm_cn a) (.inr (a, pm_newN a))) else none) = some (.inl s') := hst
  by_cases ha : a < 12
  · rw [decide_eq_true ha] at hst
    obtain rfl := pm_go_inv hst
    have hrc : h.1 + 1 - c0 ≤ R.cells := hrc
    have hrs : h.2.1 + pm_cn a - s0 ≤ R.slots := hrs
    have hlt : a < pm_cls.length := by rw [pm_clen.1]; exact ha
    have hq : pm_cls[a]? = some pm_cls[a] := List.getElem?_eq_getElem hlt
    revert hq
    generalize pm_cls[a] = q
    intro hq
    have hcn : pm_cn a = q.2.2 := by unfold pm_cn; rw [hq]
    have hce : pm_cnm a = q.1 := by unfold pm_cnm; rw [hq]
    rw [hce] at hwd
    intro H locs lsA hW hS hl hn hz hc hs
    have hc : c0 ≤ h.1 := hc
    have hs : s0 ≤ h.2.1 := hs
    obtain ⟨w1, w2, w3⟩ := pm_cls_ok hq
    have k2 : pm_K p l e R s m args below meth c Q base D dA adr fo nL c0 s0 (pc + 3, ls, .ref h.1 :: st, pm_hpush h q.2.2 (.inr (a, pm_newN a))) := by rw [← hcn]; exact k
    refine va_new (C := q.1) (T := q.2.1) (N := q.2.2) (ci := a) fx.1 fx.2.1 fx.2.2.2.2.1 w1 (pm_ty a) (pm_cls_ty hq) fx.2.2.2.1 (fx.2.2.2.2.1 _ hwd) (fx.2.2.2.2.1 _ w3) (fx.2.2.2.2.1 _ w2) fx.2.2.2.2.2.2.1.1 hW.P pm_wl_D (pm_S0 hS) (pm_hA hW) hq (fs := (pm_newN a).map (pm_emb base adr fo)) (pm_newV a hq) (by show h.1 - c0 + 1 ≤ R.cells; omega) (by show h.2.1 - s0 + q.2.2 ≤ R.slots; omega) hd (fun q1 H1 hP1 hD1 hS1 => ?_)
    exact pm_newc (x := .inr (a, pm_newN a)) fx hW hS hc hs hl hn hz hP1 hD1 hS1 k2
  · rw [decide_eq_false ha] at hst; cases hst
theorem pm_t_newarray {at1 : ArrayType} (fx : pm_Fx p s m args meth c cc nL o ini base D dA adr fo L xs c0) (hd : decode cc pc = .ok (.newarray at1, len)) (hr : pm_rokB o (pc, .newarray at1, len, a, b, v) = true) (hst : pm_step X call o ini ret pc ls st h (.newarray at1) len a b v = some (.inl s')) (hrc : s'.2.2.2.1 - c0 ≤ R.cells) (hrs : s'.2.2.2.2.1 - s0 ≤ R.slots) (k : pm_K p l e R s m args below meth c Q base D dA adr fo nL c0 s0 s') : pm_K p l e R s m args below meth c Q base D dA adr fo nL c0 s0 (pc, ls, st, h) := by
  have hlen : len = 2 := by simpa [pm_rokB, pm_unl, pm_lk] using hr
  subst hlen
  replace hst : (match st with
    | .int n :: r => bif decide (n < 0) || decide (16777216 < n.toNatClampNeg) then none else (match at1 with
      | .int => pm_go (pc + 2) ls (.ref h.1 :: r) (pm_hpush h n.toNatClampNeg (.inl (0, n.toNatClampNeg, .inl (fun _ => 0))))
      | .long => pm_go (pc + 2) ls (.ref h.1 :: r) (pm_hpush h n.toNatClampNeg (.inl (1, n.toNatClampNeg, .inr (.inl (fun _ => 0)))))
      | .boolean => pm_go (pc + 2) ls (.ref h.1 :: r) (pm_hpush h n.toNatClampNeg (.inl (2, n.toNatClampNeg, .inl (fun _ => 0))))
      | _ => none)
    | _ => none) = some (.inl s') := hst
  split at hst
  · next n r =>
    cases hg : (decide (n < 0) || decide (16777216 < n.toNatClampNeg)) with
    | true => rw [hg] at hst; cases hst
    | false =>
      rw [hg] at hst
      rw [Bool.or_eq_false_iff, decide_eq_false_iff_not, decide_eq_false_iff_not] at hg
      obtain ⟨hg1, hg2⟩ := hg
      cases at1 with
      | int =>
        obtain rfl := pm_go_inv hst
        have hrc : h.1 + 1 - c0 ≤ R.cells := hrc
        have hrs : h.2.1 + n.toNatClampNeg - s0 ≤ R.slots := hrs
        intro H locs lsA hW hS hl hn hz hc hs
        have hc : c0 ≤ h.1 := hc
        have hs : s0 ≤ h.2.1 := hs
        refine va_newa (atype := .int) (ty := .int) fx.1 fx.2.1 (fx.2.2.2.2.1 _ pm_ac0) rfl fx.2.2.2.2.2.2.1.1 hW.P pm_wl_D (pm_S0 hS) (pm_hA hW) (n := n) (N' := n.toNatClampNeg) (a0 := (n.toNatClampNeg, .inl (fun _ => 0))) (fun cA => rfl) hg1 rfl (by show n.toNatClampNeg * 4 ≤ 536870912; omega) (by show h.1 - c0 + 1 ≤ R.cells; omega) (by show h.2.1 - s0 + n.toNatClampNeg ≤ R.slots; omega) hd (fun q cA H1 hK1 hP1 hD1 hS1 => ?_)
        obtain rfl : cA = dA 0 := pm_RA_eq (hK1.2 5 (cA, .int) rfl).2 (hK1.2 0 (dA 0, .int) rfl).2
        exact pm_newc (x := .inl (0, n.toNatClampNeg, .inl (fun _ => 0))) fx hW hS hc hs hl hn hz hP1 hD1 hS1 k
      | long =>
        obtain rfl := pm_go_inv hst
        have hrc : h.1 + 1 - c0 ≤ R.cells := hrc
        have hrs : h.2.1 + n.toNatClampNeg - s0 ≤ R.slots := hrs
        intro H locs lsA hW hS hl hn hz hc hs
        have hc : c0 ≤ h.1 := hc
        have hs : s0 ≤ h.2.1 := hs
        refine va_newa (atype := .long) (ty := .long) fx.1 fx.2.1 (fx.2.2.2.2.1 _ pm_ac1) rfl fx.2.2.2.2.2.2.1.1 hW.P pm_wl_D (pm_S0 hS) (pm_hA hW) (n := n) (N' := n.toNatClampNeg) (a0 := (n.toNatClampNeg, .inr (.inl (fun _ => 0)))) (fun cA => rfl) hg1 rfl (by show n.toNatClampNeg * 8 ≤ 536870912; omega) (by show h.1 - c0 + 1 ≤ R.cells; omega) (by show h.2.1 - s0 + n.toNatClampNeg ≤ R.slots; omega) hd (fun q cA H1 hK1 hP1 hD1 hS1 => ?_)
        obtain rfl : cA = dA 1 := pm_RA_eq (hK1.2 5 (cA, .long) rfl).2 (hK1.2 1 (dA 1, .long) rfl).2
        exact pm_newc (x := .inl (1, n.toNatClampNeg, .inr (.inl (fun _ => 0)))) fx hW hS hc hs hl hn hz hP1 hD1 hS1 k
      | boolean =>
        obtain rfl := pm_go_inv hst
        have hrc : h.1 + 1 - c0 ≤ R.cells := hrc
        have hrs : h.2.1 + n.toNatClampNeg - s0 ≤ R.slots := hrs
        intro H locs lsA hW hS hl hn hz hc hs
        have hc : c0 ≤ h.1 := hc
        have hs : s0 ≤ h.2.1 := hs
        refine va_newa (atype := .boolean) (ty := .boolean) fx.1 fx.2.1 (fx.2.2.2.2.1 _ pm_ac2) rfl fx.2.2.2.2.2.2.1.1 hW.P pm_wl_D (pm_S0 hS) (pm_hA hW) (n := n) (N' := n.toNatClampNeg) (a0 := (n.toNatClampNeg, .inl (fun _ => 0))) (fun cA => rfl) hg1 rfl (by show n.toNatClampNeg * 1 ≤ 536870912; omega) (by show h.1 - c0 + 1 ≤ R.cells; omega) (by show h.2.1 - s0 + n.toNatClampNeg ≤ R.slots; omega) hd (fun q cA H1 hK1 hP1 hD1 hS1 => ?_)
        obtain rfl : cA = dA 2 := pm_RA_eq (hK1.2 5 (cA, .boolean) rfl).2 (hK1.2 2 (dA 2, .boolean) rfl).2
        exact pm_newc (x := .inl (2, n.toNatClampNeg, .inl (fun _ => 0))) fx hW hS hc hs hl hn hz hP1 hD1 hS1 k
      | _ => cases hst
  · cases hst
theorem pm_t_anewarray {ix : Nat} (fx : pm_Fx p s m args meth c cc nL o ini base D dA adr fo L xs c0) (hd : decode cc pc = .ok (.anewarray ix, len)) (hr : pm_rokB o (pc, .anewarray ix, len, a, b, v) = true) (hst : pm_step X call o ini ret pc ls st h (.anewarray ix) len a b v = some (.inl s')) (hrc : s'.2.2.2.1 - c0 ≤ R.cells) (hrs : s'.2.2.2.2.1 - s0 ≤ R.slots) (k : pm_K p l e R s m args below meth c Q base D dA adr fo nL c0 s0 s') : pm_K p l e R s m args below meth c Q base D dA adr fo nL c0 s0 (pc, ls, st, h) := by
  have hr2 : (len == 3 && pm_alA.any (fun q => q.1 == o && q.2.1 == ix && q.2.2.1 == a)) = true := hr
  rw [Bool.and_eq_true, beq_iff_eq] at hr2
  obtain ⟨rfl, hw⟩ := hr2
  have hwd := pm_al_word hw
  replace hst : (match st with
    | .int n :: r => bif decide (n < 0) || decide (16777216 < n.toNatClampNeg) || !(a == 3 || a == 4) then none else pm_go (pc + 3) ls (.ref h.1 :: r) (pm_hpush h n.toNatClampNeg (.inl (a, n.toNatClampNeg, .inr (.inr (.inr (.inr (fun _ => none)))))))
    | _ => none) = some (.inl s') := hst
  split at hst
  · next n r =>
    cases hg : (decide (n < 0) || decide (16777216 < n.toNatClampNeg) || !(a == 3 || a == 4)) with
    | true => rw [hg] at hst; cases hst
    | false =>
      rw [hg] at hst
      rw [Bool.or_eq_false_iff, Bool.or_eq_false_iff, decide_eq_false_iff_not, decide_eq_false_iff_not, Bool.not_eq_false', Bool.or_eq_true, beq_iff_eq, beq_iff_eq] at hg
      obtain ⟨⟨hg1, hg2⟩, hg3⟩ := hg
      obtain rfl := pm_go_inv hst
      have hrc : h.1 + 1 - c0 ≤ R.cells := hrc
      have hrs : h.2.1 + n.toNatClampNeg - s0 ≤ R.slots := hrs
      have hF := fx.2.2.2.2.2.2.1
      intro H locs lsA hW hS hl hn hz hc hs
      have hc : c0 ≤ h.1 := hc
      have hs : s0 ≤ h.2.1 := hs
      rcases hg3 with rfl | rfl
      · refine va_newq (C := "TrainBearers$Text") fx.1 fx.2.1 fx.2.2.2.1 (fx.2.2.2.2.1 _ hwd) hF.2.2.2.1 hF.1 hW.P pm_wl_D (pm_S0 hS) (pm_hA hW) (n := n) (N' := n.toNatClampNeg) hg1 rfl (by omega) (by show h.1 - c0 + 1 ≤ R.cells; omega) (by show h.2.1 - s0 + n.toNatClampNeg ≤ R.slots; omega) hd (fun q cA H1 hK1 hP1 hD1 hS1 => ?_)
        obtain rfl : cA = dA 3 := pm_RA_eq (hK1.2 5 (cA, .object "TrainBearers$Text") rfl).2 (hK1.2 3 (dA 3, .object "TrainBearers$Text") rfl).2
        exact pm_newc (x := .inl (3, n.toNatClampNeg, .inr (.inr (.inr (.inr (fun _ => none)))))) fx hW hS hc hs hl hn hz hP1 hD1 hS1 k
      · refine va_newq (C := "TrainBearers$Train") fx.1 fx.2.1 fx.2.2.2.1 (fx.2.2.2.2.1 _ hwd) hF.2.2.2.2.1 hF.1 hW.P pm_wl_D (pm_S0 hS) (pm_hA hW) (n := n) (N' := n.toNatClampNeg) hg1 rfl (by omega) (by show h.1 - c0 + 1 ≤ R.cells; omega) (by show h.2.1 - s0 + n.toNatClampNeg ≤ R.slots; omega) hd (fun q cA H1 hK1 hP1 hD1 hS1 => ?_)
        obtain rfl : cA = dA 4 := pm_RA_eq (hK1.2 5 (cA, .object "TrainBearers$Train") rfl).2 (hK1.2 4 (dA 4, .object "TrainBearers$Train") rfl).2
        exact pm_newc (x := .inl (4, n.toNatClampNeg, .inr (.inr (.inr (.inr (fun _ => none)))))) fx hW hS hc hs hl hn hz hP1 hD1 hS1 k
  · cases hst
theorem pm_tys_get {t : Nat} (ht : t < 5) : ∃ ty, (pm_tys dA)[t]? = some (dA t, ty) := by
  match t, ht with
  | 0, _ => exact ⟨_, rfl⟩
  | 1, _ => exact ⟨_, rfl⟩
  | 2, _ => exact ⟨_, rfl⟩
  | 3, _ => exact ⟨_, rfl⟩
  | 4, _ => exact ⟨_, rfl⟩
  | n + 5, h => exact absurd h (by omega)
theorem pm_tys_q {t : Nat} (ht : t = 3 ∨ t = 4) : ∃ q : vw_C, pm_cls[pm_ak t]? = some q ∧ (pm_tys dA)[t]? = some (dA t, .object q.1) := by
  rcases ht with rfl | rfl
  · exact ⟨_, rfl, rfl⟩
  · exact ⟨_, rfl, rfl⟩
theorem pm_t_arraylength (fx : pm_Fx p s m args meth c cc nL o ini base D dA adr fo L xs c0) (hd : decode cc pc = .ok (.arraylength, len)) (hr : pm_rokB o (pc, .arraylength, len, a, b, v) = true) (hst : pm_step (pm_sX L xs) call o ini ret pc ls st h (.arraylength) len a b v = some (.inl s')) (k : pm_K p l e R s m args below meth c Q base D dA adr fo nL c0 s0 s') : pm_K p l e R s m args below meth c Q base D dA adr fo nL c0 s0 (pc, ls, st, h) := by
  obtain rfl := pm_len1 hr rfl
  replace hst : (match st with
    | w :: r => (match pm_arr (pm_sX L xs) h w with
      | some (t, n, _) => bif decide (t < 5) || pm_isS w then pm_go (pc + 1) ls (.int (Int32.ofNat n) :: r) h else none
      | none => none)
    | _ => none) = some (.inl s') := hst
  split at hst
  · next w r =>
    split at hst
    · next t n y hx =>
      cases hg : (decide (t < 5) || pm_isS w) with
      | false => rw [hg] at hst; cases hst
      | true =>
        rw [hg] at hst
        obtain rfl := pm_go_inv hst
        rcases pm_arr_or hx with ⟨q, rfl, hq, hc1⟩ | ⟨j, z, rfl, hj, hz1⟩
        · have ht : t < 5 := by simpa [pm_isS] using hg
          obtain ⟨ty, hty⟩ := pm_tys_get (dA := dA) ht
          intro H locs lsA hW hS hl hn hz hc hs
          exact va_alen fx.1 fx.2.1 fx.2.2.2.2.2.2.1.1 hW.P q t (pm_at_arr hW hq hc1) hty (by rw [pm_embA_1]) hd (k H locs lsA hW hS hl hn hz hc hs)
        · obtain ⟨z1, z2, z3⟩ := z
          cases hz1
          have hT := fx.2.2.2.2.2.2.1.2.1 j _ _ _ hj
          intro H locs lsA hW hS hl hn hz hc hs
          show W p l e R s m args below meth c H locs (h.1 - c0) (h.2.1 - s0) Q (F0 m pc lsA (pm_emb base adr fo (.retAddr j) :: r.map (pm_emb base adr fo)))
          rw [pm_emb_st (pm_sX_not300 hj)]
          exact va_tlen fx.1 fx.2.1 hT hS rfl hd (k H locs lsA hW hS hl hn hz hc hs)
    · cases hst
  · cases hst
theorem pm_t_iaload (fx : pm_Fx p s m args meth c cc nL o ini base D dA adr fo L xs c0) (hd : decode cc pc = .ok (.iaload, len)) (hr : pm_rokB o (pc, .iaload, len, a, b, v) = true) (hst : pm_step (pm_sX L xs) call o ini ret pc ls st h (.iaload) len a b v = some (.inl s')) (k : pm_K p l e R s m args below meth c Q base D dA adr fo nL c0 s0 s') : pm_K p l e R s m args below meth c Q base D dA adr fo nL c0 s0 (pc, ls, st, h) := by
  obtain rfl := pm_len1 hr rfl
  replace hst : (match st with
    | .int j :: w :: r => (match pm_arr (pm_sX L xs) h w with
      | some (t, n, .inl f) => bif t == 0 && pm_in j n then pm_go (pc + 1) ls (.int (f j.toNatClampNeg) :: r) h else none
      | _ => none)
    | _ => none) = some (.inl s') := hst
  split at hst
  · next j w r =>
    split at hst
    · next t n f hx =>
      cases hg : (t == 0 && pm_in j n) with
      | false => rw [hg] at hst; cases hst
      | true =>
        rw [hg] at hst
        rw [Bool.and_eq_true, beq_iff_eq] at hg
        obtain ⟨rfl, hin⟩ := hg
        obtain rfl := pm_go_inv hst
        rcases pm_arr_or hx with ⟨q, rfl, hq, hc1⟩ | ⟨j1, z, rfl, hj, hz1⟩
        · intro H locs lsA hW hS hl hn hz hc hs
          exact va_iald fx.1 fx.2.1 fx.2.2.2.2.2.2.1.1 hW.P q 0 (pm_at_arr hW hq hc1) rfl (pm_in_iff hin) hd (k H locs lsA hW hS hl hn hz hc hs)
        · obtain ⟨z1, z2, z3⟩ := z
          cases hz1
          have hT := fx.2.2.2.2.2.2.1.2.1 j1 _ _ _ hj
          intro H locs lsA hW hS hl hn hz hc hs
          show W p l e R s m args below meth c H locs (h.1 - c0) (h.2.1 - s0) Q (F0 m pc lsA (.int j :: pm_emb base adr fo (.retAddr j1) :: r.map (pm_emb base adr fo)))
          rw [pm_emb_st (pm_sX_not300 hj)]
          exact va_ti fx.1 fx.2.1 hT hS (pm_in_iff hin) rfl hd (k H locs lsA hW hS hl hn hz hc hs)
    · cases hst
  · cases hst
theorem pm_t_baload (fx : pm_Fx p s m args meth c cc nL o ini base D dA adr fo L xs c0) (hd : decode cc pc = .ok (.baload, len)) (hr : pm_rokB o (pc, .baload, len, a, b, v) = true) (hst : pm_step (pm_sX L xs) call o ini ret pc ls st h (.baload) len a b v = some (.inl s')) (k : pm_K p l e R s m args below meth c Q base D dA adr fo nL c0 s0 s') : pm_K p l e R s m args below meth c Q base D dA adr fo nL c0 s0 (pc, ls, st, h) := by
  obtain rfl := pm_len1 hr rfl
  replace hst : (match st with
    | .int j :: w :: r => (match pm_arr (pm_sX L xs) h w with
      | some (t, n, .inl f) => bif (t == 2 || (t == 5 && pm_isS w)) && pm_in j n then pm_go (pc + 1) ls (.int (f j.toNatClampNeg) :: r) h else none
      | _ => none)
    | _ => none) = some (.inl s') := hst
  split at hst
  · next j w r =>
    split at hst
    · next t n f hx =>
      cases hg : ((t == 2 || (t == 5 && pm_isS w)) && pm_in j n) with
      | false => rw [hg] at hst; cases hst
      | true =>
        rw [hg] at hst
        rw [Bool.and_eq_true, Bool.or_eq_true, Bool.and_eq_true, beq_iff_eq, beq_iff_eq] at hg
        obtain ⟨ht, hin⟩ := hg
        obtain rfl := pm_go_inv hst
        rcases pm_arr_or hx with ⟨q, rfl, hq, hc1⟩ | ⟨j1, z, rfl, hj, hz1⟩
        · rcases ht with rfl | ⟨-, ht⟩
          · intro H locs lsA hW hS hl hn hz hc hs
            exact va_zald fx.1 fx.2.1 fx.2.2.2.2.2.2.1.1 hW.P q 2 (pm_at_arr hW hq hc1) rfl (pm_in_iff hin) hd (k H locs lsA hW hS hl hn hz hc hs)
          · cases ht
        · obtain ⟨z1, z2, z3⟩ := z
          cases hz1
          have hT := fx.2.2.2.2.2.2.1.2.1 j1 _ _ _ hj
          rcases ht with rfl | ⟨rfl, -⟩
          · rcases pm_sX_kind hj with hk | hk <;> cases hk
          · intro H locs lsA hW hS hl hn hz hc hs
            show W p l e R s m args below meth c H locs (h.1 - c0) (h.2.1 - s0) Q (F0 m pc lsA (.int j :: pm_emb base adr fo (.retAddr j1) :: r.map (pm_emb base adr fo)))
            rw [pm_emb_st (pm_sX_not300 hj)]
            exact va_tb fx.1 fx.2.1 hT hS (pm_in_iff hin) rfl hd (k H locs lsA hW hS hl hn hz hc hs)
    · cases hst
  · cases hst
theorem pm_t_laload (fx : pm_Fx p s m args meth c cc nL o ini base D dA adr fo L xs c0) (hd : decode cc pc = .ok (.laload, len)) (hr : pm_rokB o (pc, .laload, len, a, b, v) = true) (hst : pm_step (pm_sX L xs) call o ini ret pc ls st h (.laload) len a b v = some (.inl s')) (k : pm_K p l e R s m args below meth c Q base D dA adr fo nL c0 s0 s') : pm_K p l e R s m args below meth c Q base D dA adr fo nL c0 s0 (pc, ls, st, h) := by
  obtain rfl := pm_len1 hr rfl
  replace hst : (match st with
    | .int j :: w :: r => (match pm_arr (pm_sX L xs) h w with
      | some (t, n, .inr (.inl f)) => bif t == 1 && pm_in j n then pm_go (pc + 1) ls (.long (f j.toNatClampNeg) :: r) h else none
      | _ => none)
    | _ => none) = some (.inl s') := hst
  split at hst
  · next j w r =>
    split at hst
    · next t n f hx =>
      cases hg : (t == 1 && pm_in j n) with
      | false => rw [hg] at hst; cases hst
      | true =>
        rw [hg] at hst
        rw [Bool.and_eq_true, beq_iff_eq] at hg
        obtain ⟨rfl, hin⟩ := hg
        obtain rfl := pm_go_inv hst
        rcases pm_arr_or hx with ⟨q, rfl, hq, hc1⟩ | ⟨j1, z, rfl, hj, hz1⟩
        · intro H locs lsA hW hS hl hn hz hc hs
          exact va_lald fx.1 fx.2.1 fx.2.2.2.2.2.2.1.1 hW.P q 1 (pm_at_arr hW hq hc1) rfl (pm_in_iff hin) hd (k H locs lsA hW hS hl hn hz hc hs)
        · have hz2 := congrArg (fun q : Nat × vp_A => q.2.2) hz1
          cases hz2
    · cases hst
  · cases hst
theorem pm_rf_emb (r : Option Nat) : pm_emb base adr fo (va_rf r) = va_rf (r.map (fun k => base + k)) := by cases r <;> rfl
theorem pm_t_aaload (fx : pm_Fx p s m args meth c cc nL o ini base D dA adr fo L xs c0) (hd : decode cc pc = .ok (.aaload, len)) (hr : pm_rokB o (pc, .aaload, len, a, b, v) = true) (hst : pm_step (pm_sX L xs) call o ini ret pc ls st h (.aaload) len a b v = some (.inl s')) (k : pm_K p l e R s m args below meth c Q base D dA adr fo nL c0 s0 s') : pm_K p l e R s m args below meth c Q base D dA adr fo nL c0 s0 (pc, ls, st, h) := by
  obtain rfl := pm_len1 hr rfl
  replace hst : (match st with
    | .int j :: w :: r => (match pm_arr (pm_sX L xs) h w with
      | some (t, n, .inr (.inr (.inr (.inr f)))) => bif (t == 3 || t == 4) && pm_in j n then pm_go (pc + 1) ls (va_rf (f j.toNatClampNeg) :: r) h else none
      | _ => none)
    | _ => none) = some (.inl s') := hst
  split at hst
  · next j w r =>
    split at hst
    · next t n f hx =>
      cases hg : ((t == 3 || t == 4) && pm_in j n) with
      | false => rw [hg] at hst; cases hst
      | true =>
        rw [hg] at hst
        rw [Bool.and_eq_true, Bool.or_eq_true, beq_iff_eq, beq_iff_eq] at hg
        obtain ⟨ht, hin⟩ := hg
        obtain rfl := pm_go_inv hst
        rcases pm_arr_or hx with ⟨q, rfl, hq, hc1⟩ | ⟨j1, z, rfl, hj, hz1⟩
        · obtain ⟨qc, -, hty⟩ := pm_tys_q (dA := dA) ht
          intro H locs lsA hW hS hl hn hz hc hs
          have kk := k H locs lsA hW hS hl hn hz hc hs
          have kk : W p l e R s m args below meth c H locs (h.1 - c0) (h.2.1 - s0) Q (F0 m (pc + 1) lsA (pm_emb base adr fo (va_rf (f j.toNatClampNeg)) :: r.map (pm_emb base adr fo))) := kk
          rw [pm_rf_emb] at kk
          exact va_aldq (f := fun j => (f j).map (fun k => base + k)) fx.1 fx.2.1 fx.2.2.2.2.2.2.1.1 hW.P q t (pm_at_arr hW hq hc1) hty (pm_in_iff hin) hd kk
        · have hz2 := congrArg (fun q : Nat × vp_A => q.2.2) hz1
          cases hz2
    · cases hst
  · cases hst
theorem pm_t_iastore (fx : pm_Fx p s m args meth c cc nL o ini base D dA adr fo L xs c0) (hd : decode cc pc = .ok (.iastore, len)) (hr : pm_rokB o (pc, .iastore, len, a, b, v) = true) (hst : pm_step X call o ini ret pc ls st h (.iastore) len a b v = some (.inl s')) (k : pm_K p l e R s m args below meth c Q base D dA adr fo nL c0 s0 s') : pm_K p l e R s m args below meth c Q base D dA adr fo nL c0 s0 (pc, ls, st, h) := by
  obtain rfl := pm_len1 hr rfl
  replace hst : (match st with
    | .int x :: .int j :: .ref q :: r => (match pm_arr X h (.ref q) with
      | some (t, n, .inl f) => bif t == 0 && pm_in j n then pm_go (pc + 1) ls r (pm_hset h q (.inl (0, n, .inl (upd f j.toNatClampNeg x)))) else none
      | _ => none)
    | _ => none) = some (.inl s') := hst
  split at hst
  · next x j q r =>
    split at hst
    · next t n f hx =>
      cases hg : (t == 0 && pm_in j n) with
      | false => rw [hg] at hst; cases hst
      | true =>
        rw [hg] at hst
        rw [Bool.and_eq_true, beq_iff_eq] at hg
        obtain ⟨rfl, hin⟩ := hg
        obtain rfl := pm_go_inv hst
        obtain ⟨hq, hc1⟩ := pm_arr_inv hx
        intro H locs lsA hW hS hl hn hz hc hs
        refine va_iast fx.1 fx.2.1 fx.2.2.2.2.2.2.1.1 hW.P pm_wl_D (pm_S0 hS) q 0 (pm_at_arr hW hq hc1) rfl (pm_in_iff hin) hd (fun H1 locs1 hP1 hD1 hS1 => ?_)
        have e1 : (pm_wl base dA adr fo h).set q (base + q, .inl (dA 0, n, .inl (upd f j.toNatClampNeg x))) = pm_wl base dA adr fo (pm_hset h q (.inl (0, n, .inl (upd f j.toNatClampNeg x)))) := by
          rw [← pm_wl_set hq]
          rfl
        have hP1 : va_P D pm_cls ((pm_wl base dA adr fo h).set q (base + q, .inl (dA 0, n, .inl (upd f j.toNatClampNeg x)))) H1 := hP1
        rw [e1] at hP1
        exact pm_store (h' := pm_hset h q (.inl (0, n, .inl (upd f j.toNatClampNeg x)))) fx hW hS hc hs hl hn hz rfl rfl hP1 hS1 k
    · cases hst
  · cases hst
theorem pm_t_bastore (fx : pm_Fx p s m args meth c cc nL o ini base D dA adr fo L xs c0) (hd : decode cc pc = .ok (.bastore, len)) (hr : pm_rokB o (pc, .bastore, len, a, b, v) = true) (hst : pm_step X call o ini ret pc ls st h (.bastore) len a b v = some (.inl s')) (k : pm_K p l e R s m args below meth c Q base D dA adr fo nL c0 s0 s') : pm_K p l e R s m args below meth c Q base D dA adr fo nL c0 s0 (pc, ls, st, h) := by
  obtain rfl := pm_len1 hr rfl
  replace hst : (match st with
    | .int x :: .int j :: .ref q :: r => (match pm_arr X h (.ref q) with
      | some (t, n, .inl f) => bif t == 2 && pm_in j n then pm_go (pc + 1) ls r (pm_hset h q (.inl (2, n, .inl (upd f j.toNatClampNeg (x &&& 1))))) else none
      | _ => none)
    | _ => none) = some (.inl s') := hst
  split at hst
  · next x j q r =>
    split at hst
    · next t n f hx =>
      cases hg : (t == 2 && pm_in j n) with
      | false => rw [hg] at hst; cases hst
      | true =>
        rw [hg] at hst
        rw [Bool.and_eq_true, beq_iff_eq] at hg
        obtain ⟨rfl, hin⟩ := hg
        obtain rfl := pm_go_inv hst
        obtain ⟨hq, hc1⟩ := pm_arr_inv hx
        intro H locs lsA hW hS hl hn hz hc hs
        refine va_zast fx.1 fx.2.1 fx.2.2.2.2.2.2.1.1 hW.P pm_wl_D (pm_S0 hS) q 2 (pm_at_arr hW hq hc1) rfl (pm_in_iff hin) hd (fun H1 locs1 hP1 hD1 hS1 => ?_)
        have e1 : (pm_wl base dA adr fo h).set q (base + q, .inl (dA 2, n, .inl (upd f j.toNatClampNeg (x &&& 1)))) = pm_wl base dA adr fo (pm_hset h q (.inl (2, n, .inl (upd f j.toNatClampNeg (x &&& 1))))) := by
          rw [← pm_wl_set hq]
          rfl
        have hP1 : va_P D pm_cls ((pm_wl base dA adr fo h).set q (base + q, .inl (dA 2, n, .inl (upd f j.toNatClampNeg (x &&& 1))))) H1 := hP1
        rw [e1] at hP1
        exact pm_store (h' := pm_hset h q (.inl (2, n, .inl (upd f j.toNatClampNeg (x &&& 1))))) fx hW hS hc hs hl hn hz rfl rfl hP1 hS1 k
    · cases hst
  · cases hst
theorem pm_t_lastore (fx : pm_Fx p s m args meth c cc nL o ini base D dA adr fo L xs c0) (hd : decode cc pc = .ok (.lastore, len)) (hr : pm_rokB o (pc, .lastore, len, a, b, v) = true) (hst : pm_step X call o ini ret pc ls st h (.lastore) len a b v = some (.inl s')) (k : pm_K p l e R s m args below meth c Q base D dA adr fo nL c0 s0 s') : pm_K p l e R s m args below meth c Q base D dA adr fo nL c0 s0 (pc, ls, st, h) := by
  obtain rfl := pm_len1 hr rfl
  replace hst : (match st with
    | .long x :: .int j :: .ref q :: r => (match pm_arr X h (.ref q) with
      | some (t, n, .inr (.inl f)) => bif t == 1 && pm_in j n then pm_go (pc + 1) ls r (pm_hset h q (.inl (1, n, .inr (.inl (vp_updL f j.toNatClampNeg x))))) else none
      | _ => none)
    | _ => none) = some (.inl s') := hst
  split at hst
  · next x j q r =>
    split at hst
    · next t n f hx =>
      cases hg : (t == 1 && pm_in j n) with
      | false => rw [hg] at hst; cases hst
      | true =>
        rw [hg] at hst
        rw [Bool.and_eq_true, beq_iff_eq] at hg
        obtain ⟨rfl, hin⟩ := hg
        obtain rfl := pm_go_inv hst
        obtain ⟨hq, hc1⟩ := pm_arr_inv hx
        intro H locs lsA hW hS hl hn hz hc hs
        refine va_last fx.1 fx.2.1 fx.2.2.2.2.2.2.1.1 hW.P pm_wl_D (pm_S0 hS) q 1 (pm_at_arr hW hq hc1) rfl (pm_in_iff hin) hd (fun H1 locs1 hP1 hD1 hS1 => ?_)
        have e1 : (pm_wl base dA adr fo h).set q (base + q, .inl (dA 1, n, .inr (.inl (vp_updL f j.toNatClampNeg x)))) = pm_wl base dA adr fo (pm_hset h q (.inl (1, n, .inr (.inl (vp_updL f j.toNatClampNeg x))))) := by
          rw [← pm_wl_set hq]
          rfl
        have hP1 : va_P D pm_cls ((pm_wl base dA adr fo h).set q (base + q, .inl (dA 1, n, .inr (.inl (vp_updL f j.toNatClampNeg x))))) H1 := hP1
        rw [e1] at hP1
        exact pm_store (h' := pm_hset h q (.inl (1, n, .inr (.inl (vp_updL f j.toNatClampNeg x))))) fx hW hS hc hs hl hn hz rfl rfl hP1 hS1 k
    · cases hst
  · cases hst
theorem pm_up_map {f : Nat → Option Nat} {j : Nat} {x : Option Nat} : (fun i => (va_up f j x i).map (fun k => base + k)) = va_up (fun i => (f i).map (fun k => base + k)) j (x.map (fun k => base + k)) := by
  funext i
  by_cases hi : i = j
  · subst hi; rw [va_up_self, va_up_self]
  · rw [va_up_ne _ _ hi, va_up_ne _ _ hi]
theorem pm_t_aastore (fx : pm_Fx p s m args meth c cc nL o ini base D dA adr fo L xs c0) (hd : decode cc pc = .ok (.aastore, len)) (hr : pm_rokB o (pc, .aastore, len, a, b, v) = true) (hst : pm_step X call o ini ret pc ls st h (.aastore) len a b v = some (.inl s')) (k : pm_K p l e R s m args below meth c Q base D dA adr fo nL c0 s0 s') : pm_K p l e R s m args below meth c Q base D dA adr fo nL c0 s0 (pc, ls, st, h) := by
  obtain rfl := pm_len1 hr rfl
  replace hst : (match st with
    | .null :: .int j :: .ref q :: r => (match pm_arr X h (.ref q) with
      | some (t, n, .inr (.inr (.inr (.inr f)))) => bif (t == 3 || t == 4) && pm_in j n then pm_go (pc + 1) ls r (pm_hset h q (.inl (t, n, .inr (.inr (.inr (.inr (va_up f j.toNatClampNeg none))))))) else none
      | _ => none)
    | .ref x :: .int j :: .ref q :: r => (match pm_arr X h (.ref q), pm_obj h (.ref x) with
      | some (t, n, .inr (.inr (.inr (.inr f)))), some (_, ci, _) => bif (t == 3 || t == 4) && pm_in j n && ci == pm_ak t then pm_go (pc + 1) ls r (pm_hset h q (.inl (t, n, .inr (.inr (.inr (.inr (va_up f j.toNatClampNeg (some x)))))))) else none
      | _, _ => none)
    | _ => none) = some (.inl s') := hst
  split at hst
  · next j q r =>
    split at hst
    · next t n f hx =>
      cases hg : ((t == 3 || t == 4) && pm_in j n) with
      | false => rw [hg] at hst; cases hst
      | true =>
        rw [hg] at hst
        rw [Bool.and_eq_true, Bool.or_eq_true, beq_iff_eq, beq_iff_eq] at hg
        obtain ⟨ht, hin⟩ := hg
        obtain rfl := pm_go_inv hst
        obtain ⟨hq, hc1⟩ := pm_arr_inv hx
        obtain ⟨qc, -, hty⟩ := pm_tys_q (dA := dA) ht
        intro H locs lsA hW hS hl hn hz hc hs
        refine va_astqN (f := fun i => (f i).map (fun k => base + k)) fx.1 fx.2.1 fx.2.2.2.2.2.2.1.1 hW.P pm_wl_D (pm_S0 hS) q t (pm_at_arr hW hq hc1) hty (pm_in_iff hin) hd (fun H1 locs1 hP1 hD1 hS1 => ?_)
        have e1 : (pm_wl base dA adr fo h).set q (base + q, .inl (dA t, n, .inr (.inr (.inr (.inr (va_up (fun i => (f i).map (fun k => base + k)) j.toNatClampNeg none)))))) = pm_wl base dA adr fo (pm_hset h q (.inl (t, n, .inr (.inr (.inr (.inr (va_up f j.toNatClampNeg none))))))) := by
          rw [← pm_wl_set hq]
          show _ = (pm_wl base dA adr fo h).set q (base + q, .inl (dA t, n, .inr (.inr (.inr (.inr (fun i => (va_up f j.toNatClampNeg none i).map (fun k => base + k)))))))
          rw [pm_up_map]
          rfl
        rw [e1] at hP1
        exact pm_store (h' := pm_hset h q (.inl (t, n, .inr (.inr (.inr (.inr (va_up f j.toNatClampNeg none))))))) fx hW hS hc hs hl hn hz rfl rfl hP1 hS1 k
    · cases hst
  · next x j q r =>
    split at hst
    · next t n f x' ci fs hx hy =>
      cases hg : ((t == 3 || t == 4) && pm_in j n && ci == pm_ak t) with
      | false => rw [hg] at hst; cases hst
      | true =>
        rw [hg] at hst
        rw [Bool.and_eq_true, Bool.and_eq_true, Bool.or_eq_true, beq_iff_eq, beq_iff_eq, beq_iff_eq] at hg
        obtain ⟨⟨ht, hin⟩, hci⟩ := hg
        obtain rfl := pm_go_inv hst
        obtain ⟨hq, hc1⟩ := pm_arr_inv hx
        obtain ⟨he, hyl, hcy⟩ := pm_obj_inv hy
        have he : x = x' := Value.ref.inj he
        subst he
        obtain ⟨qc, hqc, hty⟩ := pm_tys_q (dA := dA) ht
        rw [← hci] at hqc
        intro H locs lsA hW hS hl hn hz hc hs
        refine va_astq (f := fun i => (f i).map (fun k => base + k)) (r := qc) fx.1 fx.2.1 fx.2.2.2.2.2.2.1.1 hW.P pm_wl_D (pm_S0 hS) q t x ci (pm_at_arr hW hq hc1) hty (pm_at_obj hW hyl hcy) hqc (pm_in_iff hin) hd (fun H1 locs1 hP1 hD1 hS1 => ?_)
        have e1 : (pm_wl base dA adr fo h).set q (base + q, .inl (dA t, n, .inr (.inr (.inr (.inr (va_up (fun i => (f i).map (fun k => base + k)) j.toNatClampNeg (some (base + x)))))))) = pm_wl base dA adr fo (pm_hset h q (.inl (t, n, .inr (.inr (.inr (.inr (va_up f j.toNatClampNeg (some x)))))))) := by
          rw [← pm_wl_set hq]
          show _ = (pm_wl base dA adr fo h).set q (base + q, .inl (dA t, n, .inr (.inr (.inr (.inr (fun i => (va_up f j.toNatClampNeg (some x) i).map (fun k => base + k)))))))
          rw [pm_up_map]
          rfl
        rw [e1] at hP1
        exact pm_store (h' := pm_hset h q (.inl (t, n, .inr (.inr (.inr (.inr (va_up f j.toNatClampNeg (some x)))))))) fx hW hS hc hs hl hn hz rfl rfl hP1 hS1 k
    · cases hst
  · cases hst
theorem pm_t_checkcast {ix : Nat} (fx : pm_Fx p s m args meth c cc nL o ini base D dA adr fo L xs c0) (hd : decode cc pc = .ok (.checkcast ix, len)) (hr : pm_rokB o (pc, .checkcast ix, len, a, b, v) = true) (hst : pm_step X call o ini ret pc ls st h (.checkcast ix) len a b v = some (.inl s')) (k : pm_K p l e R s m args below meth c Q base D dA adr fo nL c0 s0 s') : pm_K p l e R s m args below meth c Q base D dA adr fo nL c0 s0 (pc, ls, st, h) := by
  have hr2 : (len == 3 && pm_alA.any (fun q => q.1 == o && q.2.1 == ix && q.2.2.1 == a)) = true := hr
  rw [Bool.and_eq_true, beq_iff_eq] at hr2
  obtain ⟨rfl, hw⟩ := hr2
  have hwd := pm_al_word hw
  replace hst : (match st with
    | .ref q :: r => (match pm_arr X h (.ref q) with
      | some (t, _, _) => bif t == 0 && a == 0 then pm_go (pc + 3) ls (.ref q :: r) h else none
      | none => none)
    | _ => none) = some (.inl s') := hst
  split at hst
  · next q r =>
    split at hst
    · next t n y hx =>
      cases hg : (t == 0 && a == 0) with
      | false => rw [hg] at hst; cases hst
      | true =>
        rw [hg] at hst
        rw [Bool.and_eq_true, beq_iff_eq, beq_iff_eq] at hg
        obtain ⟨rfl, rfl⟩ := hg
        obtain rfl := pm_go_inv hst
        obtain ⟨hq, hc1⟩ := pm_arr_inv hx
        intro H locs lsA hW hS hl hn hz hc hs
        exact va_castA fx.1 fx.2.1 fx.2.2.2.1 (fx.2.2.2.2.1 _ hwd) hW.P q (pm_at_arr hW hq hc1) (va_nm_int (fx.2.2.2.2.2.2.1.1.2 0 (dA 0, .int) rfl).2) hd (k H locs lsA hW hS hl hn hz hc hs)
    · cases hst
  · cases hst
/-- returns -/
theorem pm_hq {H : Heap} {locs : List Loc} {r : Option Value} {a0 : Array Value} (hW : pm_W base D dA adr fo h H) (hS : va_S (pm_A base) s.heap H locs) : ∀ t : State, t.heap = H → s.WarmedH t.vm → pm_Q base D dA adr fo h r a0 s (.returned (r.map (pm_emb base adr fo))) t := by
  intro t ht _
  refine ⟨rfl, by rw [ht]; exact hW, ?_, fun q h1 h2 => ?_⟩
  · rw [ht]; exact hS.1
  · rw [ht]; exact hS.2.1 q h1 h2
theorem pm_ret_nar {x : Int32} (hx : pm_ret ret x = true) : ∃ ty, ret = some ty ∧ narrow ty (.int x) = .int x := by
  unfold pm_ret at hx
  split at hx
  · exact ⟨_, rfl, rfl⟩
  · rw [Bool.or_eq_true, beq_iff_eq, beq_iff_eq] at hx
    rcases hx with rfl | rfl <;> exact ⟨_, rfl, by decide +kernel⟩
  · exact ⟨_, rfl, of_decide_eq_true hx⟩
  · exact ⟨_, rfl, of_decide_eq_true hx⟩
  · cases hx
theorem pm_t_ret {i : Instr} {hf : pm_H} {r : Option Value} (fx : pm_Fx p s m args meth c cc nL o ini base D dA adr fo L xs c0) (hret : meth.sig.returnType = ret) (hlk : meth.locks = false) (hd : decode cc pc = .ok (i, len)) (hr : pm_rokB o (pc, i, len, a, b, v) = true) (hi : i = .ireturn ∨ i = .lreturn ∨ i = .areturn ∨ i = .return_) (hst : pm_step X call o ini ret pc ls st h i len a b v = some (.inr (hf, r))) : pm_K p l e R s m args below meth c (MQ below (pm_Q base D dA adr fo hf r) args s (hf.1 - c0) (hf.2.1 - s0) (pm_A base)) base D dA adr fo nL c0 s0 (pc, ls, st, h) := by
  rcases hi with rfl | rfl | rfl | rfl
  · obtain rfl := pm_len1 hr rfl
    replace hst : pm_rI ret st h = some (.inr (hf, r)) := hst
    unfold pm_rI at hst
    split at hst
    · next x =>
      cases hx : pm_ret ret x with
      | false => rw [hx] at hst; cases hst
      | true =>
        rw [hx] at hst
        cases hst
        obtain ⟨ty, rfl, hn1⟩ := pm_ret_nar hx
        intro H locs lsA hW hS hl hn hz hc hs
        exact W.zret (v := x) fx.1 fx.2.1 hret hn1 (pm_hq hW hS) hS.2.2 hd hlk
    · cases hst
  · obtain rfl := pm_len1 hr rfl
    replace hst : pm_rL ret st h = some (.inr (hf, r)) := hst
    unfold pm_rL at hst
    split at hst
    · next x =>
      by_cases hx : ret = some .long
      · rw [decide_eq_true hx] at hst
        cases hst
        subst hx
        intro H locs lsA hW hS hl hn hz hc hs
        exact W.lret (v := x) fx.1 fx.2.1 hret (pm_hq hW hS) hS.2.2 hd hlk
      · rw [decide_eq_false hx] at hst; cases hst
    · cases hst
  · obtain rfl := pm_len1 hr rfl
    replace hst : pm_rA ret st h = some (.inr (hf, r)) := hst
    unfold pm_rA at hst
    split at hst
    · next x C =>
      cases hst
      intro H locs lsA hW hS hl hn hz hc hs
      exact W.aret (v := .ref (base + x)) fx.1 fx.2.1 hret (Or.inl ⟨_, rfl⟩) (Or.inr ⟨_, rfl⟩) (pm_hq hW hS) hS.2.2 hd hlk
    · next x C =>
      cases hst
      intro H locs lsA hW hS hl hn hz hc hs
      exact W.aret (v := .ref (base + x)) fx.1 fx.2.1 hret (Or.inr ⟨_, rfl⟩) (Or.inr ⟨_, rfl⟩) (pm_hq hW hS) hS.2.2 hd hlk
    · next C =>
      cases hst
      intro H locs lsA hW hS hl hn hz hc hs
      exact W.aret (v := .null) fx.1 fx.2.1 hret (Or.inl ⟨_, rfl⟩) (Or.inl rfl) (pm_hq hW hS) hS.2.2 hd hlk
    · next C =>
      cases hst
      intro H locs lsA hW hS hl hn hz hc hs
      exact W.aret (v := .null) fx.1 fx.2.1 hret (Or.inr ⟨_, rfl⟩) (Or.inl rfl) (pm_hq hW hS) hS.2.2 hd hlk
    · cases hst
  · obtain rfl := pm_len1 hr rfl
    replace hst : pm_rV ret st h = some (.inr (hf, r)) := hst
    unfold pm_rV at hst
    split at hst
    · cases hst
      intro H locs lsA hW hS hl hn hz hc hs
      exact W.vret fx.1 fx.2.1 hret (pm_hq hW hS) hS.2.2 hd hlk
    · cases hst
end SIM3
end
section
/-! the simulation: calls -/
def pm_mlK (e : Nat × Nat × Nat × Nat × Nat) : Bool := decide (e.2.2.1 = 4) || decide (e.2.2.1 = 5) || decide (e.2.2.1 = 6) || (match pm_mtL[e.2.2.2.1]? with
  | none => false
  | some q => match parseMethodDescriptor q.1.desc with
    | none => false
    | some d => (decide (e.2.2.1 = 0) && decide (d.parameters.length + 1 = q.2.2.2.2.2.1) && !decide (q.1.name = "<init>")) || (decide (e.2.2.1 = 7) && decide (d.parameters.length + 1 = q.2.2.2.2.2.1) && !decide (q.1.name = "<init>") && decide (q.1.cls = "java/lang/String")) ||
      (decide (e.2.2.1 = 2) && decide (d.parameters.length + 1 = q.2.2.2.2.2.1) && decide (q.1.name = "<init>") && decide (q.2.2.2.1 = none)) || ((decide (e.2.2.1 = 1) || decide (e.2.2.1 = 3)) && decide (d.parameters.length = q.2.2.2.2.2.1)))
set_option maxRecDepth 100000 in
theorem pm_mlK_ok : pm_mlA.all pm_mlK = true := by decide +kernel
theorem pm_w_oi : Cond.instanceMethod Lib.objectInit ∈ pm_gw := List.mem_filter.mpr ⟨by decide +kernel, rfl⟩
theorem pm_w_oc : Cond.code Lib.objectInit ⟨#[0xb1]⟩ 1 none ∈ pm_gw := List.mem_filter.mpr ⟨by decide +kernel, rfl⟩
theorem pm_w_an : Cond.native arraycopyName ∈ pm_gw := List.mem_filter.mpr ⟨by decide +kernel, rfl⟩
theorem pm_w_as : Cond.static arraycopyName ∈ pm_gw := List.mem_filter.mpr ⟨by decide +kernel, rfl⟩
theorem pm_w_ai : Cond.initialized "java/lang/System" ∈ pm_gw := List.mem_filter.mpr ⟨by decide +kernel, rfl⟩
theorem pm_w_c1 : Cond.sameMethod "[I" "java/lang/Object" "clone" "()Ljava/lang/Object;" ∈ pm_gw := List.mem_filter.mpr ⟨by decide +kernel, rfl⟩
theorem pm_w_c2 : Cond.native ⟨"java/lang/Object", "clone", "()Ljava/lang/Object;"⟩ ∈ pm_gw := List.mem_filter.mpr ⟨by decide +kernel, rfl⟩
theorem pm_w_c3 : Cond.instanceMethod ⟨"java/lang/Object", "clone", "()Ljava/lang/Object;"⟩ ∈ pm_gw := List.mem_filter.mpr ⟨by decide +kernel, rfl⟩
theorem pm_w_c4 : Cond.selects "[I" ⟨"[I", "clone", "()Ljava/lang/Object;"⟩ ⟨"java/lang/Object", "clone", "()Ljava/lang/Object;"⟩ ∈ pm_gw := List.mem_filter.mpr ⟨by decide +kernel, rfl⟩
theorem pm_good {q : pm_M} (hq : pm_mOK q) : GoodIn pm_gw (pm_ws q) := by
  intro w hw
  rcases List.mem_cons.mp hw with rfl | hw
  · exact ⟨hq.2.1, good_of_word (List.mem_filter.mp hq.2.1).2⟩
  · exact ⟨hw, good_of_word (List.mem_filter.mp hw).2⟩
theorem pm_ml_kind {o ix a b : Nat} (h : pm_mlA.any (fun q => q.1 == o && q.2.1 == ix && q.2.2.1 == a && q.2.2.2.1 == b) = true) (h4 : a ≠ 4) (h5 : a ≠ 5) (h6 : a ≠ 6) : ∃ q d, pm_mtL[b]? = some q ∧ parseMethodDescriptor q.1.desc = some d ∧
    ((a = 0 ∧ d.parameters.length + 1 = q.2.2.2.2.2.1 ∧ q.1.name ≠ "<init>") ∨ (a = 7 ∧ d.parameters.length + 1 = q.2.2.2.2.2.1 ∧ q.1.name ≠ "<init>" ∧ q.1.cls = "java/lang/String") ∨ (a = 2 ∧ d.parameters.length + 1 = q.2.2.2.2.2.1 ∧ q.1.name = "<init>" ∧ q.2.2.2.1 = none) ∨ ((a = 1 ∨ a = 3) ∧ d.parameters.length = q.2.2.2.2.2.1)) := by
  obtain ⟨z, hz, hb⟩ := List.any_eq_true.mp h
  simp only [Bool.and_eq_true, beq_iff_eq] at hb
  obtain ⟨⟨⟨e1, e2⟩, e3⟩, e4⟩ := hb
  have hk := List.all_eq_true.mp pm_mlK_ok z hz
  unfold pm_mlK at hk
  rw [e3, e4] at hk
  rw [Bool.or_eq_true, Bool.or_eq_true, Bool.or_eq_true, decide_eq_true_eq, decide_eq_true_eq, decide_eq_true_eq] at hk
  rcases hk with ((hk | hk) | hk) | hk
  · exact absurd hk h4
  · exact absurd hk h5
  · exact absurd hk h6
  · split at hk
    · cases hk
    · next q hq =>
      split at hk
      · cases hk
      · next d hd =>
        refine ⟨q, d, hq, hd, ?_⟩
        simp only [Bool.or_eq_true, Bool.and_eq_true, decide_eq_true_eq, Bool.not_eq_true', decide_eq_false_iff_not] at hk
        rcases hk with ((hk | hk) | hk) | hk
        · exact Or.inl ⟨hk.1.1, hk.1.2, hk.2⟩
        · exact Or.inr (Or.inl ⟨hk.1.1.1, hk.1.1.2, hk.1.2, hk.2⟩)
        · exact Or.inr (Or.inr (Or.inl ⟨hk.1.1.1, hk.1.1.2, hk.1.2, hk.2⟩))
        · exact Or.inr (Or.inr (Or.inr hk))
theorem pm_ml_nest {o ix b : Nat} (h : pm_mlA.any (fun q => q.1 == o && q.2.1 == ix && q.2.2.1 == 3 && q.2.2.2.1 == b) = true) : (o, ix, b) ∈ pm_nest := by
  obtain ⟨z, hz, hb⟩ := List.any_eq_true.mp h
  simp only [Bool.and_eq_true, beq_iff_eq] at hb
  obtain ⟨⟨⟨e1, e2⟩, e3⟩, e4⟩ := hb
  refine List.mem_filterMap.mpr ⟨z, hz, ?_⟩
  rw [if_pos e3, e1, e2, e4]
section SIM4
variable {p : Program} {l : Launch} {e : Env} {R : Room} {s : State} {m : MethodId} {args : Array Value} {below : List Frame} {meth : Method} {c : Code} {Q : State → Prop}
variable {base : Nat} {D : va_G} {dA : Nat → ClassId} {adr : Nat → Nat} {fo : Value} {L : Nat} {xs : Nat → Int32} {nL c0 s0 o d : Nat} {ini : Bool} {cc : ByteArray} {X : pm_X} {call : Nat → List Value → pm_H → Option pm_R} {ret : Option FieldType}
variable {pc len a b : Nat} {ls : pm_Ls} {st : List Value} {h : pm_H} {v : Value} {s' : pm_S}
theorem pm_cat_emb {x : Value} (hfo : fo = .null ∨ ∃ q, fo = .ref q) : (pm_emb base adr fo x).category = x.category := by
  cases x with
  | retAddr k =>
    show (bif k == 300 then fo else Value.ref (adr k)).category = 1
    cases (k == 300) with
    | true => rcases hfo with rfl | ⟨q, rfl⟩ <;> rfl
    | false => rfl
  | _ => rfl
theorem pm_w8_emb {r : List Value} (hfo : fo = .null ∨ ∃ q, fo = .ref q) (h8 : pm_w8 r = true) : ((r.map (pm_emb base adr fo)).map fun v => v.category).sum ≤ 8 := by
  have h8 : (r.map fun v => v.category).sum ≤ 8 := of_decide_eq_true h8
  rw [List.map_map]
  have e : (fun v : Value => v.category) ∘ (pm_emb base adr fo) = fun v => v.category := by funext x; exact pm_cat_emb hfo
  rw [e]
  exact h8
theorem pm_inv_call {ik : Nat} (h4 : a ≠ 4) (h5 : a ≠ 5) (h6 : a ≠ 6) (hst : pm_inv X call ik pc ls st h a b = some (.inl s')) : ∃ q, pm_mtL[b]? = some q ∧ pm_call call a b q.2.2.2.2.2.1 q.1.cls pc ls st h = some (.inl s') ∧ (bif a == 0 || a == 7 then ik == 0 else bif a == 2 then ik == 2 else ik == 1) = true := by
  unfold pm_inv at hst
  split at hst
  · exact absurd rfl h4
  · exact absurd rfl h5
  · exact absurd rfl h6
  · split at hst
    · next y q1 q2 q3 q4 q5 q6 hq =>
      cases hg : (bif a == 0 || a == 7 then ik == 0 else bif a == 2 then ik == 2 else ik == 1) with
      | false => rw [hg] at hst; cases hst
      | true =>
        rw [hg] at hst
        exact ⟨_, hq, hst, rfl⟩
    · cases hst
def pm_isStr (w : Value) : Bool := match w with
      | .retAddr k => decide (k < 23)
      | _ => false
def pm_rcv (kind na : Nat) (cls : String) (st : List Value) (h : pm_H) : Bool := bif kind == 0 || kind == 2 then (match pm_obj h ((st.take na).getLastD .null) with
      | some x => decide (pm_cnm x.2.1 = cls)
      | none => false) else bif kind == 7 then (match (st.take na).getLastD .null with
      | .retAddr k => decide (k < 23)
      | _ => false) else kind == 1 || kind == 3
theorem pm_call_inv {na : Nat} {cls : String} (hst : pm_call call a b na cls pc ls st h = some (.inl s')) : ∃ h' r, call b (st.take na).reverse h = some (h', r) ∧ na ≤ st.length ∧ pm_w8 (st.drop na) = true ∧ pm_rcv a na cls st h = true ∧ s' = (pc + 3, ls, r.toList ++ st.drop na, h') := by
  replace hst : (bif decide (na ≤ st.length) && pm_w8 (st.drop na) && pm_rcv a na cls st h then
    (match call b (st.take na).reverse h with
    | some (h', some v) => pm_go (pc + 3) ls (v :: st.drop na) h'
    | some (h', none) => pm_go (pc + 3) ls (st.drop na) h'
    | none => none) else none) = some (.inl s') := hst
  cases hg : (decide (na ≤ st.length) && pm_w8 (st.drop na) && pm_rcv a na cls st h) with
  | false => rw [hg] at hst; cases hst
  | true =>
    rw [hg] at hst
    rw [Bool.and_eq_true, Bool.and_eq_true, decide_eq_true_eq] at hg
    replace hst : (match call b (st.take na).reverse h with
      | some (h', some v) => pm_go (pc + 3) ls (v :: st.drop na) h'
      | some (h', none) => pm_go (pc + 3) ls (st.drop na) h'
      | none => none) = some (.inl s') := hst
    split at hst
    · next h' u hc => exact ⟨h', some u, hc, hg.1.1, hg.1.2, hg.2, pm_go_inv hst⟩
    · next h' hc => exact ⟨h', none, hc, hg.1.1, hg.1.2, hg.2, pm_go_inv hst⟩
    · cases hst
theorem pm_Pc_blind {as : List Value} : FrameBlind (va_Pc (as.map (pm_emb base adr fo)) (fun U => pm_F base D dA adr fo L xs U ∧ pm_W base D dA adr fo h U.heap)) := by
  intro a0 U g mk hP
  exact ⟨hP.1, pm_F.calling hP.2.1, hP.2.2⟩
theorem pm_Pc_pre {as : List Value} {H : Heap} {locs : List Loc} (hF : pm_F base D dA adr fo L xs s) (hW : pm_W base D dA adr fo h H) (hS : va_S (pm_A base) s.heap H locs) : ∀ U : State, U.heap = H → s.WarmedH U.vm → va_Pc (as.map (pm_emb base adr fo)) (fun U => pm_F base D dA adr fo L xs U ∧ pm_W base D dA adr fo h U.heap) (as.map (pm_emb base adr fo)).toArray U := by
  intro U hU hWm
  refine ⟨rfl, pm_F.moved hF hWm (by rw [hU]; exact hS.1) (fun a0 h1 h2 => by rw [hU]; exact hS.2.1 a0 h1 h2), by rw [hU]; exact hW⟩
theorem pm_ret_call {h' : pm_H} {r : Option Value} {H : Heap} {locs : List Loc} {lsA : Array Slot} {rest stM : List Value} {a0 : Array Value} (fx : pm_Fx p s m args meth c cc nL o ini base D dA adr fo L xs c0) (hW : pm_W base D dA adr fo h H) (hS : va_S (pm_A base) s.heap H locs) (hl : pm_L base adr fo lsA ls) (hn : pm_nd ls) (hz : ls.length = nL) (hc : c0 ≤ h.1) (hs : s0 ≤ h.2.1) (le1 : h.1 ≤ h'.1) (le2 : h.2.1 ≤ h'.2.1)
    (hr : va_Run p l e R s m args below meth c H locs (h.1 - c0) (h.2.1 - s0) (h'.1 - h.1) (h'.2.1 - h.2.1) (F0 m pc lsA stM) (rest.map (pm_emb base adr fo)) (pm_Q base D dA adr fo h' r a0) (pm_A base))
    (k : pm_K p l e R s m args below meth c Q base D dA adr fo nL c0 s0 (pc + 3, ls, r.toList ++ rest, h')) : W p l e R s m args below meth c H locs (h.1 - c0) (h.2.1 - s0) Q (F0 m pc lsA stM) := by
  intro T hT X1
  obtain ⟨v, st0, t, T', L1, h0, X', hL, e1, e2, ⟨hv, hW', hF1, hF2⟩, stp⟩ := hr T hT X1
  have hv : v = r.map (pm_emb base adr fo) := by cases hv; rfl
  subst hv
  rw [h0] at hF1 hF2
  have kk := k T'.heap (locs ++ L1) lsA (by rw [e1]; exact hW') ⟨Nat.le_trans hS.1 (by rw [e1]; exact hF1), fun q g1 g2 => by
      rw [e1, hF2 q (Nat.lt_of_lt_of_le g1 hS.1) g2]
      exact hS.2.1 q g1 g2, fun q hq => by
      rcases List.mem_append.mp hq with g | g
      · exact hS.2.2 q g
      · exact hL q g⟩ hl hn hz (Nat.le_trans hc le1) (Nat.le_trans hs le2)
  have kk : W p l e R s m args below meth c T'.heap (locs ++ L1) (h'.1 - c0) (h'.2.1 - s0) Q (F0 m (pc + 3) lsA ((r.toList ++ rest).map (pm_emb base adr fo))) := kk
  rw [show h'.1 - c0 = h.1 - c0 + (h'.1 - h.1) by omega, show h'.2.1 - s0 = h.2.1 - s0 + (h'.2.1 - h.2.1) by omega, show (r.toList ++ rest).map (pm_emb base adr fo) = (r.map (pm_emb base adr fo)).toList ++ rest.map (pm_emb base adr fo) by cases r <;> simp] at kk
  obtain ⟨t2, a1, b1⟩ := kk T' rfl X'
  exact ⟨t2, stp t2 a1, b1⟩
theorem pm_fixS (fx : pm_Fx p s m args meth c cc nL o ini base D dA adr fo L xs c0) : CallFix p m c cc nL s args pm_gw (pm_own o) := ⟨fx.1, fx.2.1, fx.2.2.1, fx.2.2.2.1, fx.2.2.2.2.1⟩
theorem pm_callB {ix n mc ms : Nat} {q : pm_M} (fx : pm_Fx p s m args meth c cc nL o ini base D dA adr fo L xs c0) (hq : pm_mOK q) (hRf : d + 1 ≤ R.frames) (hRl : 64 * d + 64 ≤ R.locals) (hn : ∃ dd, parseMethodDescriptor q.1.desc = some dd ∧ dd.parameters.length = n) (hl : Cond.methodLink (pm_own o) ix q.1 ∈ pm_gw) :
    CallB R s args (pm_own o) ix q.1 q.2.1 q.2.2.1 q.2.2.2.1 (pm_ws q) { frames := d, cells := mc, slots := ms, locals := 64 * d } mc ms n := by
  obtain ⟨dd, hd1, hd2⟩ := hn
  have h22 := hq.2.2.2.2.2.2.1
  refine callB_of n fx.2.2.2.2.1 (pm_good hq) rfl rfl rfl (fx.2.2.2.2.1 _ hq.2.2.1) (fx.2.2.2.2.1 _ hl) ⟨hq.2.2.2.1.1, hq.2.2.2.1.2, by rw [hd1]; simp [hd2]⟩ ⟨hRf, ?_⟩
  show 8 + (q.2.2.1 + 11) + 64 * d ≤ R.locals
  omega
theorem pm_lsz {lsA : Array Slot} (hl : pm_L base adr fo lsA ls) (hz : ls.length = nL) : lsA.size = nL := by rw [← hz]; exact hl.1
theorem pm_mw_call {ix : Nat} {q : pm_M} (hq : pm_mtL[b]? = some q) (h3 : a ≠ 3) (h4 : a ≠ 4) (h5 : a ≠ 5) (h6 : a ≠ 6) : pm_mw o ix a b = .methodLink (pm_own o) ix q.1 := by
  unfold pm_mw pm_y
  rw [if_neg h3, if_neg h4, if_neg h5, if_neg h6, hq]
/-- the receiver and the other arguments -/
theorem pm_take {na : Nat} {w0 : Value} {As : List Value} (hz : (st.take na).reverse = w0 :: As) : st = As.reverse ++ w0 :: st.drop na ∧ (st.take na).getLastD .null = w0 := by
  have h1 : st.take na = (w0 :: As).reverse := by rw [← hz, List.reverse_reverse]
  refine ⟨?_, ?_⟩
  · conv => lhs; rw [← List.take_append_drop na st, h1]
    simp
  · rw [h1, List.getLastD_eq_getLast?]
    simp
theorem pm_take_nil {na : Nat} (hz : (st.take na).reverse = []) : (st.take na).getLastD .null = .null := by
  have h1 : st.take na = [] := by simpa using hz
  rw [h1]
  rfl
theorem pm_t_invokevirtual {ix : Nat} (fx : pm_Fx p s m args meth c cc nL o ini base D dA adr fo L xs c0) (hC : pm_Call l base D dA adr fo L xs d call) (hRf : d + 1 ≤ R.frames) (hRl : 64 * d + 64 ≤ R.locals) (hd : decode cc pc = .ok (.invokevirtual ix, len)) (hr : pm_rokB o (pc, .invokevirtual ix, len, a, b, v) = true) (hst : pm_step (pm_sX L xs) call o ini ret pc ls st h (.invokevirtual ix) len a b v = some (.inl s')) (hrc : s'.2.2.2.1 - c0 ≤ R.cells) (hrs : s'.2.2.2.2.1 - s0 ≤ R.slots) (k : pm_K p l e R s m args below meth c Q base D dA adr fo nL c0 s0 s') : pm_K p l e R s m args below meth c Q base D dA adr fo nL c0 s0 (pc, ls, st, h) := by
  have hr2 : (len == 3 && pm_mlA.any (fun q => q.1 == o && q.2.1 == ix && q.2.2.1 == a && q.2.2.2.1 == b)) = true := hr
  rw [Bool.and_eq_true, beq_iff_eq] at hr2
  obtain ⟨rfl, hw⟩ := hr2
  have hF := fx.2.2.2.2.2.2.1
  have hfo := hF.2.2.2.2.2.2.2.2.2.2.1
  replace hst : pm_inv (pm_sX L xs) call 0 pc ls st h a b = some (.inl s') := hst
  by_cases h4 : a = 4
  · subst h4
    unfold pm_inv at hst
    split at hst <;> first | cases hst | contradiction
  by_cases h5 : a = 5
  · subst h5
    unfold pm_inv at hst
    split at hst <;> first | cases hst | contradiction
  by_cases h6 : a = 6
  · subst h6
    replace hst : (match 0, st with
      | 0, .ref s :: r => (match pm_arr (pm_sX L xs) h (.ref s) with
        | some (t0, n0, .inl f) => bif t0 == 0 && pm_w8 r then pm_go (pc + 3) ls (.ref h.1 :: r) (pm_hpush h n0 (.inl (0, n0, .inl f))) else none
        | _ => none)
      | _, _ => none) = some (.inl s') := hst
    split at hst
    · next q r _ =>
      split at hst
      · next t0 n0 f hx =>
        cases hg : (t0 == 0 && pm_w8 r) with
        | false => rw [hg] at hst; cases hst
        | true =>
          rw [hg] at hst
          rw [Bool.and_eq_true, beq_iff_eq] at hg
          obtain ⟨rfl, h8⟩ := hg
          obtain rfl := pm_go_inv hst
          obtain ⟨hq, hc1⟩ := pm_arr_inv hx
          have hrc : h.1 + 1 - c0 ≤ R.cells := hrc
          have hrs : h.2.1 + n0 - s0 ≤ R.slots := hrs
          have hwd : Cond.methodLink (pm_own o) ix ⟨"[I", "clone", "()Ljava/lang/Object;"⟩ ∈ pm_gw := pm_ml_word hw (by decide)
          intro H locs lsA hW hS hl hn hz hc hs
          have hc : c0 ≤ h.1 := hc
          have hs : s0 ≤ h.2.1 := hs
          have h8' := pm_w8_emb (base := base) (adr := adr) hfo h8
          refine va_clone (ad := "[I") (x := (n0, .inl f)) (ty := .int) fx.1 fx.2.1 (fx.2.2.1.trans (pm_lsz hl hz).symm) fx.2.2.2.1 (fx.2.2.2.2.1 _ hwd) (fx.2.2.2.2.1 _ pm_w_c1) (fx.2.2.2.2.1 _ pm_w_c2) (fx.2.2.2.2.1 _ pm_w_c3) (fx.2.2.2.2.1 _ pm_w_c4) hF.2.2.2.2.2.2.1 hF.1 hW.P pm_wl_D (pm_S0 hS) (pm_hA hW) q 0 (pm_at_arr hW hq hc1) rfl (va_nm_int (hF.1.2 0 (dA 0, .int) rfl).2) (va_fit (fun i hi => rfl)) (by omega) (by omega) (by show h.1 - c0 + 1 ≤ R.cells; omega) (by show h.2.1 - s0 + n0 ≤ R.slots; omega) hd (fun q1 H1 hK1 hP1 hD1 hS1 => ?_)
          exact pm_newc (x := .inl (0, n0, .inl f)) fx hW hS hc hs hl hn hz hP1 hD1 hS1 k
      · cases hst
    · cases hst
  obtain ⟨q, hq, hcl, hik⟩ := pm_inv_call h4 h5 h6 hst
  obtain ⟨q', dd, hq', hdd, hkind⟩ := pm_ml_kind hw h4 h5 h6
  cases hq.symm.trans hq'
  have hmk := pm_mt_ok hq
  obtain ⟨h', r, hcall, hna, h8, hrcv, rfl⟩ := pm_call_inv hcl
  obtain ⟨le1, le2, hM⟩ := hC _ _ _ _ _ hcall
  have hM := hM q hq
  have hrc : h'.1 - c0 ≤ R.cells := hrc
  have hrs : h'.2.1 - s0 ≤ R.slots := hrs
  have hkd : (a = 0 ∨ a = 7) ∧ dd.parameters.length + 1 = q.2.2.2.2.2.1 ∧ q.1.name ≠ "<init>" ∧ (a = 7 → q.1.cls = "java/lang/String") := by
    rcases hkind with ⟨g1, g2, g3⟩ | ⟨g1, g2, g3, g4⟩ | ⟨g1, -⟩ | ⟨g1, -⟩
    · exact ⟨Or.inl g1, g2, g3, fun g => by omega⟩
    · exact ⟨Or.inr g1, g2, g3, fun _ => g4⟩
    · subst g1; cases hik
    · rcases g1 with rfl | rfl <;> cases hik
  obtain ⟨ha, hnp, hni, h7⟩ := hkd
  have hwd := pm_ml_word hw (by omega)
  rw [pm_mw_call hq (by omega) h4 h5 h6] at hwd
  obtain ⟨d2, hd2, hor⟩ := hmk.2.2.2.2.2.1
  cases hdd.symm.trans hd2
  have hsel : Cond.instanceMethod q.1 ∈ pm_gw ∧ Cond.selects q.1.cls q.1 q.1 ∈ pm_gw := by
    rcases hor with ⟨g1, -⟩ | ⟨-, g2, g3⟩
    · omega
    · exact ⟨g2, g3.resolve_left hni⟩
  cases has : (st.take q.2.2.2.2.2.1).reverse with
  | nil =>
    unfold pm_rcv at hrcv
    rw [pm_take_nil has] at hrcv
    rcases ha with rfl | rfl <;> cases hrcv
  | cons w0 As =>
    obtain ⟨hst2, hlast⟩ := pm_take has
    rw [has] at hM
    unfold pm_rcv at hrcv
    rw [hlast] at hrcv
    have hlenA : As.length = dd.parameters.length := by
      have g := congrArg List.length has
      simp at g
      omega
    intro H locs lsA hW hS hl hn hz hc hs
    have hc : c0 ≤ h.1 := hc
    have hs : s0 ≤ h.2.1 := hs
    have h8' := pm_w8_emb (base := base) (adr := adr) hfo h8
    have hrecv : ∃ b1, pm_emb base adr fo w0 = .ref b1 ∧ ∃ cellB : Cell, H[b1]? = some cellB ∧ cellB.vm.isStatics = false ∧ s.vm.findClass q.1.cls = some cellB.cls := by
      rcases ha with rfl | rfl
      · replace hrcv : (match pm_obj h w0 with
          | some x => decide (pm_cnm x.2.1 = q.1.cls)
          | none => false) = true := hrcv
        split at hrcv
        · next z hz1 =>
          obtain ⟨rfl, hlt, hcell⟩ := pm_obj_inv hz1
          have hcn : pm_cnm z.2.1 = q.1.cls := of_decide_eq_true hrcv
          refine ⟨base + z.1, rfl, ?_⟩
          have hat := pm_at_obj (base := base) (D := D) (dA := dA) (adr := adr) (fo := fo) hW hlt hcell
          have hcl2 : ∃ r, pm_cls[z.2.1]? = some r := by
            obtain ⟨r0, hr0, -⟩ := hW.P z.1 _ hat
            exact ⟨r0, hr0⟩
          obtain ⟨r0, hr0⟩ := hcl2
          have := va_recv hF.1 hW.P hr0 hat
          have hce : pm_cnm z.2.1 = r0.1 := by unfold pm_cnm; rw [hr0]
          rw [← hcn, hce]
          exact this
        · cases hrcv
      · replace hrcv : pm_isStr w0 = true := hrcv
        unfold pm_isStr at hrcv
        split at hrcv
        · next j =>
          have hj : j < 23 := of_decide_eq_true hrcv
          have hne : (j == 300) = false := by rw [beq_eq_false_iff_ne]; omega
          refine ⟨adr j, pm_emb_st hne, ?_⟩
          obtain ⟨cell, o1, o2, o3, o4⟩ := (hF.2.2.1 j hj).2.1
          rw [h7 rfl]
          exact ⟨cell, by rw [hS.2.1 _ (Array.getElem?_eq_some_iff.mp o1).1 o4]; exact o1, o2, o3⟩
        · cases hrcv
    obtain ⟨b1, hb1, hcellB⟩ := hrecv
    have hPre := pm_Pc_pre (as := w0 :: As) hF hW hS
    have hM2 : Met l q.1 (pm_ws q) { frames := d, cells := h'.1 - h.1, slots := h'.2.1 - h.2.1, locals := 64 * d } (va_Pc ((w0 :: As).map (pm_emb base adr fo)) (fun U => pm_F base D dA adr fo L xs U ∧ pm_W base D dA adr fo h U.heap)) (pm_Q base D dA adr fo h' r) (h'.1 - h.1) (h'.2.1 - h.2.1) (pm_A base) := hM
    have hrun := va_runV (H := H) (locs := locs) (cells := h.1 - c0) (slots := h.2.1 - s0) (b := b1) (As := As.map (pm_emb base adr fo)) (rest := (st.drop q.2.2.2.2.2.1).map (pm_emb base adr fo)) (C := q.1.cls) (e := e) (below := below) (meth := meth) (g := F0 m pc lsA (st.map (pm_emb base adr fo))) (pm_fixS fx) hM2 ⟨pm_callB fx hmk hRf hRl ⟨dd, hdd, rfl⟩ hwd, fx.2.2.2.2.1 _ hsel.1, fx.2.2.2.2.1 _ hsel.2⟩ ⟨pm_Pc_blind, hcellB, fun U hU hWm => by
        have := hPre U hU hWm
        simp only [List.map_cons, hb1] at this ⊢
        exact this⟩ rfl (by rw [List.length_map]; exact hlenA) (pm_lsz hl hz) (by
        show st.map (pm_emb base adr fo) = _
        conv => lhs; rw [hst2]
        rw [List.map_append, List.map_reverse, List.map_cons, hb1]) (by show 2 * 0 + _ ≤ 8; omega) hd ⟨by omega, by omega⟩
    exact pm_ret_call fx hW hS hl hn hz hc hs le1 le2 hrun k
theorem pm_t_invokestatic {ix : Nat} (fx : pm_Fx p s m args meth c cc nL o ini base D dA adr fo L xs c0) (hC : pm_Call l base D dA adr fo L xs d call) (hRf : d + 1 ≤ R.frames) (hRl : 64 * d + 64 ≤ R.locals) (hd : decode cc pc = .ok (.invokestatic ix, len)) (hr : pm_rokB o (pc, .invokestatic ix, len, a, b, v) = true) (hst : pm_step (pm_sX L xs) call o ini ret pc ls st h (.invokestatic ix) len a b v = some (.inl s')) (hrc : s'.2.2.2.1 - c0 ≤ R.cells) (hrs : s'.2.2.2.2.1 - s0 ≤ R.slots) (k : pm_K p l e R s m args below meth c Q base D dA adr fo nL c0 s0 s') : pm_K p l e R s m args below meth c Q base D dA adr fo nL c0 s0 (pc, ls, st, h) := by
  have hF := fx.2.2.2.2.2.2.1
  have hfo := hF.2.2.2.2.2.2.2.2.2.2.1
  replace hst : pm_inv (pm_sX L xs) call 1 pc ls st h a b = some (.inl s') := hst
  have hr1 : (a == 99 || (len == 3 && pm_mlA.any (fun q => q.1 == o && q.2.1 == ix && q.2.2.1 == a && q.2.2.2.1 == b))) = true := hr
  have ha99 : (a == 99) = false := by
    cases h99 : (a == 99) with
    | false => rfl
    | true =>
      have h99 : a = 99 := by simpa using h99
      subst h99
      obtain ⟨q, hq, hcl, -⟩ := pm_inv_call (by decide) (by decide) (by decide) hst
      obtain ⟨h', r, hcall, hna, h8, hrcv, rfl⟩ := pm_call_inv hcl
      cases hrcv
  rw [ha99] at hr1
  have hr2 : (len == 3 && pm_mlA.any (fun q => q.1 == o && q.2.1 == ix && q.2.2.1 == a && q.2.2.2.1 == b)) = true := hr1
  rw [Bool.and_eq_true, beq_iff_eq] at hr2
  obtain ⟨rfl, hw⟩ := hr2
  by_cases h4 : a = 4
  · subst h4
    unfold pm_inv at hst
    split at hst <;> first | cases hst | contradiction
  by_cases h5 : a = 5
  · subst h5
    replace hst : (match 1, st with
      | 1, .int n :: .int dp :: .ref d :: .int sp :: .ref s :: r =>
        (match pm_arr (pm_sX L xs) h (.ref s), pm_arr (pm_sX L xs) h (.ref d) with
        | some (t0, n0, .inl f), some (t1, n1, .inl g) => bif t0 == 0 && t1 == 0 && !decide (sp < 0) && !decide (dp < 0) && !decide (n < 0) && decide (sp.toNatClampNeg + n.toNatClampNeg ≤ n0) && decide (dp.toNatClampNeg + n.toNatClampNeg ≤ n1) && pm_w8 r then
            pm_go (pc + 3) ls r (pm_hset h d (.inl (0, n1, .inl (va_cpy f g sp.toNatClampNeg dp.toNatClampNeg n.toNatClampNeg)))) else none
        | _, _ => none)
      | _, _ => none) = some (.inl s') := hst
    split at hst
    · next n dp qd sp qs r _ =>
      split at hst
      · next t0 n0 f t1 n1 g hx hy =>
        cases hg : (t0 == 0 && t1 == 0 && !decide (sp < 0) && !decide (dp < 0) && !decide (n < 0) && decide (sp.toNatClampNeg + n.toNatClampNeg ≤ n0) && decide (dp.toNatClampNeg + n.toNatClampNeg ≤ n1) && pm_w8 r) with
        | false => rw [hg] at hst; cases hst
        | true =>
          rw [hg] at hst
          simp only [Bool.and_eq_true, beq_iff_eq, Bool.not_eq_true', decide_eq_false_iff_not, decide_eq_true_eq] at hg
          obtain ⟨⟨⟨⟨⟨⟨⟨rfl, rfl⟩, g1⟩, g2⟩, g3⟩, g4⟩, g5⟩, h8⟩ := hg
          obtain rfl := pm_go_inv hst
          obtain ⟨hq1, hc1⟩ := pm_arr_inv hx
          obtain ⟨hq2, hc2⟩ := pm_arr_inv hy
          have hwd : Cond.methodLink (pm_own o) ix arraycopyName ∈ pm_gw := pm_ml_word hw (by decide)
          intro H locs lsA hW hS hl hn hz hc hs
          have h8' := pm_w8_emb (base := base) (adr := adr) hfo h8
          refine va_copyi (ty := .int) fx.1 fx.2.1 (fx.2.2.1.trans (pm_lsz hl hz).symm) fx.2.2.2.1 (fx.2.2.2.2.1 _ hwd) (fx.2.2.2.2.1 _ pm_w_an) (fx.2.2.2.2.1 _ pm_w_as) (fx.2.2.2.2.1 _ pm_w_ai) hF.1 hW.P pm_wl_D (pm_S0 hS) qs qd 0 0 (pm_at_arr hW hq1 hc1) (pm_at_arr hW hq2 hc2) rfl rfl rfl g1 g2 g3 g4 g5 (fun _ _ => rfl) (by omega) (by
            have : nativeFrameWords "java/lang/System" "arraycopy" 5 = 7 := by decide +kernel
            omega) hd (fun H1 locs1 hP1 hD1 hS1 => ?_)
          have e1 : (pm_wl base dA adr fo h).set qd (base + qd, .inl (dA 0, n1, .inl (va_cpy f g sp.toNatClampNeg dp.toNatClampNeg n.toNatClampNeg))) = pm_wl base dA adr fo (pm_hset h qd (.inl (0, n1, .inl (va_cpy f g sp.toNatClampNeg dp.toNatClampNeg n.toNatClampNeg)))) := by
            rw [← pm_wl_set hq2]
            rfl
          rw [e1] at hP1
          exact pm_store (h' := pm_hset h qd (.inl (0, n1, .inl (va_cpy f g sp.toNatClampNeg dp.toNatClampNeg n.toNatClampNeg)))) fx hW hS hc hs hl hn hz rfl rfl hP1 hS1 k
      · cases hst
    · cases hst
  by_cases h6 : a = 6
  · subst h6
    unfold pm_inv at hst
    split at hst <;> first | cases hst | contradiction
  obtain ⟨q, hq, hcl, hik⟩ := pm_inv_call h4 h5 h6 hst
  obtain ⟨q', dd, hq', hdd, hkind⟩ := pm_ml_kind hw h4 h5 h6
  cases hq.symm.trans hq'
  have hmk := pm_mt_ok hq
  obtain ⟨h', r, hcall, hna, h8, hrcv, rfl⟩ := pm_call_inv hcl
  obtain ⟨le1, le2, hM⟩ := hC _ _ _ _ _ hcall
  have hM := hM q hq
  have hrc : h'.1 - c0 ≤ R.cells := hrc
  have hrs : h'.2.1 - s0 ≤ R.slots := hrs
  have hkd : (a = 1 ∨ a = 3) ∧ dd.parameters.length = q.2.2.2.2.2.1 := by
    rcases hkind with ⟨g1, g2, g3⟩ | ⟨g1, g2, g3, g4⟩ | ⟨g1, -⟩ | hg
    · subst g1; cases hik
    · subst g1; cases hik
    · subst g1; cases hik
    · exact hg
  obtain ⟨ha, hnp⟩ := hkd
  obtain ⟨d2, hd2, hor⟩ := hmk.2.2.2.2.2.1
  cases hdd.symm.trans hd2
  have hstt : Cond.static q.1 ∈ pm_gw := by
    rcases hor with ⟨-, g2⟩ | ⟨g1, -⟩
    · exact g2
    · omega
  generalize has : (st.take q.2.2.2.2.2.1).reverse = As at hM
  have hst2 : st = As.reverse ++ st.drop q.2.2.2.2.2.1 := by rw [← has, List.reverse_reverse, List.take_append_drop]
  have hlenA : As.length = dd.parameters.length := by
    have g := congrArg List.length has
    simp at g
    omega
  intro H locs lsA hW hS hl hn hz hc hs
  have hc : c0 ≤ h.1 := hc
  have hs : s0 ≤ h.2.1 := hs
  have h8' := pm_w8_emb (base := base) (adr := adr) hfo h8
  have hstk : st.map (pm_emb base adr fo) = (As.map (pm_emb base adr fo)).reverse ++ (st.drop q.2.2.2.2.2.1).map (pm_emb base adr fo) := by
    conv => lhs; rw [hst2]
    rw [List.map_append, List.map_reverse]
  rcases ha with rfl | rfl
  · have hwd := pm_ml_word hw (by decide)
    rw [pm_mw_call hq (by decide) (by decide) (by decide) (by decide)] at hwd
    have hrun := va_runS (H := H) (locs := locs) (cells := h.1 - c0) (slots := h.2.1 - s0) (As := As.map (pm_emb base adr fo)) (rest := (st.drop q.2.2.2.2.2.1).map (pm_emb base adr fo)) (e := e) (below := below) (meth := meth) (g := F0 m pc lsA (st.map (pm_emb base adr fo))) (pm_fixS fx) hM ⟨pm_callB fx hmk hRf hRl ⟨dd, hdd, rfl⟩ hwd, fx.2.2.2.2.1 _ hstt⟩ ⟨pm_Pc_blind, pm_Pc_pre (as := As) hF hW hS⟩ rfl (by rw [List.length_map]; exact hlenA) (pm_lsz hl hz) hstk (by show 2 * 0 + _ ≤ 8; omega) hd ⟨by omega, by omega⟩
    exact pm_ret_call fx hW hS hl hn hz hc hs le1 le2 hrun k
  · have hnw := hF.2.2.2.2.2.1 _ (pm_ml_nest hw)
    have hyq : pm_y b = q.1 := by unfold pm_y; rw [hq]
    have hnw : va_Nw (.methodLinkNest (pm_own o) ix q.1 "TrainBearers") s := by rw [← hyq]; exact hnw
    have h22 := hmk.2.2.2.2.2.2.1
    have hcn := va_cnB (R := R) (maxL := q.2.2.1) (bytes := q.2.1) (ret := q.2.2.2.1) (rm := { frames := d, cells := h'.1 - h.1, slots := h'.2.1 - h.2.1, locals := 64 * d }) dd.parameters.length fx.2.2.2.2.1 (pm_good hmk) rfl rfl rfl hnw (fx.2.2.2.2.1 _ hmk.2.2.1) ⟨hmk.2.2.2.1.1, hmk.2.2.2.1.2, by rw [hdd]; rfl⟩ ⟨hRf, by show 8 + (q.2.2.1 + 11) + 64 * d ≤ R.locals; omega⟩
    have hrun := va_runSN (H := H) (locs := locs) (cells := h.1 - c0) (slots := h.2.1 - s0) (As := As.map (pm_emb base adr fo)) (rest := (st.drop q.2.2.2.2.2.1).map (pm_emb base adr fo)) (e := e) (below := below) (meth := meth) (g := F0 m pc lsA (st.map (pm_emb base adr fo))) (pm_fixS fx) hM ⟨hcn, fx.2.2.2.2.1 _ hstt, trivial⟩ ⟨pm_Pc_blind, pm_Pc_pre (as := As) hF hW hS⟩ rfl (by rw [List.length_map]; exact hlenA) (pm_lsz hl hz) hstk (by show 2 * 0 + _ ≤ 8; omega) hd ⟨by omega, by omega⟩
    exact pm_ret_call fx hW hS hl hn hz hc hs le1 le2 hrun k
theorem pm_t_invokespecial {ix : Nat} (fx : pm_Fx p s m args meth c cc nL o ini base D dA adr fo L xs c0) (hC : pm_Call l base D dA adr fo L xs d call) (hRf : d + 1 ≤ R.frames) (hRl : 64 * d + 64 ≤ R.locals) (hd : decode cc pc = .ok (.invokespecial ix, len)) (hr : pm_rokB o (pc, .invokespecial ix, len, a, b, v) = true) (hst : pm_step (pm_sX L xs) call o ini ret pc ls st h (.invokespecial ix) len a b v = some (.inl s')) (hrc : s'.2.2.2.1 - c0 ≤ R.cells) (hrs : s'.2.2.2.2.1 - s0 ≤ R.slots) (k : pm_K p l e R s m args below meth c Q base D dA adr fo nL c0 s0 s') : pm_K p l e R s m args below meth c Q base D dA adr fo nL c0 s0 (pc, ls, st, h) := by
  have hr2 : (len == 3 && pm_mlA.any (fun q => q.1 == o && q.2.1 == ix && q.2.2.1 == a && q.2.2.2.1 == b)) = true := hr
  rw [Bool.and_eq_true, beq_iff_eq] at hr2
  obtain ⟨rfl, hw⟩ := hr2
  have hF := fx.2.2.2.2.2.2.1
  have hfo := hF.2.2.2.2.2.2.2.2.2.2.1
  replace hst : pm_inv (pm_sX L xs) call 2 pc ls st h a b = some (.inl s') := hst
  by_cases h4 : a = 4
  · subst h4
    replace hst : (match 2, st with
      | 2, .ref _ :: r => bif pm_w8 r then pm_go (pc + 3) ls r h else none
      | _, _ => none) = some (.inl s') := hst
    split at hst
    · next q r _ =>
      cases h8 : pm_w8 r with
      | false => rw [h8] at hst; cases hst
      | true =>
        rw [h8] at hst
        obtain rfl := pm_go_inv hst
        have hwd : Cond.methodLink (pm_own o) ix Lib.objectInit ∈ pm_gw := pm_ml_word hw (by decide)
        intro H locs lsA hW hS hl hn hz hc hs
        have h8' := pm_w8_emb (base := base) (adr := adr) hfo h8
        exact W.objInit (g := F0 m pc lsA ((Value.ref q :: r).map (pm_emb base adr fo))) fx.1 fx.2.1 fx.2.2.2.1 (fx.2.2.2.2.1 _ hwd) (fx.2.2.2.2.1 _ pm_w_oi) (fx.2.2.2.2.1 _ pm_w_oc) rfl ((pm_lsz hl hz).trans fx.2.2.1.symm) rfl hd (by omega) (by show 2 * 0 + _ + 12 ≤ R.locals; omega) (k H locs lsA hW hS hl hn hz hc hs)
    · cases hst
  by_cases h5 : a = 5
  · subst h5
    unfold pm_inv at hst
    split at hst <;> first | cases hst | contradiction
  by_cases h6 : a = 6
  · subst h6
    unfold pm_inv at hst
    split at hst <;> first | cases hst | contradiction
  obtain ⟨q, hq, hcl, hik⟩ := pm_inv_call h4 h5 h6 hst
  obtain ⟨q', dd, hq', hdd, hkind⟩ := pm_ml_kind hw h4 h5 h6
  cases hq.symm.trans hq'
  have hmk := pm_mt_ok hq
  obtain ⟨h', r, hcall, hna, h8, hrcv, rfl⟩ := pm_call_inv hcl
  obtain ⟨le1, le2, hM⟩ := hC _ _ _ _ _ hcall
  have hM := hM q hq
  have hrc : h'.1 - c0 ≤ R.cells := hrc
  have hrs : h'.2.1 - s0 ≤ R.slots := hrs
  have hkd : a = 2 ∧ dd.parameters.length + 1 = q.2.2.2.2.2.1 ∧ q.1.name = "<init>" ∧ q.2.2.2.1 = none := by
    rcases hkind with ⟨g1, g2, g3⟩ | ⟨g1, g2, g3, g4⟩ | hg | ⟨g1, -⟩
    · subst g1; cases hik
    · subst g1; cases hik
    · exact hg
    · rcases g1 with rfl | rfl <;> cases hik
  obtain ⟨rfl, hnp, hni, hrn⟩ := hkd
  have hwd := pm_ml_word hw (by decide)
  rw [pm_mw_call hq (by decide) h4 h5 h6] at hwd
  obtain ⟨d2, hd2, hor⟩ := hmk.2.2.2.2.2.1
  cases hdd.symm.trans hd2
  have hins : Cond.instanceMethod q.1 ∈ pm_gw := by
    rcases hor with ⟨g1, -⟩ | ⟨-, g2, g3⟩
    · omega
    · exact g2
  cases has : (st.take q.2.2.2.2.2.1).reverse with
  | nil =>
    unfold pm_rcv at hrcv
    rw [pm_take_nil has] at hrcv
    cases hrcv
  | cons w0 As =>
    obtain ⟨hst2, hlast⟩ := pm_take has
    rw [has] at hM
    unfold pm_rcv at hrcv
    rw [hlast] at hrcv
    have hlenA : As.length = dd.parameters.length := by
      have g := congrArg List.length has
      simp at g
      omega
    replace hrcv : (match pm_obj h w0 with
      | some x => decide (pm_cnm x.2.1 = q.1.cls)
      | none => false) = true := hrcv
    split at hrcv
    · next z hz1 =>
      obtain ⟨rfl, hlt, hcell⟩ := pm_obj_inv hz1
      intro H locs lsA hW hS hl hn hz hc hs
      have hc : c0 ≤ h.1 := hc
      have hs : s0 ≤ h.2.1 := hs
      have h8' := pm_w8_emb (base := base) (adr := adr) hfo h8
      have hcb := pm_callB (mc := h'.1 - h.1) (ms := h'.2.1 - h.2.1) fx hmk hRf hRl ⟨dd, hdd, rfl⟩ hwd
      rw [hrn] at hcb
      have hrun := va_runI (H := H) (locs := locs) (cells := h.1 - c0) (slots := h.2.1 - s0) (b := base + z.1) (As := As.map (pm_emb base adr fo)) (rest := (st.drop q.2.2.2.2.2.1).map (pm_emb base adr fo)) (e := e) (below := below) (meth := meth) (g := F0 m pc lsA (st.map (pm_emb base adr fo))) (pm_fixS fx) hM ⟨hcb, hni, fx.2.2.2.2.1 _ hins⟩ ⟨pm_Pc_blind, pm_Pc_pre (as := .ref z.1 :: As) hF hW hS⟩ rfl (by rw [List.length_map]; exact hlenA) (pm_lsz hl hz) (by
        show st.map (pm_emb base adr fo) = _
        conv => lhs; rw [hst2]
        rw [List.map_append, List.map_reverse, List.map_cons]
        rfl) (by show 2 * 0 + _ ≤ 8; omega) hd ⟨by omega, by omega⟩
      exact pm_ret_call fx hW hS hl hn hz hc hs le1 le2 hrun k
    · cases hrcv
end SIM4
end
section
/-! the simulation: a step, a run -/
def pm_isRet (i : Instr) : Bool := match i with
  | .ireturn => true
  | .lreturn => true
  | .areturn => true
  | .return_ => true
  | _ => false
/-- at most n instructions of a method; cells are never taken away -/
def pm_ey (X : pm_X) (call : Nat → List Value → pm_H → Option pm_R) (o : Nat) (ini : Bool) (ret : Option FieldType) (code : List pm_I) : Nat → pm_S → Option pm_R
  | 0, _ => none
  | n + 1, s => match pm_find code s.1 with
    | none => none
    | some e => match pm_step X call o ini ret s.1 s.2.1 s.2.2.1 s.2.2.2 e.1 e.2.1 e.2.2.1 e.2.2.2.1 e.2.2.2.2 with
      | none => none
      | some (.inr r) => bif pm_isRet e.1 && decide (s.2.2.2.1 ≤ r.1.1) && decide (s.2.2.2.2.1 ≤ r.1.2.1) then some r else none
      | some (.inl s') => bif decide (s.2.2.2.1 ≤ s'.2.2.2.1) && decide (s.2.2.2.2.1 ≤ s'.2.2.2.2.1) then pm_ey X call o ini ret code n s' else none
def pm_rn (X : pm_X) (n : Nat) : Nat → Nat → List Value → pm_H → Option pm_R
  | 0, _, _, _ => none
  | d + 1, mid, args, h => match pm_mtL[mid]? with
    | none => none
    | some q => bif decide (args.length = q.2.2.2.2.2.1) && decide ((pm_lay args).length ≤ q.2.2.1) && args.all (fun v => pm_cat1 v || pm_two (some v)) then
        pm_ey X (pm_rn X n d) q.2.2.2.2.1 (decide (q.1.name = "<init>")) q.2.2.2.1 q.2.2.2.2.2.2 n (0, pm_ini args q.2.2.1, [], h) else none
theorem pm_find_mem {code : List pm_I} {pc : Nat} {e : Instr × Nat × Nat × Nat × Value} (h : pm_find code pc = some e) : (pc, e) ∈ code := by
  induction code with
  | nil => cases h
  | cons x t ih =>
    have h : (bif x.1 == pc then some x.2 else pm_find t pc) = some e := h
    cases hx : (x.1 == pc) with
    | true =>
      rw [hx] at h
      have h : some x.2 = some e := h
      have e1 : x.1 = pc := by simpa using hx
      have : x = (pc, e) := Prod.ext e1 (Option.some.inj h)
      rw [this]
      exact List.mem_cons_self
    | false =>
      rw [hx] at h
      exact List.mem_cons_of_mem _ (ih h)
theorem pm_rI_no {ret : Option FieldType} {st : List Value} {h : pm_H} {s' : pm_S} (hs : pm_rI ret st h = some (.inl s')) : False := by
  unfold pm_rI at hs
  split at hs
  · next x => cases hx : pm_ret ret x <;> rw [hx] at hs <;> cases hs
  · cases hs
theorem pm_rL_no {ret : Option FieldType} {st : List Value} {h : pm_H} {s' : pm_S} (hs : pm_rL ret st h = some (.inl s')) : False := by
  unfold pm_rL at hs
  split at hs
  · by_cases hx : ret = some .long
    · rw [decide_eq_true hx] at hs; cases hs
    · rw [decide_eq_false hx] at hs; cases hs
  · cases hs
theorem pm_rA_no {ret : Option FieldType} {st : List Value} {h : pm_H} {s' : pm_S} (hs : pm_rA ret st h = some (.inl s')) : False := by
  unfold pm_rA at hs
  split at hs <;> cases hs
theorem pm_rV_no {ret : Option FieldType} {st : List Value} {h : pm_H} {s' : pm_S} (hs : pm_rV ret st h = some (.inl s')) : False := by
  unfold pm_rV at hs
  split at hs <;> cases hs
theorem pm_ey_le {X : pm_X} {call : Nat → List Value → pm_H → Option pm_R} {o : Nat} {ini : Bool} {ret : Option FieldType} {code : List pm_I} {hf : pm_H} {r : Option Value} : ∀ (n : Nat) (t : pm_S) (_ : Unit), pm_ey X call o ini ret code n t = some (hf, r) → t.2.2.2.1 ≤ hf.1 ∧ t.2.2.2.2.1 ≤ hf.2.1
  | 0, t, _, ht => by cases ht
  | n + 1, (pc, ls, st, h), _, ht => by
    replace ht : (match pm_find code pc with
      | none => none
      | some e => match pm_step X call o ini ret pc ls st h e.1 e.2.1 e.2.2.1 e.2.2.2.1 e.2.2.2.2 with
        | none => none
        | some (.inr r) => bif pm_isRet e.1 && decide (h.1 ≤ r.1.1) && decide (h.2.1 ≤ r.1.2.1) then some r else none
        | some (.inl s') => bif decide (h.1 ≤ s'.2.2.2.1) && decide (h.2.1 ≤ s'.2.2.2.2.1) then pm_ey X call o ini ret code n s' else none) = some (hf, r) := ht
    split at ht
    · cases ht
    · next q hfnd =>
      split at ht
      · cases ht
      · next r1 hst =>
        cases hg : (pm_isRet q.1 && decide (h.1 ≤ r1.1.1) && decide (h.2.1 ≤ r1.1.2.1)) with
        | false => rw [hg] at ht; cases ht
        | true =>
          rw [hg] at ht
          have ht : some r1 = some (hf, r) := ht
          obtain rfl := Option.some.inj ht
          rw [Bool.and_eq_true, Bool.and_eq_true, decide_eq_true_eq, decide_eq_true_eq] at hg
          exact ⟨hg.1.2, hg.2⟩
      · next s' hst =>
        cases hg : (decide (h.1 ≤ s'.2.2.2.1) && decide (h.2.1 ≤ s'.2.2.2.2.1)) with
        | false => rw [hg] at ht; cases ht
        | true =>
          rw [hg] at ht
          rw [Bool.and_eq_true, decide_eq_true_eq, decide_eq_true_eq] at hg
          obtain ⟨l1, l2⟩ := pm_ey_le n s' () ht
          exact ⟨Nat.le_trans hg.1 l1, Nat.le_trans hg.2 l2⟩
section SIM5
variable {p : Program} {l : Launch} {e : Env} {R : Room} {s : State} {m : MethodId} {args : Array Value} {below : List Frame} {meth : Method} {c : Code} {Q : State → Prop}
variable {base : Nat} {D : va_G} {dA : Nat → ClassId} {adr : Nat → Nat} {fo : Value} {L : Nat} {xs : Nat → Int32} {nL c0 s0 o d : Nat} {ini : Bool} {cc : ByteArray} {X : pm_X} {call : Nat → List Value → pm_H → Option pm_R} {ret : Option FieldType}
variable {pc len a b : Nat} {ls : pm_Ls} {st : List Value} {h : pm_H} {v : Value} {s' : pm_S}
theorem pm_no {x : Option (pm_S ⊕ pm_R)} (h : x = none) (h2 : x = some (.inl s')) : False := by
  rw [h] at h2
  cases h2
theorem pm_t_all {i : Instr} (fx : pm_Fx p s m args meth c cc nL o ini base D dA adr fo L xs c0) (hC : pm_Call l base D dA adr fo L xs d call) (hRf : d + 1 ≤ R.frames) (hRl : 64 * d + 64 ≤ R.locals) (hd : decode cc pc = .ok (i, len)) (hr : pm_rokB o (pc, i, len, a, b, v) = true) (hst : pm_step (pm_sX L xs) call o ini ret pc ls st h i len a b v = some (.inl s')) (hrc : s'.2.2.2.1 - c0 ≤ R.cells) (hrs : s'.2.2.2.2.1 - s0 ≤ R.slots) (k : pm_K p l e R s m args below meth c Q base D dA adr fo nL c0 s0 s') : pm_K p l e R s m args below meth c Q base D dA adr fo nL c0 s0 (pc, ls, st, h) := by
  cases i with
  | iadd => exact pm_t_iadd fx hd hr hst k
  | isub => exact pm_t_isub fx hd hr hst k
  | imul => exact pm_t_imul fx hd hr hst k
  | iand => exact pm_t_iand fx hd hr hst k
  | ior => exact pm_t_ior fx hd hr hst k
  | ixor => exact pm_t_ixor fx hd hr hst k
  | ishl => exact pm_t_ishl fx hd hr hst k
  | ishr => exact pm_t_ishr fx hd hr hst k
  | iushr => exact pm_t_iushr fx hd hr hst k
  | idiv => exact pm_t_idiv fx hd hr hst k
  | irem => exact pm_t_irem fx hd hr hst k
  | ineg => exact pm_t_ineg fx hd hr hst k
  | ladd => exact pm_t_ladd fx hd hr hst k
  | lsub => exact pm_t_lsub fx hd hr hst k
  | lmul => exact pm_t_lmul fx hd hr hst k
  | ldiv => exact pm_t_ldiv fx hd hr hst k
  | lrem => exact pm_t_lrem fx hd hr hst k
  | lcmp => exact pm_t_lcmp fx hd hr hst k
  | i2l => exact pm_t_i2l fx hd hr hst k
  | l2i => exact pm_t_l2i fx hd hr hst k
  | i2c => exact pm_t_i2c fx hd hr hst k
  | aconst_null => exact pm_t_aconst_null fx hd hr hst k
  | pop => exact pm_t_pop fx hd hr hst k
  | pop2 => exact pm_t_pop2 fx hd hr hst k
  | dup => exact pm_t_dup fx hd hr hst k
  | dup2 => exact pm_t_dup2 fx hd hr hst k
  | arraylength => exact pm_t_arraylength fx hd hr hst k
  | iaload => exact pm_t_iaload fx hd hr hst k
  | baload => exact pm_t_baload fx hd hr hst k
  | laload => exact pm_t_laload fx hd hr hst k
  | aaload => exact pm_t_aaload fx hd hr hst k
  | iastore => exact pm_t_iastore fx hd hr hst k
  | bastore => exact pm_t_bastore fx hd hr hst k
  | lastore => exact pm_t_lastore fx hd hr hst k
  | aastore => exact pm_t_aastore fx hd hr hst k
  | iconst _ => exact pm_t_iconst fx hd hr hst k
  | lconst _ => exact pm_t_lconst fx hd hr hst k
  | bipush _ => exact pm_t_bipush fx hd hr hst k
  | sipush _ => exact pm_t_sipush fx hd hr hst k
  | iload _ => exact pm_t_iload fx hd hr hst k
  | iload_n _ => exact pm_t_iload_n fx hd hr hst k
  | lload _ => exact pm_t_lload fx hd hr hst k
  | lload_n _ => exact pm_t_lload_n fx hd hr hst k
  | aload _ => exact pm_t_aload fx hd hr hst k
  | aload_n _ => exact pm_t_aload_n fx hd hr hst k
  | istore _ => exact pm_t_istore fx hd hr hst k
  | istore_n _ => exact pm_t_istore_n fx hd hr hst k
  | lstore _ => exact pm_t_lstore fx hd hr hst k
  | lstore_n _ => exact pm_t_lstore_n fx hd hr hst k
  | astore _ => exact pm_t_astore fx hd hr hst k
  | astore_n _ => exact pm_t_astore_n fx hd hr hst k
  | iinc _ _ => exact pm_t_iinc fx hd hr hst k
  | goto _ => exact pm_t_goto fx hd hr hst k
  | ifCond _ _ => exact pm_t_ifCond fx hd hr hst k
  | if_icmp _ _ => exact pm_t_if_icmp fx hd hr hst k
  | ifnull _ => exact pm_t_ifnull fx hd hr hst k
  | ifnonnull _ => exact pm_t_ifnonnull fx hd hr hst k
  | ldc _ => exact pm_t_ldc fx hd hr hst k
  | ldc_w _ => exact pm_t_ldc_w fx hd hr hst k
  | ldc2_w _ => exact pm_t_ldc2_w fx hd hr hst k
  | getstatic _ => exact pm_t_getstatic fx hd hr hst k
  | getfield _ => exact pm_t_getfield fx hd hr hst k
  | putfield _ => exact pm_t_putfield fx hd hr hst k
  | checkcast _ => exact pm_t_checkcast fx hd hr hst k
  | tableswitch _ _ _ _ => exact pm_t_tableswitch fx hd hst k
  | new _ => exact pm_t_new fx hd hr hst hrc hrs k
  | newarray _ => exact pm_t_newarray fx hd hr hst hrc hrs k
  | anewarray _ => exact pm_t_anewarray fx hd hr hst hrc hrs k
  | invokevirtual _ => exact pm_t_invokevirtual fx hC hRf hRl hd hr hst hrc hrs k
  | invokestatic _ => exact pm_t_invokestatic fx hC hRf hRl hd hr hst hrc hrs k
  | invokespecial _ => exact pm_t_invokespecial fx hC hRf hRl hd hr hst hrc hrs k
  | ireturn => exact (pm_rI_no (ret := ret) (st := st) (h := h) hst).elim
  | lreturn => exact (pm_rL_no (ret := ret) (st := st) (h := h) hst).elim
  | areturn => exact (pm_rA_no (ret := ret) (st := st) (h := h) hst).elim
  | return_ => exact (pm_rV_no (ret := ret) (st := st) (h := h) hst).elim
  | _ => exact (pm_no rfl hst).elim
theorem pm_isRet_or {i : Instr} (h : pm_isRet i = true) : i = .ireturn ∨ i = .lreturn ∨ i = .areturn ∨ i = .return_ := by
  unfold pm_isRet at h
  split at h
  · exact Or.inl rfl
  · exact Or.inr (Or.inl rfl)
  · exact Or.inr (Or.inr (Or.inl rfl))
  · exact Or.inr (Or.inr (Or.inr rfl))
  · cases h
theorem pm_ey_K {code : List pm_I} {hf : pm_H} {r : Option Value} (fx : pm_Fx p s m args meth c cc nL o ini base D dA adr fo L xs c0) (hC : pm_Call l base D dA adr fo L xs d call) (hRf : d + 1 ≤ R.frames) (hRl : 64 * d + 64 ≤ R.locals) (hret : meth.sig.returnType = ret) (hlk : meth.locks = false) (hcode : ∀ e ∈ code, decode cc e.1 = .ok (e.2.1, e.2.2.1)) (hrok : ∀ e ∈ code, pm_rokB o e = true) (hRc : R.cells = hf.1 - c0) (hRs : R.slots = hf.2.1 - s0) (n : Nat) :
    ∀ t : pm_S, pm_ey (pm_sX L xs) call o ini ret code n t = some (hf, r) → t.2.2.2.1 ≤ hf.1 ∧ t.2.2.2.2.1 ≤ hf.2.1 ∧ pm_K p l e R s m args below meth c (MQ below (pm_Q base D dA adr fo hf r) args s (hf.1 - c0) (hf.2.1 - s0) (pm_A base)) base D dA adr fo nL c0 s0 t := by
  induction n with
  | zero => intro t ht; cases ht
  | succ n ih =>
    rintro ⟨pc, ls, st, h⟩ ht
    replace ht : (match pm_find code pc with
      | none => none
      | some e => match pm_step (pm_sX L xs) call o ini ret pc ls st h e.1 e.2.1 e.2.2.1 e.2.2.2.1 e.2.2.2.2 with
        | none => none
        | some (.inr r) => bif pm_isRet e.1 && decide (h.1 ≤ r.1.1) && decide (h.2.1 ≤ r.1.2.1) then some r else none
        | some (.inl s') => bif decide (h.1 ≤ s'.2.2.2.1) && decide (h.2.1 ≤ s'.2.2.2.2.1) then pm_ey (pm_sX L xs) call o ini ret code n s' else none) = some (hf, r) := ht
    split at ht
    · cases ht
    · next q hfnd =>
      have hmem := pm_find_mem hfnd
      have hd := hcode _ hmem
      have hr := hrok _ hmem
      obtain ⟨i, len, a, b, v⟩ := q
      split at ht
      · cases ht
      · next r1 hst =>
        cases hg : (pm_isRet i && decide (h.1 ≤ r1.1.1) && decide (h.2.1 ≤ r1.1.2.1)) with
        | false => rw [hg] at ht; cases ht
        | true =>
          rw [hg] at ht
          have ht : some r1 = some (hf, r) := ht
          obtain rfl := Option.some.inj ht
          rw [Bool.and_eq_true, Bool.and_eq_true, decide_eq_true_eq, decide_eq_true_eq] at hg
          exact ⟨hg.1.2, hg.2, pm_t_ret fx hret hlk hd hr (pm_isRet_or hg.1.1) hst⟩
      · next s' hst =>
        cases hg : (decide (h.1 ≤ s'.2.2.2.1) && decide (h.2.1 ≤ s'.2.2.2.2.1)) with
        | false => rw [hg] at ht; cases ht
        | true =>
          rw [hg] at ht
          rw [Bool.and_eq_true, decide_eq_true_eq, decide_eq_true_eq] at hg
          obtain ⟨l1, l2, k⟩ := ih s' ht
          refine ⟨Nat.le_trans hg.1 l1, Nat.le_trans hg.2 l2, ?_⟩
          exact pm_t_all fx hC hRf hRl hd hr hst (by rw [hRc]; exact Nat.sub_le_sub_right l1 _) (by rw [hRs]; exact Nat.sub_le_sub_right l2 _) k
theorem pm_lay_args (hfo : fo = .null ∨ ∃ q, fo = .ref q) : ∀ (as : List Value), as.all (fun v => pm_cat1 v || pm_two (some v)) = true → (lg_sl (as.map (pm_emb base adr fo))).length = (pm_lay as).length ∧ ∀ (i k : Nat) (v : Value), (pm_lay as).getD k none = some v → (i + k, pm_emb base adr fo v) ∈ lv_args i (as.map (pm_emb base adr fo))
  | [], _ => ⟨rfl, fun i k v hv => by simp [pm_lay] at hv⟩
  | x :: t, hall => by
    rw [List.all_cons, Bool.and_eq_true] at hall
    obtain ⟨ih1, ih2⟩ := pm_lay_args hfo t hall.2
    by_cases hx : pm_cat1 x = true
    · have hcat : (pm_emb base adr fo x).category = 1 := pm_cat1_emb hx hfo
      have hlay : pm_lay (x :: t) = some x :: pm_lay t := by
        cases x <;> first | rfl | cases hx
      refine ⟨?_, fun i k v hv => ?_⟩
      · rw [hlay]
        have : lg_sl ((x :: t).map (pm_emb base adr fo)) = .val (pm_emb base adr fo x) :: lg_sl (t.map (pm_emb base adr fo)) := by
          simp [lg_sl, hcat]
        rw [this]
        simp [ih1]
      · rw [hlay] at hv
        show _ ∈ (i, pm_emb base adr fo x) :: lv_args (if (pm_emb base adr fo x).category = 2 then i + 2 else i + 1) (t.map (pm_emb base adr fo))
        rw [hcat, if_neg (by decide)]
        cases k with
        | zero =>
          have hv : some x = some v := hv
          cases hv
          exact List.mem_cons_self
        | succ k =>
          have := ih2 (i + 1) k v (by simpa using hv)
          rw [show i + 1 + k = i + (k + 1) by omega] at this
          exact List.mem_cons_of_mem _ this
    · have htwo : pm_two (some x) = true := by
        have := hall.1
        rw [Bool.or_eq_true] at this
        exact this.resolve_left hx
      cases x with
      | long y =>
        refine ⟨?_, fun i k v hv => ?_⟩
        · have : lg_sl ((Value.long y :: t).map (pm_emb base adr fo)) = .val (.long y) :: .second :: lg_sl (t.map (pm_emb base adr fo)) := by
            simp [lg_sl, pm_emb, Value.category]
          rw [this]
          show _ = (some (Value.long y) :: none :: pm_lay t).length
          simp [ih1]
        · have hv : (some (Value.long y) :: none :: pm_lay t).getD k none = some v := hv
          show _ ∈ (i, Value.long y) :: lv_args (i + 2) (t.map (pm_emb base adr fo))
          match k, hv with
          | 0, hv =>
            have hv : some (Value.long y) = some v := hv
            cases hv
            exact List.mem_cons_self
          | 1, hv => simp at hv
          | k + 2, hv =>
            have := ih2 (i + 2) k v (by simpa using hv)
            rw [show i + 2 + k = i + (k + 2) by omega] at this
            exact List.mem_cons_of_mem _ this
      | _ => cases htwo
theorem pm_lay_nd : ∀ (as : List Value), as.all (fun v => pm_cat1 v || pm_two (some v)) = true → ∀ (k : Nat) (z : UInt64), (pm_lay as).getD k none ≠ some (.double z)
  | [], _, k, z => by simp [pm_lay]
  | x :: t, hall, k, z => by
    rw [List.all_cons, Bool.and_eq_true] at hall
    have ih := pm_lay_nd t hall.2
    cases x with
    | long y =>
      show (some (Value.long y) :: none :: pm_lay t).getD k none ≠ _
      match k with
      | 0 => simp
      | 1 => simp
      | k + 2 => simpa using ih k z
    | float y => cases hall.1
    | double y => cases hall.1
    | _ =>
      show (some _ :: pm_lay t).getD k none ≠ _
      match k with
      | 0 => simp
      | k + 1 => simpa using ih k z
theorem pm_ini_get {as : List Value} {n k : Nat} {v : Value} (h : (pm_ini as n).getD k none = some v) : (pm_lay as).getD k none = some v := by
  unfold pm_ini at h
  rw [List.getD_eq_getElem?_getD] at h ⊢
  by_cases hk : k < (pm_lay as).length
  · rw [List.getElem?_append_left hk] at h
    exact h
  · rw [List.getElem?_append_right (by omega)] at h
    exfalso
    rw [List.getElem?_replicate] at h
    split at h <;> cases h
/-- what the pure machine does, the machine does -/
theorem pm_rn_Met (n : Nat) : ∀ d, pm_Call l base D dA adr fo L xs d (pm_rn (pm_sX L xs) n d) := by
  intro d
  induction d with
  | zero => intro mid as h h' r hc; cases hc
  | succ d ih =>
    intro mid as h h' r hc
    replace hc : (match pm_mtL[mid]? with
      | none => none
      | some q => bif decide (as.length = q.2.2.2.2.2.1) && decide ((pm_lay as).length ≤ q.2.2.1) && as.all (fun v => pm_cat1 v || pm_two (some v)) then
        pm_ey (pm_sX L xs) (pm_rn (pm_sX L xs) n d) q.2.2.2.2.1 (decide (q.1.name = "<init>")) q.2.2.2.1 q.2.2.2.2.2.2 n (0, pm_ini as q.2.2.1, [], h) else none) = some (h', r) := hc
    split at hc
    · cases hc
    · next q hq =>
      cases hg : (decide (as.length = q.2.2.2.2.2.1) && decide ((pm_lay as).length ≤ q.2.2.1) && as.all (fun v => pm_cat1 v || pm_two (some v))) with
      | false => rw [hg] at hc; cases hc
      | true =>
        rw [hg] at hc
        rw [Bool.and_eq_true, Bool.and_eq_true, decide_eq_true_eq, decide_eq_true_eq] at hg
        obtain ⟨⟨g1, g2⟩, g3⟩ := hg
        have hmk := pm_mt_ok hq
        have hey : pm_ey (pm_sX L xs) (pm_rn (pm_sX L xs) n d) q.2.2.2.2.1 (decide (q.1.name = "<init>")) q.2.2.2.1 q.2.2.2.2.2.2 n (0, pm_ini as q.2.2.1, [], h) = some (h', r) := hc
        have hle : h.1 ≤ h'.1 ∧ h.2.1 ≤ h'.2.1 := pm_ey_le n _ () hey
        refine ⟨hle.1, hle.2, ?_⟩
        intro q' hq'
        cases hq.symm.trans hq'
        refine va_MetF (cc := q.2.1) (maxL := q.2.2.1) (ret := q.2.2.2.1) hmk.1 rfl ?_
        intro p e s m args below meth c s1 B hml hP
        obtain ⟨rfl, hF, hW⟩ := hP
        have hfo := hF.2.2.2.2.2.2.2.2.2.2.1
        have fx : pm_Fx p s m (as.map (pm_emb base adr fo)).toArray meth c q.2.1 q.2.2.1 q.2.2.2.2.1 (decide (q.1.name = "<init>")) base D dA adr fo L xs h.1 := by
          refine ⟨B.exec, B.bytes, hml, by rw [hmk.2.2.2.2.1]; exact findClass_of_methodNamed B.named, fun w hw => atoms_spec (ws := pm_ws q) B.pre w (List.mem_cons_of_mem _ hw), fun hi => ?_, hF, hW.1⟩
          rw [(name_of_methodNamed B.named B.method).1]
          exact of_decide_eq_true hi
        obtain ⟨-, -, k⟩ := pm_ey_K (R := { frames := d + 1, cells := h'.1 - h.1, slots := h'.2.1 - h.2.1, locals := 64 * (d + 1) }) (s0 := h.2.1) fx ih (Nat.le_refl _) (by show 64 * d + 64 ≤ 64 * (d + 1); omega) B.returns B.notSynchronized hmk.2.2.2.2.2.2.2.1 hmk.2.2.2.2.2.2.2.2 rfl rfl n _ hey
        obtain ⟨a1, a2⟩ := pm_lay_args (base := base) (adr := adr) hfo as g3
        have hent := lv_entry (as.map (pm_emb base adr fo)) (n := q.2.2.1) (by rw [a1]; exact g2)
        have hlen : (pm_ini as q.2.2.1).length = q.2.2.1 := by
          unfold pm_ini
          simp
          omega
        have kk := k s.heap [] _ hW ⟨Nat.le_refl _, fun _ _ _ => rfl, fun _ g => by cases g⟩ (show pm_L base adr fo _ (pm_ini as q.2.2.1) by
          unfold pm_L
          rw [hlen]
          refine pm_has_mono hent (fun z hz => ?_)
          obtain ⟨z1, v, z2, z3⟩ := pm_lvl_mem.mp hz
          have := a2 0 z.1 v (pm_ini_get z2)
          rw [Nat.zero_add, ← z3] at this
          exact this) (fun k x hx => pm_lay_nd as g3 k x (pm_ini_get hx)) hlen (Nat.le_refl _) (Nat.le_refl _)
        rw [lg_entry_eq]
        have kk : W p l e { frames := d + 1, cells := h'.1 - h.1, slots := h'.2.1 - h.2.1, locals := 64 * (d + 1) } s m (as.map (pm_emb base adr fo)).toArray below meth c s.heap [] (h.1 - h.1) (h.2.1 - h.2.1) (MQ below (pm_Q base D dA adr fo h' r) (as.map (pm_emb base adr fo)).toArray s (h'.1 - h.1) (h'.2.1 - h.2.1) (pm_A base)) (F0 m 0 ((lg_sl (as.map (pm_emb base adr fo)) ++ List.replicate (q.2.2.1 - (lg_sl (as.map (pm_emb base adr fo))).length) Slot.unset).toArray) []) := kk
        rw [Nat.sub_self, Nat.sub_self] at kk
        exact kk
end SIM5
end
section
/-! THE CLAIM OUT OF ONE WALK OF THE LAW'S BODY. Your part is whole_start (and what it stands on); all else here is the same for every law, but numbers. -/
def R_law : String := "TrainBearersLaw"
def lw_P (b : Addr) (xs : List Int32) (args : Array Value) (s : State) : Prop := args = #[.ref b] ∧ s.IntsAt b xs ∧ xs.length ≤ 6 ∧ (Jvm.Cond.and given_1 narrow_1).before args s = true
def lw_Q (_ : Array Value) (s : State) (o : Outcome) (t : State) : Prop := o = .returned (some (.int 1)) ∧ Framed s o t [] 600000 7302250
def lw_Z (below : List Frame) (a : Array Value) (s : State) : State → Prop := fun t => ∃ o, t.status = .running ∧ Ended t below o ∧ lw_Q a s o t
/-- the law's own end, with 1 on the stack, nothing written that was there before, its room as the claim has it -/
theorem lw_ret {p : Program} {l : Launch} {e : Env} {s : State} {m : MethodId} {below : List Frame} {meth : Method} {c : Code} {b : Nat} (hx : p.tables.exec = Jvm.exec) (hb : c.code = code) (hr : meth.sig.returnType = ret) (hlocks : meth.locks = false) {pc : Nat} {H : Heap} {ls : Array Slot} (hdg : decode code pc = .ok (.ireturn, 1)) : W p l e room_1 s m #[Value.ref b] below meth c H [] 600000 7302250 (lw_Z below #[Value.ref b] s) (F0 m pc ls [.int 1]) := by
  intro T hT X
  obtain ⟨fs, hret, hrun, hended, hW, hframe⟩ := X.leave (v := some (.int 1)) (hlocks := hlocks) (fun h => by rw [hr] at h; cases h)
  have hmeth' : T.vm.method? m = some meth := X.method'
  refine ⟨T.setFrames fs, ?_, .returned (some (.int 1)), hrun, hended, rfl, ⟨_, rfl⟩, hW, hframe⟩
  jvm_step X.here [X.here.top, hx, hb, hdg, hmeth', hr, ret, narrow_b1]
  (try refine ⟨rfl, ?_⟩); (try refine ⟨rfl, ?_⟩)
  first | (intro acts; rw [hret _ acts rfl rfl rfl]) | rw [hret _ _ rfl rfl rfl]
  exact Steps.refl _
/-- what holds at the law's entry: the machine, the code, the tables' words (any of lw_tbl by 'hts w (by decide +kernel)'), the script of L ints xs at the cell b, what the Statement gives of the start (any of its parts by flat_of_before) -/
def lw_At (p : Program) (s : State) (m : MethodId) (meth : Method) (c : Code) (b L : Nat) (xs : Nat → Int32) : Prop :=
  p.tables.exec = Jvm.exec ∧ c.code = code ∧ meth.sig.returnType = ret ∧ c.maxLocals = 4 ∧ s.vm.findClass R_law = some m.cls ∧ (∀ w ∈ lw_tbl, w.before #[Value.ref b] s = true) ∧ va_X b L xs s s.heap ∧ b < s.heap.size ∧ meth.locks = false ∧ (Jvm.Cond.and given_1 narrow_1).before #[Value.ref b] s = true
/-! what the Statement gives of the start -/
def pm_fA : Cond → List Cond → List Cond
  | .and a b, acc => pm_fA a (pm_fA b acc)
  | c, acc => c :: acc
theorem pm_fA_ok {args : Array Value} {s : State} (T : Cond) : T.before args s = true → ∀ acc c, c ∈ pm_fA T acc → c ∈ acc ∨ c.before args s = true := by
  induction T with
  | and a b iha ihb =>
    intro h acc c hc
    rw [Cond.before_and, Bool.and_eq_true] at h
    rcases iha h.1 _ c hc with g | g
    · exact ihb h.2 acc c g
    · exact Or.inr g
  | _ =>
    intro h acc c hc
    rcases List.mem_cons.mp hc with rfl | g
    · exact Or.inr h
    · exact Or.inl g
def pm_fl : List Cond := pm_fA (Cond.and given_1 narrow_1) []
def pm_strQ : List Nat := [39, 67, 75, 82, 90, 99, 109, 120, 132, 145, 212, 264, 281, 300, 318, 337, 357, 378, 400, 442, 467, 496, 523]
def pm_tm (i : Nat) : Term := .string "TrainBearers$Reader" (pm_strT.getD i (0, "")).1
def pm_ln (i : Nat) : Nat := (pm_strB.getD i []).length
theorem pm_str_ok : (List.range 23).all (fun i => decide (pm_ln i < 2 ^ 31) && decide (pm_fl[pm_strQ.getD i 0]? = some (Cond.exactly (pm_tm i) "java/lang/String")) && decide (pm_fl[pm_strQ.getD i 0 + 1]? = some (Cond.eq (.field (pm_tm i) "java/lang/String" "coder" "B") (.int 0))) && decide (pm_fl[pm_strQ.getD i 0 + 2]? = some (Cond.arrayOf (.field (pm_tm i) "java/lang/String" "value" "[B") .byte)) &&
    decide (pm_fl[pm_strQ.getD i 0 + 3]? = some (Cond.eq (.length (.field (pm_tm i) "java/lang/String" "value" "[B")) (.int (Int32.ofNat (pm_ln i))))) && (List.range (pm_ln i)).all (fun j => decide (pm_fl[pm_strQ.getD i 0 + 4 + j]? = some (Cond.eq (.elem (.field (pm_tm i) "java/lang/String" "value" "[B") (.int (Int32.ofNat j))) (.int ((pm_strB.getD i []).getD j 0))))) &&
    decide (lw_tbl[pm_strP.getD i 0]? = some (Cond.stringRef "TrainBearers$Reader" (pm_strT.getD i (0, "")).1 (pm_strT.getD i (0, "")).2))) = true := by decide +kernel
theorem pm_mt_in : Cond.arrayOf (.static "TrainBearers" "MOST_TERM" "[I") .int ∈ pm_fl ∧ Cond.eq (.length (.static "TrainBearers" "MOST_TERM" "[I")) (.int 3) ∈ pm_fl ∧ Cond.eq (.elem (.static "TrainBearers" "MOST_TERM" "[I") (.int 0)) (.int 999) ∈ pm_fl ∧ Cond.eq (.elem (.static "TrainBearers" "MOST_TERM" "[I") (.int 1)) (.int 10) ∈ pm_fl ∧ Cond.eq (.elem (.static "TrainBearers" "MOST_TERM" "[I") (.int 2)) (.int 9) ∈ pm_fl := by decide +kernel
theorem pm_cs_in : Cond.eq (.static "java/lang/String" "COMPACT_STRINGS" "Z") (.int 1) ∈ pm_fl ∧ Cond.isRef (.static "jdk/internal/util/Preconditions" "SIOOBE_FORMATTER" "Ljava/util/function/BiFunction;") ∈ pm_fl := by decide +kernel
theorem pm_ls_in : Cond.laysStatic "TrainBearers" "MOST_TERM" "[I" ∈ lw_tbl ∧ Cond.laysStatic "java/lang/String" "COMPACT_STRINGS" "Z" ∈ lw_tbl ∧ Cond.laysStatic "jdk/internal/util/Preconditions" "SIOOBE_FORMATTER" "Ljava/util/function/BiFunction;" ∈ lw_tbl ∧ Cond.initialized "TrainBearers" ∈ lw_tbl ∧ Cond.initialized "java/lang/String" ∈ lw_tbl ∧ Cond.initialized "jdk/internal/util/Preconditions" ∈ lw_tbl := by decide +kernel
theorem pm_ao_in : Cond.arrayOver (.object "TrainBearers$Text") ∈ lw_tbl ∧ Cond.arrayOver (.object "TrainBearers$Train") ∈ lw_tbl ∧ Cond.castable "[I" "java/lang/Cloneable" ∈ lw_tbl := by decide +kernel
theorem pm_gw_sub {w : Cond} (h : w ∈ pm_gw) : w ∈ lw_tbl := (List.mem_filter.mp h).1
theorem pm_nest_in {q : Nat × Nat × Nat} (h : q ∈ pm_nest) : Cond.methodLinkNest (pm_own q.1) q.2.1 (pm_y q.2.2) "TrainBearers" ∈ lw_tbl := by
  obtain ⟨e, he, hq⟩ := List.mem_filterMap.mp h
  by_cases h3 : e.2.2.1 = 3
  · rw [if_pos h3] at hq
    cases hq
    have := List.all_eq_true.mp pm_mlA_ok e he
    simp only [Bool.and_eq_true, decide_eq_true_eq] at this
    have h1 := this.1
    unfold pm_mw at h1
    rw [if_pos h3] at h1
    exact List.mem_of_getElem? h1
  · rw [if_neg h3] at hq
    cases hq
section ENT
variable {s : State} {b L : Nat} {xs : Nat → Int32}
theorem pm_lt_A (a : Nat) (h : a < s.heap.size) : ¬ pm_A s.heap.size a := by
  show ¬ s.heap.size ≤ a
  omega
theorem pm_arrP {ty : FieldType} (hw : (Cond.arrayClass ty).before #[Value.ref b] s = true) (hty : ∀ C, ty ≠ .object C) : ∃ cA, ArrOfT s cA ty ∧ va_RA s cA ty := by
  obtain ⟨cA, kA, comp, h1, h2, h3⟩ := Cond.arrayClass_spec hw
  refine ⟨cA, fun n z => ⟨fun k h => (by cases h), kA, h2, comp, h3⟩, ?_⟩
  cases ty with
  | object C => exact absurd rfl (hty C)
  | _ => exact h1
theorem pm_arrQ {C : String} (hw : (Cond.arrayOver (.object C)).before #[Value.ref b] s = true) : ∃ cA, ArrOfT s cA (.object C) ∧ va_RA s cA (.object C) := by
  obtain ⟨comp, cA, kA, h1, -, h2, h3, h4⟩ := Cond.arrayOver_spec hw
  exact ⟨cA, fun n z => ⟨fun k h => (by cases h), kA, h2, comp, h3⟩, kA, comp, h2, h3, h1, h4⟩
theorem pm_strs (hfl : ∀ w ∈ pm_fl, w.before #[Value.ref b] s = true) (hts : ∀ w ∈ lw_tbl, w.before #[Value.ref b] s = true) : ∃ adK adV : Nat → Nat, ∀ i, i < 23 → vk_R "TrainBearers$Reader" (pm_strT.getD i (0, "")).1 (pm_strT.getD i (0, "")).2 (adK i) s ∧ va_O "java/lang/String" (adK i) (pm_A s.heap.size) s s.heap ∧ va_OF "java/lang/String" "coder" "B" (.int 0) (adK i) (pm_A s.heap.size) s s.heap ∧ va_OF "java/lang/String" "value" "[B" (.ref (adV i)) (adK i) (pm_A s.heap.size) s s.heap ∧ va_T .byte (adV i) (pm_ln i) (fun j => .int ((pm_strB.getD i []).getD j 0)) (pm_A s.heap.size) s s.heap := by
  have h0 : ∀ i : Nat, ∃ q : Nat × Nat, i < 23 → vk_R "TrainBearers$Reader" (pm_strT.getD i (0, "")).1 (pm_strT.getD i (0, "")).2 q.1 s ∧ va_O "java/lang/String" q.1 (pm_A s.heap.size) s s.heap ∧ va_OF "java/lang/String" "coder" "B" (.int 0) q.1 (pm_A s.heap.size) s s.heap ∧ va_OF "java/lang/String" "value" "[B" (.ref q.2) q.1 (pm_A s.heap.size) s s.heap ∧ va_T .byte q.2 (pm_ln i) (fun j => .int ((pm_strB.getD i []).getD j 0)) (pm_A s.heap.size) s s.heap := by
    intro i
    by_cases hi : i < 23
    · have hk := List.all_eq_true.mp pm_str_ok i (List.mem_range.mpr hi)
      simp only [Bool.and_eq_true, decide_eq_true_eq, List.all_eq_true, List.mem_range] at hk
      obtain ⟨⟨⟨⟨⟨⟨k1, k2⟩, k3⟩, k4⟩, k5⟩, k6⟩, k7⟩ := hk
      replace k2 := List.mem_of_getElem? k2
      replace k3 := List.mem_of_getElem? k3
      replace k4 := List.mem_of_getElem? k4
      replace k5 := List.mem_of_getElem? k5
      replace k6 := fun j hj => List.mem_of_getElem? (k6 j hj)
      replace k7 := List.mem_of_getElem? k7
      obtain ⟨a, c, cA, kA, q1, q2, q3, q4, q5, q6, -⟩ := Cond.exactly_spec (args := #[Value.ref b]) (first := s) (o := none) (s := s) (idx := []) (t := pm_tm i) (cls := "java/lang/String") (hfl _ k2)
      obtain ⟨t, ht, hT⟩ := va_Tof (f := fun j => .int ((pm_strB.getD i []).getD j 0)) (A := pm_A s.heap.size) k1 (hfl _ k4) (va_eqt (hfl _ k5)) (fun j hj => va_eqt (hfl _ (k6 j hj))) pm_lt_A
      exact ⟨(a, t), fun _ => ⟨vk_R.of (hts _ k7) q1, ⟨cA, q3, q5, by rw [q6]; exact q2, pm_lt_A a (Array.getElem?_eq_some_iff.mp q3).1⟩, vk_OFof q1 (va_eqt (hfl _ k3)) pm_lt_A, vk_OFof q1 ht pm_lt_A, hT⟩⟩
    · exact ⟨(0, 0), fun h => absurd h hi⟩
  obtain ⟨ad, had⟩ := Classical.axiomOfChoice h0
  exact ⟨fun i => (ad i).1, fun i => (ad i).2, had⟩
def pm_adr (adK adV : Nat → Nat) (b mt : Nat) (k : Nat) : Nat := if k < 23 then adK k else if 100 ≤ k ∧ k < 123 then adV (k - 100) else if k = 200 then b else mt
theorem pm_enter (hts : ∀ w ∈ lw_tbl, w.before #[Value.ref b] s = true) (hX : va_X b L xs s s.heap) (hb : b < s.heap.size) (hgv : (Cond.and given_1 narrow_1).before #[Value.ref b] s = true) : ∃ (D : va_G) (dA : Nat → ClassId) (adr : Nat → Nat) (fo : Value), pm_F s.heap.size D dA adr fo L xs s ∧ adr 200 = b := by
  have hfl : ∀ w ∈ pm_fl, w.before #[Value.ref b] s = true := fun w hw => (pm_fA_ok _ hgv [] w hw).resolve_left (fun g => by cases g)
  obtain ⟨adK, adV, hstr⟩ := pm_strs hfl hts
  obtain ⟨m1, m2, m3, m4, m5⟩ := pm_mt_in
  obtain ⟨z1, z2⟩ := pm_cs_in
  obtain ⟨l1, l2, l3, l4, l5, l6⟩ := pm_ls_in
  obtain ⟨o1, o2, o3⟩ := pm_ao_in
  obtain ⟨mt, hmt, hmT⟩ := va_Tof (N := 3) (f := fun j => .int ([999, 10, 9].getD j 0)) (A := pm_A s.heap.size) (by decide) (hfl _ m1) (va_eqt (hfl _ m2)) (fun j hj => by
    match j, hj with
    | 0, _ => exact va_eqt (hfl _ m3)
    | 1, _ => exact va_eqt (hfl _ m4)
    | 2, _ => exact va_eqt (hfl _ m5)
    | n + 3, h => exact absurd h (by omega)) pm_lt_A
  obtain ⟨fo, hfo, hfr⟩ := Cond.isRef_spec (hfl _ z2)
  obtain ⟨c0, a0⟩ := pm_arrP (hts _ (pm_gw_sub pm_ac0)) (by rintro C ⟨⟩)
  obtain ⟨c1, a1⟩ := pm_arrP (hts _ (pm_gw_sub pm_ac1)) (by rintro C ⟨⟩)
  obtain ⟨c2, a2⟩ := pm_arrP (hts _ (pm_gw_sub pm_ac2)) (by rintro C ⟨⟩)
  obtain ⟨c3, a3⟩ := pm_arrQ (hts _ o1)
  obtain ⟨c4, a4⟩ := pm_arrQ (hts _ o2)
  have hcl : ∀ ci : Nat, ∃ z : ClassId × (Nat → Nat), ∀ q : vw_C, pm_cls[ci]? = some q → u_Kn s q.1 q.2.1 q.2.2 z.1 z.2 := by
    intro ci
    cases hq : pm_cls[ci]? with
    | none => exact ⟨(0, fun _ => 0), fun q h => by cases h⟩
    | some q =>
      obtain ⟨w1, w2, w3⟩ := pm_cls_ok hq
      obtain ⟨cC, iS, hk⟩ := u_known (ws := lw_tbl) hts (fun w hw => pm_gw_sub (w1 w hw)) (hts _ (pm_gw_sub w3))
      exact ⟨(cC, iS), fun q' h => by cases h; exact hk⟩
  obtain ⟨zD, hD⟩ := Classical.axiomOfChoice hcl
  refine ⟨(fun i => (zD i).1, fun i => (zD i).2), fun t => [c0, c1, c2, c3, c4].getD t 0, pm_adr adK adV b mt, fo, ⟨⟨fun ci q hq => hD ci q hq, fun k q hk => ?_⟩, fun k t n f hk => ?_, fun i hi => ?_, va_AO.of (hts _ o1), va_AO.of (hts _ o2), fun q hq => va_Nw.of rfl (hts _ (pm_nest_in hq)), va_Nw.of rfl (hts _ o3), ?_, ?_, ?_, ?_, Nat.le_refl _⟩, rfl⟩
  · match k, hk with
    | 0, hk => cases hk; exact a0
    | 1, hk => cases hk; exact a1
    | 2, hk => cases hk; exact a2
    | 3, hk => cases hk; exact a3
    | 4, hk => cases hk; exact a4
    | n + 5, hk => cases hk
  · unfold pm_sX at hk
    cases h1 : (k == 200) with
    | true =>
      have h1 : k = 200 := by simpa using h1
      subst h1
      cases hk
      obtain ⟨scr, g1, g2, g3, g4, g5⟩ := hX
      exact ⟨scr, g1, g2, g3, by rw [g4]; exact Nat.le_refl _, by rw [g4], g5, pm_lt_A b hb⟩
    | false =>
      rw [h1] at hk
      cases h2 : (k == 201) with
      | true =>
        have h2 : k = 201 := by simpa using h2
        subst h2
        cases hk
        exact hmT
      | false =>
        rw [h2] at hk
        cases h3 : (decide (100 ≤ k) && decide (k < 123)) with
        | true =>
          rw [h3] at hk
          cases hk
          rw [Bool.and_eq_true, decide_eq_true_eq, decide_eq_true_eq] at h3
          have hs := (hstr (k - 100) (by omega)).2.2.2.2
          have e : pm_adr adK adV b mt k = adV (k - 100) := by
            unfold pm_adr
            rw [if_neg (by omega), if_pos h3]
          rw [e]
          exact hs
        | false => rw [h3] at hk; cases hk
  · have e1 : pm_adr adK adV b mt i = adK i := by unfold pm_adr; rw [if_pos hi]
    have e2 : pm_adr adK adV b mt (100 + i) = adV i := by
      unfold pm_adr
      rw [if_neg (by omega), if_pos ⟨by omega, by omega⟩, Nat.add_sub_cancel_left]
    rw [e1, e2]
    obtain ⟨s1, s2, s3, s4, -⟩ := hstr i hi
    exact ⟨s1, s2, s3, s4⟩
  · exact va_Zof (hts _ l1) (hts _ l4) hmt pm_lt_A
  · exact va_Zof (hts _ l2) (hts _ l5) (va_eqi (hfl _ z1)) pm_lt_A
  · exact va_Zof (hts _ l3) (hts _ l6) hfo pm_lt_A
  · cases fo with
    | ref q => exact Or.inr ⟨q, rfl⟩
    | null => exact Or.inl rfl
    | _ => cases hfr
end ENT
/-! the law's own frame -/
theorem pm_rokL : pm_cL.all (pm_rokB 12) = true := by decide +kernel
theorem pm_decL : ∀ e ∈ pm_cL, decode code e.1 = .ok (e.2.1, e.2.2.1) := by
  have g : ∀ (l : List pm_I), l.all (pm_decB code) = true → ∀ e ∈ l, decode code e.1 = .ok (e.2.1, e.2.2.1) := fun l hl e he => by
    have := List.all_eq_true.mp hl e he
    simpa [pm_decB] using this
  exact List.forall_mem_append.mpr ⟨g _ pm_dL0, List.forall_mem_append.mpr ⟨g _ pm_dL1, List.forall_mem_append.mpr ⟨g _ pm_dL2, List.forall_mem_append.mpr ⟨g _ pm_dL3, List.forall_mem_append.mpr ⟨g _ pm_dL4, List.forall_mem_append.mpr ⟨g _ pm_dL5, List.forall_mem_append.mpr ⟨g _ pm_dL6, List.forall_mem_append.mpr ⟨g _ pm_dL7, List.forall_mem_append.mpr ⟨g _ pm_dL8, List.forall_mem_append.mpr ⟨g _ pm_dL9, List.forall_mem_append.mpr ⟨g _ pm_dL10, List.forall_mem_append.mpr ⟨g _ pm_dL11, g _ pm_dL12⟩⟩⟩⟩⟩⟩⟩⟩⟩⟩⟩⟩
theorem pm_retL : ret = some .boolean := rfl
def pm_h0 : pm_H := (0, 0, fun _ => .inl (0, 0, .inl (fun _ => 0)))
section LAWF
variable {p : Program} {l : Launch} {e : Env} {s : State} {m : MethodId} {below : List Frame} {meth : Method} {c : Code} {b : Nat}
variable {base : Nat} {D : va_G} {dA : Nat → ClassId} {adr : Nat → Nat} {fo : Value} {L : Nat} {xs : Nat → Int32} {d : Nat} {call : Nat → List Value → pm_H → Option pm_R} {hf : pm_H}
theorem pm_law_K (fx : pm_Fx p s m #[Value.ref b] meth c code 4 12 false base D dA adr fo L xs 0) (hC : pm_Call l base D dA adr fo L xs d call) (hd : d ≤ 1000) (hret : meth.sig.returnType = ret) (hlk : meth.locks = false) (hz1 : hf.1 ≤ 600000) (hz2 : hf.2.1 ≤ 7302250) (n : Nat) :
    ∀ t : pm_S, pm_ey (pm_sX L xs) call 12 false (some .boolean) pm_cL n t = some (hf, some (.int 1)) → t.2.2.2.1 ≤ hf.1 ∧ t.2.2.2.2.1 ≤ hf.2.1 ∧ pm_K p l e room_1 s m #[Value.ref b] below meth c (lw_Z below #[Value.ref b] s) base D dA adr fo 4 0 0 t := by
  induction n with
  | zero => intro t ht; cases ht
  | succ n ih =>
    rintro ⟨pc, ls, st, h⟩ ht
    replace ht : (match pm_find pm_cL pc with
      | none => none
      | some e => match pm_step (pm_sX L xs) call 12 false (some .boolean) pc ls st h e.1 e.2.1 e.2.2.1 e.2.2.2.1 e.2.2.2.2 with
        | none => none
        | some (.inr r) => bif pm_isRet e.1 && decide (h.1 ≤ r.1.1) && decide (h.2.1 ≤ r.1.2.1) then some r else none
        | some (.inl s') => bif decide (h.1 ≤ s'.2.2.2.1) && decide (h.2.1 ≤ s'.2.2.2.2.1) then pm_ey (pm_sX L xs) call 12 false (some .boolean) pm_cL n s' else none) = some (hf, some (.int 1)) := ht
    split at ht
    · cases ht
    · next q hfnd =>
      have hmem := pm_find_mem hfnd
      have hdc := pm_decL _ hmem
      have hr := List.all_eq_true.mp pm_rokL _ hmem
      obtain ⟨i, len, a, b1, v⟩ := q
      split at ht
      · cases ht
      · next r1 hst =>
        cases hg : (pm_isRet i && decide (h.1 ≤ r1.1.1) && decide (h.2.1 ≤ r1.1.2.1)) with
        | false => rw [hg] at ht; cases ht
        | true =>
          rw [hg] at ht
          have ht : some r1 = some (hf, some (.int 1)) := ht
          obtain rfl := Option.some.inj ht
          rw [Bool.and_eq_true, Bool.and_eq_true, decide_eq_true_eq, decide_eq_true_eq] at hg
          refine ⟨hg.1.2, hg.2, ?_⟩
          have hfin : i = .ireturn ∧ len = 1 ∧ st = [.int 1] := by
            rcases pm_isRet_or hg.1.1 with rfl | rfl | rfl | rfl
            · refine ⟨rfl, pm_len1 hr rfl, ?_⟩
              replace hst : pm_rI (some .boolean) st h = some (.inr (hf, some (.int 1))) := hst
              unfold pm_rI at hst
              split at hst
              · next x =>
                cases hx : pm_ret (some .boolean) x with
                | false => rw [hx] at hst; cases hst
                | true => rw [hx] at hst; cases hst; rfl
              · cases hst
            · exfalso
              replace hst : pm_rL (some .boolean) st h = some (.inr (hf, some (.int 1))) := hst
              unfold pm_rL at hst
              split at hst
              · cases hst
              · cases hst
            · exfalso
              replace hst : pm_rA (some .boolean) st h = some (.inr (hf, some (.int 1))) := hst
              unfold pm_rA at hst
              split at hst <;> first | cases hst | contradiction
            · exfalso
              replace hst : pm_rV (some .boolean) st h = some (.inr (hf, some (.int 1))) := hst
              unfold pm_rV at hst
              split at hst <;> cases hst
          obtain ⟨rfl, rfl, rfl⟩ := hfin
          intro H locs lsA hW hS hl hn hz hc hs
          have h1 : h.1 ≤ hf.1 := hg.1.2
          have h2 : h.2.1 ≤ hf.2.1 := hg.2
          refine va_forget (fun q hq => ?_) ?_
          · have := hS.2.2 q hq
            have hsz := fx.2.2.2.2.2.2.2
            have : base ≤ q.base := this
            omega
          · refine W.widen (k := 600000) (n := 7302250) (by show h.1 - 0 ≤ 600000; omega) (by show h.2.1 - 0 ≤ 7302250; omega) ?_
            exact lw_ret fx.1 fx.2.1 hret hlk hdc
      · next s' hst =>
        cases hg : (decide (h.1 ≤ s'.2.2.2.1) && decide (h.2.1 ≤ s'.2.2.2.2.1)) with
        | false => rw [hg] at ht; cases ht
        | true =>
          rw [hg] at ht
          rw [Bool.and_eq_true, decide_eq_true_eq, decide_eq_true_eq] at hg
          obtain ⟨l1, l2, k⟩ := ih s' ht
          refine ⟨Nat.le_trans hg.1 l1, Nat.le_trans hg.2 l2, ?_⟩
          exact pm_t_all fx hC (by show d + 1 ≤ 2048; omega) (by show 64 * d + 64 ≤ 84000; omega) hdc hr hst (by show s'.2.2.2.1 - 0 ≤ 600000; omega) (by show s'.2.2.2.2.1 - 0 ≤ 7302250; omega) k
end LAWF
/-- the law's walk, out of one run of the pure machine -/
theorem pm_start {p : Program} {e : Env} {s : State} {m : MethodId} {below : List Frame} {meth : Method} {c : Code} (l : Launch) {b L : Nat} {xs : Nat → Int32} (C0 : lw_At p s m meth c b L xs) {n d : Nat} {hf : pm_H} (hd : d ≤ 1000) (hz1 : hf.1 ≤ 600000) (hz2 : hf.2.1 ≤ 7302250)
    (hrun : pm_ey (pm_sX L xs) (pm_rn (pm_sX L xs) n d) 12 false (some .boolean) pm_cL n (0, [some (.retAddr 200), none, none, none], [], pm_h0) = some (hf, some (.int 1))) :
    W p l e room_1 s m #[Value.ref b] below meth c s.heap [] 0 0 (lw_Z below #[Value.ref b] s) (entryFrame m ([Value.ref b] : List Value).toArray 4) := by
  obtain ⟨hx, hb, hr, hml, hown, hts, hX, hbl, hlk, hgv⟩ := C0
  obtain ⟨D, dA, adr, fo, hF, hadr⟩ := pm_enter hts hX hbl hgv
  have fx : pm_Fx p s m #[Value.ref b] meth c code 4 12 false s.heap.size D dA adr fo L xs 0 := ⟨hx, hb, hml, hown, fun w hw => hts w (pm_gw_sub hw), (fun h => by cases h), hF, rfl⟩
  obtain ⟨-, -, k⟩ := pm_law_K (l := l) (e := e) (below := below) fx (pm_rn_Met n d) hd hr hlk hz1 hz2 n _ hrun
  rw [lg_entry_eq]
  have hent := lv_entry [Value.ref b] (n := 4) (by show (1 : Nat) ≤ 4; decide)
  have hb200 : pm_emb s.heap.size adr fo (.retAddr 200) = .ref b := by
    show (bif 200 == 300 then fo else Value.ref (adr 200)) = _
    rw [hadr]
    rfl
  exact k s.heap [] _ ⟨rfl, fun k hk => absurd hk (Nat.not_lt_zero k)⟩ ⟨Nat.le_refl _, fun _ _ _ => rfl, fun _ g => by cases g⟩ (by
    refine pm_has_mono hent (fun z hz => ?_)
    obtain ⟨z1, v, z2, z3⟩ := pm_lvl_mem.mp hz
    have z1 : z.1 < 4 := z1
    have hz0 : z.1 = 0 := by
      match h : z.1, z1, z2 with
      | 0, _, _ => rfl
      | 1, _, z2 => cases z2
      | 2, _, z2 => cases z2
      | 3, _, z2 => cases z2
      | n + 4, h, _ => exact absurd h (by omega)
    rw [hz0] at z2
    cases z2
    rw [hb200] at z3
    have : z = (0, Value.ref b) := Prod.ext hz0 z3
    rw [this]
    exact List.mem_cons_self) (fun k x hx => by
    match k, hx with
    | 0, hx => cases hx
    | 1, hx => cases hx
    | 2, hx => cases hx
    | 3, hx => cases hx
    | n + 4, hx => cases hx) rfl (Nat.le_refl _) (Nat.le_refl _)
end
section
/-! THE EVALUATOR: the pure machine once more, in a form that the kernel runs fast: values are pairs of numbers (0 int, 1 long, 2 ours, 3 unset, 4 a script cell's int or what is made of it, 5 the same as a long, 6 what was there before, 10 null), arrays of numbers are one big number, all that is kept is in normal form -/
abbrev ev_V : Type := Nat × Nat
abbrev ev_A : Type := Nat × Nat × Nat × List (Nat × Nat)
abbrev ev_C : Type := ev_A ⊕ (Nat × List ev_V)
abbrev ev_H : Type := Nat × Nat × List (List ev_C)
abbrev ev_S : Type := Nat × List ev_V × List ev_V × ev_H
abbrev ev_R : Type := ev_H × Option ev_V
abbrev ev_O : Type := Option (ev_S ⊕ ev_R)
/-- what is known of the script: its length and one (0: nothing is known), its first cell's last six bits, the cells' bounds (with 2^31 added) -/
abbrev ev_E : Type := Nat × Nat × List (Nat × Nat)
abbrev ev_Ca : Type := Nat → List ev_V → ev_H → Option ev_R
abbrev ev_F : Type := ev_Ca → ev_E → List ev_V → List ev_V → ev_H → ev_O
noncomputable def ev_fK {β : Type} (n : Nat) (K : Nat → β) : β := Nat.rec (motive := fun _ => β) (K 0) (fun m _ => K (Nat.succ m)) n
noncomputable def ev_nth {α : Type} (d : α) (l : List α) : Nat → α := List.rec (motive := fun _ => Nat → α) (fun _ => d) (fun x _ ih n => Nat.rec (motive := fun _ => α) x (fun m _ => ih m) n) l
noncomputable def ev_setK {α β : Type} (l : List α) : Nat → α → (List α → β) → β := List.rec (motive := fun _ => Nat → α → (List α → β) → β) (fun _ _ K => K []) (fun x t ih n v K => Nat.rec (motive := fun _ => β) (K (v :: t)) (fun m _ => ih m v (fun t' => K (x :: t'))) n) l
noncomputable def ev_get (hs : List (List ev_C)) (a : Nat) : ev_C := ev_nth (.inr (0, [])) (ev_nth [] hs (Nat.div a 16)) (Nat.mod a 16)
noncomputable def ev_hsK {β : Type} (hs : List (List ev_C)) (a : Nat) (c : ev_C) (K : List (List ev_C) → β) : β := ev_setK (ev_nth [] hs (Nat.div a 16)) (Nat.mod a 16) c (fun row => ev_setK hs (Nat.div a 16) row K)
def ev_ln (N j : Nat) : Nat := Nat.mod (Nat.shiftRight N (Nat.mul 32 j)) 4294967296
def ev_lset (N j v : Nat) : Nat := Nat.xor (Nat.xor N (Nat.shiftLeft (ev_ln N j) (Nat.mul 32 j))) (Nat.shiftLeft (Nat.mod v 4294967296) (Nat.mul 32 j))
def ev_ln8 (N j : Nat) : Nat := Nat.mod (Nat.shiftRight N (Nat.mul 64 j)) 18446744073709551616
def ev_lset8 (N j v : Nat) : Nat := Nat.xor (Nat.xor N (Nat.shiftLeft (ev_ln8 N j) (Nat.mul 64 j))) (Nat.shiftLeft (Nat.mod v 18446744073709551616) (Nat.mul 64 j))
/-- what an int array holds: a script's value, if it was laid there -/
noncomputable def ev_rdK {β : Type} (ov : List (Nat × Nat)) (N j : Nat) (K : ev_V → β) : β := List.rec (motive := fun _ => β) (ev_fK (ev_ln N j) (fun z => K (0, z))) (fun q _ ih => cond (Nat.beq q.1 j) (K (4, q.2)) ih) ov
noncomputable def ev_ovdK {β : Type} (ov : List (Nat × Nat)) (j : Nat) : (List (Nat × Nat) → β) → β := List.rec (motive := fun _ => (List (Nat × Nat) → β) → β) (fun K => K []) (fun q _ ih K => cond (Nat.beq q.1 j) (ih K) (ih (fun t => K (q :: t)))) ov
def ev_ofs (x : Nat) : Nat := Nat.mod (Nat.add x 2147483648) 4294967296
def ev_ofs8 (x : Nat) : Nat := Nat.mod (Nat.add x 9223372036854775808) 18446744073709551616
def ev_ci (x : Int32) : Nat := x.toUInt32.toNat
def ev_cl (x : Int64) : Nat := x.toUInt64.toNat
def ev_go (pc : Nat) (ls st : List ev_V) (h : ev_H) : ev_O := some (.inl (pc, ls, st, h))
def ev_no : ev_F := fun _ _ _ _ _ => none
noncomputable def ev_push (n t p : Nat) : ev_F := fun _ _ ls st h => ev_fK p (fun z => ev_go n ls ((t, z) :: st) h)
noncomputable def ev_pushV (n : Nat) (v : Value) : ev_F := match v with
  | .int x => ev_push n 0 (ev_ci x)
  | .long x => ev_push n 1 (ev_cl x)
  | .retAddr k => ev_push n 6 k
  | .null => ev_push n 10 0
  | _ => ev_no
noncomputable def ev_load (n k κ : Nat) : ev_F := fun _ _ ls st h => Prod.rec (motive := fun _ => ev_O) (fun t p => cond (Nat.beq (Nat.mod t 4) κ) (ev_go n ls ((t, p) :: st) h) none) (ev_nth (3, 0) ls k)
noncomputable def ev_clrK {β : Type} (ls : List ev_V) (k : Nat) (K : List ev_V → β) : β := Nat.rec (motive := fun _ => β) (K ls) (fun j _ => Prod.rec (motive := fun _ => β) (fun t _ => cond (Nat.beq (Nat.mod t 4) 1) (ev_setK ls j (3, 0) K) (K ls)) (ev_nth (3, 0) ls j)) k
noncomputable def ev_st (n k κ : Nat) : ev_F := fun _ _ ls st h => match st with
  | (t, p) :: r => cond (Nat.beq (Nat.mod t 4) κ) (ev_clrK ls k (fun l1 => ev_setK l1 k (t, p) (fun l2 => ev_go n l2 r h))) none
  | [] => none
noncomputable def ev_stl (n k : Nat) : ev_F := fun _ _ ls st h => match st with
  | (t, p) :: r => cond (Nat.beq (Nat.mod t 4) 1) (ev_clrK ls k (fun l1 => ev_setK l1 k (t, p) (fun l2 => ev_setK l2 (Nat.succ k) (3, 0) (fun l3 => ev_go n l3 r h)))) none
  | [] => none
noncomputable def ev_inc (n k c : Nat) : ev_F := fun _ _ ls st h => Prod.rec (motive := fun _ => ev_O) (fun t p => cond (Nat.beq t 0) (ev_fK (Nat.mod (Nat.add p c) 4294967296) (fun z => ev_clrK ls k (fun l1 => ev_setK l1 k (0, z) (fun l2 => ev_go n l2 st h)))) none) (ev_nth (3, 0) ls k)
def ev_pop (n : Nat) : ev_F := fun _ _ ls st h => match st with
  | (t, _) :: r => cond (Nat.beq (Nat.mod t 2) 0) (ev_go n ls r h) none
  | [] => none
def ev_dup (n : Nat) : ev_F := fun _ _ ls st h => match st with
  | (t, p) :: r => cond (Nat.beq (Nat.mod t 2) 0) (ev_go n ls ((t, p) :: (t, p) :: r) h) none
  | [] => none
def ev_dup2 (n : Nat) : ev_F := fun _ _ ls st h => match st with
  | (t, p) :: (u, q) :: r => cond (Nat.beq (Nat.mod t 2) 0) (cond (Nat.beq (Nat.mod u 2) 0) (ev_go n ls ((t, p) :: (u, q) :: (t, p) :: (u, q) :: r) h) none) none
  | _ => none
noncomputable def ev_i2 (n : Nat) (f : Nat → Nat → Nat) : ev_F := fun _ _ ls st h => match st with
  | (ty, y) :: (tx, x) :: r => cond (Nat.beq ty 0) (cond (Nat.beq tx 0) (ev_fK (f x y) (fun z => ev_go n ls ((0, z) :: r) h)) none) none
  | _ => none
noncomputable def ev_l2 (n : Nat) (f : Nat → Nat → Nat) : ev_F := fun _ _ ls st h => match st with
  | (ty, y) :: (tx, x) :: r => cond (Nat.beq ty 1) (cond (Nat.beq tx 1) (ev_fK (f x y) (fun z => ev_go n ls ((1, z) :: r) h)) none) none
  | _ => none
def ev_op (g : Int32 → Int32 → Int32) (x y : Nat) : Nat := ev_ci (g (Int32.ofNat x) (Int32.ofNat y))
def ev_op8 (g : Int64 → Int64 → Int64) (x y : Nat) : Nat := ev_cl (g (Int64.ofNat x) (Int64.ofNat y))
def ev_add (x y : Nat) : Nat := Nat.mod (Nat.add x y) 4294967296
def ev_sub (x y : Nat) : Nat := Nat.mod (Nat.add x (Nat.sub 4294967296 (Nat.mod y 4294967296))) 4294967296
def ev_mul (x y : Nat) : Nat := Nat.mod (Nat.mul x y) 4294967296
def ev_ushr (x y : Nat) : Nat := Nat.shiftRight (Nat.mod x 4294967296) (Nat.mod y 32)
/-- a division: not by 0 -/
noncomputable def ev_d2 (n : Nat) (f : Nat → Nat → Nat) : ev_F := fun _ _ ls st h => match st with
  | (ty, y) :: (tx, x) :: r => cond (Nat.beq ty 0) (cond (Nat.beq tx 0) (cond (Nat.beq (Nat.mod y 4294967296) 0) none (ev_fK (f x y) (fun z => ev_go n ls ((0, z) :: r) h))) none) none
  | _ => none
noncomputable def ev_i1 (n t : Nat) (f : Nat → Nat) : ev_F := fun _ _ ls st h => match st with
  | (tx, x) :: r => cond (Nat.beq tx 0) (ev_fK (f x) (fun z => ev_go n ls ((t, z) :: r) h)) none
  | _ => none
noncomputable def ev_l1 (n : Nat) (f : Nat → Nat) : ev_F := fun _ _ ls st h => match st with
  | (tx, x) :: r => cond (Nat.beq tx 1) (ev_fK (f x) (fun z => ev_go n ls ((0, z) :: r) h)) none
  | _ => none
noncomputable def ev_shr (n : Nat) : ev_F := fun _ _ ls st h => match st with
  | (ty, y) :: (tx, x) :: r => cond (Nat.beq ty 0) (cond (Nat.beq tx 0) (ev_fK (ev_op (fun x y => x >>> (y &&& 31)) x y) (fun z => ev_go n ls ((0, z) :: r) h))
      (cond (Nat.beq tx 4) (cond (Nat.blt x 8) (cond (Nat.beq (Nat.mod y 8) 0) (cond (Nat.ble y 24) (ev_fK (Nat.add (Nat.add 8 y) x) (fun z => ev_go n ls ((4, z) :: r) h)) none) none) none) none)) none
  | _ => none
noncomputable def ev_and (n : Nat) : ev_F := fun _ E ls st h => match st with
  | (ty, y) :: (tx, x) :: r => cond (Nat.beq ty 0) (cond (Nat.beq tx 0) (ev_fK (Nat.land x y) (fun z => ev_go n ls ((0, z) :: r) h))
      (cond (Nat.beq tx 4) (cond (Nat.beq y 255) (cond (Nat.ble 8 x) (cond (Nat.blt x 40) (ev_fK (Nat.add x 32) (fun z => ev_go n ls ((4, z) :: r) h)) none) none)
        (cond (Nat.beq y 63) (cond (Nat.beq x 0) (ev_fK E.2.1 (fun z => ev_go n ls ((0, z) :: r) h)) none) none)) none)) none
  | _ => none
def ev_cmp (c : ClassFile.Cond) (x y : Nat) : Bool := match c with
  | .eq => Nat.beq x y
  | .ne => !Nat.beq x y
  | .lt => Nat.blt x y
  | .ge => Nat.ble y x
  | .gt => Nat.blt y x
  | .le => Nat.ble x y
/-- of what lies between lo and hi: 0 no, 1 yes, 2 not known -/
def ev_cmpS (c : ClassFile.Cond) (lo hi y : Nat) : Nat := match c with
  | .eq => cond (Nat.blt hi y) 0 (cond (Nat.blt y lo) 0 (cond (Nat.beq lo hi) 1 2))
  | .ne => cond (Nat.blt hi y) 1 (cond (Nat.blt y lo) 1 (cond (Nat.beq lo hi) 0 2))
  | .lt => cond (Nat.blt hi y) 1 (cond (Nat.ble y lo) 0 2)
  | .ge => cond (Nat.blt hi y) 0 (cond (Nat.ble y lo) 1 2)
  | .gt => cond (Nat.blt y lo) 1 (cond (Nat.ble hi y) 0 2)
  | .le => cond (Nat.blt y lo) 0 (cond (Nat.ble hi y) 1 2)
def ev_flip (c : ClassFile.Cond) : ClassFile.Cond := match c with
  | .eq => .eq
  | .ne => .ne
  | .lt => .gt
  | .ge => .le
  | .gt => .lt
  | .le => .ge
noncomputable def ev_bnd {β : Type} (E : ev_E) (i : Nat) (K : Nat → Nat → β) : β := Prod.rec (motive := fun _ => β) (fun lo hi => K lo hi) (ev_nth (0, 4294967295) E.2.2 i)
noncomputable def ev_br3 (r n tgt : Nat) (ls st : List ev_V) (h : ev_H) : ev_O := Nat.rec (motive := fun _ => ev_O) (ev_go n ls st h) (fun m _ => Nat.rec (motive := fun _ => ev_O) (ev_go tgt ls st h) (fun _ _ => none) m) r
noncomputable def ev_icmp (c : ClassFile.Cond) (n tgt : Nat) : ev_F := fun _ E ls st h => match st with
  | (ty, y) :: (tx, x) :: r => cond (Nat.beq ty 0) (cond (Nat.beq tx 0) (cond (ev_cmp c (ev_ofs x) (ev_ofs y)) (ev_go tgt ls r h) (ev_go n ls r h)) (cond (Nat.beq tx 4) (ev_bnd E x (fun lo hi => ev_br3 (ev_cmpS c lo hi (ev_ofs y)) n tgt ls r h)) none))
      (cond (Nat.beq ty 4) (cond (Nat.beq tx 0) (ev_bnd E y (fun lo hi => ev_br3 (ev_cmpS (ev_flip c) lo hi (ev_ofs x)) n tgt ls r h)) none) none)
  | _ => none
noncomputable def ev_ifc (c : ClassFile.Cond) (n tgt : Nat) : ev_F := fun _ E ls st h => match st with
  | (tx, x) :: r => cond (Nat.beq tx 0) (cond (ev_cmp c (ev_ofs x) 2147483648) (ev_go tgt ls r h) (ev_go n ls r h)) (cond (Nat.beq tx 4) (ev_bnd E x (fun lo hi => ev_br3 (ev_cmpS c lo hi 2147483648) n tgt ls r h)) none)
  | _ => none
noncomputable def ev_lcmp (n : Nat) : ev_F := fun _ E ls st h => match st with
  | (ty, y) :: (tx, x) :: r => cond (Nat.beq ty 1) (cond (Nat.beq tx 1) (ev_fK (ev_ci (lg_cmp (Int64.ofNat x) (Int64.ofNat y))) (fun z => ev_go n ls ((0, z) :: r) h))
      (cond (Nat.beq tx 5) (ev_bnd E x (fun lo hi => cond (Nat.blt (Nat.add hi 9223372034707292160) (ev_ofs8 y)) (ev_go n ls ((0, 4294967295) :: r) h) (cond (Nat.blt (ev_ofs8 y) (Nat.add lo 9223372034707292160)) (ev_go n ls ((0, 1) :: r) h) (cond (Nat.beq lo hi) (ev_go n ls ((0, 0) :: r) h) none)))) none)) none
  | _ => none
noncomputable def ev_i2l (n : Nat) : ev_F := fun _ _ ls st h => match st with
  | (tx, x) :: r => cond (Nat.beq tx 0) (ev_fK (ev_cl (Int32.ofNat x).toInt64) (fun z => ev_go n ls ((1, z) :: r) h)) (cond (Nat.beq tx 4) (ev_go n ls ((5, x) :: r) h) none)
  | _ => none
def ev_goto (tgt : Nat) : ev_F := fun _ _ ls st h => ev_go tgt ls st h
/-- is it null? -/
def ev_nul (n tgt : Nat) : ev_F := fun _ _ ls st h => match st with
  | (tx, _) :: r => cond (Nat.beq tx 2) (ev_go n ls r h) (cond (Nat.beq tx 10) (ev_go tgt ls r h) none)
  | _ => none
def ev_tl (z : Int) : Nat := (z + 2147483648).toNat
noncomputable def ev_tsw (pc : Nat) (dflt lo hi : Int) (offs : List Int) : ev_F := fun _ E ls st h => match st with
  | (tx, x) :: r => cond (Nat.beq tx 0) (cond (Nat.blt (ev_ofs x) (ev_tl lo) || Nat.blt (ev_tl hi) (ev_ofs x)) (cond (decide (0 ≤ (pc : Int) + dflt)) (ev_fK ((pc : Int) + dflt).toNat (fun z => ev_go z ls r h)) none)
        (match offs[ev_ofs x - ev_tl lo]? with
        | some off => cond (decide (0 ≤ (pc : Int) + off)) (ev_fK ((pc : Int) + off).toNat (fun z => ev_go z ls r h)) none
        | none => none))
      (cond (Nat.beq tx 4) (ev_bnd E x (fun l1 h1 => cond (Nat.blt h1 (ev_tl lo) || Nat.blt (ev_tl hi) l1) (cond (decide (0 ≤ (pc : Int) + dflt)) (ev_fK ((pc : Int) + dflt).toNat (fun z => ev_go z ls r h)) none) none)) none)
  | _ => none
noncomputable def ev_gf (n ci k : Nat) : ev_F := fun _ _ ls st h => match st with
  | (tx, x) :: r => cond (Nat.beq tx 2) (cond (Nat.blt x h.1) (match ev_get h.2.2 x with
      | .inr (cj, fs) => cond (Nat.beq cj ci) (Prod.rec (motive := fun _ => ev_O) (fun t p => ev_go n ls ((t, p) :: r) h) (ev_nth (3, 0) fs k)) none
      | .inl _ => none) none) none
  | _ => none
/-- a String's value and coder -/
def ev_gs (n k : Nat) : ev_F := fun _ _ ls st h => match st with
  | (tx, x) :: r => cond (Nat.beq tx 6) (cond (Nat.blt x 23) (cond (Nat.beq k 0) (ev_go n ls ((6, Nat.add 100 x) :: r) h) (ev_go n ls ((0, 0) :: r) h)) none) none
  | _ => none
/-- may a field of this kind (0 int, 1 long, 2 boolean, 3 reference) take it? -/
def ev_fit (fk t p : Nat) : Bool := match fk with
  | 0 => Nat.beq (Nat.mod t 4) 0
  | 1 => Nat.beq (Nat.mod t 4) 1
  | 2 => Nat.beq t 0 && Nat.ble p 1
  | 3 => Nat.beq t 2 || Nat.beq t 10
  | _ => false
def ev_fk (ty : FieldType) : Nat := match ty with
  | .int => 0
  | .long => 1
  | .boolean => 2
  | .object _ => 3
  | .array _ => 3
  | _ => 9
noncomputable def ev_pf (n ci k fk : Nat) : ev_F := fun _ _ ls st h => match st with
  | (t, p) :: (tx, x) :: r => cond (Nat.beq tx 2) (cond (Nat.blt x h.1) (cond (ev_fit fk t p) (match ev_get h.2.2 x with
      | .inr (cj, fs) => cond (Nat.beq cj ci) (ev_setK fs k (t, p) (fun fs' => ev_hsK h.2.2 x (.inr (ci, fs')) (fun hs => ev_go n ls r (h.1, h.2.1, hs)))) none
      | .inl _ => none) none) none) none
  | _ => none
/-- a new cell of k slots -/
noncomputable def ev_new (n k : Nat) (c : ev_C) (ls r : List ev_V) (h : ev_H) : ev_O := cond (Nat.blt h.1 160) (ev_hsK h.2.2 h.1 c (fun hs => ev_fK (Nat.add h.2.1 k) (fun sl => ev_fK (Nat.succ h.1) (fun c1 => ev_go n ls ((2, h.1) :: r) (c1, sl, hs))))) none
noncomputable def ev_dfK {β : Type} (ty : FieldType) (K : ev_V → β) : β := match ev_fk ty with
  | 1 => K (1, 0)
  | 3 => K (10, 0)
  | _ => K (0, 0)
noncomputable def ev_mkK {β : Type} (f : Nat → FieldType) (n : Nat) : Nat → (List ev_V → β) → β := Nat.rec (motive := fun _ => Nat → (List ev_V → β) → β) (fun _ K => K []) (fun _ ih i K => ev_dfK (f i) (fun v => ih (Nat.succ i) (fun t => K (v :: t)))) n
noncomputable def ev_nw (n ci : Nat) : ev_F := fun _ _ ls st h => ev_mkK (pm_ty ci) (pm_cn ci) 0 (fun fs => ev_new n (pm_cn ci) (.inr (ci, fs)) ls st h)
noncomputable def ev_na (n kind : Nat) : ev_F := fun _ _ ls st h => match st with
  | (tx, x) :: r => cond (Nat.beq tx 0) (cond (Nat.ble x 16777216) (ev_new n x (.inl (kind, x, 0, [])) ls r h) none) none
  | _ => none
noncomputable def ev_al (n : Nat) : ev_F := fun _ E ls st h => match st with
  | (tx, x) :: r => cond (Nat.beq tx 2) (cond (Nat.blt x h.1) (match ev_get h.2.2 x with
      | .inl (_, k, _, _) => cond (Nat.ble k 16777216) (ev_go n ls ((0, k) :: r) h) none
      | .inr _ => none) none)
      (cond (Nat.beq tx 6) (cond (Nat.beq x 200) (ev_fK E.1 (fun z => Nat.rec (motive := fun _ => ev_O) none (fun m _ => cond (Nat.ble m 6) (ev_go n ls ((0, m) :: r) h) none) z))
        (cond (Nat.beq x 201) (ev_go n ls ((0, 3) :: r) h) (cond (Nat.ble 100 x) (cond (Nat.blt x 123) (ev_fK (pm_strB.getD (Nat.sub x 100) []).length (fun z => ev_go n ls ((0, z) :: r) h)) none) none))) none)
  | _ => none
noncomputable def ev_ial (n : Nat) : ev_F := fun _ E ls st h => match st with
  | (tj, j) :: (tx, x) :: r => cond (Nat.beq tj 0) (cond (Nat.beq tx 2) (cond (Nat.blt x h.1) (match ev_get h.2.2 x with
      | .inl (kind, k, N, ov) => cond (Nat.beq kind 0) (cond (Nat.ble k 16777216) (cond (Nat.blt j k) (ev_rdK ov N j (fun v => ev_go n ls (v :: r) h)) none) none) none
      | .inr _ => none) none)
      (cond (Nat.beq tx 6) (cond (Nat.beq x 200) (cond (Nat.blt (Nat.succ j) E.1) (cond (Nat.blt j 6) (ev_go n ls ((4, j) :: r) h) none) none)
        (cond (Nat.beq x 201) (cond (Nat.blt j 3) (ev_fK (ev_nth 0 [999, 10, 9] j) (fun z => ev_go n ls ((0, z) :: r) h)) none) none)) none)) none
  | _ => none
noncomputable def ev_bal (n : Nat) : ev_F := fun _ _ ls st h => match st with
  | (tj, j) :: (tx, x) :: r => cond (Nat.beq tj 0) (cond (Nat.beq tx 2) (cond (Nat.blt x h.1) (match ev_get h.2.2 x with
      | .inl (kind, k, N, ov) => cond (Nat.beq kind 2) (cond (Nat.ble k 16777216) (cond (Nat.blt j k) (ev_rdK ov N j (fun v => ev_go n ls (v :: r) h)) none) none) none
      | .inr _ => none) none)
      (cond (Nat.beq tx 6) (cond (Nat.ble 100 x) (cond (Nat.blt x 123) (cond (Nat.blt j (pm_strB.getD (Nat.sub x 100) []).length) (cond (Nat.ble j 16777216) (ev_fK (ev_ci ((pm_strB.getD (Nat.sub x 100) []).getD j 0)) (fun z => ev_go n ls ((0, z) :: r) h)) none) none) none) none) none)) none
  | _ => none
noncomputable def ev_lal (n : Nat) : ev_F := fun _ _ ls st h => match st with
  | (tj, j) :: (tx, x) :: r => cond (Nat.beq tj 0) (cond (Nat.beq tx 2) (cond (Nat.blt x h.1) (match ev_get h.2.2 x with
      | .inl (kind, k, N, _) => cond (Nat.beq kind 1) (cond (Nat.ble k 16777216) (cond (Nat.blt j k) (ev_fK (ev_ln8 N j) (fun z => ev_go n ls ((1, z) :: r) h)) none) none) none
      | .inr _ => none) none) none) none
  | _ => none
noncomputable def ev_aal (n : Nat) : ev_F := fun _ _ ls st h => match st with
  | (tj, j) :: (tx, x) :: r => cond (Nat.beq tj 0) (cond (Nat.beq tx 2) (cond (Nat.blt x h.1) (match ev_get h.2.2 x with
      | .inl (kind, k, N, _) => cond (Nat.beq kind 3 || Nat.beq kind 4) (cond (Nat.ble k 16777216) (cond (Nat.blt j k) (Nat.rec (motive := fun _ => ev_O) (ev_go n ls ((10, 0) :: r) h) (fun m _ => ev_go n ls ((2, m) :: r) h) (ev_ln N j)) none) none) none
      | .inr _ => none) none) none) none
  | _ => none
noncomputable def ev_ias (n : Nat) : ev_F := fun _ _ ls st h => match st with
  | (tv, v) :: (tj, j) :: (tx, x) :: r => cond (Nat.beq tj 0) (cond (Nat.beq tx 2) (cond (Nat.blt x h.1) (match ev_get h.2.2 x with
      | .inl (kind, k, N, ov) => cond (Nat.beq kind 0) (cond (Nat.ble k 16777216) (cond (Nat.blt j k) (cond (Nat.beq tv 0) (ev_ovdK ov j (fun ov1 => ev_fK (ev_lset N j v) (fun N1 => ev_hsK h.2.2 x (.inl (kind, k, N1, ov1)) (fun hs => ev_go n ls r (h.1, h.2.1, hs)))))
          (cond (Nat.beq tv 4) (ev_ovdK ov j (fun ov1 => ev_hsK h.2.2 x (.inl (kind, k, N, (j, v) :: ov1)) (fun hs => ev_go n ls r (h.1, h.2.1, hs)))) none)) none) none) none
      | .inr _ => none) none) none) none
  | _ => none
noncomputable def ev_bas (n : Nat) : ev_F := fun _ _ ls st h => match st with
  | (tv, v) :: (tj, j) :: (tx, x) :: r => cond (Nat.beq tj 0) (cond (Nat.beq tx 2) (cond (Nat.blt x h.1) (match ev_get h.2.2 x with
      | .inl (kind, k, N, ov) => cond (Nat.beq kind 2) (cond (Nat.ble k 16777216) (cond (Nat.blt j k) (cond (Nat.beq tv 0) (ev_ovdK ov j (fun ov1 => ev_fK (ev_lset N j (Nat.mod v 2)) (fun N1 => ev_hsK h.2.2 x (.inl (kind, k, N1, ov1)) (fun hs => ev_go n ls r (h.1, h.2.1, hs))))) none) none) none) none
      | .inr _ => none) none) none) none
  | _ => none
noncomputable def ev_las (n : Nat) : ev_F := fun _ _ ls st h => match st with
  | (tv, v) :: (tj, j) :: (tx, x) :: r => cond (Nat.beq tj 0) (cond (Nat.beq tx 2) (cond (Nat.blt x h.1) (match ev_get h.2.2 x with
      | .inl (kind, k, N, ov) => cond (Nat.beq kind 1) (cond (Nat.ble k 16777216) (cond (Nat.blt j k) (cond (Nat.beq tv 1) (ev_fK (ev_lset8 N j v) (fun N1 => ev_hsK h.2.2 x (.inl (kind, k, N1, ov)) (fun hs => ev_go n ls r (h.1, h.2.1, hs)))) none) none) none) none
      | .inr _ => none) none) none) none
  | _ => none
/-- is it an object of this class? -/
noncomputable def ev_isO (h : ev_H) (x ci : Nat) : Bool := cond (Nat.blt x h.1) (match ev_get h.2.2 x with
  | .inr (cj, _) => Nat.beq cj ci
  | .inl _ => false) false
noncomputable def ev_aas (n : Nat) : ev_F := fun _ _ ls st h => match st with
  | (tv, v) :: (tj, j) :: (tx, x) :: r => cond (Nat.beq tj 0) (cond (Nat.beq tx 2) (cond (Nat.blt x h.1) (match ev_get h.2.2 x with
      | .inl (kind, k, N, ov) => cond (Nat.beq kind 3 || Nat.beq kind 4) (cond (Nat.ble k 16777216) (cond (Nat.blt j k) (cond (Nat.beq tv 10) (ev_fK (ev_lset N j 0) (fun N1 => ev_hsK h.2.2 x (.inl (kind, k, N1, ov)) (fun hs => ev_go n ls r (h.1, h.2.1, hs))))
          (cond (Nat.beq tv 2) (cond (Nat.blt v 16777216) (cond (ev_isO h v (pm_ak kind)) (ev_fK (ev_lset N j (Nat.succ v)) (fun N1 => ev_hsK h.2.2 x (.inl (kind, k, N1, ov)) (fun hs => ev_go n ls r (h.1, h.2.1, hs)))) none) none) none)) none) none) none
      | .inr _ => none) none) none) none
  | _ => none
/-- the sum of the categories is at most 8 -/
noncomputable def ev_w8 (l : List ev_V) : Nat → Bool := List.rec (motive := fun _ => Nat → Bool) (fun n => Nat.ble n 8) (fun v _ ih n => ih (cond (Nat.beq (Nat.mod v.1 4) 1) (Nat.succ (Nat.succ n)) (Nat.succ n))) l
/-- bits from place 32 sp on, n of them, laid at 32 dp -/
def ev_cpy (S N sp dp n : Nat) : Nat := Nat.xor (Nat.xor N (Nat.shiftLeft (Nat.mod (Nat.shiftRight N (Nat.mul 32 dp)) (Nat.pow 2 (Nat.mul 32 n))) (Nat.mul 32 dp))) (Nat.shiftLeft (Nat.mod (Nat.shiftRight S (Nat.mul 32 sp)) (Nat.pow 2 (Nat.mul 32 n))) (Nat.mul 32 dp))
noncomputable def ev_acp (n : Nat) : ev_F := fun _ _ ls st h => match st with
  | (tn, k) :: (td, dp) :: (ta, a1) :: (ts, sp) :: (tb, a0) :: r => cond (Nat.beq tn 0 && Nat.beq td 0 && Nat.beq ta 2 && Nat.beq ts 0 && Nat.beq tb 2 && Nat.blt a0 h.1 && Nat.blt a1 h.1 && ev_w8 r 0) (match ev_get h.2.2 a0, ev_get h.2.2 a1 with
      | .inl (k0, n0, S, []), .inl (k1, n1, N, []) => cond (Nat.beq k0 0 && Nat.beq k1 0 && Nat.ble n0 16777216 && Nat.ble n1 16777216 && Nat.ble (Nat.add sp k) n0 && Nat.ble (Nat.add dp k) n1) (ev_fK (ev_cpy S N sp dp k) (fun N1 => ev_hsK h.2.2 a1 (.inl (0, n1, N1, [])) (fun hs => ev_go n ls r (h.1, h.2.1, hs)))) none
      | _, _ => none) none
  | _ => none
noncomputable def ev_oi (n : Nat) : ev_F := fun _ _ ls st h => match st with
  | (tx, _) :: r => cond (Nat.beq tx 2) (cond (ev_w8 r 0) (ev_go n ls r h) none) none
  | _ => none
noncomputable def ev_popK (na : Nat) : List ev_V → List ev_V → (List ev_V → List ev_V → ev_O) → ev_O := Nat.rec (motive := fun _ => List ev_V → List ev_V → (List ev_V → List ev_V → ev_O) → ev_O) (fun st acc K => K acc st) (fun _ ih st acc K => match st with
  | [] => none
  | v :: r => ih r (v :: acc) K) na
/-- the receiver: kinds 0, 2 an object of class ci, 7 a String, else none is asked -/
noncomputable def ev_rcv (kind ci : Nat) (as : List ev_V) (h : ev_H) : Bool := match kind with
  | 0 => (match as with
    | (t, x) :: _ => Nat.beq t 2 && ev_isO h x ci
    | [] => false)
  | 2 => (match as with
    | (t, x) :: _ => Nat.beq t 2 && ev_isO h x ci
    | [] => false)
  | 7 => (match as with
    | (t, x) :: _ => Nat.beq t 6 && Nat.blt x 23
    | [] => false)
  | 1 => true
  | 3 => true
  | _ => false
noncomputable def ev_inv (n kind mid na ci : Nat) : ev_F := fun call _ ls st h => ev_popK na st [] (fun as rest => cond (ev_rcv kind ci as h) (cond (ev_w8 rest 0) (match call mid as h with
  | some (h', some v) => ev_go n ls (v :: rest) h'
  | some (h', none) => ev_go n ls rest h'
  | none => none) none) none)
def ev_rI (rk : Nat) : ev_F := fun _ _ _ st h => match st with
  | [(t, x)] => cond (Nat.beq (Nat.mod t 4) 0) (cond (match rk with
      | 0 => true
      | 1 => Nat.beq t 0 && Nat.ble x 1
      | 2 => Nat.beq t 0 && Nat.blt x 65536
      | _ => false) (some (.inr (h, some (t, x)))) none) none
  | _ => none
def ev_rL : ev_F := fun _ _ _ st h => match st with
  | [(t, x)] => cond (Nat.beq (Nat.mod t 4) 1) (some (.inr (h, some (t, x)))) none
  | _ => none
def ev_rA : ev_F := fun _ _ _ st h => match st with
  | [(t, x)] => cond (Nat.beq t 2 || Nat.beq t 10) (some (.inr (h, some (t, x)))) none
  | _ => none
def ev_rV : ev_F := fun _ _ _ st h => match st with
  | [] => some (.inr (h, none))
  | _ => none
def ev_na1 (mid : Nat) : Nat := match pm_mtL[mid]? with
  | some q => q.2.2.2.2.2.1
  | none => 0
/-- the number of a class by its owner's number (those of objects are the first twelve) -/
def ev_co (mid : Nat) : Nat := match pm_mtL[mid]? with
  | some q => q.2.2.2.2.1
  | none => 99
def ev_rk (ret : Option FieldType) : Nat := match ret with
  | some .int => 0
  | some .boolean => 1
  | some .char => 2
  | _ => 9
noncomputable def ev_call (ik pc a b : Nat) : Option ev_F := match a with
  | 4 => cond (Nat.beq ik 2) (some (ev_oi (Nat.add pc 3))) none
  | 5 => cond (Nat.beq ik 1) (some (ev_acp (Nat.add pc 3))) none
  | 0 => cond (Nat.beq ik 0) (cond (Nat.blt (ev_co b) 12) (some (ev_inv (Nat.add pc 3) 0 b (ev_na1 b) (ev_co b))) none) none
  | 7 => cond (Nat.beq ik 0) (some (ev_inv (Nat.add pc 3) 7 b (ev_na1 b) 99)) none
  | 2 => cond (Nat.beq ik 2) (cond (Nat.blt (ev_co b) 12) (some (ev_inv (Nat.add pc 3) 2 b (ev_na1 b) (ev_co b))) none) none
  | 1 => cond (Nat.beq ik 1) (some (ev_inv (Nat.add pc 3) 1 b (ev_na1 b) 99)) none
  | 3 => cond (Nat.beq ik 1) (some (ev_inv (Nat.add pc 3) 3 b (ev_na1 b) 99)) none
  | _ => none
/-- an instruction's function -/
noncomputable def ev_tr (o : Nat) (ini : Bool) (ret : Option FieldType) (nL : Nat) (pc : Nat) (i : Instr) (a b : Nat) (v : Value) : Option ev_F := match i with
  | .aconst_null => some (ev_push (Nat.add pc 1) 10 0)
  | .iconst n => some (ev_push (Nat.add pc 1) 0 (ev_ci (Int32.ofInt n)))
  | .lconst n => some (ev_push (Nat.add pc 1) 1 (ev_cl (Int64.ofNat n.val)))
  | .bipush n => some (ev_push (Nat.add pc 2) 0 (ev_ci (Int8.ofInt n).toInt32))
  | .sipush n => some (ev_push (Nat.add pc 3) 0 (ev_ci (Int16.ofInt n).toInt32))
  | .ldc _ => cond (Nat.beq a 0 || Nat.beq a 2) (some (ev_pushV (Nat.add pc 2) v)) none
  | .ldc_w _ => cond (Nat.beq a 0) (some (ev_pushV (Nat.add pc 3) v)) none
  | .ldc2_w _ => cond (Nat.beq a 1) (some (ev_pushV (Nat.add pc 3) v)) none
  | .getstatic _ => some (ev_pushV (Nat.add pc 3) v)
  | .iload k => some (ev_load (Nat.add pc 2) k 0)
  | .iload_n k => some (ev_load (Nat.add pc 1) k.val 0)
  | .lload k => some (ev_load (Nat.add pc 2) k 1)
  | .lload_n k => some (ev_load (Nat.add pc 1) k.val 1)
  | .aload k => some (ev_load (Nat.add pc 2) k 2)
  | .aload_n k => some (ev_load (Nat.add pc 1) k.val 2)
  | .istore k => cond (Nat.blt k nL) (some (ev_st (Nat.add pc 2) k 0)) none
  | .istore_n k => cond (Nat.blt k.val nL) (some (ev_st (Nat.add pc 1) k.val 0)) none
  | .lstore k => cond (Nat.blt (Nat.succ k) nL) (some (ev_stl (Nat.add pc 2) k)) none
  | .lstore_n k => cond (Nat.blt (Nat.succ k.val) nL) (some (ev_stl (Nat.add pc 1) k.val)) none
  | .astore k => cond (Nat.blt k nL) (some (ev_st (Nat.add pc 2) k 2)) none
  | .astore_n k => cond (Nat.blt k.val nL) (some (ev_st (Nat.add pc 1) k.val 2)) none
  | .iinc k n => cond (Nat.blt k nL) (some (ev_inc (Nat.add pc 3) k (ev_ci (Int32.ofInt n)))) none
  | .pop => some (ev_pop (Nat.add pc 1))
  | .dup => some (ev_dup (Nat.add pc 1))
  | .dup2 => some (ev_dup2 (Nat.add pc 1))
  | .iadd => some (ev_i2 (Nat.add pc 1) ev_add)
  | .isub => some (ev_i2 (Nat.add pc 1) ev_sub)
  | .imul => some (ev_i2 (Nat.add pc 1) ev_mul)
  | .ior => some (ev_i2 (Nat.add pc 1) Nat.lor)
  | .ixor => some (ev_i2 (Nat.add pc 1) (ev_op (fun x y => x ^^^ y)))
  | .ishl => some (ev_i2 (Nat.add pc 1) (ev_op (fun x y => x <<< (y &&& 31))))
  | .iushr => some (ev_i2 (Nat.add pc 1) ev_ushr)
  | .ishr => some (ev_shr (Nat.add pc 1))
  | .iand => some (ev_and (Nat.add pc 1))
  | .idiv => some (ev_d2 (Nat.add pc 1) (ev_op (fun x y => x / y)))
  | .irem => some (ev_d2 (Nat.add pc 1) (ev_op (fun x y => x - x / y * y)))
  | .ineg => some (ev_i1 (Nat.add pc 1) 0 (fun x => ev_ci (-(Int32.ofNat x))))
  | .i2c => some (ev_i1 (Nat.add pc 1) 0 (fun x => ev_ci ((Int32.ofNat x).toUInt32 % 65536).toInt32))
  | .ladd => some (ev_l2 (Nat.add pc 1) (ev_op8 (fun x y => x + y)))
  | .lsub => some (ev_l2 (Nat.add pc 1) (ev_op8 (fun x y => x - y)))
  | .lmul => some (ev_l2 (Nat.add pc 1) (ev_op8 (fun x y => x * y)))
  | .l2i => some (ev_l1 (Nat.add pc 1) (fun x => ev_ci (Int64.ofNat x).toInt32))
  | .lcmp => some (ev_lcmp (Nat.add pc 1))
  | .i2l => some (ev_i2l (Nat.add pc 1))
  | .goto _ => some (ev_goto a)
  | .ifCond c _ => some (ev_ifc c (Nat.add pc 3) a)
  | .if_icmp c _ => some (ev_icmp c (Nat.add pc 3) a)
  | .ifnull _ => some (ev_nul (Nat.add pc 3) a)
  | .ifnonnull _ => some (ev_nul a (Nat.add pc 3))
  | .tableswitch dflt lo hi offs => cond (decide (-2147483648 ≤ lo) && decide (lo ≤ hi) && decide (hi < 2147483648)) (some (ev_tsw pc dflt lo hi offs.toList)) none
  | .getfield _ => cond (Nat.beq a 100) (some (ev_gs (Nat.add pc 3) b)) (cond (Nat.blt b (pm_cn a)) (some (ev_gf (Nat.add pc 3) a b)) none)
  | .putfield _ => cond (Nat.blt b (pm_cn a) && (!pm_fin a b || (ini && (Nat.beq a o && Nat.blt a 12)))) (some (ev_pf (Nat.add pc 3) a b (ev_fk (pm_ty a b)))) none
  | .new _ => cond (Nat.blt a 12) (some (ev_nw (Nat.add pc 3) a)) none
  | .newarray t => (match t with
    | .int => some (ev_na (Nat.add pc 2) 0)
    | .long => some (ev_na (Nat.add pc 2) 1)
    | .boolean => some (ev_na (Nat.add pc 2) 2)
    | _ => none)
  | .anewarray _ => cond (Nat.beq a 3 || Nat.beq a 4) (some (ev_na (Nat.add pc 3) a)) none
  | .arraylength => some (ev_al (Nat.add pc 1))
  | .iaload => some (ev_ial (Nat.add pc 1))
  | .baload => some (ev_bal (Nat.add pc 1))
  | .laload => some (ev_lal (Nat.add pc 1))
  | .aaload => some (ev_aal (Nat.add pc 1))
  | .iastore => some (ev_ias (Nat.add pc 1))
  | .bastore => some (ev_bas (Nat.add pc 1))
  | .lastore => some (ev_las (Nat.add pc 1))
  | .aastore => some (ev_aas (Nat.add pc 1))
  | .invokevirtual _ => ev_call 0 pc a b
  | .invokestatic _ => ev_call 1 pc a b
  | .invokespecial _ => ev_call 2 pc a b
  | .ireturn => some (ev_rI (ev_rk ret))
  | .lreturn => cond (decide (ret = some .long)) (some ev_rL) none
  | .areturn => (match ret with
    | some (.object _) => some ev_rA
    | some (.array _) => some ev_rA
    | _ => none)
  | .return_ => (match ret with
    | none => some ev_rV
    | _ => none)
  | _ => none
/-- what came out of an instruction: an end is of a return alone, cells are never taken away -/
def ev_out (rt : Bool) (c s : Nat) (x : ev_O) : ev_O := match x with
  | none => none
  | some (.inl t) => cond rt none (cond (Nat.ble c t.2.2.2.1) (cond (Nat.ble s t.2.2.2.2.1) (some (.inl t)) none) none)
  | some (.inr r) => cond rt (cond (Nat.ble c r.1.1) (cond (Nat.ble s r.1.2.1) (some (.inr r)) none) none) none
noncomputable def ev_step (o : Nat) (ini : Bool) (ret : Option FieldType) (nL : Nat) (T : Lean.RArray pm_I) (call : ev_Ca) (E : ev_E) (s : ev_S) : ev_O := match s with
  | (pc, ls, st, h) => match T.get pc with
    | (p0, i, _, a, b, v) => cond (Nat.beq p0 pc) (match ev_tr o ini ret nL p0 i a b v with
      | some f => ev_out (pm_isRet i) h.1 h.2.1 (f call E ls st h)
      | none => none) none
/-- 2^k instructions, or to the end -/
noncomputable def ev_it (f : ev_S → ev_O) (k : Nat) : ev_S → ev_O := Nat.rec (motive := fun _ => ev_S → ev_O) f (fun _ ih s => match ih s with
  | none => none
  | some (.inl t) => ih t
  | some (.inr r) => some (.inr r)) k
/-- the first 2^k of a list of instructions, by their places -/
noncomputable def ev_bld (k : Nat) : List pm_I → Lean.RArray pm_I := Nat.rec (motive := fun _ => List pm_I → Lean.RArray pm_I) (fun l => match l with
  | [] => .leaf (0, .nop, 0, 0, 0, .null)
  | e :: _ => .leaf e) (fun k ih l => match l.drop (Nat.pow 2 k) with
  | [] => ih l
  | e :: t => .branch e.1 (ih l) (ih (e :: t))) k
def ev_lay : List ev_V → List ev_V
  | [] => []
  | v :: t => cond (Nat.beq (Nat.mod v.1 4) 1) (v :: (3, 0) :: ev_lay t) (v :: ev_lay t)
noncomputable def ev_padK {β : Type} (n : Nat) : List ev_V → (List ev_V → β) → β := Nat.rec (motive := fun _ => List ev_V → (List ev_V → β) → β) (fun _ K => K []) (fun _ ih l K => match l with
  | [] => ih [] (fun t => K ((3, 0) :: t))
  | x :: r => ih r (fun t => K (x :: t))) n
noncomputable def ev_rn (E : ev_E) (d : Nat) : ev_Ca := Nat.rec (motive := fun _ => ev_Ca) (fun _ _ _ => none) (fun _ ih mid as h => match pm_mtL[mid]? with
  | none => none
  | some (y, _, nL, ret, o, na, code) => cond (Nat.beq as.length na && Nat.ble (ev_lay as).length nL) (ev_padK nL (ev_lay as) (fun ls => match ev_it (ev_step o (decide (y.name = "<init>")) ret nL (ev_bld 10 code) ih E) 17 (0, ls, [], h) with
    | some (.inr r) => some r
    | _ => none)) none) d
/-- the law's own frame -/
noncomputable def ev_law (E : ev_E) (d k : Nat) : ev_S → ev_O := ev_it (ev_step 12 false (some .boolean) 4 (ev_bld 10 pm_cL) (ev_rn E d) E) k
def ev_h0 : ev_H := (0, 0, List.replicate 10 (List.replicate 16 (.inr (0, []))))
def ev_s0 : ev_S := (0, [(6, 200), (3, 0), (3, 0), (3, 0)], [], ev_h0)
def ev_isL (x : ev_O) : Bool := match x with
  | some (.inl _) => true
  | _ => false
end
section
/-! what the evaluator's values and cells stand for, in the pure machine -/
def ev_dI (xs : Nat → Int32) (i : Nat) : Int32 := if i < 8 then xs i else if i < 40 then xs (i % 8) >>> (Int32.ofNat ((i - 8) / 8 * 8) &&& 31) else (xs (i % 8) >>> (Int32.ofNat ((i - 40) / 8 * 8) &&& 31)) &&& 255
def ev_dV (xs : Nat → Int32) (v : ev_V) : Value := if v.1 % 4 = 0 then .int (if v.1 = 0 then Int32.ofNat v.2 else ev_dI xs v.2) else if v.1 % 4 = 1 then .long (if v.1 = 1 then Int64.ofNat v.2 else (ev_dI xs v.2).toInt64) else if v.1 = 2 then .ref v.2 else if v.1 = 6 then .retAddr v.2 else .null
def ev_dL (xs : Nat → Int32) (v : ev_V) : Option Value := if v.1 % 4 = 3 then none else some (ev_dV xs v)
def ev_rd (ov : List (Nat × Nat)) (N j : Nat) : ev_V := match ov with
  | [] => (0, ev_ln N j)
  | q :: t => if q.1 = j then (4, q.2) else ev_rd t N j
def ev_int (xs : Nat → Int32) (v : ev_V) : Int32 := if v.1 = 0 then Int32.ofNat v.2 else ev_dI xs v.2
def ev_ref (z : Nat) : Option Nat := match z with
  | 0 => none
  | m + 1 => some m
def ev_RA (xs : Nat → Int32) (t n N : Nat) (ov : List (Nat × Nat)) (x : (Nat → Int32) ⊕ (Nat → Int64) ⊕ (Nat → UInt32) ⊕ (Nat → UInt64) ⊕ (Nat → Option Nat)) : Prop := match x with
  | .inl f => (t = 0 ∨ t = 2) ∧ ∀ j, j < n → f j = ev_int xs (ev_rd ov N j)
  | .inr (.inl f) => t = 1 ∧ ∀ j, j < n → f j = Int64.ofNat (ev_ln8 N j)
  | .inr (.inr (.inr (.inr f))) => (t = 3 ∨ t = 4) ∧ ∀ j, j < n → f j = ev_ref (ev_ln N j)
  | _ => False
def ev_RC (xs : Nat → Int32) (c : ev_C) (p : pm_C) : Prop := match c with
  | .inl (t, n, N, ov) => ∃ x, p = .inl (t, n, x) ∧ ev_RA xs t n N ov x
  | .inr (ci, fs) => p = .inr (ci, fs.map (ev_dV xs)) ∧ fs.length = pm_cn ci
def ev_shape (hs : List (List ev_C)) : Prop := hs.length = 10 ∧ ∀ r ∈ hs, r.length = 16
def ev_RH (xs : Nat → Int32) (h : ev_H) (p : pm_H) : Prop := p.1 = h.1 ∧ p.2.1 = h.2.1 ∧ ev_shape h.2.2 ∧ h.1 ≤ 160 ∧ ∀ a, a < h.1 → ev_RC xs (ev_get h.2.2 a) (p.2.2 a)
def ev_RS (xs : Nat → Int32) (nL : Nat) (s : ev_S) (p : pm_S) : Prop := p.1 = s.1 ∧ p.2.1 = s.2.1.map (ev_dL xs) ∧ p.2.2.1 = s.2.2.1.map (ev_dV xs) ∧ s.2.1.length = nL ∧ ev_RH xs s.2.2.2 p.2.2.2
def ev_RR (xs : Nat → Int32) (r : ev_R) (p : pm_R) : Prop := ev_RH xs r.1 p.1 ∧ p.2 = r.2.map (ev_dV xs)
/-- what is known of a script is so -/
def ev_sat (E : ev_E) (L : Nat) (xs : Nat → Int32) : Prop := (E.1 = 0 ∨ (E.1 = L + 1 ∧ L ≤ 6)) ∧ xs 0 &&& 63 = Int32.ofNat E.2.1 ∧ ∀ i q, E.2.2[i]? = some q → i < 6 ∧ ((q.1 : Int) - 2147483648 ≤ (xs i).toInt) ∧ ((xs i).toInt ≤ (q.2 : Int) - 2147483648)
theorem ev_bt {a b : Nat} (h : a = b) : Nat.beq a b = true := by rw [h]; exact Nat.beq_refl b
theorem ev_bf {a b : Nat} (h : a ≠ b) : Nat.beq a b = false := by
  rw [← Bool.not_eq_true]
  intro g
  exact h (Nat.eq_of_beq_eq_true g)
theorem ev_fK_eq {β : Type} (n : Nat) (K : Nat → β) : ev_fK n K = K n := by cases n <;> rfl
theorem ev_nth_eq {α : Type} (d : α) (l : List α) (n : Nat) : ev_nth d l n = l.getD n d := by
  induction l generalizing n with
  | nil => simp [ev_nth]
  | cons x t ih =>
    cases n with
    | zero => rfl
    | succ n =>
      show ev_nth d t n = _
      rw [ih]
      simp
theorem ev_setK_eq {α β : Type} (l : List α) (n : Nat) (v : α) (K : List α → β) : ev_setK l n v K = K (l.set n v) := by
  induction l generalizing n K with
  | nil => rfl
  | cons x t ih =>
    cases n with
    | zero => rfl
    | succ n =>
      show ev_setK t n v (fun t' => K (x :: t')) = _
      rw [ih]
      rfl
def ev_hset (hs : List (List ev_C)) (a : Nat) (c : ev_C) : List (List ev_C) := hs.set (a / 16) ((hs.getD (a / 16) []).set (a % 16) c)
theorem ev_hsK_eq {β : Type} (hs : List (List ev_C)) (a : Nat) (c : ev_C) (K : List (List ev_C) → β) : ev_hsK hs a c K = K (ev_hset hs a c) := by
  unfold ev_hsK
  rw [ev_setK_eq, ev_setK_eq, ev_nth_eq]
  rfl
theorem ev_get_eq (hs : List (List ev_C)) (a : Nat) : ev_get hs a = (hs.getD (a / 16) []).getD (a % 16) (.inr (0, [])) := by
  unfold ev_get
  rw [ev_nth_eq, ev_nth_eq]
  rfl
theorem ev_row {hs : List (List ev_C)} (h : ev_shape hs) {i : Nat} (hi : i < 10) : (hs.getD i []).length = 16 := by
  have hl : i < hs.length := by rw [h.1]; exact hi
  rw [List.getD_eq_getElem?_getD, List.getElem?_eq_getElem hl]
  exact h.2 _ (List.getElem_mem hl)
theorem ev_shape_set {hs : List (List ev_C)} (h : ev_shape hs) {a : Nat} {c : ev_C} (ha : a < 160) : ev_shape (ev_hset hs a c) := by
  refine ⟨by unfold ev_hset; rw [List.length_set]; exact h.1, fun r hr => ?_⟩
  unfold ev_hset at hr
  rcases List.mem_or_eq_of_mem_set hr with g | g
  · exact h.2 r g
  · rw [g, List.length_set]
    exact ev_row h (by omega)
theorem ev_get_set {hs : List (List ev_C)} (h : ev_shape hs) {a b : Nat} {c : ev_C} (ha : a < 160) : ev_get (ev_hset hs a c) b = if b = a then c else ev_get hs b := by
  rw [ev_get_eq, ev_get_eq]
  unfold ev_hset
  have h1 : a / 16 < hs.length := by rw [h.1]; omega
  have h2 : a % 16 < (hs.getD (a / 16) []).length := by rw [ev_row h (by omega)]; omega
  by_cases e1 : b / 16 = a / 16
  · rw [e1]
    rw [List.getD_eq_getElem?_getD (l := hs.set _ _), List.getElem?_set_self h1]
    show (((hs.getD (a / 16) []).set (a % 16) c).getD (b % 16) _) = _
    by_cases e2 : b % 16 = a % 16
    · rw [e2, if_pos (by omega), List.getD_eq_getElem?_getD, List.getElem?_set_self h2]
      rfl
    · rw [if_neg (by omega), List.getD_eq_getElem?_getD, List.getElem?_set_ne (Ne.symm e2), ← List.getD_eq_getElem?_getD]
  · rw [if_neg (by omega), List.getD_eq_getElem?_getD (l := hs.set _ _), List.getElem?_set_ne (Ne.symm e1), ← List.getD_eq_getElem?_getD]

def ev_gs_ (N j m X : Nat) : Nat := (N ^^^ (((N >>> (32 * j)) % 2 ^ (32 * m)) <<< (32 * j))) ^^^ ((X % 2 ^ (32 * m)) <<< (32 * j))
theorem ev_ln_bit (N j i : Nat) : (ev_ln N j).testBit i = (decide (i < 32) && N.testBit (32 * j + i)) := by
  show ((N >>> (32 * j)) % 2 ^ 32).testBit i = _
  rw [Nat.testBit_mod_two_pow, Nat.testBit_shiftRight]
theorem ev_gs_eq (N j m X k : Nat) : ev_ln (ev_gs_ N j m X) k = if j ≤ k ∧ k < j + m then ev_ln X (k - j) else ev_ln N k := by
  apply Nat.eq_of_testBit_eq
  intro i
  by_cases hi : i < 32
  · have e : (ev_ln (ev_gs_ N j m X) k).testBit i = (ev_gs_ N j m X).testBit (32 * k + i) := by rw [ev_ln_bit, decide_eq_true hi, Bool.true_and]
    rw [e]
    unfold ev_gs_
    rw [Nat.testBit_xor, Nat.testBit_xor, Nat.testBit_shiftLeft, Nat.testBit_shiftLeft, Nat.testBit_mod_two_pow, Nat.testBit_mod_two_pow, Nat.testBit_shiftRight]
    by_cases h1 : k < j
    · rw [if_neg (by omega), ev_ln_bit, decide_eq_true hi, Bool.true_and]
      have h2 : ¬ (32 * k + i ≥ 32 * j) := by omega
      rw [decide_eq_false h2]
      simp
    · by_cases h2 : k < j + m
      · rw [if_pos ⟨by omega, h2⟩, ev_ln_bit, decide_eq_true hi, Bool.true_and]
        have h3 : 32 * k + i ≥ 32 * j := by omega
        have h4 : 32 * k + i - 32 * j < 32 * m := by omega
        rw [decide_eq_true h3, decide_eq_true h4, show 32 * j + (32 * k + i - 32 * j) = 32 * k + i by omega, show 32 * (k - j) + i = 32 * k + i - 32 * j by omega]
        simp
      · rw [if_neg (by omega), ev_ln_bit, decide_eq_true hi, Bool.true_and]
        have h4 : ¬ (32 * k + i - 32 * j < 32 * m) := by omega
        rw [decide_eq_false h4]
        simp
  · rw [ev_ln_bit, decide_eq_false hi, Bool.false_and]
    split <;> rw [ev_ln_bit, decide_eq_false hi, Bool.false_and]
theorem ev_ln_0 (j : Nat) : ev_ln 0 j = 0 := by
  show ((0 >>> (32 * j)) % 4294967296) = 0
  rw [Nat.zero_shiftRight]
theorem ev_lset_eq (N j v k : Nat) : ev_ln (ev_lset N j v) k = if k = j then v % 4294967296 else ev_ln N k := by
  have e : ev_lset N j v = ev_gs_ N j 1 v := rfl
  rw [e, ev_gs_eq]
  by_cases hk : k = j
  · rw [if_pos ⟨by omega, by omega⟩, if_pos hk, hk, Nat.sub_self]
    rfl
  · rw [if_neg (by omega), if_neg hk]
def ev_gs8_ (N j m X : Nat) : Nat := (N ^^^ (((N >>> (64 * j)) % 2 ^ (64 * m)) <<< (64 * j))) ^^^ ((X % 2 ^ (64 * m)) <<< (64 * j))
theorem ev_ln8_bit (N j i : Nat) : (ev_ln8 N j).testBit i = (decide (i < 64) && N.testBit (64 * j + i)) := by
  show ((N >>> (64 * j)) % 2 ^ 64).testBit i = _
  rw [Nat.testBit_mod_two_pow, Nat.testBit_shiftRight]
theorem ev_gs8_eq (N j m X k : Nat) : ev_ln8 (ev_gs8_ N j m X) k = if j ≤ k ∧ k < j + m then ev_ln8 X (k - j) else ev_ln8 N k := by
  apply Nat.eq_of_testBit_eq
  intro i
  by_cases hi : i < 64
  · have e : (ev_ln8 (ev_gs8_ N j m X) k).testBit i = (ev_gs8_ N j m X).testBit (64 * k + i) := by rw [ev_ln8_bit, decide_eq_true hi, Bool.true_and]
    rw [e]
    unfold ev_gs8_
    rw [Nat.testBit_xor, Nat.testBit_xor, Nat.testBit_shiftLeft, Nat.testBit_shiftLeft, Nat.testBit_mod_two_pow, Nat.testBit_mod_two_pow, Nat.testBit_shiftRight]
    by_cases h1 : k < j
    · rw [if_neg (by omega), ev_ln8_bit, decide_eq_true hi, Bool.true_and]
      have h2 : ¬ (64 * k + i ≥ 64 * j) := by omega
      rw [decide_eq_false h2]
      simp
    · by_cases h2 : k < j + m
      · rw [if_pos ⟨by omega, h2⟩, ev_ln8_bit, decide_eq_true hi, Bool.true_and]
        have h3 : 64 * k + i ≥ 64 * j := by omega
        have h4 : 64 * k + i - 64 * j < 64 * m := by omega
        rw [decide_eq_true h3, decide_eq_true h4, show 64 * j + (64 * k + i - 64 * j) = 64 * k + i by omega, show 64 * (k - j) + i = 64 * k + i - 64 * j by omega]
        simp
      · rw [if_neg (by omega), ev_ln8_bit, decide_eq_true hi, Bool.true_and]
        have h4 : ¬ (64 * k + i - 64 * j < 64 * m) := by omega
        rw [decide_eq_false h4]
        simp
  · rw [ev_ln8_bit, decide_eq_false hi, Bool.false_and]
    split <;> rw [ev_ln8_bit, decide_eq_false hi, Bool.false_and]
theorem ev_ln8_0 (j : Nat) : ev_ln8 0 j = 0 := by
  show ((0 >>> (64 * j)) % 18446744073709551616) = 0
  rw [Nat.zero_shiftRight]
theorem ev_lset8_eq (N j v k : Nat) : ev_ln8 (ev_lset8 N j v) k = if k = j then v % 18446744073709551616 else ev_ln8 N k := by
  have e : ev_lset8 N j v = ev_gs8_ N j 1 v := rfl
  rw [e, ev_gs8_eq]
  by_cases hk : k = j
  · rw [if_pos ⟨by omega, by omega⟩, if_pos hk, hk, Nat.sub_self]
    rfl
  · rw [if_neg (by omega), if_neg hk]
theorem ev_cpy_eq (S N sp dp n k : Nat) : ev_ln (ev_cpy S N sp dp n) k = if dp ≤ k ∧ k < dp + n then ev_ln S (sp + (k - dp)) else ev_ln N k := by
  have e : ev_cpy S N sp dp n = ev_gs_ N dp n (S >>> (32 * sp)) := rfl
  rw [e, ev_gs_eq]
  by_cases hk : dp ≤ k ∧ k < dp + n
  · rw [if_pos hk, if_pos hk]
    show ((S >>> (32 * sp)) >>> (32 * (k - dp))) % 4294967296 = (S >>> (32 * (sp + (k - dp)))) % 4294967296
    rw [← Nat.shiftRight_add, Nat.mul_add]
  · rw [if_neg hk, if_neg hk]
theorem ev_rdK_eq {β : Type} (ov : List (Nat × Nat)) (N j : Nat) (K : ev_V → β) : ev_rdK ov N j K = K (ev_rd ov N j) := by
  induction ov with
  | nil =>
    show ev_fK (ev_ln N j) (fun z => K (0, z)) = _
    rw [ev_fK_eq]
    rfl
  | cons q t ih =>
    show cond (Nat.beq q.1 j) (K (4, q.2)) (ev_rdK t N j K) = K (if q.1 = j then (4, q.2) else ev_rd t N j)
    by_cases hq : q.1 = j
    · rw [if_pos hq, ev_bt hq]
      rfl
    · rw [if_neg hq, ev_bf hq, ← ih]
      rfl
def ev_ovd (ov : List (Nat × Nat)) (j : Nat) : List (Nat × Nat) := match ov with
  | [] => []
  | q :: t => if q.1 = j then ev_ovd t j else q :: ev_ovd t j
theorem ev_ovdK_eq {β : Type} (ov : List (Nat × Nat)) (j : Nat) (K : List (Nat × Nat) → β) : ev_ovdK ov j K = K (ev_ovd ov j) := by
  induction ov generalizing K with
  | nil => rfl
  | cons q t ih =>
    show cond (Nat.beq q.1 j) (ev_ovdK t j K) (ev_ovdK t j (fun t => K (q :: t))) = K (if q.1 = j then ev_ovd t j else q :: ev_ovd t j)
    by_cases hq : q.1 = j
    · rw [if_pos hq, ev_bt hq]
      show ev_ovdK t j K = _
      rw [ih]
    · rw [if_neg hq, ev_bf hq]
      show ev_ovdK t j (fun t => K (q :: t)) = _
      rw [ih]
theorem ev_rd_ovd (ov : List (Nat × Nat)) (N j k : Nat) (hk : k ≠ j) : ev_rd (ev_ovd ov j) N k = ev_rd ov N k := by
  induction ov with
  | nil => rfl
  | cons q t ih =>
    show ev_rd (if q.1 = j then ev_ovd t j else q :: ev_ovd t j) N k = if q.1 = k then (4, q.2) else ev_rd t N k
    by_cases hq : q.1 = j
    · rw [if_pos hq, if_neg (by omega), ih]
    · rw [if_neg hq]
      show (if q.1 = k then (4, q.2) else ev_rd (ev_ovd t j) N k) = _
      rw [ih]
theorem ev_rd_self (ov : List (Nat × Nat)) (N j : Nat) : ev_rd (ev_ovd ov j) N j = (0, ev_ln N j) := by
  induction ov with
  | nil => rfl
  | cons q t ih =>
    show ev_rd (if q.1 = j then ev_ovd t j else q :: ev_ovd t j) N j = _
    by_cases hq : q.1 = j
    · rw [if_pos hq, ih]
    · rw [if_neg hq]
      show (if q.1 = j then (4, q.2) else ev_rd (ev_ovd t j) N j) = _
      rw [if_neg hq, ih]
theorem ev_rd_N (ov : List (Nat × Nat)) (N N' k : Nat) (h : ev_ln N k = ev_ln N' k) : ev_rd ov N k = ev_rd ov N' k := by
  induction ov with
  | nil => show (0, ev_ln N k) = (0, ev_ln N' k); rw [h]
  | cons q t ih =>
    show (if q.1 = k then (4, q.2) else ev_rd t N k) = (if q.1 = k then (4, q.2) else ev_rd t N' k)
    rw [ih]
/-! numbers -/
theorem ev_ofN {a b : Nat} (h : a % 4294967296 = b % 4294967296) : Int32.ofNat a = Int32.ofNat b := by
  apply Int32.toInt_inj.mp
  rw [Int32.toInt_ofNat', Int32.toInt_ofNat']
  unfold Int.bmod
  have : ((a : Int) % (Int32.size : Int)) = ((b : Int) % (Int32.size : Int)) := by
    show (a : Int) % 4294967296 = (b : Int) % 4294967296
    omega
  rw [this]
theorem ev_ofN_mod (a : Nat) : Int32.ofNat (a % 4294967296) = Int32.ofNat a := ev_ofN (by omega)
theorem ev_toI (x : Nat) : (Int32.ofNat x).toInt = (ev_ofs x : Int) - 2147483648 := by
  rw [Int32.toInt_ofNat']
  show Int.bmod (x : Int) 4294967296 = (((x + 2147483648) % 4294967296 : Nat) : Int) - 2147483648
  unfold Int.bmod
  dsimp only
  split <;> omega
theorem ev_toL (x : Nat) : (Int64.ofNat x).toInt = (ev_ofs8 x : Int) - 9223372036854775808 := by
  rw [Int64.toInt_ofNat']
  show Int.bmod (x : Int) 18446744073709551616 = (((x + 9223372036854775808) % 18446744073709551616 : Nat) : Int) - 9223372036854775808
  unfold Int.bmod
  dsimp only
  split <;> omega
theorem ev_ci_eq (x : Int32) : Int32.ofNat (ev_ci x) = x := Int32.ofNat_bitVecToNat x.toBitVec
theorem ev_cl_eq (x : Int64) : Int64.ofNat (ev_cl x) = x := Int64.ofNat_bitVecToNat x.toBitVec
theorem ev_add_eq (x y : Nat) : Int32.ofNat (ev_add x y) = Int32.ofNat x + Int32.ofNat y := by
  rw [← Int32.ofNat_add]
  exact ev_ofN_mod (x + y)
theorem ev_mul_eq (x y : Nat) : Int32.ofNat (ev_mul x y) = Int32.ofNat x * Int32.ofNat y := by
  rw [← Int32.ofNat_mul]
  exact ev_ofN_mod (x * y)
theorem ev_sub_eq (x y : Nat) : Int32.ofNat (ev_sub x y) = Int32.ofNat x - Int32.ofNat y := by
  have e : Int32.ofNat (ev_sub x y) = Int32.ofNat (x + 4294967296 - y % 4294967296) := by
    show Int32.ofNat ((x + (4294967296 - y % 4294967296)) % 4294967296) = _
    rw [ev_ofN_mod]
    apply ev_ofN
    omega
  rw [e, Int32.ofNat_sub _ _ (by omega), ev_ofN_mod y, ev_ofN (a := x + 4294967296) (b := x) (by omega)]
theorem ev_land_eq (x y : Nat) : Int32.ofNat (Nat.land x y) = Int32.ofNat x &&& Int32.ofNat y := by
  show Int32.ofBitVec (BitVec.ofNat 32 (x &&& y)) = Int32.ofBitVec (BitVec.ofNat 32 x &&& BitVec.ofNat 32 y)
  congr 1
  apply BitVec.eq_of_toNat_eq
  simp [BitVec.toNat_and, BitVec.toNat_ofNat, Nat.and_mod_two_pow (n := 32)]
theorem ev_lor_eq (x y : Nat) : Int32.ofNat (Nat.lor x y) = Int32.ofNat x ||| Int32.ofNat y := by
  show Int32.ofBitVec (BitVec.ofNat 32 (x ||| y)) = Int32.ofBitVec (BitVec.ofNat 32 x ||| BitVec.ofNat 32 y)
  congr 1
  apply BitVec.eq_of_toNat_eq
  simp [BitVec.toNat_or, BitVec.toNat_ofNat, Nat.or_mod_two_pow (n := 32)]
theorem ev_ushr_eq (x y : Nat) : Int32.ofNat (ev_ushr x y) = ((Int32.ofNat x).toUInt32 >>> ((Int32.ofNat y).toUInt32 &&& Int32.toUInt32 31)).toInt32 := by
  show Int32.ofNat ((x % 4294967296) >>> (y % 32)) = ((UInt32.ofNat x) >>> (UInt32.ofNat y &&& 31)).toInt32
  have e : ((UInt32.ofNat x) >>> (UInt32.ofNat y &&& 31)) = UInt32.ofNat ((x % 4294967296) >>> (y % 32)) := by
    apply UInt32.toNat_inj.mp
    rw [UInt32.toNat_shiftRight, UInt32.toNat_and, UInt32.toNat_ofNat', UInt32.toNat_ofNat', UInt32.toNat_ofNat']
    have h1 : (y % 2 ^ 32 &&& UInt32.toNat 31) % 32 = y % 32 := by
      show (y % 4294967296 &&& 2 ^ 5 - 1) % 32 = y % 32
      rw [Nat.and_two_pow_sub_one_eq_mod]
      omega
    rw [h1]
    have h2 : (x % 4294967296) >>> (y % 32) < 2 ^ 32 := by
      rw [Nat.shiftRight_eq_div_pow]
      exact Nat.lt_of_le_of_lt (Nat.div_le_self _ _) (Nat.mod_lt _ (by decide))
    rw [Nat.mod_eq_of_lt h2]
  rw [e]
  exact UInt32.toInt32_ofNat'.symm
theorem ev_and1 (v : Nat) : Int32.ofNat (Nat.mod v 2) = Int32.ofNat v &&& 1 := by
  have : Nat.mod v 2 = Nat.land v 1 := (Nat.and_one_is_mod v).symm
  rw [this, ev_land_eq]
  rfl
theorem ev_clamp {j k : Nat} (h1 : k ≤ 16777216) (h2 : j < k) : (Int32.ofNat j).toNatClampNeg = j := Int32.toNatClampNeg_ofNat_of_lt (by omega)
theorem ev_in {j k : Nat} (h1 : k ≤ 16777216) (h2 : j < k) : pm_in (Int32.ofNat j) k = true := by
  unfold pm_in
  rw [ev_clamp h1 h2, decide_eq_true h2, Bool.and_true]
  have : ¬ (Int32.ofNat j < 0) := by
    rw [Int32.lt_iff_toInt_lt, Int32.toInt_ofNat_of_lt (by omega)]
    show ¬ ((j : Int) < 0)
    omega
  rw [decide_eq_false this]
  rfl
theorem ev_nneg {j : Nat} (h : j ≤ 16777216) : ¬ (Int32.ofNat j < 0) := by
  rw [Int32.lt_iff_toInt_lt, Int32.toInt_ofNat_of_lt (by omega)]
  show ¬ ((j : Int) < 0)
  omega
end
section
/-! what the evaluator does, the pure machine does: instructions -/
def ev_SC (xs : Nat → Int32) (cE : ev_Ca) (cP : Nat → List Value → pm_H → Option pm_R) : Prop := ∀ mid as h ph r, cE mid as h = some r → ev_RH xs h ph → ∃ pr, cP mid (as.map (ev_dV xs)) ph = some pr ∧ ev_RR xs r pr
def ev_SI (L : Nat) (xs : Nat → Int32) (E : ev_E) (cE : ev_Ca) (cP : Nat → List Value → pm_H → Option pm_R) (o : Nat) (ini : Bool) (ret : Option FieldType) (nL pc : Nat) (i : Instr) (len a b : Nat) (v : Value) (F : ev_F) : Prop :=
  ∀ ls st h ph s', ls.length = nL → ev_RH xs h ph → F cE E ls st h = some (.inl s') → ∃ ps', pm_step (pm_sX L xs) cP o ini ret pc (ls.map (ev_dL xs)) (st.map (ev_dV xs)) ph i len a b v = some (.inl ps') ∧ ev_RS xs nL s' ps'
theorem ev_go_inv {n : Nat} {ls st : List ev_V} {h : ev_H} {s' : ev_S} (hs : ev_go n ls st h = some (.inl s')) : s' = (n, ls, st, h) := (Sum.inl.inj (Option.some.inj hs)).symm
theorem ev_c {c : Bool} {x : ev_O} {y : ev_S ⊕ ev_R} (h : cond c x none = some y) : c = true ∧ x = some y := by
  cases c with
  | true => exact ⟨rfl, h⟩
  | false => cases h
theorem ev_be {a b : Nat} (h : Nat.beq a b = true) : a = b := Nat.eq_of_beq_eq_true h
theorem ev_lt {a b : Nat} (h : Nat.blt a b = true) : a < b := Nat.le_of_ble_eq_true h
theorem ev_le {a b : Nat} (h : Nat.ble a b = true) : a ≤ b := Nat.le_of_ble_eq_true h
theorem ev_nlt {a b : Nat} (h : Nat.blt a b = false) : b ≤ a := by
  rcases Nat.lt_or_ge a b with q | q
  · have : Nat.blt a b = true := Nat.ble_eq_true_of_le q
    rw [h] at this; cases this
  · exact q
theorem ev_nle {a b : Nat} (h : Nat.ble a b = false) : b < a := by
  rcases Nat.lt_or_ge b a with q | q
  · exact q
  · have : Nat.ble a b = true := Nat.ble_eq_true_of_le q
    rw [h] at this; cases this
section EVS
variable {L : Nat} {xs : Nat → Int32} {E : ev_E} {cE : ev_Ca} {cP : Nat → List Value → pm_H → Option pm_R} {o : Nat} {ini : Bool} {ret : Option FieldType} {nL pc len a b : Nat} {v : Value}
theorem ev_dVi {t p : Nat} (h : t % 4 = 0) : ev_dV xs (t, p) = .int (ev_int xs (t, p)) := by
  unfold ev_dV ev_int
  rw [if_pos h]
theorem ev_dVl {t p : Nat} (h : t % 4 = 1) : ev_dV xs (t, p) = .long (if t = 1 then Int64.ofNat p else (ev_dI xs p).toInt64) := by
  unfold ev_dV
  rw [if_neg (by show ¬ t % 4 = 0; omega), if_pos h]
theorem ev_dV0 {p : Nat} : ev_dV xs (0, p) = .int (Int32.ofNat p) := rfl
theorem ev_dV1 {p : Nat} : ev_dV xs (1, p) = .long (Int64.ofNat p) := rfl
theorem ev_dV2 {p : Nat} : ev_dV xs (2, p) = .ref p := rfl
theorem ev_dV4 {p : Nat} : ev_dV xs (4, p) = .int (ev_dI xs p) := by simp [ev_dV]
theorem ev_dV5 {p : Nat} : ev_dV xs (5, p) = .long (ev_dI xs p).toInt64 := by simp [ev_dV]
theorem ev_dV6 {p : Nat} : ev_dV xs (6, p) = .retAddr p := by simp [ev_dV]
theorem ev_dVn {p : Nat} : ev_dV xs (10, p) = .null := by simp [ev_dV]
theorem ev_dVr {t p : Nat} (h : t % 4 = 2) : pm_isR (ev_dV xs (t, p)) = true := by
  unfold ev_dV
  rw [if_neg (by show ¬ t % 4 = 0; omega), if_neg (by show ¬ t % 4 = 1; omega)]
  by_cases h2 : t = 2
  · rw [if_pos h2]; rfl
  · rw [if_neg h2]
    by_cases h6 : t = 6
    · rw [if_pos h6]; rfl
    · rw [if_neg h6]; rfl
theorem ev_dVc {t p : Nat} (h : t % 2 = 0) : pm_cat1 (ev_dV xs (t, p)) = true := by
  by_cases h0 : t % 4 = 0
  · rw [ev_dVi h0]; rfl
  · have := ev_dVr (xs := xs) (t := t) (p := p) (by omega)
    revert this
    generalize ev_dV xs (t, p) = u
    cases u <;> intro g <;> first | rfl | cases g
theorem ev_dLs {w : ev_V} (h : w.1 % 4 ≠ 3) : ev_dL xs w = some (ev_dV xs w) := by
  unfold ev_dL
  rw [if_neg h]
theorem ev_ld (ls : List ev_V) (k : Nat) : pm_ld (ls.map (ev_dL xs)) k = ev_dL xs (ls.getD k (3, 0)) := by
  unfold pm_ld
  rw [List.getD_eq_getElem?_getD, List.getD_eq_getElem?_getD, List.getElem?_map]
  cases ls[k]? <;> rfl
def ev_clr (ls : List ev_V) (k : Nat) : List ev_V := match k with
  | 0 => ls
  | j + 1 => if (ls.getD j (3, 0)).1 % 4 = 1 then ls.set j (3, 0) else ls
theorem ev_clrK_eq {β : Type} (ls : List ev_V) (k : Nat) (K : List ev_V → β) : ev_clrK ls k K = K (ev_clr ls k) := by
  cases k with
  | zero => rfl
  | succ j =>
    have e : ev_clrK ls (j + 1) K = cond (Nat.beq ((ev_nth (3, 0) ls j).1 % 4) 1) (ev_setK ls j (3, 0) K) (K ls) := rfl
    rw [e, ev_setK_eq, ev_nth_eq]
    show _ = K (if (ls.getD j (3, 0)).1 % 4 = 1 then ls.set j (3, 0) else ls)
    by_cases h : (ls.getD j (3, 0)).1 % 4 = 1
    · rw [if_pos h, ev_bt h]; rfl
    · rw [if_neg h, ev_bf h]; rfl
theorem ev_two (w : ev_V) : pm_two (ev_dL xs w) = decide (w.1 % 4 = 1) := by
  obtain ⟨t, p⟩ := w
  by_cases h1 : t % 4 = 1
  · rw [ev_dLs (by show t % 4 ≠ 3; omega), ev_dVl h1, decide_eq_true h1]; rfl
  · rw [decide_eq_false h1]
    unfold ev_dL
    by_cases h3 : t % 4 = 3
    · rw [if_pos h3]; rfl
    · rw [if_neg h3]
      by_cases h0 : t % 4 = 0
      · rw [ev_dVi h0]; rfl
      · have := ev_dVr (xs := xs) (t := t) (p := p) (by omega)
        revert this
        generalize ev_dV xs (t, p) = u
        cases u <;> intro g <;> first | rfl | cases g
theorem ev_clr_map (ls : List ev_V) (k : Nat) : pm_clr (ls.map (ev_dL xs)) k = (ev_clr ls k).map (ev_dL xs) := by
  cases k with
  | zero => rfl
  | succ j =>
    rw [pm_clr_succ]
    have e : (ls.map (ev_dL xs)).getD j none = ev_dL xs (ls.getD j (3, 0)) := ev_ld ls j
    rw [e, ev_two]
    show _ = (if (ls.getD j (3, 0)).1 % 4 = 1 then ls.set j (3, 0) else ls).map (ev_dL xs)
    by_cases h : (ls.getD j (3, 0)).1 % 4 = 1
    · rw [if_pos h, decide_eq_true h, List.map_set]; rfl
    · rw [if_neg h, decide_eq_false h]; rfl
theorem ev_clr_len (ls : List ev_V) (k : Nat) : (ev_clr ls k).length = ls.length := by
  cases k with
  | zero => rfl
  | succ j =>
    show (if (ls.getD j (3, 0)).1 % 4 = 1 then ls.set j (3, 0) else ls).length = _
    split
    · rw [List.length_set]
    · rfl
theorem ev_st1_map {ls : List ev_V} {k : Nat} {w : ev_V} (h : w.1 % 4 ≠ 3) : pm_st1 (ls.map (ev_dL xs)) k (ev_dV xs w) = ((ev_clr ls k).set k w).map (ev_dL xs) := by
  unfold pm_st1
  rw [ev_clr_map, List.map_set, ev_dLs h]
theorem ev_mk {n : Nat} {ls st : List ev_V} {h : ev_H} {ph : pm_H} (hl : ls.length = nL) (hH : ev_RH xs h ph) : ev_RS xs nL (n, ls, st, h) (n, ls.map (ev_dL xs), st.map (ev_dV xs), ph) := ⟨rfl, rfl, rfl, hl, hH⟩
theorem ev_push_inv {n t p : Nat} {ls st : List ev_V} {h : ev_H} {s' : ev_S} (hs : ev_push n t p cE E ls st h = some (.inl s')) : s' = (n, ls, (t, p) :: st, h) := by
  unfold ev_push at hs
  rw [ev_fK_eq] at hs
  exact ev_go_inv hs
theorem ev_pushV_inv {n : Nat} {ls st : List ev_V} {h : ev_H} {s' : ev_S} (hs : ev_pushV n v cE E ls st h = some (.inl s')) : ∃ u, s' = (n, ls, u :: st, h) ∧ ev_dV xs u = v := by
  unfold ev_pushV at hs
  split at hs
  · exact ⟨_, ev_push_inv hs, by rw [ev_dV0, ev_ci_eq]⟩
  · exact ⟨_, ev_push_inv hs, by rw [ev_dV1, ev_cl_eq]⟩
  · exact ⟨_, ev_push_inv hs, ev_dV6⟩
  · exact ⟨_, ev_push_inv hs, ev_dVn⟩
  · cases hs
theorem ev_t_aconst_null : ev_SI L xs E cE cP o ini ret nL pc .aconst_null len a b v (ev_push (Nat.add pc 1) 10 0) := by
  intro ls st h ph s' hl hH hs
  obtain rfl := ev_push_inv hs
  refine ⟨(pc + 1, ls.map (ev_dL xs), .null :: st.map (ev_dV xs), ph), rfl, rfl, rfl, ?_, hl, hH⟩
  show _ = ev_dV xs (10, 0) :: st.map (ev_dV xs)
  rw [ev_dVn]
theorem ev_t_iconst {n : Int} : ev_SI L xs E cE cP o ini ret nL pc (.iconst n) len a b v (ev_push (Nat.add pc 1) 0 (ev_ci (Int32.ofInt n))) := by
  intro ls st h ph s' hl hH hs
  obtain rfl := ev_push_inv hs
  refine ⟨(pc + 1, ls.map (ev_dL xs), .int (Int32.ofInt n) :: st.map (ev_dV xs), ph), rfl, rfl, rfl, ?_, hl, hH⟩
  show _ = ev_dV xs (0, (ev_ci (Int32.ofInt n))) :: st.map (ev_dV xs)
  rw [ev_dV0, ev_ci_eq]
theorem ev_t_lconst {n : Fin 2} : ev_SI L xs E cE cP o ini ret nL pc (.lconst n) len a b v (ev_push (Nat.add pc 1) 1 (ev_cl (Int64.ofNat n.val))) := by
  intro ls st h ph s' hl hH hs
  obtain rfl := ev_push_inv hs
  refine ⟨(pc + 1, ls.map (ev_dL xs), .long (Int64.ofNat n.val) :: st.map (ev_dV xs), ph), rfl, rfl, rfl, ?_, hl, hH⟩
  show _ = ev_dV xs (1, (ev_cl (Int64.ofNat n.val))) :: st.map (ev_dV xs)
  rw [ev_dV1, ev_cl_eq]
theorem ev_t_bipush {n : Int} : ev_SI L xs E cE cP o ini ret nL pc (.bipush n) len a b v (ev_push (Nat.add pc 2) 0 (ev_ci (Int8.ofInt n).toInt32)) := by
  intro ls st h ph s' hl hH hs
  obtain rfl := ev_push_inv hs
  refine ⟨(pc + 2, ls.map (ev_dL xs), .int (Int8.ofInt n).toInt32 :: st.map (ev_dV xs), ph), rfl, rfl, rfl, ?_, hl, hH⟩
  show _ = ev_dV xs (0, (ev_ci (Int8.ofInt n).toInt32)) :: st.map (ev_dV xs)
  rw [ev_dV0, ev_ci_eq]
theorem ev_t_sipush {n : Int} : ev_SI L xs E cE cP o ini ret nL pc (.sipush n) len a b v (ev_push (Nat.add pc 3) 0 (ev_ci (Int16.ofInt n).toInt32)) := by
  intro ls st h ph s' hl hH hs
  obtain rfl := ev_push_inv hs
  refine ⟨(pc + 3, ls.map (ev_dL xs), .int (Int16.ofInt n).toInt32 :: st.map (ev_dV xs), ph), rfl, rfl, rfl, ?_, hl, hH⟩
  show _ = ev_dV xs (0, (ev_ci (Int16.ofInt n).toInt32)) :: st.map (ev_dV xs)
  rw [ev_dV0, ev_ci_eq]
theorem ev_t_ldc {ix : Nat} (ha : (a == 0 || a == 2) = true) : ev_SI L xs E cE cP o ini ret nL pc (.ldc ix) len a b v (ev_pushV (Nat.add pc 2) v) := by
  intro ls st h ph s' hl hH hs
  obtain ⟨u, rfl, hu⟩ := ev_pushV_inv (xs := xs) hs
  have e : pm_step (pm_sX L xs) cP o ini ret pc (ls.map (ev_dL xs)) (st.map (ev_dV xs)) ph (.ldc ix) len a b v = bif a == 0 || a == 2 then pm_go (pc + 2) (ls.map (ev_dL xs)) (v :: st.map (ev_dV xs)) ph else none := rfl
  rw [ha] at e
  refine ⟨_, e, rfl, rfl, ?_, hl, hH⟩
  show v :: _ = ev_dV xs u :: st.map (ev_dV xs)
  rw [hu]
theorem ev_t_ldc_w {ix : Nat} (ha : (a == 0) = true) : ev_SI L xs E cE cP o ini ret nL pc (.ldc_w ix) len a b v (ev_pushV (Nat.add pc 3) v) := by
  intro ls st h ph s' hl hH hs
  obtain ⟨u, rfl, hu⟩ := ev_pushV_inv (xs := xs) hs
  have e : pm_step (pm_sX L xs) cP o ini ret pc (ls.map (ev_dL xs)) (st.map (ev_dV xs)) ph (.ldc_w ix) len a b v = bif a == 0 then pm_go (pc + 3) (ls.map (ev_dL xs)) (v :: st.map (ev_dV xs)) ph else none := rfl
  rw [ha] at e
  refine ⟨_, e, rfl, rfl, ?_, hl, hH⟩
  show v :: _ = ev_dV xs u :: st.map (ev_dV xs)
  rw [hu]
theorem ev_t_ldc2_w {ix : Nat} (ha : (a == 1) = true) : ev_SI L xs E cE cP o ini ret nL pc (.ldc2_w ix) len a b v (ev_pushV (Nat.add pc 3) v) := by
  intro ls st h ph s' hl hH hs
  obtain ⟨u, rfl, hu⟩ := ev_pushV_inv (xs := xs) hs
  have e : pm_step (pm_sX L xs) cP o ini ret pc (ls.map (ev_dL xs)) (st.map (ev_dV xs)) ph (.ldc2_w ix) len a b v = bif a == 1 then pm_go (pc + 3) (ls.map (ev_dL xs)) (v :: st.map (ev_dV xs)) ph else none := rfl
  rw [ha] at e
  refine ⟨_, e, rfl, rfl, ?_, hl, hH⟩
  show v :: _ = ev_dV xs u :: st.map (ev_dV xs)
  rw [hu]
theorem ev_t_getstatic {ix : Nat} : ev_SI L xs E cE cP o ini ret nL pc (.getstatic ix) len a b v (ev_pushV (Nat.add pc 3) v) := by
  intro ls st h ph s' hl hH hs
  obtain ⟨u, rfl, hu⟩ := ev_pushV_inv (xs := xs) hs
  have e : pm_step (pm_sX L xs) cP o ini ret pc (ls.map (ev_dL xs)) (st.map (ev_dV xs)) ph (.getstatic ix) len a b v = pm_go (pc + 3) (ls.map (ev_dL xs)) (v :: st.map (ev_dV xs)) ph := rfl
  refine ⟨_, e, rfl, rfl, ?_, hl, hH⟩
  show v :: _ = ev_dV xs u :: st.map (ev_dV xs)
  rw [hu]
theorem ev_load_inv {n k κ : Nat} {ls st : List ev_V} {h : ev_H} {s' : ev_S} (hs : ev_load n k κ cE E ls st h = some (.inl s')) : (ls.getD k (3, 0)).1 % 4 = κ ∧ s' = (n, ls, ls.getD k (3, 0) :: st, h) := by
  have e : ev_load n k κ cE E ls st h = cond (Nat.beq ((ev_nth (3, 0) ls k).1 % 4) κ) (ev_go n ls (((ev_nth (3, 0) ls k).1, (ev_nth (3, 0) ls k).2) :: st) h) none := rfl
  rw [e, ev_nth_eq] at hs
  obtain ⟨h1, h2⟩ := ev_c hs
  exact ⟨ev_be h1, ev_go_inv h2⟩
theorem ev_t_iload {k : Nat} : ev_SI L xs E cE cP o ini ret nL pc (.iload k) len a b v (ev_load (Nat.add pc 2) k 0) := by
  intro ls st h ph s' hl hH hs
  obtain ⟨hk, rfl⟩ := ev_load_inv hs
  generalize hw : ls.getD k (3, 0) = w at hk
  refine ⟨(pc + 2, ls.map (ev_dL xs), ev_dV xs w :: st.map (ev_dV xs), ph), ?_, rfl, rfl, rfl, hl, hH⟩
  show pm_ldi (pc + 2) (ls.map (ev_dL xs)) (st.map (ev_dV xs)) ph k = _
  unfold pm_ldi
  rw [ev_ld, hw, ev_dLs (by omega)]
  obtain ⟨t, p⟩ := w
  have hk : t % 4 = 0 := hk
  · rw [ev_dVi hk]
    rfl
theorem ev_t_iload_n {k : Fin 4} : ev_SI L xs E cE cP o ini ret nL pc (.iload_n k) len a b v (ev_load (Nat.add pc 1) k.val 0) := by
  intro ls st h ph s' hl hH hs
  obtain ⟨hk, rfl⟩ := ev_load_inv hs
  generalize hw : ls.getD k.val (3, 0) = w at hk
  refine ⟨(pc + 1, ls.map (ev_dL xs), ev_dV xs w :: st.map (ev_dV xs), ph), ?_, rfl, rfl, rfl, hl, hH⟩
  show pm_ldi (pc + 1) (ls.map (ev_dL xs)) (st.map (ev_dV xs)) ph k.val = _
  unfold pm_ldi
  rw [ev_ld, hw, ev_dLs (by omega)]
  obtain ⟨t, p⟩ := w
  have hk : t % 4 = 0 := hk
  · rw [ev_dVi hk]
    rfl
theorem ev_t_lload {k : Nat} : ev_SI L xs E cE cP o ini ret nL pc (.lload k) len a b v (ev_load (Nat.add pc 2) k 1) := by
  intro ls st h ph s' hl hH hs
  obtain ⟨hk, rfl⟩ := ev_load_inv hs
  generalize hw : ls.getD k (3, 0) = w at hk
  refine ⟨(pc + 2, ls.map (ev_dL xs), ev_dV xs w :: st.map (ev_dV xs), ph), ?_, rfl, rfl, rfl, hl, hH⟩
  show pm_ldl (pc + 2) (ls.map (ev_dL xs)) (st.map (ev_dV xs)) ph k = _
  unfold pm_ldl
  rw [ev_ld, hw, ev_dLs (by omega)]
  obtain ⟨t, p⟩ := w
  have hk : t % 4 = 1 := hk
  · rw [ev_dVl hk]
    rfl
theorem ev_t_lload_n {k : Fin 4} : ev_SI L xs E cE cP o ini ret nL pc (.lload_n k) len a b v (ev_load (Nat.add pc 1) k.val 1) := by
  intro ls st h ph s' hl hH hs
  obtain ⟨hk, rfl⟩ := ev_load_inv hs
  generalize hw : ls.getD k.val (3, 0) = w at hk
  refine ⟨(pc + 1, ls.map (ev_dL xs), ev_dV xs w :: st.map (ev_dV xs), ph), ?_, rfl, rfl, rfl, hl, hH⟩
  show pm_ldl (pc + 1) (ls.map (ev_dL xs)) (st.map (ev_dV xs)) ph k.val = _
  unfold pm_ldl
  rw [ev_ld, hw, ev_dLs (by omega)]
  obtain ⟨t, p⟩ := w
  have hk : t % 4 = 1 := hk
  · rw [ev_dVl hk]
    rfl
theorem ev_t_aload {k : Nat} : ev_SI L xs E cE cP o ini ret nL pc (.aload k) len a b v (ev_load (Nat.add pc 2) k 2) := by
  intro ls st h ph s' hl hH hs
  obtain ⟨hk, rfl⟩ := ev_load_inv hs
  generalize hw : ls.getD k (3, 0) = w at hk
  refine ⟨(pc + 2, ls.map (ev_dL xs), ev_dV xs w :: st.map (ev_dV xs), ph), ?_, rfl, rfl, rfl, hl, hH⟩
  show pm_lda (pc + 2) (ls.map (ev_dL xs)) (st.map (ev_dV xs)) ph k = _
  unfold pm_lda
  rw [ev_ld, hw, ev_dLs (by omega)]
  obtain ⟨t, p⟩ := w
  have hk : t % 4 = 2 := hk
  · show (bif pm_isR (ev_dV xs (t, p)) then _ else none) = _
    rw [ev_dVr hk]
    rfl
theorem ev_t_aload_n {k : Fin 4} : ev_SI L xs E cE cP o ini ret nL pc (.aload_n k) len a b v (ev_load (Nat.add pc 1) k.val 2) := by
  intro ls st h ph s' hl hH hs
  obtain ⟨hk, rfl⟩ := ev_load_inv hs
  generalize hw : ls.getD k.val (3, 0) = w at hk
  refine ⟨(pc + 1, ls.map (ev_dL xs), ev_dV xs w :: st.map (ev_dV xs), ph), ?_, rfl, rfl, rfl, hl, hH⟩
  show pm_lda (pc + 1) (ls.map (ev_dL xs)) (st.map (ev_dV xs)) ph k.val = _
  unfold pm_lda
  rw [ev_ld, hw, ev_dLs (by omega)]
  obtain ⟨t, p⟩ := w
  have hk : t % 4 = 2 := hk
  · show (bif pm_isR (ev_dV xs (t, p)) then _ else none) = _
    rw [ev_dVr hk]
    rfl
theorem ev_st_inv {n k κ : Nat} {ls st : List ev_V} {h : ev_H} {s' : ev_S} (hs : ev_st n k κ cE E ls st h = some (.inl s')) : ∃ w r, st = w :: r ∧ w.1 % 4 = κ ∧ s' = (n, (ev_clr ls k).set k w, r, h) := by
  unfold ev_st at hs
  split at hs
  · next t p r =>
    obtain ⟨h1, h2⟩ := ev_c hs
    rw [ev_clrK_eq, ev_setK_eq] at h2
    exact ⟨(t, p), r, rfl, ev_be h1, ev_go_inv h2⟩
  · cases hs
theorem ev_stl_inv {n k : Nat} {ls st : List ev_V} {h : ev_H} {s' : ev_S} (hs : ev_stl n k cE E ls st h = some (.inl s')) : ∃ w r, st = w :: r ∧ w.1 % 4 = 1 ∧ s' = (n, ((ev_clr ls k).set k w).set (k + 1) (3, 0), r, h) := by
  unfold ev_stl at hs
  split at hs
  · next t p r =>
    obtain ⟨h1, h2⟩ := ev_c hs
    rw [ev_clrK_eq, ev_setK_eq, ev_setK_eq] at h2
    exact ⟨(t, p), r, rfl, ev_be h1, ev_go_inv h2⟩
  · cases hs
theorem ev_t_istore {k : Nat} (hk : k < nL) : ev_SI L xs E cE cP o ini ret nL pc (.istore k) len a b v (ev_st (Nat.add pc 2) k 0) := by
  intro ls st h ph s' hl hH hs
  obtain ⟨⟨t, p⟩, r, rfl, hw, rfl⟩ := ev_st_inv hs
  have hw : t % 4 = 0 := hw
  have hk2 : k < (ls.map (ev_dL xs)).length := by rw [List.length_map, hl]; exact hk
  have e : pm_sti (pc + 2) (ls.map (ev_dL xs)) (ev_dV xs (t, p) :: r.map (ev_dV xs)) ph k = pm_go (pc + 2) (pm_st1 (ls.map (ev_dL xs)) k (ev_dV xs (t, p))) (r.map (ev_dV xs)) ph := by
    rw [ev_dVi hw]
    show (bif decide (k < (ls.map (ev_dL xs)).length) then _ else none) = _
    rw [decide_eq_true hk2]
    rfl
  rw [ev_st1_map (by show t % 4 ≠ 3; omega)] at e
  exact ⟨_, e, ev_mk (by rw [List.length_set, ev_clr_len]; exact hl) hH⟩
theorem ev_t_istore_n {k : Fin 4} (hk : k.val < nL) : ev_SI L xs E cE cP o ini ret nL pc (.istore_n k) len a b v (ev_st (Nat.add pc 1) k.val 0) := by
  intro ls st h ph s' hl hH hs
  obtain ⟨⟨t, p⟩, r, rfl, hw, rfl⟩ := ev_st_inv hs
  have hw : t % 4 = 0 := hw
  have hk2 : k.val < (ls.map (ev_dL xs)).length := by rw [List.length_map, hl]; exact hk
  have e : pm_sti (pc + 1) (ls.map (ev_dL xs)) (ev_dV xs (t, p) :: r.map (ev_dV xs)) ph k.val = pm_go (pc + 1) (pm_st1 (ls.map (ev_dL xs)) k.val (ev_dV xs (t, p))) (r.map (ev_dV xs)) ph := by
    rw [ev_dVi hw]
    show (bif decide (k.val < (ls.map (ev_dL xs)).length) then _ else none) = _
    rw [decide_eq_true hk2]
    rfl
  rw [ev_st1_map (by show t % 4 ≠ 3; omega)] at e
  exact ⟨_, e, ev_mk (by rw [List.length_set, ev_clr_len]; exact hl) hH⟩
theorem ev_t_astore {k : Nat} (hk : k < nL) : ev_SI L xs E cE cP o ini ret nL pc (.astore k) len a b v (ev_st (Nat.add pc 2) k 2) := by
  intro ls st h ph s' hl hH hs
  obtain ⟨⟨t, p⟩, r, rfl, hw, rfl⟩ := ev_st_inv hs
  have hw : t % 4 = 2 := hw
  have hk2 : k < (ls.map (ev_dL xs)).length := by rw [List.length_map, hl]; exact hk
  have e : pm_sta (pc + 2) (ls.map (ev_dL xs)) (ev_dV xs (t, p) :: r.map (ev_dV xs)) ph k = pm_go (pc + 2) (pm_st1 (ls.map (ev_dL xs)) k (ev_dV xs (t, p))) (r.map (ev_dV xs)) ph := by
    show (bif pm_isR (ev_dV xs (t, p)) && decide (k < (ls.map (ev_dL xs)).length) then _ else none) = _
    rw [decide_eq_true hk2, ev_dVr hw]
    rfl
  rw [ev_st1_map (by show t % 4 ≠ 3; omega)] at e
  exact ⟨_, e, ev_mk (by rw [List.length_set, ev_clr_len]; exact hl) hH⟩
theorem ev_t_astore_n {k : Fin 4} (hk : k.val < nL) : ev_SI L xs E cE cP o ini ret nL pc (.astore_n k) len a b v (ev_st (Nat.add pc 1) k.val 2) := by
  intro ls st h ph s' hl hH hs
  obtain ⟨⟨t, p⟩, r, rfl, hw, rfl⟩ := ev_st_inv hs
  have hw : t % 4 = 2 := hw
  have hk2 : k.val < (ls.map (ev_dL xs)).length := by rw [List.length_map, hl]; exact hk
  have e : pm_sta (pc + 1) (ls.map (ev_dL xs)) (ev_dV xs (t, p) :: r.map (ev_dV xs)) ph k.val = pm_go (pc + 1) (pm_st1 (ls.map (ev_dL xs)) k.val (ev_dV xs (t, p))) (r.map (ev_dV xs)) ph := by
    show (bif pm_isR (ev_dV xs (t, p)) && decide (k.val < (ls.map (ev_dL xs)).length) then _ else none) = _
    rw [decide_eq_true hk2, ev_dVr hw]
    rfl
  rw [ev_st1_map (by show t % 4 ≠ 3; omega)] at e
  exact ⟨_, e, ev_mk (by rw [List.length_set, ev_clr_len]; exact hl) hH⟩
theorem ev_t_lstore {k : Nat} (hk : k + 1 < nL) : ev_SI L xs E cE cP o ini ret nL pc (.lstore k) len a b v (ev_stl (Nat.add pc 2) k) := by
  intro ls st h ph s' hl hH hs
  obtain ⟨⟨t, p⟩, r, rfl, hw, rfl⟩ := ev_stl_inv hs
  have hw : t % 4 = 1 := hw
  have hk2 : k + 1 < (ls.map (ev_dL xs)).length := by rw [List.length_map, hl]; exact hk
  have e : pm_stl (pc + 2) (ls.map (ev_dL xs)) (ev_dV xs (t, p) :: r.map (ev_dV xs)) ph k = pm_go (pc + 2) (pm_st2 (ls.map (ev_dL xs)) k (ev_dV xs (t, p))) (r.map (ev_dV xs)) ph := by
    rw [ev_dVl hw]
    show (bif decide (k + 1 < (ls.map (ev_dL xs)).length) then _ else none) = _
    rw [decide_eq_true hk2]
    rfl
  have e2 : pm_st2 (ls.map (ev_dL xs)) k (ev_dV xs (t, p)) = (((ev_clr ls k).set k (t, p)).set (k + 1) (3, 0)).map (ev_dL xs) := by
    unfold pm_st2
    rw [ev_clr_map, List.map_set, List.map_set, ev_dLs (w := (t, p)) (by show t % 4 ≠ 3; omega)]
    rfl
  rw [e2] at e
  exact ⟨_, e, ev_mk (by rw [List.length_set, List.length_set, ev_clr_len]; exact hl) hH⟩
theorem ev_t_lstore_n {k : Fin 4} (hk : k.val + 1 < nL) : ev_SI L xs E cE cP o ini ret nL pc (.lstore_n k) len a b v (ev_stl (Nat.add pc 1) k.val) := by
  intro ls st h ph s' hl hH hs
  obtain ⟨⟨t, p⟩, r, rfl, hw, rfl⟩ := ev_stl_inv hs
  have hw : t % 4 = 1 := hw
  have hk2 : k.val + 1 < (ls.map (ev_dL xs)).length := by rw [List.length_map, hl]; exact hk
  have e : pm_stl (pc + 1) (ls.map (ev_dL xs)) (ev_dV xs (t, p) :: r.map (ev_dV xs)) ph k.val = pm_go (pc + 1) (pm_st2 (ls.map (ev_dL xs)) k.val (ev_dV xs (t, p))) (r.map (ev_dV xs)) ph := by
    rw [ev_dVl hw]
    show (bif decide (k.val + 1 < (ls.map (ev_dL xs)).length) then _ else none) = _
    rw [decide_eq_true hk2]
    rfl
  have e2 : pm_st2 (ls.map (ev_dL xs)) k.val (ev_dV xs (t, p)) = (((ev_clr ls k.val).set k.val (t, p)).set (k.val + 1) (3, 0)).map (ev_dL xs) := by
    unfold pm_st2
    rw [ev_clr_map, List.map_set, List.map_set, ev_dLs (w := (t, p)) (by show t % 4 ≠ 3; omega)]
    rfl
  rw [e2] at e
  exact ⟨_, e, ev_mk (by rw [List.length_set, List.length_set, ev_clr_len]; exact hl) hH⟩
theorem ev_t_iinc {k : Nat} {n : Int} (hk : k < nL) : ev_SI L xs E cE cP o ini ret nL pc (.iinc k n) len a b v (ev_inc (Nat.add pc 3) k (ev_ci (Int32.ofInt n))) := by
  intro ls st h ph s' hl hH hs
  have e : ev_inc (Nat.add pc 3) k (ev_ci (Int32.ofInt n)) cE E ls st h = cond (Nat.beq (ev_nth (3, 0) ls k).1 0) (ev_fK (ev_add (ev_nth (3, 0) ls k).2 (ev_ci (Int32.ofInt n))) (fun z => ev_clrK ls k (fun l1 => ev_setK l1 k (0, z) (fun l2 => ev_go (Nat.add pc 3) l2 st h)))) none := rfl
  rw [e, ev_nth_eq, ev_fK_eq, ev_clrK_eq, ev_setK_eq] at hs
  obtain ⟨h1, h2⟩ := ev_c hs
  obtain rfl := ev_go_inv h2
  have h1 := ev_be h1
  generalize hw : ls.getD k (3, 0) = w at h1
  obtain ⟨t, p⟩ := w
  have h1 : t = 0 := h1
  subst h1
  have e2 : pm_step (pm_sX L xs) cP o ini ret pc (ls.map (ev_dL xs)) (st.map (ev_dV xs)) ph (.iinc k n) len a b v = pm_go (pc + 3) (pm_st1 (ls.map (ev_dL xs)) k (.int (Int32.ofNat p + Int32.ofInt n))) (st.map (ev_dV xs)) ph := by
    show (match pm_ld (ls.map (ev_dL xs)) k with
      | some (.int x) => pm_go (pc + 3) (pm_st1 (ls.map (ev_dL xs)) k (.int (x + Int32.ofInt n))) (st.map (ev_dV xs)) ph
      | _ => none) = _
    rw [ev_ld, hw]
    rfl
  have e3 : Value.int (Int32.ofNat p + Int32.ofInt n) = ev_dV xs (0, ev_add p (ev_ci (Int32.ofInt n))) := by
    rw [ev_dV0, ev_add_eq, ev_ci_eq]
  rw [e3, ev_st1_map (show 0 % 4 ≠ 3 by decide)] at e2
  exact ⟨_, e2, ev_mk (by rw [List.length_set, ev_clr_len]; exact hl) hH⟩
theorem ev_t_pop : ev_SI L xs E cE cP o ini ret nL pc .pop len a b v (ev_pop (Nat.add pc 1)) := by
  intro ls st h ph s' hl hH hs
  unfold ev_pop at hs
  split at hs
  · next t p r =>
    obtain ⟨h1, h2⟩ := ev_c hs
    obtain rfl := ev_go_inv h2
    have e : pm_step (pm_sX L xs) cP o ini ret pc (ls.map (ev_dL xs)) (((t, p) :: r).map (ev_dV xs)) ph .pop len a b v = (bif pm_cat1 (ev_dV xs (t, p)) then pm_go (pc + 1) (ls.map (ev_dL xs)) (r.map (ev_dV xs)) ph else none) := rfl
    rw [ev_dVc (ev_be h1)] at e
    exact ⟨_, e, ev_mk hl hH⟩
  · cases hs
theorem ev_t_dup : ev_SI L xs E cE cP o ini ret nL pc .dup len a b v (ev_dup (Nat.add pc 1)) := by
  intro ls st h ph s' hl hH hs
  unfold ev_dup at hs
  split at hs
  · next t p r =>
    obtain ⟨h1, h2⟩ := ev_c hs
    obtain rfl := ev_go_inv h2
    have e : pm_step (pm_sX L xs) cP o ini ret pc (ls.map (ev_dL xs)) (((t, p) :: r).map (ev_dV xs)) ph .dup len a b v = (bif pm_cat1 (ev_dV xs (t, p)) then pm_go (pc + 1) (ls.map (ev_dL xs)) (((t, p) :: (t, p) :: r).map (ev_dV xs)) ph else none) := rfl
    rw [ev_dVc (ev_be h1)] at e
    exact ⟨_, e, ev_mk hl hH⟩
  · cases hs
theorem ev_t_dup2 : ev_SI L xs E cE cP o ini ret nL pc .dup2 len a b v (ev_dup2 (Nat.add pc 1)) := by
  intro ls st h ph s' hl hH hs
  unfold ev_dup2 at hs
  split at hs
  · next t p u q r =>
    obtain ⟨h1, h2⟩ := ev_c hs
    obtain ⟨h3, h4⟩ := ev_c h2
    obtain rfl := ev_go_inv h4
    have e : pm_step (pm_sX L xs) cP o ini ret pc (ls.map (ev_dL xs)) (((t, p) :: (u, q) :: r).map (ev_dV xs)) ph .dup2 len a b v = (bif pm_cat1 (ev_dV xs (t, p)) && pm_cat1 (ev_dV xs (u, q)) then pm_go (pc + 1) (ls.map (ev_dL xs)) (((t, p) :: (u, q) :: (t, p) :: (u, q) :: r).map (ev_dV xs)) ph else none) := rfl
    rw [ev_dVc (ev_be h1), ev_dVc (ev_be h3)] at e
    exact ⟨_, e, ev_mk hl hH⟩
  · cases hs
theorem ev_i2_inv {n : Nat} {f : Nat → Nat → Nat} {ls st : List ev_V} {h : ev_H} {s' : ev_S} (hs : ev_i2 n f cE E ls st h = some (.inl s')) : ∃ x y r, st = (0, y) :: (0, x) :: r ∧ s' = (n, ls, (0, f x y) :: r, h) := by
  unfold ev_i2 at hs
  split at hs
  · next ty y tx x r =>
    obtain ⟨h1, h2⟩ := ev_c hs
    obtain ⟨h3, h4⟩ := ev_c h2
    rw [ev_fK_eq] at h4
    obtain rfl := ev_be h1
    obtain rfl := ev_be h3
    exact ⟨x, y, r, rfl, ev_go_inv h4⟩
  · cases hs
theorem ev_l2_inv {n : Nat} {f : Nat → Nat → Nat} {ls st : List ev_V} {h : ev_H} {s' : ev_S} (hs : ev_l2 n f cE E ls st h = some (.inl s')) : ∃ x y r, st = (1, y) :: (1, x) :: r ∧ s' = (n, ls, (1, f x y) :: r, h) := by
  unfold ev_l2 at hs
  split at hs
  · next ty y tx x r =>
    obtain ⟨h1, h2⟩ := ev_c hs
    obtain ⟨h3, h4⟩ := ev_c h2
    rw [ev_fK_eq] at h4
    obtain rfl := ev_be h1
    obtain rfl := ev_be h3
    exact ⟨x, y, r, rfl, ev_go_inv h4⟩
  · cases hs
theorem ev_t_iadd : ev_SI L xs E cE cP o ini ret nL pc .iadd len a b v (ev_i2 (Nat.add pc 1) ev_add) := by
  intro ls st h ph s' hl hH hs
  obtain ⟨x, y, r, rfl, rfl⟩ := ev_i2_inv hs
  refine ⟨(pc + 1, ls.map (ev_dL xs), .int ((fun x y : Int32 => x + y) (Int32.ofNat x) (Int32.ofNat y)) :: r.map (ev_dV xs), ph), rfl, rfl, rfl, ?_, hl, hH⟩
  show _ = ev_dV xs (0, ev_add x y) :: r.map (ev_dV xs)
  rw [ev_dV0, ev_add_eq]
theorem ev_t_isub : ev_SI L xs E cE cP o ini ret nL pc .isub len a b v (ev_i2 (Nat.add pc 1) ev_sub) := by
  intro ls st h ph s' hl hH hs
  obtain ⟨x, y, r, rfl, rfl⟩ := ev_i2_inv hs
  refine ⟨(pc + 1, ls.map (ev_dL xs), .int ((fun x y : Int32 => x - y) (Int32.ofNat x) (Int32.ofNat y)) :: r.map (ev_dV xs), ph), rfl, rfl, rfl, ?_, hl, hH⟩
  show _ = ev_dV xs (0, ev_sub x y) :: r.map (ev_dV xs)
  rw [ev_dV0, ev_sub_eq]
theorem ev_t_imul : ev_SI L xs E cE cP o ini ret nL pc .imul len a b v (ev_i2 (Nat.add pc 1) ev_mul) := by
  intro ls st h ph s' hl hH hs
  obtain ⟨x, y, r, rfl, rfl⟩ := ev_i2_inv hs
  refine ⟨(pc + 1, ls.map (ev_dL xs), .int ((fun x y : Int32 => x * y) (Int32.ofNat x) (Int32.ofNat y)) :: r.map (ev_dV xs), ph), rfl, rfl, rfl, ?_, hl, hH⟩
  show _ = ev_dV xs (0, ev_mul x y) :: r.map (ev_dV xs)
  rw [ev_dV0, ev_mul_eq]
theorem ev_t_ior : ev_SI L xs E cE cP o ini ret nL pc .ior len a b v (ev_i2 (Nat.add pc 1) Nat.lor) := by
  intro ls st h ph s' hl hH hs
  obtain ⟨x, y, r, rfl, rfl⟩ := ev_i2_inv hs
  refine ⟨(pc + 1, ls.map (ev_dL xs), .int ((fun x y : Int32 => x ||| y) (Int32.ofNat x) (Int32.ofNat y)) :: r.map (ev_dV xs), ph), rfl, rfl, rfl, ?_, hl, hH⟩
  show _ = ev_dV xs (0, Nat.lor x y) :: r.map (ev_dV xs)
  rw [ev_dV0, ev_lor_eq]
theorem ev_t_ixor : ev_SI L xs E cE cP o ini ret nL pc .ixor len a b v (ev_i2 (Nat.add pc 1) (ev_op (fun x y => x ^^^ y))) := by
  intro ls st h ph s' hl hH hs
  obtain ⟨x, y, r, rfl, rfl⟩ := ev_i2_inv hs
  refine ⟨(pc + 1, ls.map (ev_dL xs), .int ((fun x y : Int32 => x ^^^ y) (Int32.ofNat x) (Int32.ofNat y)) :: r.map (ev_dV xs), ph), rfl, rfl, rfl, ?_, hl, hH⟩
  show _ = ev_dV xs (0, (ev_op (fun x y => x ^^^ y)) x y) :: r.map (ev_dV xs)
  rw [ev_dV0, show Int32.ofNat ((ev_op (fun x y => x ^^^ y)) x y) = _ from ev_ci_eq _]
theorem ev_t_ishl : ev_SI L xs E cE cP o ini ret nL pc .ishl len a b v (ev_i2 (Nat.add pc 1) (ev_op (fun x y => x <<< (y &&& 31)))) := by
  intro ls st h ph s' hl hH hs
  obtain ⟨x, y, r, rfl, rfl⟩ := ev_i2_inv hs
  refine ⟨(pc + 1, ls.map (ev_dL xs), .int ((fun x y : Int32 => x <<< (y &&& 31)) (Int32.ofNat x) (Int32.ofNat y)) :: r.map (ev_dV xs), ph), rfl, rfl, rfl, ?_, hl, hH⟩
  show _ = ev_dV xs (0, (ev_op (fun x y => x <<< (y &&& 31))) x y) :: r.map (ev_dV xs)
  rw [ev_dV0, show Int32.ofNat ((ev_op (fun x y => x <<< (y &&& 31))) x y) = _ from ev_ci_eq _]
theorem ev_t_iushr : ev_SI L xs E cE cP o ini ret nL pc .iushr len a b v (ev_i2 (Nat.add pc 1) ev_ushr) := by
  intro ls st h ph s' hl hH hs
  obtain ⟨x, y, r, rfl, rfl⟩ := ev_i2_inv hs
  refine ⟨(pc + 1, ls.map (ev_dL xs), .int ((fun x y : Int32 => (x.toUInt32 >>> (y.toUInt32 &&& Int32.toUInt32 31)).toInt32) (Int32.ofNat x) (Int32.ofNat y)) :: r.map (ev_dV xs), ph), rfl, rfl, rfl, ?_, hl, hH⟩
  show _ = ev_dV xs (0, ev_ushr x y) :: r.map (ev_dV xs)
  rw [ev_dV0, ev_ushr_eq]
theorem ev_t_ladd : ev_SI L xs E cE cP o ini ret nL pc .ladd len a b v (ev_l2 (Nat.add pc 1) (ev_op8 (fun x y => x + y))) := by
  intro ls st h ph s' hl hH hs
  obtain ⟨x, y, r, rfl, rfl⟩ := ev_l2_inv hs
  refine ⟨(pc + 1, ls.map (ev_dL xs), .long ((fun x y => x + y) (Int64.ofNat x) (Int64.ofNat y)) :: r.map (ev_dV xs), ph), rfl, rfl, rfl, ?_, hl, hH⟩
  show _ = ev_dV xs (1, (ev_op8 (fun x y => x + y)) x y) :: r.map (ev_dV xs)
  rw [ev_dV1, show Int64.ofNat ((ev_op8 (fun x y => x + y)) x y) = _ from ev_cl_eq _]
theorem ev_t_lsub : ev_SI L xs E cE cP o ini ret nL pc .lsub len a b v (ev_l2 (Nat.add pc 1) (ev_op8 (fun x y => x - y))) := by
  intro ls st h ph s' hl hH hs
  obtain ⟨x, y, r, rfl, rfl⟩ := ev_l2_inv hs
  refine ⟨(pc + 1, ls.map (ev_dL xs), .long ((fun x y => x - y) (Int64.ofNat x) (Int64.ofNat y)) :: r.map (ev_dV xs), ph), rfl, rfl, rfl, ?_, hl, hH⟩
  show _ = ev_dV xs (1, (ev_op8 (fun x y => x - y)) x y) :: r.map (ev_dV xs)
  rw [ev_dV1, show Int64.ofNat ((ev_op8 (fun x y => x - y)) x y) = _ from ev_cl_eq _]
theorem ev_t_lmul : ev_SI L xs E cE cP o ini ret nL pc .lmul len a b v (ev_l2 (Nat.add pc 1) (ev_op8 (fun x y => x * y))) := by
  intro ls st h ph s' hl hH hs
  obtain ⟨x, y, r, rfl, rfl⟩ := ev_l2_inv hs
  refine ⟨(pc + 1, ls.map (ev_dL xs), .long ((fun x y => x * y) (Int64.ofNat x) (Int64.ofNat y)) :: r.map (ev_dV xs), ph), rfl, rfl, rfl, ?_, hl, hH⟩
  show _ = ev_dV xs (1, (ev_op8 (fun x y => x * y)) x y) :: r.map (ev_dV xs)
  rw [ev_dV1, show Int64.ofNat ((ev_op8 (fun x y => x * y)) x y) = _ from ev_cl_eq _]
theorem ev_t_idiv : ev_SI L xs E cE cP o ini ret nL pc .idiv len a b v (ev_d2 (Nat.add pc 1) (ev_op (fun x y => x / y))) := by
  intro ls st h ph s' hl hH hs
  unfold ev_d2 at hs
  split at hs
  · next ty y tx x r =>
    obtain ⟨h1, h2⟩ := ev_c hs
    obtain ⟨h3, h4⟩ := ev_c h2
    obtain rfl := ev_be h1
    obtain rfl := ev_be h3
    cases hy : Nat.beq (Nat.mod y 4294967296) 0 with
    | true => rw [hy] at h4; cases h4
    | false =>
      rw [hy] at h4
      replace h4 : ev_fK (ev_op (fun x y => x / y) x y) (fun z => ev_go (Nat.add pc 1) ls ((0, z) :: r) h) = some (.inl s') := h4
      rw [ev_fK_eq] at h4
      obtain rfl := ev_go_inv h4
      have hy0 : ¬ (Int32.ofNat y = 0) := by
        intro g
        have : (Int32.ofNat y).toInt = 0 := by rw [g]; rfl
        rw [ev_toI] at this
        have g2 : y % 4294967296 = 0 := by
          have : (((y + 2147483648) % 4294967296 : Nat) : Int) - 2147483648 = 0 := this
          omega
        have g3 : Nat.beq (Nat.mod y 4294967296) 0 = true := ev_bt g2
        rw [g3] at hy
        cases hy
      have e : pm_step (pm_sX L xs) cP o ini ret pc (ls.map (ev_dL xs)) (((0, y) :: (0, x) :: r).map (ev_dV xs)) ph .idiv len a b v = (bif decide (Int32.ofNat y = 0) then none else pm_go (pc + 1) (ls.map (ev_dL xs)) (.int ((fun x y : Int32 => x / y) (Int32.ofNat x) (Int32.ofNat y)) :: r.map (ev_dV xs)) ph) := rfl
      rw [decide_eq_false hy0] at e
      refine ⟨_, e, rfl, rfl, ?_, hl, hH⟩
      show _ = ev_dV xs (0, ev_op (fun x y => x / y) x y) :: r.map (ev_dV xs)
      rw [ev_dV0, show Int32.ofNat (ev_op (fun x y => x / y) x y) = _ from ev_ci_eq _]
  · cases hs
theorem ev_t_irem : ev_SI L xs E cE cP o ini ret nL pc .irem len a b v (ev_d2 (Nat.add pc 1) (ev_op (fun x y => x - x / y * y))) := by
  intro ls st h ph s' hl hH hs
  unfold ev_d2 at hs
  split at hs
  · next ty y tx x r =>
    obtain ⟨h1, h2⟩ := ev_c hs
    obtain ⟨h3, h4⟩ := ev_c h2
    obtain rfl := ev_be h1
    obtain rfl := ev_be h3
    cases hy : Nat.beq (Nat.mod y 4294967296) 0 with
    | true => rw [hy] at h4; cases h4
    | false =>
      rw [hy] at h4
      replace h4 : ev_fK (ev_op (fun x y => x - x / y * y) x y) (fun z => ev_go (Nat.add pc 1) ls ((0, z) :: r) h) = some (.inl s') := h4
      rw [ev_fK_eq] at h4
      obtain rfl := ev_go_inv h4
      have hy0 : ¬ (Int32.ofNat y = 0) := by
        intro g
        have : (Int32.ofNat y).toInt = 0 := by rw [g]; rfl
        rw [ev_toI] at this
        have g2 : y % 4294967296 = 0 := by
          have : (((y + 2147483648) % 4294967296 : Nat) : Int) - 2147483648 = 0 := this
          omega
        have g3 : Nat.beq (Nat.mod y 4294967296) 0 = true := ev_bt g2
        rw [g3] at hy
        cases hy
      have e : pm_step (pm_sX L xs) cP o ini ret pc (ls.map (ev_dL xs)) (((0, y) :: (0, x) :: r).map (ev_dV xs)) ph .irem len a b v = (bif decide (Int32.ofNat y = 0) then none else pm_go (pc + 1) (ls.map (ev_dL xs)) (.int ((fun x y : Int32 => x - x / y * y) (Int32.ofNat x) (Int32.ofNat y)) :: r.map (ev_dV xs)) ph) := rfl
      rw [decide_eq_false hy0] at e
      refine ⟨_, e, rfl, rfl, ?_, hl, hH⟩
      show _ = ev_dV xs (0, ev_op (fun x y => x - x / y * y) x y) :: r.map (ev_dV xs)
      rw [ev_dV0, show Int32.ofNat (ev_op (fun x y => x - x / y * y) x y) = _ from ev_ci_eq _]
  · cases hs
theorem ev_t_ineg : ev_SI L xs E cE cP o ini ret nL pc .ineg len a b v (ev_i1 (Nat.add pc 1) 0 (fun x => ev_ci (-(Int32.ofNat x)))) := by
  intro ls st h ph s' hl hH hs
  unfold ev_i1 at hs
  split at hs
  · next tx x r =>
    obtain ⟨h1, h2⟩ := ev_c hs
    rw [ev_fK_eq] at h2
    obtain rfl := ev_be h1
    obtain rfl := ev_go_inv h2
    refine ⟨(pc + 1, ls.map (ev_dL xs), .int (-(Int32.ofNat x)) :: r.map (ev_dV xs), ph), rfl, rfl, rfl, ?_, hl, hH⟩
    show _ = ev_dV xs (0, ev_ci (-(Int32.ofNat x))) :: r.map (ev_dV xs)
    rw [ev_dV0, ev_ci_eq]
  · cases hs
theorem ev_t_i2c : ev_SI L xs E cE cP o ini ret nL pc .i2c len a b v (ev_i1 (Nat.add pc 1) 0 (fun x => ev_ci ((Int32.ofNat x).toUInt32 % 65536).toInt32)) := by
  intro ls st h ph s' hl hH hs
  unfold ev_i1 at hs
  split at hs
  · next tx x r =>
    obtain ⟨h1, h2⟩ := ev_c hs
    rw [ev_fK_eq] at h2
    obtain rfl := ev_be h1
    obtain rfl := ev_go_inv h2
    refine ⟨(pc + 1, ls.map (ev_dL xs), .int (((Int32.ofNat x).toUInt32 % 65536).toInt32) :: r.map (ev_dV xs), ph), rfl, rfl, rfl, ?_, hl, hH⟩
    show _ = ev_dV xs (0, ev_ci (((Int32.ofNat x).toUInt32 % 65536).toInt32)) :: r.map (ev_dV xs)
    rw [ev_dV0, ev_ci_eq]
  · cases hs
theorem ev_t_l2i : ev_SI L xs E cE cP o ini ret nL pc .l2i len a b v (ev_l1 (Nat.add pc 1) (fun x => ev_ci (Int64.ofNat x).toInt32)) := by
  intro ls st h ph s' hl hH hs
  unfold ev_l1 at hs
  split at hs
  · next tx x r =>
    obtain ⟨h1, h2⟩ := ev_c hs
    rw [ev_fK_eq] at h2
    obtain rfl := ev_be h1
    obtain rfl := ev_go_inv h2
    refine ⟨(pc + 1, ls.map (ev_dL xs), .int (Int64.ofNat x).toInt32 :: r.map (ev_dV xs), ph), rfl, rfl, rfl, ?_, hl, hH⟩
    show _ = ev_dV xs (0, ev_ci (Int64.ofNat x).toInt32) :: r.map (ev_dV xs)
    rw [ev_dV0, ev_ci_eq]
  · cases hs
theorem ev_t_i2l : ev_SI L xs E cE cP o ini ret nL pc .i2l len a b v (ev_i2l (Nat.add pc 1)) := by
  intro ls st h ph s' hl hH hs
  unfold ev_i2l at hs
  split at hs
  · next tx x r =>
    cases h0 : Nat.beq tx 0 with
    | true =>
      rw [h0] at hs
      replace hs : ev_fK (ev_cl (Int32.ofNat x).toInt64) (fun z => ev_go (Nat.add pc 1) ls ((1, z) :: r) h) = some (.inl s') := hs
      rw [ev_fK_eq] at hs
      obtain rfl := ev_be h0
      obtain rfl := ev_go_inv hs
      refine ⟨(pc + 1, ls.map (ev_dL xs), .long (Int32.ofNat x).toInt64 :: r.map (ev_dV xs), ph), rfl, rfl, rfl, ?_, hl, hH⟩
      show _ = ev_dV xs (1, ev_cl (Int32.ofNat x).toInt64) :: r.map (ev_dV xs)
      rw [ev_dV1, ev_cl_eq]
    | false =>
      rw [h0] at hs
      obtain ⟨h1, h2⟩ := ev_c (show cond (Nat.beq tx 4) (ev_go (Nat.add pc 1) ls ((5, x) :: r) h) none = some (.inl s') from hs)
      obtain rfl := ev_be h1
      obtain rfl := ev_go_inv h2
      rw [List.map_cons, ev_dV4]
      refine ⟨(pc + 1, ls.map (ev_dL xs), .long (ev_dI xs x).toInt64 :: r.map (ev_dV xs), ph), rfl, rfl, rfl, ?_, hl, hH⟩
      show _ = ev_dV xs (5, x) :: r.map (ev_dV xs)
      rw [ev_dV5]
  · cases hs
theorem ev_dI_shr {x y : Nat} (hx : x < 8) (hy : y % 8 = 0) (hy2 : y ≤ 24) : ev_dI xs (8 + y + x) = xs x >>> (Int32.ofNat y &&& 31) := by
  unfold ev_dI
  rw [if_neg (by omega), if_pos (by omega), show (8 + y + x) % 8 = x by omega, show (8 + y + x - 8) / 8 * 8 = y by omega]
theorem ev_t_ishr : ev_SI L xs E cE cP o ini ret nL pc .ishr len a b v (ev_shr (Nat.add pc 1)) := by
  intro ls st h ph s' hl hH hs
  unfold ev_shr at hs
  split at hs
  · next ty y tx x r =>
    obtain ⟨h1, h2⟩ := ev_c hs
    obtain rfl := ev_be h1
    cases h0 : Nat.beq tx 0 with
    | true =>
      rw [h0] at h2
      replace h2 : ev_fK (ev_op (fun x y => x >>> (y &&& 31)) x y) (fun z => ev_go (Nat.add pc 1) ls ((0, z) :: r) h) = some (.inl s') := h2
      rw [ev_fK_eq] at h2
      obtain rfl := ev_be h0
      obtain rfl := ev_go_inv h2
      refine ⟨(pc + 1, ls.map (ev_dL xs), .int ((fun x y : Int32 => x >>> (y &&& 31)) (Int32.ofNat x) (Int32.ofNat y)) :: r.map (ev_dV xs), ph), rfl, rfl, rfl, ?_, hl, hH⟩
      show _ = ev_dV xs (0, ev_op (fun x y => x >>> (y &&& 31)) x y) :: r.map (ev_dV xs)
      rw [ev_dV0, show Int32.ofNat (ev_op (fun x y => x >>> (y &&& 31)) x y) = _ from ev_ci_eq _]
    | false =>
      rw [h0] at h2
      obtain ⟨g1, h3⟩ := ev_c (show cond (Nat.beq tx 4) _ none = some (.inl s') from h2)
      obtain ⟨g2, h4⟩ := ev_c h3
      obtain ⟨g3, h5⟩ := ev_c h4
      obtain ⟨g4, h6⟩ := ev_c h5
      rw [ev_fK_eq] at h6
      obtain rfl := ev_be g1
      obtain rfl := ev_go_inv h6
      have hx := ev_lt g2
      rw [List.map_cons, List.map_cons, ev_dV4]
      refine ⟨(pc + 1, ls.map (ev_dL xs), .int (ev_dI xs x >>> (Int32.ofNat y &&& 31)) :: r.map (ev_dV xs), ph), rfl, rfl, rfl, ?_, hl, hH⟩
      show _ = ev_dV xs (4, 8 + y + x) :: r.map (ev_dV xs)
      rw [ev_dV4, ev_dI_shr hx (ev_be g3) (ev_le g4)]
      have : ev_dI xs x = xs x := by unfold ev_dI; rw [if_pos hx]
      rw [this]
  · cases hs
theorem ev_t_iand (hE : ev_sat E L xs) : ev_SI L xs E cE cP o ini ret nL pc .iand len a b v (ev_and (Nat.add pc 1)) := by
  intro ls st h ph s' hl hH hs
  unfold ev_and at hs
  split at hs
  · next ty y tx x r =>
    obtain ⟨h1, h2⟩ := ev_c hs
    obtain rfl := ev_be h1
    cases h0 : Nat.beq tx 0 with
    | true =>
      rw [h0] at h2
      replace h2 : ev_fK (Nat.land x y) (fun z => ev_go (Nat.add pc 1) ls ((0, z) :: r) h) = some (.inl s') := h2
      rw [ev_fK_eq] at h2
      obtain rfl := ev_be h0
      obtain rfl := ev_go_inv h2
      refine ⟨(pc + 1, ls.map (ev_dL xs), .int ((fun x y => x &&& y) (Int32.ofNat x) (Int32.ofNat y)) :: r.map (ev_dV xs), ph), rfl, rfl, rfl, ?_, hl, hH⟩
      show _ = ev_dV xs (0, Nat.land x y) :: r.map (ev_dV xs)
      rw [ev_dV0, ev_land_eq]
    | false =>
      rw [h0] at h2
      obtain ⟨g1, h3⟩ := ev_c (show cond (Nat.beq tx 4) _ none = some (.inl s') from h2)
      obtain rfl := ev_be g1
      cases h5 : Nat.beq y 255 with
      | true =>
        rw [h5] at h3
        obtain ⟨g2, h4⟩ := ev_c (show cond (Nat.ble 8 x) _ none = some (.inl s') from h3)
        obtain ⟨g3, h6⟩ := ev_c h4
        rw [ev_fK_eq] at h6
        obtain rfl := ev_be h5
        obtain rfl := ev_go_inv h6
        have hx1 := ev_le g2
        have hx2 := ev_lt g3
        rw [List.map_cons, List.map_cons, ev_dV4]
        refine ⟨(pc + 1, ls.map (ev_dL xs), .int (ev_dI xs x &&& Int32.ofNat 255) :: r.map (ev_dV xs), ph), rfl, rfl, rfl, ?_, hl, hH⟩
        show _ = ev_dV xs (4, x + 32) :: r.map (ev_dV xs)
        rw [ev_dV4]
        unfold ev_dI
        rw [if_neg (show ¬ x < 8 by omega), if_pos hx2, if_neg (show ¬ x + 32 < 8 by omega), if_neg (show ¬ x + 32 < 40 by omega), show (x + 32) % 8 = x % 8 by omega, show x + 32 - 40 = x - 8 by omega]
        rfl
      | false =>
        rw [h5] at h3
        obtain ⟨g2, h4⟩ := ev_c (show cond (Nat.beq y 63) _ none = some (.inl s') from h3)
        obtain ⟨g3, h6⟩ := ev_c h4
        rw [ev_fK_eq] at h6
        obtain rfl := ev_be g2
        obtain rfl := ev_be g3
        obtain rfl := ev_go_inv h6
        rw [List.map_cons, List.map_cons, ev_dV4]
        refine ⟨(pc + 1, ls.map (ev_dL xs), .int (ev_dI xs 0 &&& Int32.ofNat 63) :: r.map (ev_dV xs), ph), rfl, rfl, rfl, ?_, hl, hH⟩
        show _ = ev_dV xs (0, E.2.1) :: r.map (ev_dV xs)
        rw [ev_dV0, ← hE.2.1]
        rfl
  · cases hs
end EVS
end
section
/-! what the evaluator does, the pure machine does: branches, fields, cells, arrays -/
section EVS2
variable {L : Nat} {xs : Nat → Int32} {E : ev_E} {cE : ev_Ca} {cP : Nat → List Value → pm_H → Option pm_R} {o : Nat} {ini : Bool} {ret : Option FieldType} {nL pc len a b : Nat} {v : Value}
theorem ev_bool {p : Prop} {c : Bool} (inst : Decidable p) (h : p ↔ c = true) : decide p = c := by
  cases c with
  | true => exact decide_eq_true (h.mpr rfl)
  | false => exact decide_eq_false (fun q => by cases h.mp q)
theorem ev_beq_iff {x y : Nat} : Nat.beq x y = true ↔ x = y := ⟨ev_be, ev_bt⟩
theorem ev_blt_iff {x y : Nat} : Nat.blt x y = true ↔ x < y := ⟨ev_lt, fun h => Nat.ble_eq_true_of_le h⟩
theorem ev_ble_iff {x y : Nat} : Nat.ble x y = true ↔ x ≤ y := ⟨ev_le, fun h => Nat.ble_eq_true_of_le h⟩
theorem ev_cmp_ok {u z : Int32} {A B : Nat} (hu : u.toInt = (A : Int) - 2147483648) (hz : z.toInt = (B : Int) - 2147483648) (c : ClassFile.Cond) : pm_cmp c u z = ev_cmp c A B := by
  have heq : u = z ↔ Nat.beq A B = true := by
    rw [ev_beq_iff, ← Int32.toInt_inj, hu, hz]
    omega
  cases c with
  | eq => exact ev_bool _ heq
  | ne =>
    show (!decide (u = z)) = (!Nat.beq A B)
    rw [ev_bool _ heq]
  | lt => exact ev_bool (c := Nat.blt A B) _ (by rw [ev_blt_iff, Int32.lt_iff_toInt_lt, hu, hz]; omega)
  | ge => exact ev_bool (c := Nat.ble B A) _ (by rw [ev_ble_iff, Int32.le_iff_toInt_le, hu, hz]; omega)
  | gt => exact ev_bool (c := Nat.blt B A) _ (by rw [ev_blt_iff, Int32.lt_iff_toInt_lt, hu, hz]; omega)
  | le => exact ev_bool (c := Nat.ble A B) _ (by rw [ev_ble_iff, Int32.le_iff_toInt_le, hu, hz]; omega)
theorem ev_cmp0 (c : ClassFile.Cond) (u : Int32) : pm_cmp0 c u = pm_cmp c u 0 := by cases c <;> rfl
theorem ev_cmpS_ok {lo hi A B : Nat} (h1 : lo ≤ A) (h2 : A ≤ hi) (c : ClassFile.Cond) : (ev_cmpS c lo hi B = 0 → ev_cmp c A B = false) ∧ (ev_cmpS c lo hi B = 1 → ev_cmp c A B = true) := by
  have hb : ∀ q : Bool, q = true ∨ q = false := fun q => by cases q <;> simp
  have nb : ∀ {x y : Nat}, x ≠ y → Nat.beq x y = false := fun h => ev_bf h
  have nl : ∀ {x y : Nat}, y ≤ x → Nat.blt x y = false := fun {x y} h => by
    rcases hb (Nat.blt x y) with q | q
    · have := ev_lt q; omega
    · exact q
  have ne : ∀ {x y : Nat}, y < x → Nat.ble x y = false := fun {x y} h => by
    rcases hb (Nat.ble x y) with q | q
    · have := ev_le q; omega
    · exact q
  unfold ev_cmpS ev_cmp
  cases c with
  | eq =>
    dsimp only
    rcases hb (Nat.blt hi B) with q | q <;> rcases hb (Nat.blt B lo) with q2 | q2 <;> rcases hb (Nat.beq lo hi) with q3 | q3 <;> rw [q, q2, q3] <;> refine ⟨fun g => ?_, fun g => ?_⟩ <;>
      first | (cases g; done) | (have := ev_lt q; exact nb (by omega)) | (have := ev_lt q2; exact nb (by omega)) | (have := ev_nlt q; have := ev_nlt q2; have := ev_be q3; exact ev_bt (by omega))
  | ne =>
    dsimp only
    rcases hb (Nat.blt hi B) with q | q <;> rcases hb (Nat.blt B lo) with q2 | q2 <;> rcases hb (Nat.beq lo hi) with q3 | q3 <;> rw [q, q2, q3] <;> refine ⟨fun g => ?_, fun g => ?_⟩ <;>
      first | (cases g; done) | (have := ev_lt q; rw [nb (show A ≠ B by omega)]; rfl) | (have := ev_lt q2; rw [nb (show A ≠ B by omega)]; rfl) | (have := ev_nlt q; have := ev_nlt q2; have := ev_be q3; rw [ev_bt (show A = B by omega)]; rfl)
  | lt =>
    dsimp only
    rcases hb (Nat.blt hi B) with q | q <;> rcases hb (Nat.ble B lo) with q2 | q2 <;> rw [q, q2] <;> refine ⟨fun g => ?_, fun g => ?_⟩ <;>
      first | (cases g; done) | (have := ev_lt q; exact ev_blt_iff.mpr (by omega)) | (have := ev_le q2; exact nl (by omega))
  | ge =>
    dsimp only
    rcases hb (Nat.blt hi B) with q | q <;> rcases hb (Nat.ble B lo) with q2 | q2 <;> rw [q, q2] <;> refine ⟨fun g => ?_, fun g => ?_⟩ <;>
      first | (cases g; done) | (have := ev_lt q; exact ne (by omega)) | (have := ev_le q2; exact ev_ble_iff.mpr (by omega))
  | gt =>
    dsimp only
    rcases hb (Nat.blt B lo) with q | q <;> rcases hb (Nat.ble hi B) with q2 | q2 <;> rw [q, q2] <;> refine ⟨fun g => ?_, fun g => ?_⟩ <;>
      first | (cases g; done) | (have := ev_lt q; exact ev_blt_iff.mpr (by omega)) | (have := ev_le q2; exact nl (by omega))
  | le =>
    dsimp only
    rcases hb (Nat.blt B lo) with q | q <;> rcases hb (Nat.ble hi B) with q2 | q2 <;> rw [q, q2] <;> refine ⟨fun g => ?_, fun g => ?_⟩ <;>
      first | (cases g; done) | (have := ev_lt q; exact ne (by omega)) | (have := ev_le q2; exact ev_ble_iff.mpr (by omega))
theorem ev_flip_ok (c : ClassFile.Cond) (A B : Nat) : ev_cmp (ev_flip c) A B = ev_cmp c B A := by
  have hc : Nat.beq A B = Nat.beq B A := by
    by_cases h : A = B
    · rw [h]
    · rw [ev_bf h, ev_bf (Ne.symm h)]
  cases c with
  | eq => exact hc
  | ne => show (!Nat.beq A B) = (!Nat.beq B A); rw [hc]
  | _ => rfl
theorem ev_bd (hE : ev_sat E L xs) (i : Nat) : ∃ A : Nat, (ev_dI xs i).toInt = (A : Int) - 2147483648 ∧ (E.2.2.getD i (0, 4294967295)).1 ≤ A ∧ A ≤ (E.2.2.getD i (0, 4294967295)).2 := by
  have h1 := Int32.le_toInt (ev_dI xs i)
  have h2 := Int32.toInt_lt (ev_dI xs i)
  refine ⟨((ev_dI xs i).toInt + 2147483648).toNat, by omega, ?_⟩
  rw [List.getD_eq_getElem?_getD]
  cases hq : E.2.2[i]? with
  | none =>
    show 0 ≤ _ ∧ _ ≤ 4294967295
    omega
  | some q =>
    obtain ⟨g1, g2, g3⟩ := hE.2.2 i q hq
    have : ev_dI xs i = xs i := by unfold ev_dI; rw [if_pos (by omega)]
    rw [this]
    show q.1 ≤ _ ∧ _ ≤ q.2
    omega
theorem ev_bnd_eq {β : Type} (i : Nat) (K : Nat → Nat → β) : ev_bnd E i K = K (E.2.2.getD i (0, 4294967295)).1 (E.2.2.getD i (0, 4294967295)).2 := by
  have e : ev_bnd E i K = K (ev_nth (0, 4294967295) E.2.2 i).1 (ev_nth (0, 4294967295) E.2.2 i).2 := rfl
  rw [e, ev_nth_eq]
theorem ev_br3_inv {r n tgt : Nat} {ls st : List ev_V} {h : ev_H} {s' : ev_S} (hs : ev_br3 r n tgt ls st h = some (.inl s')) : (r = 0 ∧ s' = (n, ls, st, h)) ∨ (r = 1 ∧ s' = (tgt, ls, st, h)) := by
  match r, hs with
  | 0, hs => exact Or.inl ⟨rfl, ev_go_inv hs⟩
  | 1, hs => exact Or.inr ⟨rfl, ev_go_inv hs⟩
  | n + 2, hs => cases hs
theorem ev_t_goto {off : Int} : ev_SI L xs E cE cP o ini ret nL pc (.goto off) len a b v (ev_goto a) := by
  intro ls st h ph s' hl hH hs
  obtain rfl := ev_go_inv hs
  exact ⟨_, rfl, ev_mk hl hH⟩
theorem ev_t_ifCond (hE : ev_sat E L xs) {c : ClassFile.Cond} {off : Int} : ev_SI L xs E cE cP o ini ret nL pc (.ifCond c off) len a b v (ev_ifc c (Nat.add pc 3) a) := by
  intro ls st h ph s' hl hH hs
  have key : ∀ (t x : Nat) (r : List ev_V) (u : Int32), ev_dV xs (t, x) = .int u → pm_step (pm_sX L xs) cP o ini ret pc (ls.map (ev_dL xs)) (((t, x) :: r).map (ev_dV xs)) ph (.ifCond c off) len a b v = (bif pm_cmp0 c u then pm_go a (ls.map (ev_dL xs)) (r.map (ev_dV xs)) ph else pm_go (pc + 3) (ls.map (ev_dL xs)) (r.map (ev_dV xs)) ph) := by
    intro t x r u hu
    rw [List.map_cons, hu]
    rfl
  unfold ev_ifc at hs
  split at hs
  · next tx x r =>
    cases h0 : Nat.beq tx 0 with
    | true =>
      rw [h0] at hs
      replace hs : cond (ev_cmp c (ev_ofs x) 2147483648) (ev_go a ls r h) (ev_go (Nat.add pc 3) ls r h) = some (.inl s') := hs
      obtain rfl := ev_be h0
      have e := key 0 x r _ ev_dV0
      rw [ev_cmp0, ev_cmp_ok (ev_toI x) (B := 2147483648) rfl] at e
      cases hc : ev_cmp c (ev_ofs x) 2147483648 with
      | true => rw [hc] at hs e; obtain rfl := ev_go_inv hs; exact ⟨_, e, ev_mk hl hH⟩
      | false => rw [hc] at hs e; obtain rfl := ev_go_inv hs; exact ⟨_, e, ev_mk hl hH⟩
    | false =>
      rw [h0] at hs
      obtain ⟨g1, h3⟩ := ev_c (show cond (Nat.beq tx 4) _ none = some (.inl s') from hs)
      obtain rfl := ev_be g1
      rw [ev_bnd_eq] at h3
      obtain ⟨A, a1, a2, a3⟩ := ev_bd hE x
      have e := key 4 x r _ ev_dV4
      rw [ev_cmp0, ev_cmp_ok a1 (B := 2147483648) rfl] at e
      rcases ev_br3_inv h3 with ⟨g, rfl⟩ | ⟨g, rfl⟩
      · rw [(ev_cmpS_ok a2 a3 c).1 g] at e; exact ⟨_, e, ev_mk hl hH⟩
      · rw [(ev_cmpS_ok a2 a3 c).2 g] at e; exact ⟨_, e, ev_mk hl hH⟩
  · cases hs
theorem ev_t_if_icmp (hE : ev_sat E L xs) {c : ClassFile.Cond} {off : Int} : ev_SI L xs E cE cP o ini ret nL pc (.if_icmp c off) len a b v (ev_icmp c (Nat.add pc 3) a) := by
  intro ls st h ph s' hl hH hs
  have key : ∀ (t x t2 y : Nat) (r : List ev_V) (u z : Int32), ev_dV xs (t, x) = .int u → ev_dV xs (t2, y) = .int z → pm_step (pm_sX L xs) cP o ini ret pc (ls.map (ev_dL xs)) (((t2, y) :: (t, x) :: r).map (ev_dV xs)) ph (.if_icmp c off) len a b v = (bif pm_cmp c u z then pm_go a (ls.map (ev_dL xs)) (r.map (ev_dV xs)) ph else pm_go (pc + 3) (ls.map (ev_dL xs)) (r.map (ev_dV xs)) ph) := by
    intro t x t2 y r u z hu hz
    rw [List.map_cons, List.map_cons, hu, hz]
    rfl
  unfold ev_icmp at hs
  split at hs
  · next ty y tx x r =>
    cases h1 : Nat.beq ty 0 with
    | true =>
      rw [h1] at hs
      replace hs : cond (Nat.beq tx 0) (cond (ev_cmp c (ev_ofs x) (ev_ofs y)) (ev_go a ls r h) (ev_go (Nat.add pc 3) ls r h)) (cond (Nat.beq tx 4) (ev_bnd E x (fun lo hi => ev_br3 (ev_cmpS c lo hi (ev_ofs y)) (Nat.add pc 3) a ls r h)) none) = some (.inl s') := hs
      obtain rfl := ev_be h1
      cases h0 : Nat.beq tx 0 with
      | true =>
        rw [h0] at hs
        replace hs : cond (ev_cmp c (ev_ofs x) (ev_ofs y)) (ev_go a ls r h) (ev_go (Nat.add pc 3) ls r h) = some (.inl s') := hs
        obtain rfl := ev_be h0
        have e := key 0 x 0 y r _ _ ev_dV0 ev_dV0
        rw [ev_cmp_ok (ev_toI x) (ev_toI y)] at e
        cases hc : ev_cmp c (ev_ofs x) (ev_ofs y) with
        | true => rw [hc] at hs e; obtain rfl := ev_go_inv hs; exact ⟨_, e, ev_mk hl hH⟩
        | false => rw [hc] at hs e; obtain rfl := ev_go_inv hs; exact ⟨_, e, ev_mk hl hH⟩
      | false =>
        rw [h0] at hs
        obtain ⟨g1, h3⟩ := ev_c (show cond (Nat.beq tx 4) _ none = some (.inl s') from hs)
        obtain rfl := ev_be g1
        rw [ev_bnd_eq] at h3
        obtain ⟨A, a1, a2, a3⟩ := ev_bd hE x
        have e := key 4 x 0 y r _ _ ev_dV4 ev_dV0
        rw [ev_cmp_ok a1 (ev_toI y)] at e
        rcases ev_br3_inv h3 with ⟨g, rfl⟩ | ⟨g, rfl⟩
        · rw [(ev_cmpS_ok a2 a3 c).1 g] at e; exact ⟨_, e, ev_mk hl hH⟩
        · rw [(ev_cmpS_ok a2 a3 c).2 g] at e; exact ⟨_, e, ev_mk hl hH⟩
    | false =>
      rw [h1] at hs
      obtain ⟨g1, h3⟩ := ev_c (show cond (Nat.beq ty 4) _ none = some (.inl s') from hs)
      obtain ⟨g2, h4⟩ := ev_c h3
      obtain rfl := ev_be g1
      obtain rfl := ev_be g2
      rw [ev_bnd_eq] at h4
      obtain ⟨A, a1, a2, a3⟩ := ev_bd hE y
      have e := key 0 x 4 y r _ _ ev_dV0 ev_dV4
      rw [ev_cmp_ok (ev_toI x) a1, ← ev_flip_ok] at e
      rcases ev_br3_inv h4 with ⟨g, rfl⟩ | ⟨g, rfl⟩
      · rw [(ev_cmpS_ok a2 a3 (ev_flip c)).1 g] at e; exact ⟨_, e, ev_mk hl hH⟩
      · rw [(ev_cmpS_ok a2 a3 (ev_flip c)).2 g] at e; exact ⟨_, e, ev_mk hl hH⟩
  · cases hs
theorem ev_lgc {x y : Int64} : (x.toInt < y.toInt → lg_cmp x y = -1) ∧ (y.toInt < x.toInt → lg_cmp x y = 1) ∧ (x.toInt = y.toInt → lg_cmp x y = 0) := by
  unfold lg_cmp
  refine ⟨fun h => ?_, fun h => ?_, fun h => ?_⟩
  · rw [if_neg (by rw [gt_iff_lt, Int64.lt_iff_toInt_lt]; omega), if_neg (by rw [← Int64.toInt_inj]; omega)]
  · rw [if_pos (by rw [gt_iff_lt, Int64.lt_iff_toInt_lt]; omega)]
  · rw [if_neg (by rw [gt_iff_lt, Int64.lt_iff_toInt_lt]; omega), if_pos (by rw [← Int64.toInt_inj]; omega)]
theorem ev_t_lcmp (hE : ev_sat E L xs) : ev_SI L xs E cE cP o ini ret nL pc .lcmp len a b v (ev_lcmp (Nat.add pc 1)) := by
  intro ls st h ph s' hl hH hs
  have key : ∀ (t x t2 y : Nat) (r : List ev_V) (u z : Int64), ev_dV xs (t, x) = .long u → ev_dV xs (t2, y) = .long z → pm_step (pm_sX L xs) cP o ini ret pc (ls.map (ev_dL xs)) (((t2, y) :: (t, x) :: r).map (ev_dV xs)) ph .lcmp len a b v = pm_go (pc + 1) (ls.map (ev_dL xs)) (.int (lg_cmp u z) :: r.map (ev_dV xs)) ph := by
    intro t x t2 y r u z hu hz
    rw [List.map_cons, List.map_cons, hu, hz]
    rfl
  unfold ev_lcmp at hs
  split at hs
  · next ty y tx x r =>
    obtain ⟨g0, h2⟩ := ev_c hs
    obtain rfl := ev_be g0
    cases h0 : Nat.beq tx 1 with
    | true =>
      rw [h0] at h2
      replace h2 : ev_fK (ev_ci (lg_cmp (Int64.ofNat x) (Int64.ofNat y))) (fun z => ev_go (Nat.add pc 1) ls ((0, z) :: r) h) = some (.inl s') := h2
      rw [ev_fK_eq] at h2
      obtain rfl := ev_be h0
      obtain rfl := ev_go_inv h2
      refine ⟨_, key 1 x 1 y r _ _ ev_dV1 ev_dV1, rfl, rfl, ?_, hl, hH⟩
      show _ = ev_dV xs (0, ev_ci (lg_cmp (Int64.ofNat x) (Int64.ofNat y))) :: r.map (ev_dV xs)
      rw [ev_dV0, ev_ci_eq]
    | false =>
      rw [h0] at h2
      obtain ⟨g1, h3⟩ := ev_c (show cond (Nat.beq tx 5) _ none = some (.inl s') from h2)
      obtain rfl := ev_be g1
      rw [ev_bnd_eq] at h3
      obtain ⟨A, a1, a2, a3⟩ := ev_bd hE x
      have e := key 5 x 1 y r _ _ ev_dV5 ev_dV1
      have hx : (ev_dI xs x).toInt64.toInt = (A : Int) - 2147483648 := by rw [Int32.toInt_toInt64]; exact a1
      have hy := ev_toL y
      obtain ⟨k1, k2, k3⟩ := ev_lgc (x := (ev_dI xs x).toInt64) (y := Int64.ofNat y)
      cases q1 : Nat.blt (Nat.add (E.2.2.getD x (0, 4294967295)).2 9223372034707292160) (ev_ofs8 y) with
      | true =>
        rw [q1, cond_true] at h3
        obtain rfl := ev_go_inv h3
        have q2 := ev_lt q1
        have q2 : (E.2.2.getD x (0, 4294967295)).2 + 9223372034707292160 < ev_ofs8 y := q2
        refine ⟨_, e, rfl, rfl, ?_, hl, hH⟩
        show Value.int _ :: _ = ev_dV xs (0, 4294967295) :: r.map (ev_dV xs)
        rw [ev_dV0, k1 (by omega)]
        rfl
      | false =>
        rw [q1, cond_false] at h3
        have q0 := ev_nlt q1
        have q0 : ev_ofs8 y ≤ (E.2.2.getD x (0, 4294967295)).2 + 9223372034707292160 := q0
        cases q3 : Nat.blt (ev_ofs8 y) (Nat.add (E.2.2.getD x (0, 4294967295)).1 9223372034707292160) with
        | true =>
          rw [q3, cond_true] at h3
          obtain rfl := ev_go_inv h3
          have q2 := ev_lt q3
          have q2 : ev_ofs8 y < (E.2.2.getD x (0, 4294967295)).1 + 9223372034707292160 := q2
          refine ⟨_, e, rfl, rfl, ?_, hl, hH⟩
          show Value.int _ :: _ = ev_dV xs (0, 1) :: r.map (ev_dV xs)
          rw [ev_dV0, k2 (by omega)]
          rfl
        | false =>
          rw [q3, cond_false] at h3
          have q4 := ev_nlt q3
          have q4 : (E.2.2.getD x (0, 4294967295)).1 + 9223372034707292160 ≤ ev_ofs8 y := q4
          obtain ⟨q5, h4⟩ := ev_c h3
          obtain rfl := ev_go_inv h4
          have q6 := ev_be q5
          refine ⟨_, e, rfl, rfl, ?_, hl, hH⟩
          show Value.int _ :: _ = ev_dV xs (0, 0) :: r.map (ev_dV xs)
          rw [ev_dV0, k3 (by omega)]
          rfl
  · cases hs
theorem ev_t_ifnull {off : Int} : ev_SI L xs E cE cP o ini ret nL pc (.ifnull off) len a b v (ev_nul (Nat.add pc 3) a) := by
  intro ls st h ph s' hl hH hs
  unfold ev_nul at hs
  split at hs
  · next tx x r =>
    cases h0 : Nat.beq tx 2 with
    | true =>
      rw [h0] at hs
      obtain rfl := ev_be h0
      obtain rfl := ev_go_inv (show ev_go _ _ _ _ = some (.inl s') from hs)
      exact ⟨_, rfl, ev_mk hl hH⟩
    | false =>
      rw [h0] at hs
      obtain ⟨g1, h3⟩ := ev_c (show cond (Nat.beq tx 10) _ none = some (.inl s') from hs)
      obtain rfl := ev_be g1
      obtain rfl := ev_go_inv h3
      rw [List.map_cons, ev_dVn]
      exact ⟨_, rfl, ev_mk hl hH⟩
  · cases hs
theorem ev_t_ifnonnull {off : Int} : ev_SI L xs E cE cP o ini ret nL pc (.ifnonnull off) len a b v (ev_nul a (Nat.add pc 3)) := by
  intro ls st h ph s' hl hH hs
  unfold ev_nul at hs
  split at hs
  · next tx x r =>
    cases h0 : Nat.beq tx 2 with
    | true =>
      rw [h0] at hs
      obtain rfl := ev_be h0
      obtain rfl := ev_go_inv (show ev_go _ _ _ _ = some (.inl s') from hs)
      exact ⟨_, rfl, ev_mk hl hH⟩
    | false =>
      rw [h0] at hs
      obtain ⟨g1, h3⟩ := ev_c (show cond (Nat.beq tx 10) _ none = some (.inl s') from hs)
      obtain rfl := ev_be g1
      obtain rfl := ev_go_inv h3
      rw [List.map_cons, ev_dVn]
      exact ⟨_, rfl, ev_mk hl hH⟩
  · cases hs
theorem ev_t_tableswitch (hE : ev_sat E L xs) {dflt lo hi : Int} {offs : Array Int} (h1 : -2147483648 ≤ lo) (h2 : lo ≤ hi) (h3 : hi < 2147483648) : ev_SI L xs E cE cP o ini ret nL pc (.tableswitch dflt lo hi offs) len a b v (ev_tsw pc dflt lo hi offs.toList) := by
  intro ls st h ph s' hl hH hs
  have tl : (ev_tl lo : Int) = lo + 2147483648 := Int.toNat_of_nonneg (by omega)
  have th : (ev_tl hi : Int) = hi + 2147483648 := Int.toNat_of_nonneg (by omega)
  have key : ∀ (t x : Nat) (r : List ev_V) (u : Int32), ev_dV xs (t, x) = .int u → pm_step (pm_sX L xs) cP o ini ret pc (ls.map (ev_dL xs)) (((t, x) :: r).map (ev_dV xs)) ph (.tableswitch dflt lo hi offs) len a b v = (bif decide (u.toInt < lo) || decide (hi < u.toInt) then (bif decide (0 ≤ (pc : Int) + dflt) then pm_go ((pc : Int) + dflt).toNat (ls.map (ev_dL xs)) (r.map (ev_dV xs)) ph else none) else
    (match offs.toList[(u.toInt - lo).toNat]? with
    | some off => bif decide (0 ≤ (pc : Int) + off) then pm_go ((pc : Int) + off).toNat (ls.map (ev_dL xs)) (r.map (ev_dV xs)) ph else none
    | none => none)) := by
    intro t x r u hu
    rw [List.map_cons, hu]
    rfl
  unfold ev_tsw at hs
  split at hs
  · next tx x r =>
    cases h0 : Nat.beq tx 0 with
    | true =>
      rw [h0, cond_true] at hs
      obtain rfl := ev_be h0
      have e := key 0 x r _ ev_dV0
      have hx := ev_toI x
      have eq1 : (decide ((Int32.ofNat x).toInt < lo) || decide (hi < (Int32.ofNat x).toInt)) = (Nat.blt (ev_ofs x) (ev_tl lo) || Nat.blt (ev_tl hi) (ev_ofs x)) := by
        rw [ev_bool (c := Nat.blt (ev_ofs x) (ev_tl lo)) _ (by rw [ev_blt_iff]; omega), ev_bool (c := Nat.blt (ev_tl hi) (ev_ofs x)) _ (by rw [ev_blt_iff]; omega)]
      rw [eq1] at e
      cases hc : (Nat.blt (ev_ofs x) (ev_tl lo) || Nat.blt (ev_tl hi) (ev_ofs x)) with
      | true =>
        rw [hc, cond_true] at hs e
        obtain ⟨g1, h4⟩ := ev_c hs
        rw [ev_fK_eq] at h4
        obtain rfl := ev_go_inv h4
        rw [g1, cond_true] at e
        exact ⟨_, e, ev_mk hl hH⟩
      | false =>
        rw [hc, cond_false] at hs e
        rw [Bool.or_eq_false_iff] at hc
        have c1 := ev_nlt hc.1
        have c2 := ev_nlt hc.2
        have hi2 : ((Int32.ofNat x).toInt - lo).toNat = ev_ofs x - ev_tl lo := by omega
        rw [hi2] at e
        cases ho : offs.toList[ev_ofs x - ev_tl lo]? with
        | none => rw [ho] at hs; cases hs
        | some off =>
          rw [ho] at hs e
          obtain ⟨g1, h4⟩ := ev_c hs
          rw [ev_fK_eq] at h4
          obtain rfl := ev_go_inv h4
          dsimp only at e
          rw [g1, cond_true] at e
          exact ⟨_, e, ev_mk hl hH⟩
    | false =>
      rw [h0, cond_false] at hs
      obtain ⟨g1, h4⟩ := ev_c hs
      obtain rfl := ev_be g1
      rw [ev_bnd_eq] at h4
      obtain ⟨A, a1, a2, a3⟩ := ev_bd hE x
      obtain ⟨g2, h5⟩ := ev_c h4
      obtain ⟨g3, h6⟩ := ev_c h5
      rw [ev_fK_eq] at h6
      obtain rfl := ev_go_inv h6
      have e := key 4 x r _ ev_dV4
      have hc : (decide ((ev_dI xs x).toInt < lo) || decide (hi < (ev_dI xs x).toInt)) = true := by
        rw [Bool.or_eq_true] at g2 ⊢
        rcases g2 with g | g
        · have := ev_lt g
          exact Or.inl (decide_eq_true (by omega))
        · have := ev_lt g
          exact Or.inr (decide_eq_true (by omega))
      rw [hc, cond_true, g3, cond_true] at e
      exact ⟨_, e, ev_mk hl hH⟩
  · cases hs
/-! cells -/
theorem ev_obj {h : ev_H} {ph : pm_H} {x ci : Nat} {fs : List ev_V} (hH : ev_RH xs h ph) (hx : x < h.1) (hc : ev_get h.2.2 x = .inr (ci, fs)) : pm_obj ph (.ref x) = some (x, ci, fs.map (ev_dV xs)) ∧ fs.length = pm_cn ci := by
  obtain ⟨e1, e2, e3, e4, e5⟩ := hH
  have := e5 x hx
  rw [hc] at this
  obtain ⟨g1, g2⟩ := this
  refine ⟨?_, g2⟩
  show (bif decide (x < ph.1) then _ else none) = _
  rw [decide_eq_true (by rw [e1]; exact hx), g1]
  rfl
theorem ev_arr {X : pm_X} {h : ev_H} {ph : pm_H} {x t n N : Nat} {ov : List (Nat × Nat)} (hH : ev_RH xs h ph) (hx : x < h.1) (hc : ev_get h.2.2 x = .inl (t, n, N, ov)) : ∃ z, pm_arr X ph (.ref x) = some (t, n, z) ∧ ev_RA xs t n N ov z := by
  obtain ⟨e1, e2, e3, e4, e5⟩ := hH
  have := e5 x hx
  rw [hc] at this
  obtain ⟨z, g1, g2⟩ := this
  refine ⟨z, ?_, g2⟩
  show (bif decide (x < ph.1) then _ else none) = _
  rw [decide_eq_true (by rw [e1]; exact hx), g1]
  rfl
theorem ev_RH_set {h : ev_H} {ph : pm_H} {x : Nat} {c : ev_C} {p : pm_C} (hH : ev_RH xs h ph) (hx : x < h.1) (hc : ev_RC xs c p) : ev_RH xs (h.1, h.2.1, ev_hset h.2.2 x c) (pm_hset ph x p) := by
  obtain ⟨e1, e2, e3, e4, e5⟩ := hH
  refine ⟨e1, e2, ev_shape_set e3 (by omega), e4, fun y hy => ?_⟩
  show ev_RC xs (ev_get (ev_hset h.2.2 x c) y) (va_up ph.2.2 x p y)
  rw [ev_get_set e3 (by omega)]
  by_cases hyx : y = x
  · rw [if_pos hyx, hyx, va_up_self]; exact hc
  · rw [if_neg hyx, va_up_ne _ _ hyx]; exact e5 y hy
theorem ev_RH_push {h : ev_H} {ph : pm_H} {n : Nat} {c : ev_C} {p : pm_C} (hH : ev_RH xs h ph) (hx : h.1 < 160) (hc : ev_RC xs c p) : ev_RH xs (h.1 + 1, h.2.1 + n, ev_hset h.2.2 h.1 c) (pm_hpush ph n p) := by
  obtain ⟨e1, e2, e3, e4, e5⟩ := hH
  refine ⟨by show ph.1 + 1 = h.1 + 1; rw [e1], by show ph.2.1 + n = h.2.1 + n; rw [e2], ev_shape_set e3 hx, hx, fun y hy => ?_⟩
  show ev_RC xs (ev_get (ev_hset h.2.2 h.1 c) y) (va_up ph.2.2 ph.1 p y)
  rw [ev_get_set e3 hx, e1]
  by_cases hyx : y = h.1
  · rw [if_pos hyx, hyx, va_up_self]; exact hc
  · rw [if_neg hyx, va_up_ne _ _ hyx]
    have hy : y < h.1 + 1 := hy
    exact e5 y (by omega)
theorem ev_t_getfield {ix : Nat} (ha : a ≠ 100) (hb : b < pm_cn a) : ev_SI L xs E cE cP o ini ret nL pc (.getfield ix) len a b v (ev_gf (Nat.add pc 3) a b) := by
  intro ls st h ph s' hl hH hs
  unfold ev_gf at hs
  split at hs
  · next tx x r =>
    obtain ⟨g1, h2⟩ := ev_c hs
    obtain ⟨g2, h3⟩ := ev_c h2
    obtain rfl := ev_be g1
    split at h3
    · next cj fs hc =>
      obtain ⟨g3, h4⟩ := ev_c h3
      obtain rfl := ev_be g3
      have h5 : ev_go (Nat.add pc 3) ls (((ev_nth (3, 0) fs b).1, (ev_nth (3, 0) fs b).2) :: r) h = some (.inl s') := h4
      rw [ev_nth_eq] at h5
      obtain rfl := ev_go_inv h5
      obtain ⟨o1, o2⟩ := ev_obj hH (ev_lt g2) hc
      have hbl : b < fs.length := by rw [o2]; exact hb
      refine ⟨(pc + 3, ls.map (ev_dL xs), ev_dV xs (fs.getD b (3, 0)) :: r.map (ev_dV xs), ph), ?_, rfl, rfl, rfl, hl, hH⟩
      show (match pm_obj ph (.ref x) with
        | some (_, ci, fs) => bif ci == cj && decide (b < pm_cn cj) then (match fs[b]? with
          | some u => pm_go (pc + 3) (ls.map (ev_dL xs)) (u :: r.map (ev_dV xs)) ph
          | none => none) else none
        | none => none) = _
      rw [o1]
      show (bif cj == cj && decide (b < pm_cn cj) then (match (fs.map (ev_dV xs))[b]? with
          | some u => pm_go (pc + 3) (ls.map (ev_dL xs)) (u :: r.map (ev_dV xs)) ph
          | none => none) else none) = _
      rw [beq_self_eq_true, decide_eq_true hb, List.getElem?_map, List.getElem?_eq_getElem hbl, List.getD_eq_getElem?_getD, List.getElem?_eq_getElem hbl]
      rfl
    · cases h3
  · cases hs
theorem ev_t_getfieldS {ix : Nat} : ev_SI L xs E cE cP o ini ret nL pc (.getfield ix) len 100 b v (ev_gs (Nat.add pc 3) b) := by
  intro ls st h ph s' hl hH hs
  unfold ev_gs at hs
  split at hs
  · next tx x r =>
    obtain ⟨g1, h2⟩ := ev_c hs
    obtain ⟨g2, h3⟩ := ev_c h2
    obtain rfl := ev_be g1
    have hx := ev_lt g2
    rw [List.map_cons, ev_dV6]
    have e : pm_step (pm_sX L xs) cP o ini ret pc (ls.map (ev_dL xs)) (.retAddr x :: r.map (ev_dV xs)) ph (.getfield ix) len 100 b v = (bif 100 == 100 && decide (x < 23) then (bif b == 0 then pm_go (pc + 3) (ls.map (ev_dL xs)) (.retAddr (100 + x) :: r.map (ev_dV xs)) ph else pm_go (pc + 3) (ls.map (ev_dL xs)) (.int 0 :: r.map (ev_dV xs)) ph) else none) := rfl
    rw [decide_eq_true hx] at e
    cases hb : Nat.beq b 0 with
    | true =>
      rw [hb] at h3
      obtain rfl := ev_be hb
      obtain rfl := ev_go_inv (show ev_go _ _ _ _ = some (.inl s') from h3)
      refine ⟨_, e, rfl, rfl, ?_, hl, hH⟩
      show Value.retAddr (100 + x) :: _ = ev_dV xs (6, 100 + x) :: r.map (ev_dV xs)
      rw [ev_dV6]
    | false =>
      rw [hb] at h3
      obtain rfl := ev_go_inv (show ev_go _ _ _ _ = some (.inl s') from h3)
      have hb2 : (b == 0) = false := by
        rw [beq_eq_false_iff_ne]
        intro g
        rw [ev_bt g] at hb
        cases hb
      rw [hb2] at e
      exact ⟨_, e, rfl, rfl, rfl, hl, hH⟩
  · cases hs
theorem ev_fit_ok {ty : FieldType} {t p : Nat} (hf : ev_fit (ev_fk ty) t p = true) : pm_fit ty (ev_dV xs (t, p)) = true := by
  cases ty with
  | int =>
    have hf : Nat.beq (Nat.mod t 4) 0 = true := hf
    rw [ev_dVi (ev_be hf)]; rfl
  | long =>
    have hf : Nat.beq (Nat.mod t 4) 1 = true := hf
    rw [ev_dVl (ev_be hf)]; rfl
  | boolean =>
    have hf : (Nat.beq t 0 && Nat.ble p 1) = true := hf
    rw [Bool.and_eq_true] at hf
    obtain rfl := ev_be hf.1
    have := ev_le hf.2
    rw [ev_dV0]
    match p, this with
    | 0, _ => rfl
    | 1, _ => rfl
    | n + 2, h => exact absurd h (by omega)
  | object C =>
    have hf : (Nat.beq t 2 || Nat.beq t 10) = true := hf
    rw [Bool.or_eq_true] at hf
    rcases hf with g | g
    · obtain rfl := ev_be g; rfl
    · obtain rfl := ev_be g; rw [ev_dVn]; rfl
  | array C =>
    have hf : (Nat.beq t 2 || Nat.beq t 10) = true := hf
    rw [Bool.or_eq_true] at hf
    rcases hf with g | g
    · obtain rfl := ev_be g; rfl
    · obtain rfl := ev_be g; rw [ev_dVn]; rfl
  | _ => cases hf
theorem ev_t_putfield {ix : Nat} (hb : b < pm_cn a) (hfin : (!pm_fin a b || (ini && decide (pm_cnm a = pm_own o))) = true) : ev_SI L xs E cE cP o ini ret nL pc (.putfield ix) len a b v (ev_pf (Nat.add pc 3) a b (ev_fk (pm_ty a b))) := by
  intro ls st h ph s' hl hH hs
  unfold ev_pf at hs
  split at hs
  · next t p tx x r =>
    obtain ⟨g1, h2⟩ := ev_c hs
    obtain ⟨g2, h3⟩ := ev_c h2
    obtain ⟨g3, h4⟩ := ev_c h3
    obtain rfl := ev_be g1
    split at h4
    · next cj fs hc =>
      obtain ⟨g4, h5⟩ := ev_c h4
      obtain rfl := ev_be g4
      rw [ev_setK_eq, ev_hsK_eq] at h5
      obtain rfl := ev_go_inv h5
      obtain ⟨o1, o2⟩ := ev_obj hH (ev_lt g2) hc
      have hbl : b < fs.length := by rw [o2]; exact hb
      refine ⟨(pc + 3, ls.map (ev_dL xs), r.map (ev_dV xs), pm_hset ph x (.inr (cj, (fs.map (ev_dV xs)).set b (ev_dV xs (t, p))))), ?_, rfl, rfl, rfl, hl, ?_⟩
      · show (match pm_obj ph (.ref x) with
          | some (x, ci, fs) => bif ci == cj && decide (b < pm_cn cj) && decide (b < fs.length) && pm_fit (pm_ty cj b) (ev_dV xs (t, p)) && (!pm_fin cj b || (ini && decide (pm_cnm cj = pm_own o))) then pm_go (pc + 3) (ls.map (ev_dL xs)) (r.map (ev_dV xs)) (pm_hset ph x (.inr (cj, fs.set b (ev_dV xs (t, p))))) else none
          | none => none) = _
        rw [o1]
        show (bif cj == cj && decide (b < pm_cn cj) && decide (b < (fs.map (ev_dV xs)).length) && pm_fit (pm_ty cj b) (ev_dV xs (t, p)) && (!pm_fin cj b || (ini && decide (pm_cnm cj = pm_own o))) then _ else none) = _
        rw [beq_self_eq_true, decide_eq_true hb, decide_eq_true (by rw [List.length_map]; exact hbl), ev_fit_ok g3, hfin]
        rfl
      · refine ev_RH_set hH (ev_lt g2) ⟨?_, by rw [List.length_set]; exact o2⟩
        rw [List.map_set]
    · cases h4
  · cases hs
theorem ev_new_inv {n k : Nat} {c : ev_C} {ls r : List ev_V} {h : ev_H} {s' : ev_S} (hs : ev_new n k c ls r h = some (.inl s')) : h.1 < 160 ∧ s' = (n, ls, (2, h.1) :: r, (h.1 + 1, h.2.1 + k, ev_hset h.2.2 h.1 c)) := by
  unfold ev_new at hs
  obtain ⟨g1, h2⟩ := ev_c hs
  rw [ev_hsK_eq, ev_fK_eq, ev_fK_eq] at h2
  exact ⟨ev_lt g1, ev_go_inv h2⟩
def ev_df (ty : FieldType) : ev_V := match ev_fk ty with
  | 1 => (1, 0)
  | 3 => (10, 0)
  | _ => (0, 0)
theorem ev_dfK_eq {β : Type} (ty : FieldType) (K : ev_V → β) : ev_dfK ty K = K (ev_df ty) := by
  unfold ev_dfK ev_df
  generalize ev_fk ty = q
  match q with
  | 0 => rfl
  | 1 => rfl
  | 2 => rfl
  | 3 => rfl
  | n + 4 => rfl
theorem ev_mkK_eq {β : Type} (f : Nat → FieldType) : ∀ (n i : Nat) (K : List ev_V → β), ev_mkK f n i K = K ((List.range n).map (fun k => ev_df (f (i + k))))
  | 0, i, K => rfl
  | n + 1, i, K => by
    have e : ev_mkK f (n + 1) i K = ev_dfK (f i) (fun v => ev_mkK f n (i + 1) (fun t => K (v :: t))) := rfl
    rw [e, ev_dfK_eq, ev_mkK_eq f n (i + 1)]
    congr 1
    rw [List.range_succ_eq_map, List.map_cons, List.map_map]
    congr 1
    apply List.map_congr_left
    intro k _
    show ev_df (f (i + 1 + k)) = ev_df (f (i + (k + 1)))
    rw [show i + 1 + k = i + (k + 1) by omega]
theorem ev_df_all : (List.range 12).all (fun ci => (List.range (pm_cn ci)).all (fun k => decide (ev_fk (pm_ty ci k) < 4))) = true := by decide +kernel
theorem ev_df_ok {ty : FieldType} (h : ev_fk ty < 4) : ev_dV xs (ev_df ty) = defaultValue ty := by
  cases ty with
  | object C => exact ev_dVn
  | array C => exact ev_dVn
  | long => rfl
  | int => rfl
  | boolean => rfl
  | _ => exact absurd h (by decide)
theorem ev_t_new {ix : Nat} (ha : a < 12) : ev_SI L xs E cE cP o ini ret nL pc (.new ix) len a b v (ev_nw (Nat.add pc 3) a) := by
  intro ls st h ph s' hl hH hs
  unfold ev_nw at hs
  rw [ev_mkK_eq] at hs
  obtain ⟨g1, rfl⟩ := ev_new_inv hs
  have hlt : a < pm_cls.length := by rw [pm_clen.1]; exact ha
  have hq : pm_cls[a]? = some pm_cls[a] := List.getElem?_eq_getElem hlt
  have hN : pm_newN a = (List.range (pm_cn a)).map (fun k => defaultValue (pm_ty a k)) := by
    unfold pm_newN pm_cn
    rw [hq]
  have e : pm_step (pm_sX L xs) cP o ini ret pc (ls.map (ev_dL xs)) (st.map (ev_dV xs)) ph (.new ix) len a b v = (bif decide (a < 12) then pm_go (pc + 3) (ls.map (ev_dL xs)) (.ref ph.1 :: st.map (ev_dV xs)) (pm_hpush ph (pm_cn a) (.inr (a, pm_newN a))) else none) := rfl
  rw [decide_eq_true ha] at e
  refine ⟨_, e, rfl, rfl, ?_, hl, ?_⟩
  · show Value.ref ph.1 :: _ = ev_dV xs (2, h.1) :: st.map (ev_dV xs)
    rw [ev_dV2, hH.1]
  · refine ev_RH_push hH g1 ⟨?_, by simp⟩
    rw [hN, List.map_map]
    congr 2
    apply List.map_congr_left
    intro k hk
    have h1 := List.all_eq_true.mp ev_df_all a (List.mem_range.mpr ha)
    have h2 := List.all_eq_true.mp h1 k hk
    show _ = ev_dV xs (ev_df (pm_ty a (0 + k)))
    rw [Nat.zero_add, ev_df_ok (of_decide_eq_true h2)]
theorem ev_na_inv {n kind : Nat} {ls st : List ev_V} {h : ev_H} {s' : ev_S} (hs : ev_na n kind cE E ls st h = some (.inl s')) : ∃ x r, st = (0, x) :: r ∧ x ≤ 16777216 ∧ h.1 < 160 ∧ s' = (n, ls, (2, h.1) :: r, (h.1 + 1, h.2.1 + x, ev_hset h.2.2 h.1 (.inl (kind, x, 0, [])))) := by
  unfold ev_na at hs
  split at hs
  · next tx x r =>
    obtain ⟨g1, h2⟩ := ev_c hs
    obtain ⟨g2, h3⟩ := ev_c h2
    obtain rfl := ev_be g1
    obtain ⟨g3, rfl⟩ := ev_new_inv h3
    exact ⟨x, r, rfl, ev_le g2, g3, rfl⟩
  · cases hs
theorem ev_len {x : Nat} (hx : x ≤ 16777216) : (decide (Int32.ofNat x < 0) || decide (16777216 < (Int32.ofNat x).toNatClampNeg)) = false ∧ (Int32.ofNat x).toNatClampNeg = x := by
  have h1 : (Int32.ofNat x).toNatClampNeg = x := Int32.toNatClampNeg_ofNat_of_lt (by omega)
  refine ⟨?_, h1⟩
  rw [h1, decide_eq_false (ev_nneg hx), decide_eq_false (by omega)]
  rfl
theorem ev_t_na_int : ev_SI L xs E cE cP o ini ret nL pc (.newarray .int) len a b v (ev_na (Nat.add pc 2) 0) := by
  intro ls st h ph s' hl hH hs
  obtain ⟨x, r, rfl, hx, h160, rfl⟩ := ev_na_inv hs
  obtain ⟨n1, n2⟩ := ev_len hx
  have e : pm_step (pm_sX L xs) cP o ini ret pc (ls.map (ev_dL xs)) (((0, x) :: r).map (ev_dV xs)) ph (.newarray .int) len a b v = (bif decide (Int32.ofNat x < 0) || decide (16777216 < (Int32.ofNat x).toNatClampNeg) then none else pm_go (pc + 2) (ls.map (ev_dL xs)) (.ref ph.1 :: r.map (ev_dV xs)) (pm_hpush ph (Int32.ofNat x).toNatClampNeg (.inl (0, (Int32.ofNat x).toNatClampNeg, .inl (fun _ => 0))))) := rfl
  rw [n1, n2] at e
  refine ⟨_, e, rfl, rfl, ?_, hl, ?_⟩
  · show Value.ref ph.1 :: _ = ev_dV xs (2, h.1) :: r.map (ev_dV xs)
    rw [ev_dV2, hH.1]
  · exact ev_RH_push hH h160 ⟨_, rfl, ⟨Or.inl rfl, fun j _ => by show (0 : Int32) = Int32.ofNat (ev_ln 0 j); rw [ev_ln_0]; rfl⟩⟩
theorem ev_t_na_long : ev_SI L xs E cE cP o ini ret nL pc (.newarray .long) len a b v (ev_na (Nat.add pc 2) 1) := by
  intro ls st h ph s' hl hH hs
  obtain ⟨x, r, rfl, hx, h160, rfl⟩ := ev_na_inv hs
  obtain ⟨n1, n2⟩ := ev_len hx
  have e : pm_step (pm_sX L xs) cP o ini ret pc (ls.map (ev_dL xs)) (((0, x) :: r).map (ev_dV xs)) ph (.newarray .long) len a b v = (bif decide (Int32.ofNat x < 0) || decide (16777216 < (Int32.ofNat x).toNatClampNeg) then none else pm_go (pc + 2) (ls.map (ev_dL xs)) (.ref ph.1 :: r.map (ev_dV xs)) (pm_hpush ph (Int32.ofNat x).toNatClampNeg (.inl (1, (Int32.ofNat x).toNatClampNeg, .inr (.inl (fun _ => 0)))))) := rfl
  rw [n1, n2] at e
  refine ⟨_, e, rfl, rfl, ?_, hl, ?_⟩
  · show Value.ref ph.1 :: _ = ev_dV xs (2, h.1) :: r.map (ev_dV xs)
    rw [ev_dV2, hH.1]
  · exact ev_RH_push hH h160 ⟨_, rfl, ⟨rfl, fun j _ => by show (0 : Int64) = Int64.ofNat (ev_ln8 0 j); rw [ev_ln8_0]; rfl⟩⟩
theorem ev_t_na_boolean : ev_SI L xs E cE cP o ini ret nL pc (.newarray .boolean) len a b v (ev_na (Nat.add pc 2) 2) := by
  intro ls st h ph s' hl hH hs
  obtain ⟨x, r, rfl, hx, h160, rfl⟩ := ev_na_inv hs
  obtain ⟨n1, n2⟩ := ev_len hx
  have e : pm_step (pm_sX L xs) cP o ini ret pc (ls.map (ev_dL xs)) (((0, x) :: r).map (ev_dV xs)) ph (.newarray .boolean) len a b v = (bif decide (Int32.ofNat x < 0) || decide (16777216 < (Int32.ofNat x).toNatClampNeg) then none else pm_go (pc + 2) (ls.map (ev_dL xs)) (.ref ph.1 :: r.map (ev_dV xs)) (pm_hpush ph (Int32.ofNat x).toNatClampNeg (.inl (2, (Int32.ofNat x).toNatClampNeg, .inl (fun _ => 0))))) := rfl
  rw [n1, n2] at e
  refine ⟨_, e, rfl, rfl, ?_, hl, ?_⟩
  · show Value.ref ph.1 :: _ = ev_dV xs (2, h.1) :: r.map (ev_dV xs)
    rw [ev_dV2, hH.1]
  · exact ev_RH_push hH h160 ⟨_, rfl, ⟨Or.inr rfl, fun j _ => by show (0 : Int32) = Int32.ofNat (ev_ln 0 j); rw [ev_ln_0]; rfl⟩⟩
theorem ev_t_anewarray {ix : Nat} (ha : a = 3 ∨ a = 4) : ev_SI L xs E cE cP o ini ret nL pc (.anewarray ix) len a b v (ev_na (Nat.add pc 3) a) := by
  intro ls st h ph s' hl hH hs
  obtain ⟨x, r, rfl, hx, h160, rfl⟩ := ev_na_inv hs
  obtain ⟨n1, n2⟩ := ev_len hx
  have e : pm_step (pm_sX L xs) cP o ini ret pc (ls.map (ev_dL xs)) (((0, x) :: r).map (ev_dV xs)) ph (.anewarray ix) len a b v = (bif decide (Int32.ofNat x < 0) || decide (16777216 < (Int32.ofNat x).toNatClampNeg) || !(a == 3 || a == 4) then none else pm_go (pc + 3) (ls.map (ev_dL xs)) (.ref ph.1 :: r.map (ev_dV xs)) (pm_hpush ph (Int32.ofNat x).toNatClampNeg (.inl (a, (Int32.ofNat x).toNatClampNeg, .inr (.inr (.inr (.inr (fun _ => none)))))))) := rfl
  have ha2 : (a == 3 || a == 4) = true := by rcases ha with rfl | rfl <;> rfl
  rw [n1, n2, ha2] at e
  refine ⟨_, e, rfl, rfl, ?_, hl, ?_⟩
  · show Value.ref ph.1 :: _ = ev_dV xs (2, h.1) :: r.map (ev_dV xs)
    rw [ev_dV2, hH.1]
  · exact ev_RH_push hH h160 ⟨_, rfl, ha, fun j _ => by show none = ev_ref (ev_ln 0 j); rw [ev_ln_0]; rfl⟩
end EVS2
end
