/-- a private method of a class that the tables say can be made, by its rows of tables_1 -/
def lw_okq (q : MethodName × Nat) : Prop := (q.1.cls ≠ "java/lang/invoke/MethodHandle" ∧ q.1.cls ≠ "java/lang/invoke/VarHandle") ∧ Cond.instantiable q.1.cls q.2 ∈ tables_1 ∧ Cond.privateMethod q.1 ∈ tables_1 ∧ Cond.instanceMethod q.1 ∈ tables_1
theorem lw_p0 : lw_okq (⟨"java/lang/Throwable", "fillInStackTrace", "(I)Ljava/lang/Throwable;"⟩, 6) := ⟨⟨by decide +kernel, by decide +kernel⟩, List.mem_of_getElem? (i := 395) (by decide +kernel), List.mem_of_getElem? (i := 393) (by decide +kernel), List.mem_of_getElem? (i := 394) (by decide +kernel)⟩
theorem lw_p1 : lw_okq (⟨"Handoverhouse$Road", "wouldBeFound", "(LHandoverhouse$Handset;)Z"⟩, 10) := ⟨⟨by decide +kernel, by decide +kernel⟩, List.mem_of_getElem? (i := 113) (by decide +kernel), List.mem_of_getElem? (i := 445) (by decide +kernel), List.mem_of_getElem? (i := 446) (by decide +kernel)⟩
theorem lw_p2 : lw_okq (⟨"Handoverhouse$Road", "isInArea", "(LHandoverhouse$Handset;I)Z"⟩, 10) := ⟨⟨by decide +kernel, by decide +kernel⟩, List.mem_of_getElem? (i := 113) (by decide +kernel), List.mem_of_getElem? (i := 449) (by decide +kernel), List.mem_of_getElem? (i := 450) (by decide +kernel)⟩
theorem lw_p3 : lw_okq (⟨"Handoverhouse", "addMasts", "(J)J"⟩, 4) := ⟨⟨by decide +kernel, by decide +kernel⟩, List.mem_of_getElem? (i := 34) (by decide +kernel), List.mem_of_getElem? (i := 465) (by decide +kernel), List.mem_of_getElem? (i := 466) (by decide +kernel)⟩
theorem lw_p4 : lw_okq (⟨"Handoverhouse", "addHandsets", "(J)J"⟩, 4) := ⟨⟨by decide +kernel, by decide +kernel⟩, List.mem_of_getElem? (i := 34) (by decide +kernel), List.mem_of_getElem? (i := 509) (by decide +kernel), List.mem_of_getElem? (i := 510) (by decide +kernel)⟩
theorem lw_p5 : lw_okq (⟨"Handoverhouse$Road", "chooseMast", "(LHandoverhouse$Handset;)V"⟩, 10) := ⟨⟨by decide +kernel, by decide +kernel⟩, List.mem_of_getElem? (i := 113) (by decide +kernel), List.mem_of_getElem? (i := 546) (by decide +kernel), List.mem_of_getElem? (i := 547) (by decide +kernel)⟩
theorem lw_p6 : lw_okq (⟨"Handoverhouse$Road", "tellArea", "(LHandoverhouse$Handset;)V"⟩, 10) := ⟨⟨by decide +kernel, by decide +kernel⟩, List.mem_of_getElem? (i := 113) (by decide +kernel), List.mem_of_getElem? (i := 550) (by decide +kernel), List.mem_of_getElem? (i := 551) (by decide +kernel)⟩
theorem lw_p7 : lw_okq (⟨"Handoverhouse$Road", "lookAtLeg", "(LHandoverhouse$Call;LHandoverhouse$Leg;)V"⟩, 10) := ⟨⟨by decide +kernel, by decide +kernel⟩, List.mem_of_getElem? (i := 113) (by decide +kernel), List.mem_of_getElem? (i := 558) (by decide +kernel), List.mem_of_getElem? (i := 559) (by decide +kernel)⟩
theorem lw_p8 : lw_okq (⟨"Handoverhouse$Road", "candidateFor", "(II)I"⟩, 10) := ⟨⟨by decide +kernel, by decide +kernel⟩, List.mem_of_getElem? (i := 113) (by decide +kernel), List.mem_of_getElem? (i := 566) (by decide +kernel), List.mem_of_getElem? (i := 567) (by decide +kernel)⟩
theorem lw_p9 : lw_okq (⟨"Handoverhouse$Road", "isMuchBetter", "(III)Z"⟩, 10) := ⟨⟨by decide +kernel, by decide +kernel⟩, List.mem_of_getElem? (i := 113) (by decide +kernel), List.mem_of_getElem? (i := 578) (by decide +kernel), List.mem_of_getElem? (i := 579) (by decide +kernel)⟩
theorem lw_p10 : lw_okq (⟨"Handoverhouse$Road", "handOver", "(LHandoverhouse$Call;LHandoverhouse$Leg;I)V"⟩, 10) := ⟨⟨by decide +kernel, by decide +kernel⟩, List.mem_of_getElem? (i := 113) (by decide +kernel), List.mem_of_getElem? (i := 582) (by decide +kernel), List.mem_of_getElem? (i := 583) (by decide +kernel)⟩
theorem lw_p11 : lw_okq (⟨"Handoverhouse$Road", "release", "(LHandoverhouse$Leg;)V"⟩, 10) := ⟨⟨by decide +kernel, by decide +kernel⟩, List.mem_of_getElem? (i := 113) (by decide +kernel), List.mem_of_getElem? (i := 590) (by decide +kernel), List.mem_of_getElem? (i := 591) (by decide +kernel)⟩
theorem lw_p12 : lw_okq (⟨"Handoverhouse$Road", "charge", "(LHandoverhouse$Call;)V"⟩, 10) := ⟨⟨by decide +kernel, by decide +kernel⟩, List.mem_of_getElem? (i := 113) (by decide +kernel), List.mem_of_getElem? (i := 594) (by decide +kernel), List.mem_of_getElem? (i := 595) (by decide +kernel)⟩
theorem lw_p13 : lw_okq (⟨"Handoverhouse$Road", "price", "(LHandoverhouse$Call;LHandoverhouse$Handset;)I"⟩, 10) := ⟨⟨by decide +kernel, by decide +kernel⟩, List.mem_of_getElem? (i := 113) (by decide +kernel), List.mem_of_getElem? (i := 598) (by decide +kernel), List.mem_of_getElem? (i := 599) (by decide +kernel)⟩
theorem lw_p14 : lw_okq (⟨"Handoverhouse$Road", "carry", "(LHandoverhouse$Leg;)V"⟩, 10) := ⟨⟨by decide +kernel, by decide +kernel⟩, List.mem_of_getElem? (i := 113) (by decide +kernel), List.mem_of_getElem? (i := 602) (by decide +kernel), List.mem_of_getElem? (i := 603) (by decide +kernel)⟩
theorem lw_p15 : lw_okq (⟨"Handoverhouse$Road", "deliverTexts", "(LHandoverhouse$Handset;)V"⟩, 10) := ⟨⟨by decide +kernel, by decide +kernel⟩, List.mem_of_getElem? (i := 113) (by decide +kernel), List.mem_of_getElem? (i := 606) (by decide +kernel), List.mem_of_getElem? (i := 607) (by decide +kernel)⟩
def lw_privs_1 : List (MethodName × Nat) := [(⟨"java/lang/Throwable", "fillInStackTrace", "(I)Ljava/lang/Throwable;"⟩, 6), (⟨"Handoverhouse$Road", "wouldBeFound", "(LHandoverhouse$Handset;)Z"⟩, 10), (⟨"Handoverhouse$Road", "isInArea", "(LHandoverhouse$Handset;I)Z"⟩, 10), (⟨"Handoverhouse", "addMasts", "(J)J"⟩, 4), (⟨"Handoverhouse", "addHandsets", "(J)J"⟩, 4), (⟨"Handoverhouse$Road", "chooseMast", "(LHandoverhouse$Handset;)V"⟩, 10), (⟨"Handoverhouse$Road", "tellArea", "(LHandoverhouse$Handset;)V"⟩, 10), (⟨"Handoverhouse$Road", "lookAtLeg", "(LHandoverhouse$Call;LHandoverhouse$Leg;)V"⟩, 10), (⟨"Handoverhouse$Road", "candidateFor", "(II)I"⟩, 10), (⟨"Handoverhouse$Road", "isMuchBetter", "(III)Z"⟩, 10), (⟨"Handoverhouse$Road", "handOver", "(LHandoverhouse$Call;LHandoverhouse$Leg;I)V"⟩, 10), (⟨"Handoverhouse$Road", "release", "(LHandoverhouse$Leg;)V"⟩, 10), (⟨"Handoverhouse$Road", "charge", "(LHandoverhouse$Call;)V"⟩, 10), (⟨"Handoverhouse$Road", "price", "(LHandoverhouse$Call;LHandoverhouse$Handset;)I"⟩, 10), (⟨"Handoverhouse$Road", "carry", "(LHandoverhouse$Leg;)V"⟩, 10), (⟨"Handoverhouse$Road", "deliverTexts", "(LHandoverhouse$Handset;)V"⟩, 10)]
theorem lw_r1 : ∀ q ∈ lw_privs_1, lw_okq q := List.forall_mem_cons.mpr ⟨lw_p0, List.forall_mem_cons.mpr ⟨lw_p1, List.forall_mem_cons.mpr ⟨lw_p2, List.forall_mem_cons.mpr ⟨lw_p3, List.forall_mem_cons.mpr ⟨lw_p4, List.forall_mem_cons.mpr ⟨lw_p5, List.forall_mem_cons.mpr ⟨lw_p6, List.forall_mem_cons.mpr ⟨lw_p7, List.forall_mem_cons.mpr ⟨lw_p8, List.forall_mem_cons.mpr ⟨lw_p9, List.forall_mem_cons.mpr ⟨lw_p10, List.forall_mem_cons.mpr ⟨lw_p11, List.forall_mem_cons.mpr ⟨lw_p12, List.forall_mem_cons.mpr ⟨lw_p13, List.forall_mem_cons.mpr ⟨lw_p14, List.forall_mem_cons.mpr ⟨lw_p15, fun _ h => absurd h List.not_mem_nil⟩⟩⟩⟩⟩⟩⟩⟩⟩⟩⟩⟩⟩⟩⟩⟩
theorem lw_p16 : lw_okq (⟨"Handoverhouse", "addCalls", "(J)J"⟩, 4) := ⟨⟨by decide +kernel, by decide +kernel⟩, List.mem_of_getElem? (i := 34) (by decide +kernel), List.mem_of_getElem? (i := 610) (by decide +kernel), List.mem_of_getElem? (i := 611) (by decide +kernel)⟩
theorem lw_p17 : lw_okq (⟨"Handoverhouse$Survey", "takeMast", "(LHandoverhouse$Road;III)V"⟩, 3) := ⟨⟨by decide +kernel, by decide +kernel⟩, List.mem_of_getElem? (i := 295) (by decide +kernel), List.mem_of_getElem? (i := 636) (by decide +kernel), List.mem_of_getElem? (i := 637) (by decide +kernel)⟩
theorem lw_p18 : lw_okq (⟨"Handoverhouse$Survey", "servedFrom", "(II)I"⟩, 3) := ⟨⟨by decide +kernel, by decide +kernel⟩, List.mem_of_getElem? (i := 295) (by decide +kernel), List.mem_of_getElem? (i := 656) (by decide +kernel), List.mem_of_getElem? (i := 657) (by decide +kernel)⟩
theorem lw_p19 : lw_okq (⟨"Handoverhouse$Masts", "measureOne", "(II)I"⟩, 3) := ⟨⟨by decide +kernel, by decide +kernel⟩, List.mem_of_getElem? (i := 42) (by decide +kernel), List.mem_of_getElem? (i := 692) (by decide +kernel), List.mem_of_getElem? (i := 693) (by decide +kernel)⟩
theorem lw_p20 : lw_okq (⟨"Handoverhouse", "demandRoomForCall", "()V"⟩, 4) := ⟨⟨by decide +kernel, by decide +kernel⟩, List.mem_of_getElem? (i := 34) (by decide +kernel), List.mem_of_getElem? (i := 754) (by decide +kernel), List.mem_of_getElem? (i := 755) (by decide +kernel)⟩
theorem lw_p21 : lw_okq (⟨"Handoverhouse$Road", "join", "(LHandoverhouse$Leg;I)V"⟩, 10) := ⟨⟨by decide +kernel, by decide +kernel⟩, List.mem_of_getElem? (i := 113) (by decide +kernel), List.mem_of_getElem? (i := 775) (by decide +kernel), List.mem_of_getElem? (i := 776) (by decide +kernel)⟩
theorem lw_p22 : lw_okq (⟨"Handoverhouse$Road", "callToPush", "(I)I"⟩, 10) := ⟨⟨by decide +kernel, by decide +kernel⟩, List.mem_of_getElem? (i := 113) (by decide +kernel), List.mem_of_getElem? (i := 790) (by decide +kernel), List.mem_of_getElem? (i := 791) (by decide +kernel)⟩
theorem lw_p23 : lw_okq (⟨"HandoverhouseModel", "start", "(ZI)Z"⟩, 4) := ⟨⟨by decide +kernel, by decide +kernel⟩, List.mem_of_getElem? (i := 858) (by decide +kernel), List.mem_of_getElem? (i := 940) (by decide +kernel), List.mem_of_getElem? (i := 941) (by decide +kernel)⟩
theorem lw_p24 : lw_okq (⟨"HandoverhouseModel", "refuse", "(ZI)Z"⟩, 4) := ⟨⟨by decide +kernel, by decide +kernel⟩, List.mem_of_getElem? (i := 858) (by decide +kernel), List.mem_of_getElem? (i := 944) (by decide +kernel), List.mem_of_getElem? (i := 945) (by decide +kernel)⟩
theorem lw_p25 : lw_okq (⟨"java/util/ArrayList", "add", "(Ljava/lang/Object;[Ljava/lang/Object;I)V"⟩, 3) := ⟨⟨by decide +kernel, by decide +kernel⟩, List.mem_of_getElem? (i := 870) (by decide +kernel), List.mem_of_getElem? (i := 1005) (by decide +kernel), List.mem_of_getElem? (i := 1006) (by decide +kernel)⟩
theorem lw_p26 : lw_okq (⟨"java/util/ArrayList", "grow", "()[Ljava/lang/Object;"⟩, 3) := ⟨⟨by decide +kernel, by decide +kernel⟩, List.mem_of_getElem? (i := 870) (by decide +kernel), List.mem_of_getElem? (i := 1009) (by decide +kernel), List.mem_of_getElem? (i := 1010) (by decide +kernel)⟩
theorem lw_p27 : lw_okq (⟨"java/util/ArrayList", "grow", "(I)[Ljava/lang/Object;"⟩, 3) := ⟨⟨by decide +kernel, by decide +kernel⟩, List.mem_of_getElem? (i := 870) (by decide +kernel), List.mem_of_getElem? (i := 1013) (by decide +kernel), List.mem_of_getElem? (i := 1014) (by decide +kernel)⟩
theorem lw_p28 : lw_okq (⟨"HandoverhouseModel", "isNoPhone", "(I)Z"⟩, 4) := ⟨⟨by decide +kernel, by decide +kernel⟩, List.mem_of_getElem? (i := 858) (by decide +kernel), List.mem_of_getElem? (i := 1135) (by decide +kernel), List.mem_of_getElem? (i := 1136) (by decide +kernel)⟩
theorem lw_p29 : lw_okq (⟨"HandoverhouseModel", "isNoMast", "(I)Z"⟩, 4) := ⟨⟨by decide +kernel, by decide +kernel⟩, List.mem_of_getElem? (i := 858) (by decide +kernel), List.mem_of_getElem? (i := 1177) (by decide +kernel), List.mem_of_getElem? (i := 1178) (by decide +kernel)⟩
theorem lw_p30 : lw_okq (⟨"HandoverhouseModel$Road", "pagedIn", "(I)I"⟩, 5) := ⟨⟨by decide +kernel, by decide +kernel⟩, List.mem_of_getElem? (i := 864) (by decide +kernel), List.mem_of_getElem? (i := 1247) (by decide +kernel), List.mem_of_getElem? (i := 1248) (by decide +kernel)⟩
theorem lw_p31 : lw_okq (⟨"HandoverhouseModel", "free", "(I)I"⟩, 4) := ⟨⟨by decide +kernel, by decide +kernel⟩, List.mem_of_getElem? (i := 858) (by decide +kernel), List.mem_of_getElem? (i := 1252) (by decide +kernel), List.mem_of_getElem? (i := 1253) (by decide +kernel)⟩
def lw_privs_2 : List (MethodName × Nat) := [(⟨"Handoverhouse", "addCalls", "(J)J"⟩, 4), (⟨"Handoverhouse$Survey", "takeMast", "(LHandoverhouse$Road;III)V"⟩, 3), (⟨"Handoverhouse$Survey", "servedFrom", "(II)I"⟩, 3), (⟨"Handoverhouse$Masts", "measureOne", "(II)I"⟩, 3), (⟨"Handoverhouse", "demandRoomForCall", "()V"⟩, 4), (⟨"Handoverhouse$Road", "join", "(LHandoverhouse$Leg;I)V"⟩, 10), (⟨"Handoverhouse$Road", "callToPush", "(I)I"⟩, 10), (⟨"HandoverhouseModel", "start", "(ZI)Z"⟩, 4), (⟨"HandoverhouseModel", "refuse", "(ZI)Z"⟩, 4), (⟨"java/util/ArrayList", "add", "(Ljava/lang/Object;[Ljava/lang/Object;I)V"⟩, 3), (⟨"java/util/ArrayList", "grow", "()[Ljava/lang/Object;"⟩, 3), (⟨"java/util/ArrayList", "grow", "(I)[Ljava/lang/Object;"⟩, 3), (⟨"HandoverhouseModel", "isNoPhone", "(I)Z"⟩, 4), (⟨"HandoverhouseModel", "isNoMast", "(I)Z"⟩, 4), (⟨"HandoverhouseModel$Road", "pagedIn", "(I)I"⟩, 5), (⟨"HandoverhouseModel", "free", "(I)I"⟩, 4)]
theorem lw_r2 : ∀ q ∈ lw_privs_2, lw_okq q := List.forall_mem_cons.mpr ⟨lw_p16, List.forall_mem_cons.mpr ⟨lw_p17, List.forall_mem_cons.mpr ⟨lw_p18, List.forall_mem_cons.mpr ⟨lw_p19, List.forall_mem_cons.mpr ⟨lw_p20, List.forall_mem_cons.mpr ⟨lw_p21, List.forall_mem_cons.mpr ⟨lw_p22, List.forall_mem_cons.mpr ⟨lw_p23, List.forall_mem_cons.mpr ⟨lw_p24, List.forall_mem_cons.mpr ⟨lw_p25, List.forall_mem_cons.mpr ⟨lw_p26, List.forall_mem_cons.mpr ⟨lw_p27, List.forall_mem_cons.mpr ⟨lw_p28, List.forall_mem_cons.mpr ⟨lw_p29, List.forall_mem_cons.mpr ⟨lw_p30, List.forall_mem_cons.mpr ⟨lw_p31, fun _ h => absurd h List.not_mem_nil⟩⟩⟩⟩⟩⟩⟩⟩⟩⟩⟩⟩⟩⟩⟩⟩
theorem lw_p32 : lw_okq (⟨"HandoverhouseModel", "begin", "(LHandoverhouseModel$Call;)I"⟩, 4) := ⟨⟨by decide +kernel, by decide +kernel⟩, List.mem_of_getElem? (i := 858) (by decide +kernel), List.mem_of_getElem? (i := 1301) (by decide +kernel), List.mem_of_getElem? (i := 1302) (by decide +kernel)⟩
theorem lw_p33 : lw_okq (⟨"HandoverhouseModel", "isNoCall", "(I)Z"⟩, 4) := ⟨⟨by decide +kernel, by decide +kernel⟩, List.mem_of_getElem? (i := 858) (by decide +kernel), List.mem_of_getElem? (i := 1318) (by decide +kernel), List.mem_of_getElem? (i := 1319) (by decide +kernel)⟩
theorem lw_p34 : lw_okq (⟨"HandoverhouseModel", "waiting", "(I)I"⟩, 4) := ⟨⟨by decide +kernel, by decide +kernel⟩, List.mem_of_getElem? (i := 858) (by decide +kernel), List.mem_of_getElem? (i := 1346) (by decide +kernel), List.mem_of_getElem? (i := 1347) (by decide +kernel)⟩
theorem lw_p35 : lw_okq (⟨"HandoverhouseModel$Road", "camp", "(LHandoverhouseModel$Phone;)V"⟩, 5) := ⟨⟨by decide +kernel, by decide +kernel⟩, List.mem_of_getElem? (i := 864) (by decide +kernel), List.mem_of_getElem? (i := 1373) (by decide +kernel), List.mem_of_getElem? (i := 1374) (by decide +kernel)⟩
theorem lw_p36 : lw_okq (⟨"HandoverhouseModel$Road", "hand", "(LHandoverhouseModel$Call;)Z"⟩, 5) := ⟨⟨by decide +kernel, by decide +kernel⟩, List.mem_of_getElem? (i := 864) (by decide +kernel), List.mem_of_getElem? (i := 1401) (by decide +kernel), List.mem_of_getElem? (i := 1402) (by decide +kernel)⟩
theorem lw_p37 : lw_okq (⟨"HandoverhouseModel$Road", "over", "(LHandoverhouseModel$Call;[ILHandoverhouseModel$Phone;I)V"⟩, 5) := ⟨⟨by decide +kernel, by decide +kernel⟩, List.mem_of_getElem? (i := 864) (by decide +kernel), List.mem_of_getElem? (i := 1405) (by decide +kernel), List.mem_of_getElem? (i := 1406) (by decide +kernel)⟩
theorem lw_p38 : lw_okq (⟨"HandoverhouseModel$Road", "pay", "(LHandoverhouseModel$Call;)Z"⟩, 5) := ⟨⟨by decide +kernel, by decide +kernel⟩, List.mem_of_getElem? (i := 864) (by decide +kernel), List.mem_of_getElem? (i := 1410) (by decide +kernel), List.mem_of_getElem? (i := 1411) (by decide +kernel)⟩
theorem lw_p39 : lw_okq (⟨"java/util/ArrayList", "fastRemove", "([Ljava/lang/Object;I)V"⟩, 3) := ⟨⟨by decide +kernel, by decide +kernel⟩, List.mem_of_getElem? (i := 870) (by decide +kernel), List.mem_of_getElem? (i := 1421) (by decide +kernel), List.mem_of_getElem? (i := 1422) (by decide +kernel)⟩
theorem lw_p40 : lw_okq (⟨"HandoverhouseModel", "toldOfMast", "(II)I"⟩, 4) := ⟨⟨by decide +kernel, by decide +kernel⟩, List.mem_of_getElem? (i := 858) (by decide +kernel), List.mem_of_getElem? (i := 1440) (by decide +kernel), List.mem_of_getElem? (i := 1441) (by decide +kernel)⟩
theorem lw_p41 : lw_okq (⟨"HandoverhouseModel", "toldOfPhone", "(II)I"⟩, 4) := ⟨⟨by decide +kernel, by decide +kernel⟩, List.mem_of_getElem? (i := 858) (by decide +kernel), List.mem_of_getElem? (i := 1448) (by decide +kernel), List.mem_of_getElem? (i := 1449) (by decide +kernel)⟩
theorem lw_p42 : lw_okq (⟨"HandoverhouseModel", "count", "(I)I"⟩, 4) := ⟨⟨by decide +kernel, by decide +kernel⟩, List.mem_of_getElem? (i := 858) (by decide +kernel), List.mem_of_getElem? (i := 1463) (by decide +kernel), List.mem_of_getElem? (i := 1464) (by decide +kernel)⟩
theorem lw_p43 : lw_okq (⟨"HandoverhouseModel", "endBehind", "(II)I"⟩, 4) := ⟨⟨by decide +kernel, by decide +kernel⟩, List.mem_of_getElem? (i := 858) (by decide +kernel), List.mem_of_getElem? (i := 1479) (by decide +kernel), List.mem_of_getElem? (i := 1480) (by decide +kernel)⟩
theorem lw_p44 : lw_okq (⟨"HandoverhouseModel", "onBehind", "(II)I"⟩, 4) := ⟨⟨by decide +kernel, by decide +kernel⟩, List.mem_of_getElem? (i := 858) (by decide +kernel), List.mem_of_getElem? (i := 1519) (by decide +kernel), List.mem_of_getElem? (i := 1520) (by decide +kernel)⟩
theorem lw_p45 : lw_okq (⟨"HandoverhouseModel", "bestFor", "(II)I"⟩, 4) := ⟨⟨by decide +kernel, by decide +kernel⟩, List.mem_of_getElem? (i := 858) (by decide +kernel), List.mem_of_getElem? (i := 1527) (by decide +kernel), List.mem_of_getElem? (i := 1528) (by decide +kernel)⟩
theorem lw_p46 : lw_okq (⟨"HandoverhouseModel", "rowsFor", "(I)[[I"⟩, 4) := ⟨⟨by decide +kernel, by decide +kernel⟩, List.mem_of_getElem? (i := 858) (by decide +kernel), List.mem_of_getElem? (i := 1531) (by decide +kernel), List.mem_of_getElem? (i := 1532) (by decide +kernel)⟩
theorem lw_p47 : lw_okq (⟨"HandoverhouseModel", "isCovered", "([III)Z"⟩, 4) := ⟨⟨by decide +kernel, by decide +kernel⟩, List.mem_of_getElem? (i := 858) (by decide +kernel), List.mem_of_getElem? (i := 1538) (by decide +kernel), List.mem_of_getElem? (i := 1539) (by decide +kernel)⟩
def lw_privs_3 : List (MethodName × Nat) := [(⟨"HandoverhouseModel", "begin", "(LHandoverhouseModel$Call;)I"⟩, 4), (⟨"HandoverhouseModel", "isNoCall", "(I)Z"⟩, 4), (⟨"HandoverhouseModel", "waiting", "(I)I"⟩, 4), (⟨"HandoverhouseModel$Road", "camp", "(LHandoverhouseModel$Phone;)V"⟩, 5), (⟨"HandoverhouseModel$Road", "hand", "(LHandoverhouseModel$Call;)Z"⟩, 5), (⟨"HandoverhouseModel$Road", "over", "(LHandoverhouseModel$Call;[ILHandoverhouseModel$Phone;I)V"⟩, 5), (⟨"HandoverhouseModel$Road", "pay", "(LHandoverhouseModel$Call;)Z"⟩, 5), (⟨"java/util/ArrayList", "fastRemove", "([Ljava/lang/Object;I)V"⟩, 3), (⟨"HandoverhouseModel", "toldOfMast", "(II)I"⟩, 4), (⟨"HandoverhouseModel", "toldOfPhone", "(II)I"⟩, 4), (⟨"HandoverhouseModel", "count", "(I)I"⟩, 4), (⟨"HandoverhouseModel", "endBehind", "(II)I"⟩, 4), (⟨"HandoverhouseModel", "onBehind", "(II)I"⟩, 4), (⟨"HandoverhouseModel", "bestFor", "(II)I"⟩, 4), (⟨"HandoverhouseModel", "rowsFor", "(I)[[I"⟩, 4), (⟨"HandoverhouseModel", "isCovered", "([III)Z"⟩, 4)]
theorem lw_r3 : ∀ q ∈ lw_privs_3, lw_okq q := List.forall_mem_cons.mpr ⟨lw_p32, List.forall_mem_cons.mpr ⟨lw_p33, List.forall_mem_cons.mpr ⟨lw_p34, List.forall_mem_cons.mpr ⟨lw_p35, List.forall_mem_cons.mpr ⟨lw_p36, List.forall_mem_cons.mpr ⟨lw_p37, List.forall_mem_cons.mpr ⟨lw_p38, List.forall_mem_cons.mpr ⟨lw_p39, List.forall_mem_cons.mpr ⟨lw_p40, List.forall_mem_cons.mpr ⟨lw_p41, List.forall_mem_cons.mpr ⟨lw_p42, List.forall_mem_cons.mpr ⟨lw_p43, List.forall_mem_cons.mpr ⟨lw_p44, List.forall_mem_cons.mpr ⟨lw_p45, List.forall_mem_cons.mpr ⟨lw_p46, List.forall_mem_cons.mpr ⟨lw_p47, fun _ h => absurd h List.not_mem_nil⟩⟩⟩⟩⟩⟩⟩⟩⟩⟩⟩⟩⟩⟩⟩⟩
def lw_privs : List (MethodName × Nat) := lw_privs_1 ++ (lw_privs_2 ++ (lw_privs_3))
def lw_tbl : List Cond := k2_sels lw_privs ++ tables_1
theorem lw_privs_ok : ∀ q ∈ lw_privs, lw_okq q := by
  show ∀ q ∈ lw_privs_1 ++ (lw_privs_2 ++ (lw_privs_3)), lw_okq q
  exact List.forall_mem_append.mpr ⟨lw_r1, List.forall_mem_append.mpr ⟨lw_r2, lw_r3⟩⟩
/-- the streams that the claim lets the run draw from -/
abbrev lw_cs : List Choice := [Jvm.Choice.named "NaN.bits"]
theorem lw_bits : nanBits ∈ lw_cs := by first | decide | exact List.mem_cons_self | simp [lw_cs, nanBits]
/-! the words of the class among the tables' -/
theorem hh_t0 : ∀ w ∈ hh_w0, w ∈ lw_tbl := fun w h => (goodIn_p hh_w0 [235, 88, 241, 844, 580, 584, 479, 171, 546] (by decide +kernel) (by decide +kernel) w h).1
theorem hh_t1 : ∀ w ∈ hh_w1, w ∈ lw_tbl := fun w h => (goodIn_p hh_w1 [592, 604, 576, 487, 612, 100, 698, 694, 550, 93, 738] (by decide +kernel) (by decide +kernel) w h).1
theorem hh_t2 : ∀ w ∈ hh_w2, w ∈ lw_tbl := fun w h => (goodIn_p hh_w2 [742, 821, 817, 164, 572] (by decide +kernel) (by decide +kernel) w h).1
theorem hh_t3 : ∀ w ∈ hh_w3, w ∈ lw_tbl := fun w h => (goodIn_p hh_w3 [511, 624, 507, 503, 620, 813, 499, 495, 491, 378, 588] (by decide +kernel) (by decide +kernel) w h).1
theorem hh_t4 : ∀ w ∈ hh_w4, w ∈ lw_tbl := fun w h => (goodIn_p hh_w4 [596, 600, 608, 616] (by decide +kernel) (by decide +kernel) w h).1
theorem hh_t5 : ∀ w ∈ hh_w5, w ∈ lw_tbl := fun w h => (goodIn_p hh_w5 [628, 632, 636, 640, 644, 648] (by decide +kernel) (by decide +kernel) w h).1
theorem hh_t6 : ∀ w ∈ hh_w6, w ∈ lw_tbl := fun w h => (goodIn_p hh_w6 [652, 656, 809, 825, 836, 840, 778, 789, 542, 386, 475, 483, 390, 346] (by decide +kernel) (by decide +kernel) w h).1
theorem hh_t7 : ∀ w ∈ hh_w7, w ∈ lw_tbl := fun w h => (goodIn_p hh_w7 [682, 686, 690, 702, 706, 709, 85] (by decide +kernel) (by decide +kernel) w h).1
theorem hh_t8 : ∀ w ∈ hh_w8, w ∈ lw_tbl := fun w h => (goodIn_p hh_w8 [718, 403, 751, 760, 522, 767, 774, 785] (by decide +kernel) (by decide +kernel) w h).1
theorem hh_t9 : ∀ w ∈ hh_w9, w ∈ lw_tbl := fun w h => (goodIn_p hh_w9 [796, 799, 804, 832, 851, 860, 374, 868, 554, 673] (by decide +kernel) (by decide +kernel) w h).1
theorem hh_t10 : ∀ w ∈ hh_w10, w ∈ lw_tbl := fun w h => (goodIn_p hh_w10 [519, 563, 664, 400, 382, 669, 568, 678] (by decide +kernel) (by decide +kernel) w h).1
theorem hh_t11 : ∀ w ∈ hh_w11, w ∈ lw_tbl := fun w h => (goodIn_p hh_w11 [394, 515, 559, 660] (by decide +kernel) (by decide +kernel) w h).1
theorem hh_t12 : ∀ w ∈ hh_w12, w ∈ lw_tbl := fun w h => (goodIn_p hh_w12 [] (by decide +kernel) (by decide +kernel) w h).1
theorem hh_tX0 : ∀ w ∈ wsX00, w ∈ lw_tbl := by decide +kernel
theorem hh_tX1 : ∀ w ∈ wsX10, w ∈ lw_tbl := by decide +kernel
theorem hh_tX2 : ∀ w ∈ wsX20, w ∈ lw_tbl := by decide +kernel
theorem hh_tX3 : ∀ w ∈ wsX30, w ∈ lw_tbl := by decide +kernel
theorem hh_tX4 : ∀ w ∈ wsX40, w ∈ lw_tbl := by decide +kernel
theorem hh_tX5 : ∀ w ∈ wsX50, w ∈ lw_tbl := by decide +kernel
theorem hh_tX6 : ∀ w ∈ wsX60, w ∈ lw_tbl := by decide +kernel
theorem hh_tX7 : ∀ w ∈ wsX70, w ∈ lw_tbl := by decide +kernel
theorem hh_tF : ∀ w ∈ hh_wf, w ∈ lw_tbl := fun w h => (List.mem_append.mp h).elim (hh_tX0 w) (fun h => (List.mem_append.mp h).elim (hh_tX1 w) (fun h => (List.mem_append.mp h).elim (hh_tX2 w) (fun h => (List.mem_append.mp h).elim (hh_tX3 w) (fun h => (List.mem_append.mp h).elim (hh_tX4 w) (fun h => (List.mem_append.mp h).elim (hh_tX5 w) (fun h => (List.mem_append.mp h).elim (hh_tX6 w) (fun h => hh_tX7 w h)))))))
theorem hh_tbl : ∀ w ∈ hh_wa, w ∈ lw_tbl := fun w h => (List.mem_append.mp h).elim (hh_t0 w) (fun h => (List.mem_append.mp h).elim (hh_t1 w) (fun h => (List.mem_append.mp h).elim (hh_t2 w) (fun h => (List.mem_append.mp h).elim (hh_t3 w) (fun h => (List.mem_append.mp h).elim (hh_t4 w) (fun h => (List.mem_append.mp h).elim (hh_t5 w) (fun h => (List.mem_append.mp h).elim (hh_t6 w) (fun h => (List.mem_append.mp h).elim (hh_t7 w) (fun h => (List.mem_append.mp h).elim (hh_t8 w) (fun h => (List.mem_append.mp h).elim (hh_t9 w) (fun h => (List.mem_append.mp h).elim (hh_t10 w) (fun h => (List.mem_append.mp h).elim (hh_t11 w) (fun h => (List.mem_append.mp h).elim (hh_t12 w) (fun h => hh_tF w h)))))))))))))
def RL : String := "HandoverhouseLaw"
abbrev cL_mast : ByteArray := method_3_code
def yL_mast : MethodName := ⟨RL, "mast", "(LHandoverhouse;IIIIII[J)I"⟩
theorem dL_mast_0 : decode cL_mast 0 = .ok (.aload 7, 2) := by decide +kernel
theorem dL_mast_2 : decode cL_mast 2 = .ok (.iconst 0, 1) := by decide +kernel
theorem dL_mast_3 : decode cL_mast 3 = .ok (.aload_n 0, 1) := by decide +kernel
theorem dL_mast_4 : decode cL_mast 4 = .ok (.iload_n 1, 1) := by decide +kernel
theorem dL_mast_5 : decode cL_mast 5 = .ok (.iload_n 2, 1) := by decide +kernel
theorem dL_mast_6 : decode cL_mast 6 = .ok (.iload_n 3, 1) := by decide +kernel
theorem dL_mast_7 : decode cL_mast 7 = .ok (.iload 4, 2) := by decide +kernel
theorem dL_mast_9 : decode cL_mast 9 = .ok (.iload 5, 2) := by decide +kernel
theorem dL_mast_11 : decode cL_mast 11 = .ok (.iload 6, 2) := by decide +kernel
theorem dL_mast_13 : decode cL_mast 13 = .ok (.invokevirtual 7, 3) := by decide +kernel
theorem dL_mast_16 : decode cL_mast 16 = .ok (.i2l, 1) := by decide +kernel
theorem dL_mast_17 : decode cL_mast 17 = .ok (.lastore, 1) := by decide +kernel
theorem dL_mast_18 : decode cL_mast 18 = .ok (.goto 11, 3) := by decide +kernel
theorem dL_mast_21 : decode cL_mast 21 = .ok (.astore 8, 2) := by decide +kernel
theorem dL_mast_23 : decode cL_mast 23 = .ok (.iconst 1, 1) := by decide +kernel
theorem dL_mast_24 : decode cL_mast 24 = .ok (.ireturn, 1) := by decide +kernel
theorem dL_mast_25 : decode cL_mast 25 = .ok (.astore 8, 2) := by decide +kernel
theorem dL_mast_27 : decode cL_mast 27 = .ok (.iconst 2, 1) := by decide +kernel
theorem dL_mast_28 : decode cL_mast 28 = .ok (.ireturn, 1) := by decide +kernel
theorem dL_mast_29 : decode cL_mast 29 = .ok (.iconst 0, 1) := by decide +kernel
theorem dL_mast_30 : decode cL_mast 30 = .ok (.ireturn, 1) := by decide +kernel
abbrev cL_law : ByteArray := code
def yL_law : MethodName := ⟨RL, "law", "([I)Z"⟩
theorem dL_law_0 : decode cL_law 0 = .ok (.new 8, 3) := by decide +kernel
theorem dL_law_3 : decode cL_law 3 = .ok (.dup, 1) := by decide +kernel
theorem dL_law_4 : decode cL_law 4 = .ok (.invokespecial 80, 3) := by decide +kernel
theorem dL_law_7 : decode cL_law 7 = .ok (.astore_n 1, 1) := by decide +kernel
theorem dL_law_8 : decode cL_law 8 = .ok (.new 81, 3) := by decide +kernel
theorem dL_law_11 : decode cL_law 11 = .ok (.dup, 1) := by decide +kernel
theorem dL_law_12 : decode cL_law 12 = .ok (.invokespecial 83, 3) := by decide +kernel
theorem dL_law_15 : decode cL_law 15 = .ok (.astore_n 2, 1) := by decide +kernel
theorem dL_law_16 : decode cL_law 16 = .ok (.iconst 1, 1) := by decide +kernel
theorem dL_law_17 : decode cL_law 17 = .ok (.newarray .long, 2) := by decide +kernel
theorem dL_law_19 : decode cL_law 19 = .ok (.astore_n 3, 1) := by decide +kernel
theorem dL_law_20 : decode cL_law 20 = .ok (.iconst 0, 1) := by decide +kernel
theorem dL_law_21 : decode cL_law 21 = .ok (.istore 4, 2) := by decide +kernel
theorem dL_law_23 : decode cL_law 23 = .ok (.iload 4, 2) := by decide +kernel
theorem dL_law_25 : decode cL_law 25 = .ok (.aload_n 0, 1) := by decide +kernel
theorem dL_law_26 : decode cL_law 26 = .ok (.arraylength, 1) := by decide +kernel
theorem dL_law_27 : decode cL_law 27 = .ok (.bipush 7, 2) := by decide +kernel
theorem dL_law_29 : decode cL_law 29 = .ok (.isub, 1) := by decide +kernel
theorem dL_law_30 : decode cL_law 30 = .ok (.if_icmp .gt 1012, 3) := by decide +kernel
theorem dL_law_33 : decode cL_law 33 = .ok (.aload_n 0, 1) := by decide +kernel
theorem dL_law_34 : decode cL_law 34 = .ok (.iload 4, 2) := by decide +kernel
theorem dL_law_36 : decode cL_law 36 = .ok (.iaload, 1) := by decide +kernel
theorem dL_law_37 : decode cL_law 37 = .ok (.bipush 31, 2) := by decide +kernel
theorem dL_law_39 : decode cL_law 39 = .ok (.iand, 1) := by decide +kernel
theorem dL_law_40 : decode cL_law 40 = .ok (.tableswitch 996 0 22 #[108, 198, 262, 302, 342, 398, 454, 494, 522, 550, 590, 603, 631, 671, 699, 739, 779, 819, 847, 862, 902, 942, 982], 108) := by decide +kernel
theorem dL_law_148 : decode cL_law 148 = .ok (.aload_n 1, 1) := by decide +kernel
theorem dL_law_149 : decode cL_law 149 = .ok (.aload_n 0, 1) := by decide +kernel
theorem dL_law_150 : decode cL_law 150 = .ok (.iload 4, 2) := by decide +kernel
theorem dL_law_152 : decode cL_law 152 = .ok (.iconst 1, 1) := by decide +kernel
theorem dL_law_153 : decode cL_law 153 = .ok (.iadd, 1) := by decide +kernel
theorem dL_law_154 : decode cL_law 154 = .ok (.iaload, 1) := by decide +kernel
theorem dL_law_155 : decode cL_law 155 = .ok (.aload_n 0, 1) := by decide +kernel
theorem dL_law_156 : decode cL_law 156 = .ok (.iload 4, 2) := by decide +kernel
theorem dL_law_158 : decode cL_law 158 = .ok (.iconst 2, 1) := by decide +kernel
theorem dL_law_159 : decode cL_law 159 = .ok (.iadd, 1) := by decide +kernel
theorem dL_law_160 : decode cL_law 160 = .ok (.iaload, 1) := by decide +kernel
theorem dL_law_161 : decode cL_law 161 = .ok (.aload_n 0, 1) := by decide +kernel
theorem dL_law_162 : decode cL_law 162 = .ok (.iload 4, 2) := by decide +kernel
theorem dL_law_164 : decode cL_law 164 = .ok (.iconst 3, 1) := by decide +kernel
theorem dL_law_165 : decode cL_law 165 = .ok (.iadd, 1) := by decide +kernel
theorem dL_law_166 : decode cL_law 166 = .ok (.iaload, 1) := by decide +kernel
theorem dL_law_167 : decode cL_law 167 = .ok (.aload_n 0, 1) := by decide +kernel
theorem dL_law_168 : decode cL_law 168 = .ok (.iload 4, 2) := by decide +kernel
theorem dL_law_170 : decode cL_law 170 = .ok (.iconst 4, 1) := by decide +kernel
theorem dL_law_171 : decode cL_law 171 = .ok (.iadd, 1) := by decide +kernel
theorem dL_law_172 : decode cL_law 172 = .ok (.iaload, 1) := by decide +kernel
theorem dL_law_173 : decode cL_law 173 = .ok (.aload_n 0, 1) := by decide +kernel
theorem dL_law_174 : decode cL_law 174 = .ok (.iload 4, 2) := by decide +kernel
theorem dL_law_176 : decode cL_law 176 = .ok (.iconst 5, 1) := by decide +kernel
theorem dL_law_177 : decode cL_law 177 = .ok (.iadd, 1) := by decide +kernel
theorem dL_law_178 : decode cL_law 178 = .ok (.iaload, 1) := by decide +kernel
theorem dL_law_179 : decode cL_law 179 = .ok (.aload_n 0, 1) := by decide +kernel
theorem dL_law_180 : decode cL_law 180 = .ok (.iload 4, 2) := by decide +kernel
theorem dL_law_182 : decode cL_law 182 = .ok (.bipush 6, 2) := by decide +kernel
theorem dL_law_184 : decode cL_law 184 = .ok (.iadd, 1) := by decide +kernel
theorem dL_law_185 : decode cL_law 185 = .ok (.iaload, 1) := by decide +kernel
theorem dL_law_186 : decode cL_law 186 = .ok (.aload_n 3, 1) := by decide +kernel
theorem dL_law_187 : decode cL_law 187 = .ok (.invokestatic 84, 3) := by decide +kernel
theorem dL_law_190 : decode cL_law 190 = .ok (.istore 5, 2) := by decide +kernel
theorem dL_law_192 : decode cL_law 192 = .ok (.aload_n 2, 1) := by decide +kernel
theorem dL_law_193 : decode cL_law 193 = .ok (.aload_n 0, 1) := by decide +kernel
theorem dL_law_194 : decode cL_law 194 = .ok (.iload 4, 2) := by decide +kernel
theorem dL_law_196 : decode cL_law 196 = .ok (.iconst 1, 1) := by decide +kernel
theorem dL_law_197 : decode cL_law 197 = .ok (.iadd, 1) := by decide +kernel
theorem dL_law_198 : decode cL_law 198 = .ok (.iaload, 1) := by decide +kernel
theorem dL_law_199 : decode cL_law 199 = .ok (.aload_n 0, 1) := by decide +kernel
theorem dL_law_200 : decode cL_law 200 = .ok (.iload 4, 2) := by decide +kernel
theorem dL_law_202 : decode cL_law 202 = .ok (.iconst 2, 1) := by decide +kernel
theorem dL_law_203 : decode cL_law 203 = .ok (.iadd, 1) := by decide +kernel
theorem dL_law_204 : decode cL_law 204 = .ok (.iaload, 1) := by decide +kernel
theorem dL_law_205 : decode cL_law 205 = .ok (.aload_n 0, 1) := by decide +kernel
theorem dL_law_206 : decode cL_law 206 = .ok (.iload 4, 2) := by decide +kernel
theorem dL_law_208 : decode cL_law 208 = .ok (.iconst 3, 1) := by decide +kernel
theorem dL_law_209 : decode cL_law 209 = .ok (.iadd, 1) := by decide +kernel
theorem dL_law_210 : decode cL_law 210 = .ok (.iaload, 1) := by decide +kernel
theorem dL_law_211 : decode cL_law 211 = .ok (.aload_n 0, 1) := by decide +kernel
theorem dL_law_212 : decode cL_law 212 = .ok (.iload 4, 2) := by decide +kernel
theorem dL_law_214 : decode cL_law 214 = .ok (.iconst 4, 1) := by decide +kernel
theorem dL_law_215 : decode cL_law 215 = .ok (.iadd, 1) := by decide +kernel
theorem dL_law_216 : decode cL_law 216 = .ok (.iaload, 1) := by decide +kernel
theorem dL_law_217 : decode cL_law 217 = .ok (.aload_n 0, 1) := by decide +kernel
theorem dL_law_218 : decode cL_law 218 = .ok (.iload 4, 2) := by decide +kernel
theorem dL_law_220 : decode cL_law 220 = .ok (.iconst 5, 1) := by decide +kernel
theorem dL_law_221 : decode cL_law 221 = .ok (.iadd, 1) := by decide +kernel
theorem dL_law_222 : decode cL_law 222 = .ok (.iaload, 1) := by decide +kernel
theorem dL_law_223 : decode cL_law 223 = .ok (.aload_n 0, 1) := by decide +kernel
theorem dL_law_224 : decode cL_law 224 = .ok (.iload 4, 2) := by decide +kernel
theorem dL_law_226 : decode cL_law 226 = .ok (.bipush 6, 2) := by decide +kernel
theorem dL_law_228 : decode cL_law 228 = .ok (.iadd, 1) := by decide +kernel
theorem dL_law_229 : decode cL_law 229 = .ok (.iaload, 1) := by decide +kernel
theorem dL_law_230 : decode cL_law 230 = .ok (.invokevirtual 89, 3) := by decide +kernel
theorem dL_law_233 : decode cL_law 233 = .ok (.istore 6, 2) := by decide +kernel
theorem dL_law_235 : decode cL_law 235 = .ok (.goto 801, 3) := by decide +kernel
theorem dL_law_238 : decode cL_law 238 = .ok (.aload_n 1, 1) := by decide +kernel
theorem dL_law_239 : decode cL_law 239 = .ok (.aload_n 0, 1) := by decide +kernel
theorem dL_law_240 : decode cL_law 240 = .ok (.iload 4, 2) := by decide +kernel
theorem dL_law_242 : decode cL_law 242 = .ok (.iconst 1, 1) := by decide +kernel
theorem dL_law_243 : decode cL_law 243 = .ok (.iadd, 1) := by decide +kernel
theorem dL_law_244 : decode cL_law 244 = .ok (.iaload, 1) := by decide +kernel
theorem dL_law_245 : decode cL_law 245 = .ok (.aload_n 0, 1) := by decide +kernel
theorem dL_law_246 : decode cL_law 246 = .ok (.iload 4, 2) := by decide +kernel
theorem dL_law_248 : decode cL_law 248 = .ok (.iconst 2, 1) := by decide +kernel
theorem dL_law_249 : decode cL_law 249 = .ok (.iadd, 1) := by decide +kernel
theorem dL_law_250 : decode cL_law 250 = .ok (.iaload, 1) := by decide +kernel
theorem dL_law_251 : decode cL_law 251 = .ok (.aload_n 0, 1) := by decide +kernel
theorem dL_law_252 : decode cL_law 252 = .ok (.iload 4, 2) := by decide +kernel
theorem dL_law_254 : decode cL_law 254 = .ok (.iconst 3, 1) := by decide +kernel
theorem dL_law_255 : decode cL_law 255 = .ok (.iadd, 1) := by decide +kernel
theorem dL_law_256 : decode cL_law 256 = .ok (.iaload, 1) := by decide +kernel
theorem dL_law_257 : decode cL_law 257 = .ok (.aload_n 0, 1) := by decide +kernel
theorem dL_law_258 : decode cL_law 258 = .ok (.iload 4, 2) := by decide +kernel
theorem dL_law_260 : decode cL_law 260 = .ok (.iconst 4, 1) := by decide +kernel
theorem dL_law_261 : decode cL_law 261 = .ok (.iadd, 1) := by decide +kernel
theorem dL_law_262 : decode cL_law 262 = .ok (.iaload, 1) := by decide +kernel
theorem dL_law_263 : decode cL_law 263 = .ok (.aload_n 3, 1) := by decide +kernel
theorem dL_law_264 : decode cL_law 264 = .ok (.invokestatic 90, 3) := by decide +kernel
theorem dL_law_267 : decode cL_law 267 = .ok (.istore 5, 2) := by decide +kernel
theorem dL_law_269 : decode cL_law 269 = .ok (.aload_n 2, 1) := by decide +kernel
theorem dL_law_1022 : decode cL_law 1022 = .ok (.aload_n 1, 1) := by decide +kernel
theorem dL_law_1023 : decode cL_law 1023 = .ok (.invokevirtual 161, 3) := by decide +kernel
theorem dL_law_1026 : decode cL_law 1026 = .ok (.aload_n 2, 1) := by decide +kernel
theorem dL_law_1027 : decode cL_law 1027 = .ok (.invokevirtual 165, 3) := by decide +kernel
theorem dL_law_1030 : decode cL_law 1030 = .ok (.lcmp, 1) := by decide +kernel
theorem dL_law_1031 : decode cL_law 1031 = .ok (.ifCond .eq 5, 3) := by decide +kernel
theorem dL_law_1034 : decode cL_law 1034 = .ok (.iconst 0, 1) := by decide +kernel
theorem dL_law_1035 : decode cL_law 1035 = .ok (.ireturn, 1) := by decide +kernel
theorem dL_law_1036 : decode cL_law 1036 = .ok (.iinc 4 7, 3) := by decide +kernel
theorem dL_law_1039 : decode cL_law 1039 = .ok (.goto (-1016), 3) := by decide +kernel
theorem dL_law_1042 : decode cL_law 1042 = .ok (.iconst 1, 1) := by decide +kernel
theorem dL_law_1043 : decode cL_law 1043 = .ok (.ireturn, 1) := by decide +kernel
theorem hr_t0 : ∀ w ∈ hr_w0, w ∈ lw_tbl := fun w h => (goodIn_p hr_w0 [1003, 88, 1440, 709, 915, 921, 924, 927] (by decide +kernel) (by decide +kernel) w h).1
theorem hr_t1 : ∀ w ∈ hr_w1, w ∈ lw_tbl := fun w h => (goodIn_p hr_w1 [1436, 690, 1189, 1192, 1195, 1199, 1231, 1236] (by decide +kernel) (by decide +kernel) w h).1
theorem hr_t2 : ∀ w ∈ hr_w2, w ∈ lw_tbl := fun w h => (goodIn_p hr_w2 [1260, 1269, 1273, 1446, 1431, 998, 1427, 1517] (by decide +kernel) (by decide +kernel) w h).1
theorem hr_t3 : ∀ w ∈ hr_w3, w ∈ lw_tbl := fun w h => (goodIn_p hr_w3 [1293, 986, 909, 994, 990, 983, 1051, 1055, 1059] (by decide +kernel) (by decide +kernel) w h).1
theorem hr_t4 : ∀ w ∈ hr_w4, w ∈ lw_tbl := fun w h => (goodIn_p hr_w4 [1063, 1490, 1513] (by decide +kernel) (by decide +kernel) w h).1
theorem hr_t5 : ∀ w ∈ hr_w5, w ∈ lw_tbl := fun w h => (goodIn_p hr_w5 [1581, 1588, 1577, 1596, 1592] (by decide +kernel) (by decide +kernel) w h).1
theorem hr_t6 : ∀ w ∈ hr_w6, w ∈ lw_tbl := fun w h => (goodIn_p hr_w6 [] (by decide +kernel) (by decide +kernel) w h).1
theorem hr_t7 : ∀ w ∈ hr_w7, w ∈ lw_tbl := fun w h => (goodIn_p hr_w7 [] (by decide +kernel) (by decide +kernel) w h).1
theorem hr_tX9 : ∀ w ∈ wsX90, w ∈ lw_tbl := by decide +kernel
theorem hr_tX10 : ∀ w ∈ wsX100, w ∈ lw_tbl := by decide +kernel
theorem hr_tX11 : ∀ w ∈ wsX110, w ∈ lw_tbl := by decide +kernel
theorem hr_tX12 : ∀ w ∈ wsX120, w ∈ lw_tbl := by decide +kernel
theorem hr_tJx4a65c : ∀ w ∈ wsJx4a65c0, w ∈ lw_tbl := by decide +kernel
theorem hr_tJx35411 : ∀ w ∈ wsJx354110, w ∈ lw_tbl := by decide +kernel
theorem hr_tF : ∀ w ∈ hr_wf, w ∈ lw_tbl := fun w h => (List.mem_append.mp h).elim (hr_tX9 w) (fun h => (List.mem_append.mp h).elim (hr_tX10 w) (fun h => (List.mem_append.mp h).elim (hr_tX11 w) (fun h => (List.mem_append.mp h).elim (hr_tX12 w) (fun h => (List.mem_append.mp h).elim (hr_tJx4a65c w) (fun h => hr_tJx35411 w h)))))
theorem hr_tbl : ∀ w ∈ hr_wa, w ∈ lw_tbl := fun w h => (List.mem_append.mp h).elim (hr_t0 w) (fun h => (List.mem_append.mp h).elim (hr_t1 w) (fun h => (List.mem_append.mp h).elim (hr_t2 w) (fun h => (List.mem_append.mp h).elim (hr_t3 w) (fun h => (List.mem_append.mp h).elim (hr_t4 w) (fun h => (List.mem_append.mp h).elim (hr_t5 w) (fun h => (List.mem_append.mp h).elim (hr_t6 w) (fun h => (List.mem_append.mp h).elim (hr_t7 w) (fun h => hr_tF w h))))))))
