section
-- ===== PART A: goes FIRST, ahead of the names: the tables' words, and 'selects' of the private methods out of them =====
/-- a private method of a class that the tables say can be made, by its rows of tables_1 -/
def lw_okq (q : MethodName × Nat) : Prop := (q.1.cls ≠ "java/lang/invoke/MethodHandle" ∧ q.1.cls ≠ "java/lang/invoke/VarHandle") ∧ Cond.instantiable q.1.cls q.2 ∈ tables_1 ∧ Cond.privateMethod q.1 ∈ tables_1 ∧ Cond.instanceMethod q.1 ∈ tables_1
theorem lw_p0 : lw_okq (⟨"ShelfStages", "hasGood", "(I)Z"⟩, 9) := ⟨⟨by decide +kernel, by decide +kernel⟩, List.mem_of_getElem? (i := 15) (by decide +kernel), List.mem_of_getElem? (i := 440) (by decide +kernel), List.mem_of_getElem? (i := 441) (by decide +kernel)⟩
theorem lw_p1 : lw_okq (⟨"ShelfStages", "placeError", "(II)I"⟩, 9) := ⟨⟨by decide +kernel, by decide +kernel⟩, List.mem_of_getElem? (i := 15) (by decide +kernel), List.mem_of_getElem? (i := 464) (by decide +kernel), List.mem_of_getElem? (i := 465) (by decide +kernel)⟩
theorem lw_p2 : lw_okq (⟨"ShelfStages", "isSupply", "(III)Z"⟩, 9) := ⟨⟨by decide +kernel, by decide +kernel⟩, List.mem_of_getElem? (i := 15) (by decide +kernel), List.mem_of_getElem? (i := 503) (by decide +kernel), List.mem_of_getElem? (i := 504) (by decide +kernel)⟩
theorem lw_p3 : lw_okq (⟨"ShelfStages$Delivery", "openEntry", "()Z"⟩, 4) := ⟨⟨by decide +kernel, by decide +kernel⟩, List.mem_of_getElem? (i := 334) (by decide +kernel), List.mem_of_getElem? (i := 528) (by decide +kernel), List.mem_of_getElem? (i := 529) (by decide +kernel)⟩
theorem lw_p4 : lw_okq (⟨"ShelfStages$Delivery", "openPart", "(I)Z"⟩, 4) := ⟨⟨by decide +kernel, by decide +kernel⟩, List.mem_of_getElem? (i := 334) (by decide +kernel), List.mem_of_getElem? (i := 532) (by decide +kernel), List.mem_of_getElem? (i := 533) (by decide +kernel)⟩
theorem lw_p5 : lw_okq (⟨"ShelfStages$Delivery", "accepts", "(C)Z"⟩, 4) := ⟨⟨by decide +kernel, by decide +kernel⟩, List.mem_of_getElem? (i := 334) (by decide +kernel), List.mem_of_getElem? (i := 536) (by decide +kernel), List.mem_of_getElem? (i := 537) (by decide +kernel)⟩
theorem lw_p6 : lw_okq (⟨"ShelfStages$Delivery", "acceptsDigit", "(I)Z"⟩, 4) := ⟨⟨by decide +kernel, by decide +kernel⟩, List.mem_of_getElem? (i := 334) (by decide +kernel), List.mem_of_getElem? (i := 540) (by decide +kernel), List.mem_of_getElem? (i := 541) (by decide +kernel)⟩
theorem lw_p7 : lw_okq (⟨"ShelfStages", "deliveryError", "()I"⟩, 9) := ⟨⟨by decide +kernel, by decide +kernel⟩, List.mem_of_getElem? (i := 15) (by decide +kernel), List.mem_of_getElem? (i := 544) (by decide +kernel), List.mem_of_getElem? (i := 545) (by decide +kernel)⟩
theorem lw_p8 : lw_okq (⟨"ShelfStages", "leftIn", "(II)I"⟩, 9) := ⟨⟨by decide +kernel, by decide +kernel⟩, List.mem_of_getElem? (i := 15) (by decide +kernel), List.mem_of_getElem? (i := 556) (by decide +kernel), List.mem_of_getElem? (i := 557) (by decide +kernel)⟩
theorem lw_p9 : lw_okq (⟨"ShelfStages", "wishError", "(III)I"⟩, 9) := ⟨⟨by decide +kernel, by decide +kernel⟩, List.mem_of_getElem? (i := 15) (by decide +kernel), List.mem_of_getElem? (i := 568) (by decide +kernel), List.mem_of_getElem? (i := 569) (by decide +kernel)⟩
theorem lw_p10 : lw_okq (⟨"ShelfStages$Filling", "takeFrom", "(LShelfStages$State;I)V"⟩, 11) := ⟨⟨by decide +kernel, by decide +kernel⟩, List.mem_of_getElem? (i := 285) (by decide +kernel), List.mem_of_getElem? (i := 594) (by decide +kernel), List.mem_of_getElem? (i := 595) (by decide +kernel)⟩
theorem lw_p11 : lw_okq (⟨"ShelfStages$Filling", "nextBatch", "(LShelfStages$State;I)I"⟩, 11) := ⟨⟨by decide +kernel, by decide +kernel⟩, List.mem_of_getElem? (i := 285) (by decide +kernel), List.mem_of_getElem? (i := 598) (by decide +kernel), List.mem_of_getElem? (i := 599) (by decide +kernel)⟩
theorem lw_p12 : lw_okq (⟨"ShelfStages$Filling", "isOpen", "(LShelfStages$State;II)Z"⟩, 11) := ⟨⟨by decide +kernel, by decide +kernel⟩, List.mem_of_getElem? (i := 285) (by decide +kernel), List.mem_of_getElem? (i := 602) (by decide +kernel), List.mem_of_getElem? (i := 603) (by decide +kernel)⟩
theorem lw_p13 : lw_okq (⟨"ShelfStages$Filling", "isBefore", "(LShelfStages$State;II)Z"⟩, 11) := ⟨⟨by decide +kernel, by decide +kernel⟩, List.mem_of_getElem? (i := 285) (by decide +kernel), List.mem_of_getElem? (i := 606) (by decide +kernel), List.mem_of_getElem? (i := 607) (by decide +kernel)⟩
theorem lw_p14 : lw_okq (⟨"ShelfStages$Filling", "takePart", "(LShelfStages$State;II)V"⟩, 11) := ⟨⟨by decide +kernel, by decide +kernel⟩, List.mem_of_getElem? (i := 285) (by decide +kernel), List.mem_of_getElem? (i := 611) (by decide +kernel), List.mem_of_getElem? (i := 612) (by decide +kernel)⟩
theorem lw_p15 : lw_okq (⟨"ShelfStages$Filling", "chargedPrice", "(LShelfStages$State;I)F"⟩, 11) := ⟨⟨by decide +kernel, by decide +kernel⟩, List.mem_of_getElem? (i := 285) (by decide +kernel), List.mem_of_getElem? (i := 615) (by decide +kernel), List.mem_of_getElem? (i := 616) (by decide +kernel)⟩
def lw_privs_1 : List (MethodName × Nat) := [(⟨"ShelfStages", "hasGood", "(I)Z"⟩, 9), (⟨"ShelfStages", "placeError", "(II)I"⟩, 9), (⟨"ShelfStages", "isSupply", "(III)Z"⟩, 9), (⟨"ShelfStages$Delivery", "openEntry", "()Z"⟩, 4), (⟨"ShelfStages$Delivery", "openPart", "(I)Z"⟩, 4), (⟨"ShelfStages$Delivery", "accepts", "(C)Z"⟩, 4), (⟨"ShelfStages$Delivery", "acceptsDigit", "(I)Z"⟩, 4), (⟨"ShelfStages", "deliveryError", "()I"⟩, 9), (⟨"ShelfStages", "leftIn", "(II)I"⟩, 9), (⟨"ShelfStages", "wishError", "(III)I"⟩, 9), (⟨"ShelfStages$Filling", "takeFrom", "(LShelfStages$State;I)V"⟩, 11), (⟨"ShelfStages$Filling", "nextBatch", "(LShelfStages$State;I)I"⟩, 11), (⟨"ShelfStages$Filling", "isOpen", "(LShelfStages$State;II)Z"⟩, 11), (⟨"ShelfStages$Filling", "isBefore", "(LShelfStages$State;II)Z"⟩, 11), (⟨"ShelfStages$Filling", "takePart", "(LShelfStages$State;II)V"⟩, 11), (⟨"ShelfStages$Filling", "chargedPrice", "(LShelfStages$State;I)F"⟩, 11)]
theorem lw_r1 : ∀ q ∈ lw_privs_1, lw_okq q := List.forall_mem_cons.mpr ⟨lw_p0, List.forall_mem_cons.mpr ⟨lw_p1, List.forall_mem_cons.mpr ⟨lw_p2, List.forall_mem_cons.mpr ⟨lw_p3, List.forall_mem_cons.mpr ⟨lw_p4, List.forall_mem_cons.mpr ⟨lw_p5, List.forall_mem_cons.mpr ⟨lw_p6, List.forall_mem_cons.mpr ⟨lw_p7, List.forall_mem_cons.mpr ⟨lw_p8, List.forall_mem_cons.mpr ⟨lw_p9, List.forall_mem_cons.mpr ⟨lw_p10, List.forall_mem_cons.mpr ⟨lw_p11, List.forall_mem_cons.mpr ⟨lw_p12, List.forall_mem_cons.mpr ⟨lw_p13, List.forall_mem_cons.mpr ⟨lw_p14, List.forall_mem_cons.mpr ⟨lw_p15, fun _ h => absurd h List.not_mem_nil⟩⟩⟩⟩⟩⟩⟩⟩⟩⟩⟩⟩⟩⟩⟩⟩
theorem lw_p16 : lw_okq (⟨"ShelfStages", "hasBatch", "(I)Z"⟩, 9) := ⟨⟨by decide +kernel, by decide +kernel⟩, List.mem_of_getElem? (i := 15) (by decide +kernel), List.mem_of_getElem? (i := 641) (by decide +kernel), List.mem_of_getElem? (i := 642) (by decide +kernel)⟩
theorem lw_p17 : lw_okq (⟨"ShelfStages", "hasOrder", "(I)Z"⟩, 9) := ⟨⟨by decide +kernel, by decide +kernel⟩, List.mem_of_getElem? (i := 15) (by decide +kernel), List.mem_of_getElem? (i := 774) (by decide +kernel), List.mem_of_getElem? (i := 775) (by decide +kernel)⟩
theorem lw_p18 : lw_okq (⟨"ShelfStagesModel", "record", "()V"⟩, 19) := ⟨⟨by decide +kernel, by decide +kernel⟩, List.mem_of_getElem? (i := 832) (by decide +kernel), List.mem_of_getElem? (i := 912) (by decide +kernel), List.mem_of_getElem? (i := 913) (by decide +kernel)⟩
theorem lw_p19 : lw_okq (⟨"ShelfStagesModel", "isGood", "(I)Z"⟩, 19) := ⟨⟨by decide +kernel, by decide +kernel⟩, List.mem_of_getElem? (i := 832) (by decide +kernel), List.mem_of_getElem? (i := 927) (by decide +kernel), List.mem_of_getElem? (i := 928) (by decide +kernel)⟩
theorem lw_p20 : lw_okq (⟨"ShelfStagesModel", "ofGood", "(II)I"⟩, 19) := ⟨⟨by decide +kernel, by decide +kernel⟩, List.mem_of_getElem? (i := 832) (by decide +kernel), List.mem_of_getElem? (i := 931) (by decide +kernel), List.mem_of_getElem? (i := 932) (by decide +kernel)⟩
theorem lw_p21 : lw_okq (⟨"ShelfStagesModel", "plan", "(IIIZ)V"⟩, 19) := ⟨⟨by decide +kernel, by decide +kernel⟩, List.mem_of_getElem? (i := 832) (by decide +kernel), List.mem_of_getElem? (i := 961) (by decide +kernel), List.mem_of_getElem? (i := 962) (by decide +kernel)⟩
theorem lw_p22 : lw_okq (⟨"ShelfStagesModel", "takeFrom", "(IIII)V"⟩, 19) := ⟨⟨by decide +kernel, by decide +kernel⟩, List.mem_of_getElem? (i := 832) (by decide +kernel), List.mem_of_getElem? (i := 965) (by decide +kernel), List.mem_of_getElem? (i := 966) (by decide +kernel)⟩
theorem lw_p23 : lw_okq (⟨"ShelfStagesModel", "nextBatch", "(II)I"⟩, 19) := ⟨⟨by decide +kernel, by decide +kernel⟩, List.mem_of_getElem? (i := 832) (by decide +kernel), List.mem_of_getElem? (i := 969) (by decide +kernel), List.mem_of_getElem? (i := 970) (by decide +kernel)⟩
theorem lw_p24 : lw_okq (⟨"ShelfStagesModel", "ofBatch", "(II)I"⟩, 19) := ⟨⟨by decide +kernel, by decide +kernel⟩, List.mem_of_getElem? (i := 832) (by decide +kernel), List.mem_of_getElem? (i := 973) (by decide +kernel), List.mem_of_getElem? (i := 974) (by decide +kernel)⟩
theorem lw_p25 : lw_okq (⟨"ShelfStagesModel", "isSooner", "(II)Z"⟩, 19) := ⟨⟨by decide +kernel, by decide +kernel⟩, List.mem_of_getElem? (i := 832) (by decide +kernel), List.mem_of_getElem? (i := 977) (by decide +kernel), List.mem_of_getElem? (i := 978) (by decide +kernel)⟩
theorem lw_p26 : lw_okq (⟨"ShelfStagesModel", "priceOf", "(I)F"⟩, 19) := ⟨⟨by decide +kernel, by decide +kernel⟩, List.mem_of_getElem? (i := 832) (by decide +kernel), List.mem_of_getElem? (i := 981) (by decide +kernel), List.mem_of_getElem? (i := 982) (by decide +kernel)⟩
theorem lw_p27 : lw_okq (⟨"ShelfStagesModel", "stageOfBatch", "(I)I"⟩, 19) := ⟨⟨by decide +kernel, by decide +kernel⟩, List.mem_of_getElem? (i := 832) (by decide +kernel), List.mem_of_getElem? (i := 985) (by decide +kernel), List.mem_of_getElem? (i := 986) (by decide +kernel)⟩
theorem lw_p28 : lw_okq (⟨"ShelfStagesModel", "stageOf", "(II)I"⟩, 19) := ⟨⟨by decide +kernel, by decide +kernel⟩, List.mem_of_getElem? (i := 832) (by decide +kernel), List.mem_of_getElem? (i := 989) (by decide +kernel), List.mem_of_getElem? (i := 990) (by decide +kernel)⟩
theorem lw_p29 : lw_okq (⟨"ShelfStagesModel", "centsOf", "(III)I"⟩, 19) := ⟨⟨by decide +kernel, by decide +kernel⟩, List.mem_of_getElem? (i := 832) (by decide +kernel), List.mem_of_getElem? (i := 999) (by decide +kernel), List.mem_of_getElem? (i := 1000) (by decide +kernel)⟩
theorem lw_p30 : lw_okq (⟨"ShelfStagesModel", "planDue", "()I"⟩, 19) := ⟨⟨by decide +kernel, by decide +kernel⟩, List.mem_of_getElem? (i := 832) (by decide +kernel), List.mem_of_getElem? (i := 1003) (by decide +kernel), List.mem_of_getElem? (i := 1004) (by decide +kernel)⟩
theorem lw_p31 : lw_okq (⟨"ShelfStagesModel", "sell", "(I)V"⟩, 19) := ⟨⟨by decide +kernel, by decide +kernel⟩, List.mem_of_getElem? (i := 832) (by decide +kernel), List.mem_of_getElem? (i := 1007) (by decide +kernel), List.mem_of_getElem? (i := 1008) (by decide +kernel)⟩
def lw_privs_2 : List (MethodName × Nat) := [(⟨"ShelfStages", "hasBatch", "(I)Z"⟩, 9), (⟨"ShelfStages", "hasOrder", "(I)Z"⟩, 9), (⟨"ShelfStagesModel", "record", "()V"⟩, 19), (⟨"ShelfStagesModel", "isGood", "(I)Z"⟩, 19), (⟨"ShelfStagesModel", "ofGood", "(II)I"⟩, 19), (⟨"ShelfStagesModel", "plan", "(IIIZ)V"⟩, 19), (⟨"ShelfStagesModel", "takeFrom", "(IIII)V"⟩, 19), (⟨"ShelfStagesModel", "nextBatch", "(II)I"⟩, 19), (⟨"ShelfStagesModel", "ofBatch", "(II)I"⟩, 19), (⟨"ShelfStagesModel", "isSooner", "(II)Z"⟩, 19), (⟨"ShelfStagesModel", "priceOf", "(I)F"⟩, 19), (⟨"ShelfStagesModel", "stageOfBatch", "(I)I"⟩, 19), (⟨"ShelfStagesModel", "stageOf", "(II)I"⟩, 19), (⟨"ShelfStagesModel", "centsOf", "(III)I"⟩, 19), (⟨"ShelfStagesModel", "planDue", "()I"⟩, 19), (⟨"ShelfStagesModel", "sell", "(I)V"⟩, 19)]
theorem lw_r2 : ∀ q ∈ lw_privs_2, lw_okq q := List.forall_mem_cons.mpr ⟨lw_p16, List.forall_mem_cons.mpr ⟨lw_p17, List.forall_mem_cons.mpr ⟨lw_p18, List.forall_mem_cons.mpr ⟨lw_p19, List.forall_mem_cons.mpr ⟨lw_p20, List.forall_mem_cons.mpr ⟨lw_p21, List.forall_mem_cons.mpr ⟨lw_p22, List.forall_mem_cons.mpr ⟨lw_p23, List.forall_mem_cons.mpr ⟨lw_p24, List.forall_mem_cons.mpr ⟨lw_p25, List.forall_mem_cons.mpr ⟨lw_p26, List.forall_mem_cons.mpr ⟨lw_p27, List.forall_mem_cons.mpr ⟨lw_p28, List.forall_mem_cons.mpr ⟨lw_p29, List.forall_mem_cons.mpr ⟨lw_p30, List.forall_mem_cons.mpr ⟨lw_p31, fun _ h => absurd h List.not_mem_nil⟩⟩⟩⟩⟩⟩⟩⟩⟩⟩⟩⟩⟩⟩⟩⟩
theorem lw_p32 : lw_okq (⟨"ShelfStagesModel", "addTo", "(III)V"⟩, 19) := ⟨⟨by decide +kernel, by decide +kernel⟩, List.mem_of_getElem? (i := 832) (by decide +kernel), List.mem_of_getElem? (i := 1011) (by decide +kernel), List.mem_of_getElem? (i := 1012) (by decide +kernel)⟩
theorem lw_p33 : lw_okq (⟨"ShelfStagesModel", "note", "(III)V"⟩, 19) := ⟨⟨by decide +kernel, by decide +kernel⟩, List.mem_of_getElem? (i := 832) (by decide +kernel), List.mem_of_getElem? (i := 1015) (by decide +kernel), List.mem_of_getElem? (i := 1016) (by decide +kernel)⟩
theorem lw_p34 : lw_okq (⟨"ShelfStagesModel", "putBatch", "(III)I"⟩, 19) := ⟨⟨by decide +kernel, by decide +kernel⟩, List.mem_of_getElem? (i := 832) (by decide +kernel), List.mem_of_getElem? (i := 1027) (by decide +kernel), List.mem_of_getElem? (i := 1028) (by decide +kernel)⟩
theorem lw_p35 : lw_okq (⟨"ShelfStagesModel", "isBatch", "(I)Z"⟩, 19) := ⟨⟨by decide +kernel, by decide +kernel⟩, List.mem_of_getElem? (i := 832) (by decide +kernel), List.mem_of_getElem? (i := 1035) (by decide +kernel), List.mem_of_getElem? (i := 1036) (by decide +kernel)⟩
theorem lw_p36 : lw_okq (⟨"ShelfStagesModel", "waste", "(III)V"⟩, 19) := ⟨⟨by decide +kernel, by decide +kernel⟩, List.mem_of_getElem? (i := 832) (by decide +kernel), List.mem_of_getElem? (i := 1039) (by decide +kernel), List.mem_of_getElem? (i := 1040) (by decide +kernel)⟩
theorem lw_p37 : lw_okq (⟨"ShelfStagesModel", "shelfOf", "(I)I"⟩, 19) := ⟨⟨by decide +kernel, by decide +kernel⟩, List.mem_of_getElem? (i := 832) (by decide +kernel), List.mem_of_getElem? (i := 1047) (by decide +kernel), List.mem_of_getElem? (i := 1048) (by decide +kernel)⟩
theorem lw_p38 : lw_okq (⟨"ShelfStagesModel", "passDay", "()I"⟩, 19) := ⟨⟨by decide +kernel, by decide +kernel⟩, List.mem_of_getElem? (i := 832) (by decide +kernel), List.mem_of_getElem? (i := 1055) (by decide +kernel), List.mem_of_getElem? (i := 1056) (by decide +kernel)⟩
theorem lw_p39 : lw_okq (⟨"ShelfStagesModel", "expire", "()I"⟩, 19) := ⟨⟨by decide +kernel, by decide +kernel⟩, List.mem_of_getElem? (i := 832) (by decide +kernel), List.mem_of_getElem? (i := 1059) (by decide +kernel), List.mem_of_getElem? (i := 1060) (by decide +kernel)⟩
theorem lw_p40 : lw_okq (⟨"ShelfStagesModel", "donate", "()V"⟩, 19) := ⟨⟨by decide +kernel, by decide +kernel⟩, List.mem_of_getElem? (i := 832) (by decide +kernel), List.mem_of_getElem? (i := 1063) (by decide +kernel), List.mem_of_getElem? (i := 1064) (by decide +kernel)⟩
theorem lw_p41 : lw_okq (⟨"ShelfStagesModel", "readText", "()V"⟩, 19) := ⟨⟨by decide +kernel, by decide +kernel⟩, List.mem_of_getElem? (i := 832) (by decide +kernel), List.mem_of_getElem? (i := 1087) (by decide +kernel), List.mem_of_getElem? (i := 1088) (by decide +kernel)⟩
theorem lw_p42 : lw_okq (⟨"ShelfStagesModel", "readEntry", "()V"⟩, 19) := ⟨⟨by decide +kernel, by decide +kernel⟩, List.mem_of_getElem? (i := 832) (by decide +kernel), List.mem_of_getElem? (i := 1091) (by decide +kernel), List.mem_of_getElem? (i := 1092) (by decide +kernel)⟩
theorem lw_p43 : lw_okq (⟨"ShelfStagesModel", "readNumber", "()I"⟩, 19) := ⟨⟨by decide +kernel, by decide +kernel⟩, List.mem_of_getElem? (i := 832) (by decide +kernel), List.mem_of_getElem? (i := 1095) (by decide +kernel), List.mem_of_getElem? (i := 1096) (by decide +kernel)⟩
theorem lw_p44 : lw_okq (⟨"ShelfStagesModel", "isDigit", "(I)Z"⟩, 19) := ⟨⟨by decide +kernel, by decide +kernel⟩, List.mem_of_getElem? (i := 832) (by decide +kernel), List.mem_of_getElem? (i := 1099) (by decide +kernel), List.mem_of_getElem? (i := 1100) (by decide +kernel)⟩
theorem lw_p45 : lw_okq (⟨"ShelfStagesModel", "letter", "(I)I"⟩, 19) := ⟨⟨by decide +kernel, by decide +kernel⟩, List.mem_of_getElem? (i := 832) (by decide +kernel), List.mem_of_getElem? (i := 1103) (by decide +kernel), List.mem_of_getElem? (i := 1104) (by decide +kernel)⟩
theorem lw_p46 : lw_okq (⟨"ShelfStagesModel", "whyNot", "()I"⟩, 19) := ⟨⟨by decide +kernel, by decide +kernel⟩, List.mem_of_getElem? (i := 832) (by decide +kernel), List.mem_of_getElem? (i := 1107) (by decide +kernel), List.mem_of_getElem? (i := 1108) (by decide +kernel)⟩
theorem lw_p47 : lw_okq (⟨"ShelfStagesModel", "batchesOf", "(I)I"⟩, 19) := ⟨⟨by decide +kernel, by decide +kernel⟩, List.mem_of_getElem? (i := 832) (by decide +kernel), List.mem_of_getElem? (i := 1115) (by decide +kernel), List.mem_of_getElem? (i := 1116) (by decide +kernel)⟩
def lw_privs_3 : List (MethodName × Nat) := [(⟨"ShelfStagesModel", "addTo", "(III)V"⟩, 19), (⟨"ShelfStagesModel", "note", "(III)V"⟩, 19), (⟨"ShelfStagesModel", "putBatch", "(III)I"⟩, 19), (⟨"ShelfStagesModel", "isBatch", "(I)Z"⟩, 19), (⟨"ShelfStagesModel", "waste", "(III)V"⟩, 19), (⟨"ShelfStagesModel", "shelfOf", "(I)I"⟩, 19), (⟨"ShelfStagesModel", "passDay", "()I"⟩, 19), (⟨"ShelfStagesModel", "expire", "()I"⟩, 19), (⟨"ShelfStagesModel", "donate", "()V"⟩, 19), (⟨"ShelfStagesModel", "readText", "()V"⟩, 19), (⟨"ShelfStagesModel", "readEntry", "()V"⟩, 19), (⟨"ShelfStagesModel", "readNumber", "()I"⟩, 19), (⟨"ShelfStagesModel", "isDigit", "(I)Z"⟩, 19), (⟨"ShelfStagesModel", "letter", "(I)I"⟩, 19), (⟨"ShelfStagesModel", "whyNot", "()I"⟩, 19), (⟨"ShelfStagesModel", "batchesOf", "(I)I"⟩, 19)]
theorem lw_r3 : ∀ q ∈ lw_privs_3, lw_okq q := List.forall_mem_cons.mpr ⟨lw_p32, List.forall_mem_cons.mpr ⟨lw_p33, List.forall_mem_cons.mpr ⟨lw_p34, List.forall_mem_cons.mpr ⟨lw_p35, List.forall_mem_cons.mpr ⟨lw_p36, List.forall_mem_cons.mpr ⟨lw_p37, List.forall_mem_cons.mpr ⟨lw_p38, List.forall_mem_cons.mpr ⟨lw_p39, List.forall_mem_cons.mpr ⟨lw_p40, List.forall_mem_cons.mpr ⟨lw_p41, List.forall_mem_cons.mpr ⟨lw_p42, List.forall_mem_cons.mpr ⟨lw_p43, List.forall_mem_cons.mpr ⟨lw_p44, List.forall_mem_cons.mpr ⟨lw_p45, List.forall_mem_cons.mpr ⟨lw_p46, List.forall_mem_cons.mpr ⟨lw_p47, fun _ h => absurd h List.not_mem_nil⟩⟩⟩⟩⟩⟩⟩⟩⟩⟩⟩⟩⟩⟩⟩⟩
theorem lw_p48 : lw_okq (⟨"ShelfStagesModel", "sumOfBatches", "(II)I"⟩, 19) := ⟨⟨by decide +kernel, by decide +kernel⟩, List.mem_of_getElem? (i := 832) (by decide +kernel), List.mem_of_getElem? (i := 1119) (by decide +kernel), List.mem_of_getElem? (i := 1120) (by decide +kernel)⟩
theorem lw_p49 : lw_okq (⟨"ShelfStagesModel", "ofOrder", "(II)I"⟩, 19) := ⟨⟨by decide +kernel, by decide +kernel⟩, List.mem_of_getElem? (i := 832) (by decide +kernel), List.mem_of_getElem? (i := 1123) (by decide +kernel), List.mem_of_getElem? (i := 1124) (by decide +kernel)⟩
theorem lw_p50 : lw_okq (⟨"ShelfStagesModel", "wasted", "(I)I"⟩, 19) := ⟨⟨by decide +kernel, by decide +kernel⟩, List.mem_of_getElem? (i := 832) (by decide +kernel), List.mem_of_getElem? (i := 1135) (by decide +kernel), List.mem_of_getElem? (i := 1136) (by decide +kernel)⟩
theorem lw_p51 : lw_okq (⟨"ShelfStagesModel", "isOrder", "(I)Z"⟩, 19) := ⟨⟨by decide +kernel, by decide +kernel⟩, List.mem_of_getElem? (i := 832) (by decide +kernel), List.mem_of_getElem? (i := 1156) (by decide +kernel), List.mem_of_getElem? (i := 1157) (by decide +kernel)⟩
theorem lw_p52 : lw_okq (⟨"ShelfStagesModel", "allWasted", "()I"⟩, 19) := ⟨⟨by decide +kernel, by decide +kernel⟩, List.mem_of_getElem? (i := 832) (by decide +kernel), List.mem_of_getElem? (i := 1176) (by decide +kernel), List.mem_of_getElem? (i := 1177) (by decide +kernel)⟩
theorem lw_p53 : lw_okq (⟨"ShelfStagesModel", "ofOrders", "(I)I"⟩, 19) := ⟨⟨by decide +kernel, by decide +kernel⟩, List.mem_of_getElem? (i := 832) (by decide +kernel), List.mem_of_getElem? (i := 1180) (by decide +kernel), List.mem_of_getElem? (i := 1181) (by decide +kernel)⟩
def lw_privs_4 : List (MethodName × Nat) := [(⟨"ShelfStagesModel", "sumOfBatches", "(II)I"⟩, 19), (⟨"ShelfStagesModel", "ofOrder", "(II)I"⟩, 19), (⟨"ShelfStagesModel", "wasted", "(I)I"⟩, 19), (⟨"ShelfStagesModel", "isOrder", "(I)Z"⟩, 19), (⟨"ShelfStagesModel", "allWasted", "()I"⟩, 19), (⟨"ShelfStagesModel", "ofOrders", "(I)I"⟩, 19)]
theorem lw_r4 : ∀ q ∈ lw_privs_4, lw_okq q := List.forall_mem_cons.mpr ⟨lw_p48, List.forall_mem_cons.mpr ⟨lw_p49, List.forall_mem_cons.mpr ⟨lw_p50, List.forall_mem_cons.mpr ⟨lw_p51, List.forall_mem_cons.mpr ⟨lw_p52, List.forall_mem_cons.mpr ⟨lw_p53, fun _ h => absurd h List.not_mem_nil⟩⟩⟩⟩⟩⟩
def lw_privs : List (MethodName × Nat) := lw_privs_1 ++ (lw_privs_2 ++ (lw_privs_3 ++ (lw_privs_4)))
def lw_tbl : List Cond := k2_sels lw_privs ++ tables_1
theorem lw_privs_ok : ∀ q ∈ lw_privs, lw_okq q := by
  show ∀ q ∈ lw_privs_1 ++ (lw_privs_2 ++ (lw_privs_3 ++ (lw_privs_4))), lw_okq q
  exact List.forall_mem_append.mpr ⟨lw_r1, List.forall_mem_append.mpr ⟨lw_r2, List.forall_mem_append.mpr ⟨lw_r3, lw_r4⟩⟩⟩
/-- the streams that the claim lets the run draw from -/
abbrev lw_cs : List Choice := [Jvm.Choice.named "NaN.bits"]
theorem lw_bits : nanBits ∈ lw_cs := by first | decide | exact List.mem_cons_self | simp [lw_cs, nanBits]
end
section
/-! Rows of our own over the kit's: numbers by their names (nI), worlds that keep their places, calls of non-making methods, cut points and loops. -/
theorem nI_mul (a b : Nat) : nI a * nI b = nI (a * b) := (Int32.ofNat_mul a b).symm
theorem nI_sub {a b : Nat} (h : b ≤ a) : nI a - nI b = nI (a - b) := by
  obtain ⟨d, rfl⟩ := Nat.exists_eq_add_of_le h
  rw [← nI_add, Nat.add_sub_cancel_left, Int32.add_comm, Int32.add_sub_cancel]
theorem nI_inj {a b : Nat} (ha : a < 2 ^ 31) (hb : b < 2 ^ 31) (h : nI a = nI b) : a = b := by
  have := congrArg Int32.toInt h
  rw [nI_toInt ha, nI_toInt hb] at this
  omega
theorem nI_lt_iff {a b : Nat} (ha : a < 2 ^ 31) (hb : b < 2 ^ 31) : nI a < nI b ↔ a < b := by
  rw [Int32.lt_iff_toInt_lt, nI_toInt ha, nI_toInt hb]; omega
theorem nI_le_iff {a b : Nat} (ha : a < 2 ^ 31) (hb : b < 2 ^ 31) : nI a ≤ nI b ↔ a ≤ b := by
  rw [Int32.le_iff_toInt_le, nI_toInt ha, nI_toInt hb]; omega
theorem nI_eq_iff {a b : Nat} (ha : a < 2 ^ 31) (hb : b < 2 ^ 31) : nI a = nI b ↔ a = b := ⟨nI_inj ha hb, fun h => by rw [h]⟩
theorem nI_zero_eq : (0 : Int32) = nI 0 := rfl
theorem upd_at (f : Nat → Int32) (k : Nat) (x : Int32) : upd f k x k = x := by simp [upd]
theorem upd_ne (f : Nat → Int32) {k j : Nat} (x : Int32) (h : j ≠ k) : upd f k x j = f j := by simp [upd, h]
/-- the places of a world -/
def va_B (wc : va_W) : Nat → Prop := fun q => ∃ (k : Nat) (e : va_E), wc[k]? = some (q, e)
theorem va_D.own {A : Nat → Prop} {ws : va_W} (h : va_D A ws) : va_D (va_B ws) ws := ⟨h.1, fun k q hk => ⟨k, q.2, hk⟩⟩
/-- a world with new cells at some of its places -/
def xset (W : va_W) (is : List Nat) (w1 : va_W) : va_W := (is.zip w1).foldl (fun (V : va_W) (x : Nat × (Nat × va_E)) => V.set x.1 x.2) W
theorem xset_get : ∀ (is : List Nat) (w1 W : va_W) (k : Nat) (q : Nat × va_E) (_ : w1.length = is.length), (xset W is w1)[k]? = some q → (∃ j : Nat, w1[j]? = some q ∧ is[j]? = some k) ∨ (k ∉ is ∧ W[k]? = some q)
  | [], [], W, k, q, _, h => Or.inr ⟨List.not_mem_nil, h⟩
  | [], _ :: _, _, _, _, hl, _ => by simp at hl
  | _ :: _, [], _, _, _, hl, _ => by simp at hl
  | i :: is, x :: w1, W, k, q, hl, h => by
    have h' : (xset (W.set i x) is w1)[k]? = some q := h
    rcases xset_get is w1 (W.set i x) k q (by simpa using hl) h' with ⟨j, h1, h2⟩ | ⟨h1, h2⟩
    · exact Or.inl ⟨j + 1, by simpa using h1, by simpa using h2⟩
    · by_cases hk : k = i
      · subst hk
        rw [List.getElem?_set_self' ] at h2
        cases hw : W[k]? with
        | none => rw [hw] at h2; cases h2
        | some y =>
          rw [hw] at h2
          have : x = q := by simpa using h2
          exact Or.inl ⟨0, by simpa using this, rfl⟩
      · rw [List.getElem?_set_ne (Ne.symm hk)] at h2
        exact Or.inr ⟨fun hm => by rcases List.mem_cons.mp hm with e | e; exact hk e; exact h1 e, h2⟩
theorem xset_adr : ∀ (is : List Nat) (w1 W : va_W) (_ : is.map (fun i => (W[i]?).map Prod.fst) = w1.map (fun x => some x.1)), (xset W is w1).map Prod.fst = W.map Prod.fst
  | [], _, _, _ => rfl
  | _ :: _, [], _, h => by simp at h
  | i :: is, x :: w1, W, h => by
    rw [List.map_cons, List.map_cons, List.cons.injEq] at h
    have e : (W.set i x).map Prod.fst = W.map Prod.fst := by
      apply List.ext_getElem?
      intro k
      rw [List.getElem?_map, List.getElem?_map]
      by_cases hk : k = i
      · subst hk
        rw [List.getElem?_set_self']
        cases hw : W[k]? with
        | none => rfl
        | some y => have h1 := h.1; rw [hw] at h1; simpa using h1.symm
      · rw [List.getElem?_set_ne (Ne.symm hk)]
    show (xset (W.set i x) is w1).map Prod.fst = _
    rw [xset_adr is w1 (W.set i x) ?_, e]
    rw [← h.2]
    apply List.map_congr_left
    intro j _
    have e2 := congrArg (fun (l : List Nat) => l[j]?) e
    rw [List.getElem?_map, List.getElem?_map] at e2
    exact e2
theorem va_D_adr {A : Nat → Prop} {W W' : va_W} (h : va_D A W) (e : W'.map Prod.fst = W.map Prod.fst) : va_D A W' := by
  have e1 : ∀ (k : Nat) (q : Nat × va_E), W'[k]? = some q → ∃ q', W[k]? = some q' ∧ q'.1 = q.1 := by
    intro k q hq
    have e2 := congrArg (fun l => l[k]?) e
    simp only [List.getElem?_map, hq, Option.map_some] at e2
    cases hw : W[k]? with
    | none => rw [hw] at e2; cases e2
    | some y => rw [hw] at e2; exact ⟨y, rfl, (by simpa using e2.symm)⟩
  refine ⟨fun i j p q hp hq hpq => ?_, fun k q hk => ?_⟩
  · obtain ⟨p', h1, h2⟩ := e1 i p hp
    obtain ⟨q', h3, h4⟩ := e1 j q hq
    exact h.1 i j p' q' h1 h3 (by rw [h2, h4, hpq])
  · obtain ⟨q', h1, h2⟩ := e1 k q hk
    rw [← h2]
    exact h.2 k q' h1
theorem xset_P {A : Nat → Prop} {D : va_G} {cl : List vw_C} {W wc w1 : va_W} {H H1 : Heap} {is : List Nat} (hP : va_P D cl W H) (hD : va_D A W) (hsub : is.map (fun i => W[i]?) = wc.map some) (hadr : wc.map Prod.fst = w1.map Prod.fst)
    (hk : ∀ q : Nat, q < H.size → ¬ va_B wc q → H1[q]? = H[q]?) (hP1 : va_P D cl w1 H1) : va_P D cl (xset W is w1) H1 ∧ va_D A (xset W is w1) := by
  have hlen : w1.length = is.length := by
    have a := congrArg List.length hsub
    have b := congrArg List.length hadr
    simp at a b
    omega
  have hsub' : is.map (fun i => (W[i]?).map Prod.fst) = w1.map (fun x => some x.1) := by
    have a := congrArg (List.map (Option.map Prod.fst)) hsub
    rw [List.map_map, List.map_map] at a
    have b := congrArg (List.map some) hadr
    rw [List.map_map, List.map_map] at b
    exact a.trans b
  refine ⟨fun k q hq => ?_, va_D_adr hD (xset_adr is w1 W hsub')⟩
  rcases xset_get is w1 W k q hlen hq with ⟨j, h1, -⟩ | ⟨h1, h2⟩
  · exact hP1 j q h1
  · refine (hP k q h2).kept (hk q.1 (hP k q h2).lt ?_)
    rintro ⟨j, e, hj⟩
    have a := congrArg (fun l => l[j]?) hsub
    simp only [List.getElem?_map, hj, Option.map_some] at a
    cases hi : is[j]? with
    | none => rw [hi] at a; cases a
    | some i =>
      rw [hi] at a
      have b : W[i]? = some (q.1, e) := by simpa using a
      have c := hD.1 k i q (q.1, e) h2 b rfl
      subst c
      exact h1 (List.mem_of_getElem? hi)
/-- what links a private member of a nest mate: 15 words of the tables -/
def xnests : List (String × Nat × MethodName) := [("ShelfStages", 11, ⟨"ShelfStages$State", "<init>", "()V"⟩), ("ShelfStages$State", 11, ⟨"ShelfStages$Goods", "<init>", "()V"⟩), ("ShelfStages$State", 20, ⟨"ShelfStages$Batches", "<init>", "()V"⟩), ("ShelfStages$State", 27, ⟨"ShelfStages$Orders", "<init>", "()V"⟩), ("ShelfStages$State", 34, ⟨"ShelfStages$Stages", "<init>", "()V"⟩), ("ShelfStages$State", 41, ⟨"ShelfStages$Log", "<init>", "()V"⟩), ("ShelfStages$History", 17, ⟨"ShelfStages$State", "<init>", "()V"⟩), ("ShelfStages", 31, ⟨"ShelfStages$Filling", "<init>", "()V"⟩), ("ShelfStages", 38, ⟨"ShelfStages$Delivery", "<init>", "()V"⟩), ("ShelfStages$Goods", 28, ⟨"ShelfStages", "copyRow", "([I[I)V"⟩), ("ShelfStages$Batches", 42, ⟨"ShelfStages", "copyRow", "([I[I)V"⟩), ("ShelfStages$Orders", 55, ⟨"ShelfStages", "copyRow", "([I[I)V"⟩), ("ShelfStages$Log", 31, ⟨"ShelfStages", "copyRow", "([I[I)V"⟩), ("ShelfStages$State", 66, ⟨"ShelfStages", "copyRow", "([I[I)V"⟩), ("ShelfStages$Filling", 55, ⟨"ShelfStages", "copyRow", "([I[I)V"⟩)]
def xN (U : State) : Prop := ∀ q ∈ xnests, va_Nw (.methodLinkNest q.1 q.2.1 q.2.2 "ShelfStages") U
theorem xN.warm {s U : State} (hW : s.WarmedH U.vm) (h : xN s) : xN U := fun q hq => va_Nw.warmM hW (h q hq)
theorem xN.same {u U : State} (e : u.vm = U.vm) (h : xN u) : xN U := fun q hq => va_Nw.same rfl e (h q hq)
/-- a contract's start: the world, the tables, the places apart, the nest's words -/
def xPre (D : va_G) (cl : List vw_C) (as : List Value) (tys : List (ClassId × FieldType)) (wc : va_W) : Array Value → State → Prop := va_Pc as (fun U => va_P D cl wc U.heap ∧ va_K D cl tys U ∧ va_D (fun _ => True) wc ∧ xN U)
theorem xPre_blind {D : va_G} {cl : List vw_C} {as : List Value} {tys : List (ClassId × FieldType)} {wc : va_W} : FrameBlind (xPre D cl as tys wc) := by
  intro a U g mk h
  exact ⟨h.1, h.2.1, va_K.moved (u := U) (U := U.calling g mk a) (Vm.Alike.refl U.vm) h.2.2.1, h.2.2.2.1, xN.same (u := U) (U := U.calling g mk a) rfl h.2.2.2.2⟩
/-- a writing contract's ends: the same places, other cells -/
def xFr (wc : va_W) (st t : State) : Prop := st.heap.size ≤ t.heap.size ∧ ∀ q : Nat, q < st.heap.size → ¬ va_B wc q → t.heap[q]? = st.heap[q]?
def xWi (D : va_G) (cl : List vw_C) (wc : va_W) (post : Int32 → va_W → Prop) : Array Value → State → Outcome → State → Prop := fun _ st oc t => (∃ (r : Int32) (w1 : va_W), oc = .returned (some (.int r)) ∧ post r w1 ∧ va_P D cl w1 t.heap) ∧ xFr wc st t
def xWv (D : va_G) (cl : List vw_C) (wc : va_W) (post : va_W → Prop) : Array Value → State → Outcome → State → Prop := fun _ st oc t => (∃ w1 : va_W, oc = .returned none ∧ post w1 ∧ va_P D cl w1 t.heap) ∧ xFr wc st t
theorem va_S.X {wc : va_W} {s t : State} {H : Heap} {locs : List Loc} (h : va_S (va_B wc) s.heap H locs) (ht : t.heap = H) : xFr wc s t := ⟨by rw [ht]; exact h.1, fun q h1 h2 => by rw [ht]; exact h.2.1 q h1 h2⟩
section XR
variable {p : Program} {l : Launch} {e : Env} {R : Room} {s : State} {m : MethodId} {args : Array Value} {below : List Frame} {meth : Method} {c : Code} {H : Heap} {locs : List Loc} {cells slots : Nat} {Q : State → Prop} {pc : Nat} {ls : Array Slot} {rest : List Value} {cc : ByteArray}
theorem xr_top {x y : Int32} (h : x = y) (k : W p l e R s m args below meth c H locs cells slots Q (F0 m pc ls (.int y :: rest))) : W p l e R s m args below meth c H locs cells slots Q (F0 m pc ls (.int x :: rest)) := by subst h; exact k
theorem xr_top2 {x y z : Int32} (h : x = y) (k : W p l e R s m args below meth c H locs cells slots Q (F0 m pc ls (.int z :: .int y :: rest))) : W p l e R s m args below meth c H locs cells slots Q (F0 m pc ls (.int z :: .int x :: rest)) := by subst h; exact k
theorem xr_topf {x y : UInt32} (h : x = y) (k : W p l e R s m args below meth c H locs cells slots Q (F0 m pc ls (.float y :: rest))) : W p l e R s m args below meth c H locs cells slots Q (F0 m pc ls (.float x :: rest)) := by subst h; exact k
theorem xr_topr {v w : Value} (h : v = w) (k : W p l e R s m args below meth c H locs cells slots Q (F0 m pc ls (w :: rest))) : W p l e R s m args below meth c H locs cells slots Q (F0 m pc ls (v :: rest)) := by subst h; exact k
theorem xr_cut {g1 g2 : JFrame} (h : W p l e R s m args below meth c H locs cells slots Q g2 → W p l e R s m args below meth c H locs cells slots Q g1) (k : W p l e R s m args below meth c H locs cells slots Q g2) : W p l e R s m args below meth c H locs cells slots Q g1 := h k
/-- a loop: what holds at its head, by a measure that falls -/
theorem xr_loop {J : Type} (P : J → Heap → List Loc → JFrame → Prop) (f : J → Nat)
    (step : ∀ i : J, (∀ (j : J) (H' : Heap) (locs' : List Loc) (g' : JFrame), f j < f i → P j H' locs' g' → W p l e R s m args below meth c H' locs' cells slots Q g') → ∀ (H' : Heap) (locs' : List Loc) (g' : JFrame), P i H' locs' g' → W p l e R s m args below meth c H' locs' cells slots Q g')
    (i : J) {g : JFrame} (h : P i H locs g) : W p l e R s m args below meth c H locs cells slots Q g := by
  have key : ∀ (n : Nat) (i : J), f i < n → ∀ (H' : Heap) (locs' : List Loc) (g' : JFrame), P i H' locs' g' → W p l e R s m args below meth c H' locs' cells slots Q g' := by
    intro n
    induction n with
    | zero => intro i hi; omega
    | succ n ih => intro i hi H' locs' g' hp; exact step i (fun j H2 l2 g2 hj hp2 => ih j (by omega) H2 l2 g2 hp2) H' locs' g' hp
  exact key (f i + 1) i (Nat.lt_succ_self _) H locs g h
theorem xr_iadd_n (hexec : p.tables.exec = Jvm.exec) (hb : c.code = cc) {a b : Nat} (hdg : decode cc pc = .ok (.iadd, 1)) (k : W p l e R s m args below meth c H locs cells slots Q (F0 m (pc + 1) ls (.int (nI (a + b)) :: rest))) : W p l e R s m args below meth c H locs cells slots Q (F0 m pc ls (.int (nI b) :: .int (nI a) :: rest)) :=
  lv_iadd hexec hb hdg (by rw [nI_add]; exact k)
theorem xr_imul_n (hexec : p.tables.exec = Jvm.exec) (hb : c.code = cc) {a b : Nat} (hdg : decode cc pc = .ok (.imul, 1)) (k : W p l e R s m args below meth c H locs cells slots Q (F0 m (pc + 1) ls (.int (nI (a * b)) :: rest))) : W p l e R s m args below meth c H locs cells slots Q (F0 m pc ls (.int (nI b) :: .int (nI a) :: rest)) :=
  lv_imul hexec hb hdg (by rw [nI_mul]; exact k)
theorem xr_isub_n (hexec : p.tables.exec = Jvm.exec) (hb : c.code = cc) {a b : Nat} (h : b ≤ a) (hdg : decode cc pc = .ok (.isub, 1)) (k : W p l e R s m args below meth c H locs cells slots Q (F0 m (pc + 1) ls (.int (nI (a - b)) :: rest))) : W p l e R s m args below meth c H locs cells slots Q (F0 m pc ls (.int (nI b) :: .int (nI a) :: rest)) :=
  lv_isub hexec hb hdg (by rw [nI_sub h]; exact k)
theorem xr_lt_n (hexec : p.tables.exec = Jvm.exec) (hb : c.code = cc) {a b : Nat} (ha : a < 2 ^ 31) (hb' : b < 2 ^ 31) {off : Int} {tgt : Nat} (hdg : decode cc pc = .ok (.if_icmp .lt off, 3)) (ht : (pc : Int) + off = (tgt : Int))
    (kt : a < b → W p l e R s m args below meth c H locs cells slots Q (F0 m tgt ls rest)) (kf : b ≤ a → W p l e R s m args below meth c H locs cells slots Q (F0 m (pc + 3) ls rest)) : W p l e R s m args below meth c H locs cells slots Q (F0 m pc ls (.int (nI b) :: .int (nI a) :: rest)) :=
  lv_icmp_lt hexec hb hdg ht (fun h => kt ((nI_lt_iff ha hb').mp h)) (fun h => kf (by have := mt (nI_lt_iff ha hb').mpr h; omega))
theorem xr_ge_n (hexec : p.tables.exec = Jvm.exec) (hb : c.code = cc) {a b : Nat} (ha : a < 2 ^ 31) (hb' : b < 2 ^ 31) {off : Int} {tgt : Nat} (hdg : decode cc pc = .ok (.if_icmp .ge off, 3)) (ht : (pc : Int) + off = (tgt : Int))
    (kt : b ≤ a → W p l e R s m args below meth c H locs cells slots Q (F0 m tgt ls rest)) (kf : a < b → W p l e R s m args below meth c H locs cells slots Q (F0 m (pc + 3) ls rest)) : W p l e R s m args below meth c H locs cells slots Q (F0 m pc ls (.int (nI b) :: .int (nI a) :: rest)) :=
  lv_icmp_ge hexec hb hdg ht (fun h => kt ((nI_le_iff hb' ha).mp h)) (fun h => kf (by have := mt (nI_le_iff hb' ha).mpr h; omega))
theorem xr_gt_n (hexec : p.tables.exec = Jvm.exec) (hb : c.code = cc) {a b : Nat} (ha : a < 2 ^ 31) (hb' : b < 2 ^ 31) {off : Int} {tgt : Nat} (hdg : decode cc pc = .ok (.if_icmp .gt off, 3)) (ht : (pc : Int) + off = (tgt : Int))
    (kt : b < a → W p l e R s m args below meth c H locs cells slots Q (F0 m tgt ls rest)) (kf : a ≤ b → W p l e R s m args below meth c H locs cells slots Q (F0 m (pc + 3) ls rest)) : W p l e R s m args below meth c H locs cells slots Q (F0 m pc ls (.int (nI b) :: .int (nI a) :: rest)) :=
  lv_icmp_gt hexec hb hdg ht (fun h => kt ((nI_lt_iff hb' ha).mp h)) (fun h => kf (by have := mt (nI_lt_iff hb' ha).mpr h; omega))
theorem xr_le_n (hexec : p.tables.exec = Jvm.exec) (hb : c.code = cc) {a b : Nat} (ha : a < 2 ^ 31) (hb' : b < 2 ^ 31) {off : Int} {tgt : Nat} (hdg : decode cc pc = .ok (.if_icmp .le off, 3)) (ht : (pc : Int) + off = (tgt : Int))
    (kt : a ≤ b → W p l e R s m args below meth c H locs cells slots Q (F0 m tgt ls rest)) (kf : b < a → W p l e R s m args below meth c H locs cells slots Q (F0 m (pc + 3) ls rest)) : W p l e R s m args below meth c H locs cells slots Q (F0 m pc ls (.int (nI b) :: .int (nI a) :: rest)) :=
  lv_icmp_le hexec hb hdg ht (fun h => kt ((nI_le_iff ha hb').mp h)) (fun h => kf (by have := mt (nI_le_iff ha hb').mpr h; omega))
theorem xr_eq_n (hexec : p.tables.exec = Jvm.exec) (hb : c.code = cc) {a b : Nat} (ha : a < 2 ^ 31) (hb' : b < 2 ^ 31) {off : Int} {tgt : Nat} (hdg : decode cc pc = .ok (.if_icmp .eq off, 3)) (ht : (pc : Int) + off = (tgt : Int))
    (kt : a = b → W p l e R s m args below meth c H locs cells slots Q (F0 m tgt ls rest)) (kf : ¬ a = b → W p l e R s m args below meth c H locs cells slots Q (F0 m (pc + 3) ls rest)) : W p l e R s m args below meth c H locs cells slots Q (F0 m pc ls (.int (nI b) :: .int (nI a) :: rest)) :=
  lv_icmp_eq hexec hb hdg ht (fun h => kt ((nI_eq_iff ha hb').mp h)) (fun h => kf (mt (nI_eq_iff ha hb').mpr h))
theorem xr_ne_n (hexec : p.tables.exec = Jvm.exec) (hb : c.code = cc) {a b : Nat} (ha : a < 2 ^ 31) (hb' : b < 2 ^ 31) {off : Int} {tgt : Nat} (hdg : decode cc pc = .ok (.if_icmp .ne off, 3)) (ht : (pc : Int) + off = (tgt : Int))
    (kt : ¬ a = b → W p l e R s m args below meth c H locs cells slots Q (F0 m tgt ls rest)) (kf : a = b → W p l e R s m args below meth c H locs cells slots Q (F0 m (pc + 3) ls rest)) : W p l e R s m args below meth c H locs cells slots Q (F0 m pc ls (.int (nI b) :: .int (nI a) :: rest)) :=
  lv_icmp_ne hexec hb hdg ht (fun h => kt (mt (nI_eq_iff ha hb').mpr h)) (fun h => kf ((nI_eq_iff ha hb').mp h))
theorem xr_if0 (hexec : p.tables.exec = Jvm.exec) (hb : c.code = cc) {x : Int32} (hx0 : x = 0) {off : Int} {tgt : Nat} (hdg : decode cc pc = .ok (.ifCond .eq off, 3)) (ht : (pc : Int) + off = (tgt : Int))
    (kt : W p l e R s m args below meth c H locs cells slots Q (F0 m tgt ls rest)) : W p l e R s m args below meth c H locs cells slots Q (F0 m pc ls (.int x :: rest)) :=
  lv_if_eq hexec hb hdg ht (fun _ => kt) (fun h => absurd hx0 h)
theorem xr_if1 (hexec : p.tables.exec = Jvm.exec) (hb : c.code = cc) {x : Int32} (hx0 : ¬ x = 0) {off : Int} {tgt : Nat} (hdg : decode cc pc = .ok (.ifCond .eq off, 3)) (ht : (pc : Int) + off = (tgt : Int))
    (kf : W p l e R s m args below meth c H locs cells slots Q (F0 m (pc + 3) ls rest)) : W p l e R s m args below meth c H locs cells slots Q (F0 m pc ls (.int x :: rest)) :=
  lv_if_eq hexec hb hdg ht (fun h => absurd h hx0) (fun _ => kf)
theorem xr_ifn0 (hexec : p.tables.exec = Jvm.exec) (hb : c.code = cc) {x : Int32} (hx0 : x = 0) {off : Int} {tgt : Nat} (hdg : decode cc pc = .ok (.ifCond .ne off, 3)) (ht : (pc : Int) + off = (tgt : Int))
    (kf : W p l e R s m args below meth c H locs cells slots Q (F0 m (pc + 3) ls rest)) : W p l e R s m args below meth c H locs cells slots Q (F0 m pc ls (.int x :: rest)) :=
  lv_if_ne hexec hb hdg ht (fun h => absurd hx0 h) (fun _ => kf)
theorem xr_ifn1 (hexec : p.tables.exec = Jvm.exec) (hb : c.code = cc) {x : Int32} (hx0 : ¬ x = 0) {off : Int} {tgt : Nat} (hdg : decode cc pc = .ok (.ifCond .ne off, 3)) (ht : (pc : Int) + off = (tgt : Int))
    (kt : W p l e R s m args below meth c H locs cells slots Q (F0 m tgt ls rest)) : W p l e R s m args below meth c H locs cells slots Q (F0 m pc ls (.int x :: rest)) :=
  lv_if_ne hexec hb hdg ht (fun _ => kt) (fun h => absurd h hx0)
variable {D : va_G} {cl : List vw_C} {tys : List (ClassId × FieldType)} {ws : va_W} {A : Nat → Prop} {H0 : Heap} {a : Addr}
theorem xr_iald (hexec : p.tables.exec = Jvm.exec) (hb : c.code = cc) (hK : va_K D cl tys s) (hP : va_P D cl ws H) (q0 t0 : Nat) {cA : ClassId} {n : Nat} {f : Nat → Int32} (ha : ws[q0]? = some (a, .inl (cA, n, .inl f))) (ht : tys[t0]? = some (cA, .int)) {i : Nat} (hin : i < n) (hn : n < 2 ^ 31) (hdg : decode cc pc = .ok (.iaload, 1))
    (kk : W p l e R s m args below meth c H locs cells slots Q (F0 m (pc + 1) ls (.int (f i) :: rest))) : W p l e R s m args below meth c H locs cells slots Q (F0 m pc ls (.int (nI i) :: .ref a :: rest)) :=
  va_iald hexec hb hK hP q0 t0 ha ht (vp_in_nI hin hn) hdg (by rw [nI_clamp (by omega)]; exact kk)
theorem xr_zald (hexec : p.tables.exec = Jvm.exec) (hb : c.code = cc) (hK : va_K D cl tys s) (hP : va_P D cl ws H) (q0 t0 : Nat) {cA : ClassId} {n : Nat} {f : Nat → Int32} (ha : ws[q0]? = some (a, .inl (cA, n, .inl f))) (ht : tys[t0]? = some (cA, .boolean)) {i : Nat} (hin : i < n) (hn : n < 2 ^ 31) (hdg : decode cc pc = .ok (.baload, 1))
    (kk : W p l e R s m args below meth c H locs cells slots Q (F0 m (pc + 1) ls (.int (f i) :: rest))) : W p l e R s m args below meth c H locs cells slots Q (F0 m pc ls (.int (nI i) :: .ref a :: rest)) :=
  va_zald hexec hb hK hP q0 t0 ha ht (vp_in_nI hin hn) hdg (by rw [nI_clamp (by omega)]; exact kk)
theorem xr_cald (hexec : p.tables.exec = Jvm.exec) (hb : c.code = cc) (hK : va_K D cl tys s) (hP : va_P D cl ws H) (q0 t0 : Nat) {cA : ClassId} {n : Nat} {f : Nat → Int32} (ha : ws[q0]? = some (a, .inl (cA, n, .inl f))) (ht : tys[t0]? = some (cA, .char)) {i : Nat} (hin : i < n) (hn : n < 2 ^ 31) (hdg : decode cc pc = .ok (.caload, 1))
    (kk : W p l e R s m args below meth c H locs cells slots Q (F0 m (pc + 1) ls (.int (f i) :: rest))) : W p l e R s m args below meth c H locs cells slots Q (F0 m pc ls (.int (nI i) :: .ref a :: rest)) :=
  va_cald hexec hb hK hP q0 t0 ha ht (vp_in_nI hin hn) hdg (by rw [nI_clamp (by omega)]; exact kk)
theorem xr_fald (hexec : p.tables.exec = Jvm.exec) (hb : c.code = cc) (hK : va_K D cl tys s) (hP : va_P D cl ws H) (q0 t0 : Nat) {cA : ClassId} {n : Nat} {f : Nat → UInt32} (ha : ws[q0]? = some (a, .inl (cA, n, .inr (.inr (.inl f))))) (ht : tys[t0]? = some (cA, .float)) {i : Nat} (hin : i < n) (hn : n < 2 ^ 31) (hdg : decode cc pc = .ok (.faload, 1))
    (kk : W p l e R s m args below meth c H locs cells slots Q (F0 m (pc + 1) ls (.float (f i) :: rest))) : W p l e R s m args below meth c H locs cells slots Q (F0 m pc ls (.int (nI i) :: .ref a :: rest)) :=
  va_fald hexec hb hK hP q0 t0 ha ht (vp_in_nI hin hn) hdg (by rw [nI_clamp (by omega)]; exact kk)
theorem xr_iast (hexec : p.tables.exec = Jvm.exec) (hb : c.code = cc) (hK : va_K D cl tys s) (hP : va_P D cl ws H) (hD : va_D A ws) (hS : va_S A H0 H locs) (q0 t0 : Nat) {cA : ClassId} {n : Nat} {f : Nat → Int32} (ha : ws[q0]? = some (a, .inl (cA, n, .inl f))) (ht : tys[t0]? = some (cA, .int)) {i : Nat} {x : Int32} (hin : i < n) (hn : n < 2 ^ 31) (hdg : decode cc pc = .ok (.iastore, 1))
    (kk : ∀ (H1 : Heap) (locs1 : List Loc), va_P D cl (ws.set q0 (a, .inl (cA, n, .inl (upd f i x)))) H1 → va_D A (ws.set q0 (a, .inl (cA, n, .inl (upd f i x)))) → va_S A H0 H1 locs1 → W p l e R s m args below meth c H1 locs1 cells slots Q (F0 m (pc + 1) ls rest)) : W p l e R s m args below meth c H locs cells slots Q (F0 m pc ls (.int x :: .int (nI i) :: .ref a :: rest)) :=
  va_iast hexec hb hK hP hD hS q0 t0 ha ht (vp_in_nI hin hn) hdg (by rw [nI_clamp (by omega)]; exact kk)
theorem xr_zast (hexec : p.tables.exec = Jvm.exec) (hb : c.code = cc) (hK : va_K D cl tys s) (hP : va_P D cl ws H) (hD : va_D A ws) (hS : va_S A H0 H locs) (q0 t0 : Nat) {cA : ClassId} {n : Nat} {f : Nat → Int32} (ha : ws[q0]? = some (a, .inl (cA, n, .inl f))) (ht : tys[t0]? = some (cA, .boolean)) {i : Nat} {x : Int32} (hin : i < n) (hn : n < 2 ^ 31) {y : Int32} (hy : vp_nar .boolean x = y) (hdg : decode cc pc = .ok (.bastore, 1))
    (kk : ∀ (H1 : Heap) (locs1 : List Loc), va_P D cl (ws.set q0 (a, .inl (cA, n, .inl (upd f i y)))) H1 → va_D A (ws.set q0 (a, .inl (cA, n, .inl (upd f i y)))) → va_S A H0 H1 locs1 → W p l e R s m args below meth c H1 locs1 cells slots Q (F0 m (pc + 1) ls rest)) : W p l e R s m args below meth c H locs cells slots Q (F0 m pc ls (.int x :: .int (nI i) :: .ref a :: rest)) :=
  va_zast hexec hb hK hP hD hS q0 t0 ha ht (vp_in_nI hin hn) hdg (by rw [nI_clamp (by omega), hy]; exact kk)
theorem xr_cast (hexec : p.tables.exec = Jvm.exec) (hb : c.code = cc) (hK : va_K D cl tys s) (hP : va_P D cl ws H) (hD : va_D A ws) (hS : va_S A H0 H locs) (q0 t0 : Nat) {cA : ClassId} {n : Nat} {f : Nat → Int32} (ha : ws[q0]? = some (a, .inl (cA, n, .inl f))) (ht : tys[t0]? = some (cA, .char)) {i : Nat} {x : Int32} (hin : i < n) (hn : n < 2 ^ 31) {y : Int32} (hy : vp_nar .char x = y) (hdg : decode cc pc = .ok (.castore, 1))
    (kk : ∀ (H1 : Heap) (locs1 : List Loc), va_P D cl (ws.set q0 (a, .inl (cA, n, .inl (upd f i y)))) H1 → va_D A (ws.set q0 (a, .inl (cA, n, .inl (upd f i y)))) → va_S A H0 H1 locs1 → W p l e R s m args below meth c H1 locs1 cells slots Q (F0 m (pc + 1) ls rest)) : W p l e R s m args below meth c H locs cells slots Q (F0 m pc ls (.int x :: .int (nI i) :: .ref a :: rest)) :=
  va_cast hexec hb hK hP hD hS q0 t0 ha ht (vp_in_nI hin hn) hdg (by rw [nI_clamp (by omega), hy]; exact kk)
theorem xr_fast (hexec : p.tables.exec = Jvm.exec) (hb : c.code = cc) (hK : va_K D cl tys s) (hP : va_P D cl ws H) (hD : va_D A ws) (hS : va_S A H0 H locs) (q0 t0 : Nat) {cA : ClassId} {n : Nat} {f : Nat → UInt32} (ha : ws[q0]? = some (a, .inl (cA, n, .inr (.inr (.inl f))))) (ht : tys[t0]? = some (cA, .float)) {i : Nat} {x : UInt32} (hin : i < n) (hn : n < 2 ^ 31) (hdg : decode cc pc = .ok (.fastore, 1))
    (kk : ∀ (H1 : Heap) (locs1 : List Loc), va_P D cl (ws.set q0 (a, .inl (cA, n, .inr (.inr (.inl (vf_upd f i x)))))) H1 → va_D A (ws.set q0 (a, .inl (cA, n, .inr (.inr (.inl (vf_upd f i x)))))) → va_S A H0 H1 locs1 → W p l e R s m args below meth c H1 locs1 cells slots Q (F0 m (pc + 1) ls rest)) : W p l e R s m args below meth c H locs cells slots Q (F0 m pc ls (.float x :: .int (nI i) :: .ref a :: rest)) :=
  va_fast hexec hb hK hP hD hS q0 t0 ha ht (vp_in_nI hin hn) hdg (by rw [nI_clamp (by omega)]; exact kk)
theorem xr_aald (hexec : p.tables.exec = Jvm.exec) (hb : c.code = cc) (hK : va_K D cl tys s) (hP : va_P D cl ws H) (q0 t0 : Nat) {cA : ClassId} {ty : FieldType} {n : Nat} {f : Nat → Option Nat} (ha : ws[q0]? = some (a, .inl (cA, n, .inr (.inr (.inr (.inr f)))))) (ht : tys[t0]? = some (cA, ty)) (hty : ty.isReference = true) {i v : Nat} (hin : i < n) (hn : n < 2 ^ 31) (hv : f i = some v) (hdg : decode cc pc = .ok (.aaload, 1))
    (kk : W p l e R s m args below meth c H locs cells slots Q (F0 m (pc + 1) ls (.ref v :: rest))) : W p l e R s m args below meth c H locs cells slots Q (F0 m pc ls (.int (nI i) :: .ref a :: rest)) := by
  have hi : vp_in (nI i) n := vp_in_nI hin hn
  have hc : (nI i).toNatClampNeg = i := nI_clamp (by omega)
  exact W.aald (v := .ref v) (ty := ty) hexec hb (hP q0 _ ha) ((hK.2 t0 _ ht).1 n (fun j => va_rf (f j))) hty (fun q => by cases q) (by show ¬ (nI i < 0 ∨ (arrV _ _ _).slots.size ≤ _); rw [arrV_size]; exact hi) (by show (arrV _ _ _).slots[_]? = _; rw [hc, arrV_read _ _ hin, hv]; rfl) rfl rfl hdg kk
/-- calls -/
theorem xV {y : MethodName} {bytes : ByteArray} {maxL nL index : Nat} {ret : Option FieldType} {Ws Ws' : List Cond} {rm : Room} {Qc : Array Value → State → Outcome → State → Prop} {free : Addr → Prop} {Ts : List Cond} {own C : String} {T : u_T} {N : Nat} {b : Addr} {As rest st0 : List Value} {wc W0 : va_W} {fs : List Value}
    (hx : p.tables.exec = Jvm.exec) (hb : c.code = cc) (hml : c.maxLocals = nL) (hown : s.vm.findClass own = some m.cls) (hts : ∀ w ∈ Ts, w.before args s = true) (hM : Met l y Ws rm (xPre D cl (.ref b :: As) tys wc) Qc 0 0 free) (n : Nat) (hG : GoodIn Ts (wsV own index C y Ws)) (hw : Ws = Cond.code y bytes maxL ret :: Ws') (hc0 : rm.cells = 0) (hs0 : rm.slots = 0)
    (hd : y.cls = C ∧ y.cls ≠ "java/lang/invoke/MethodHandle" ∧ y.cls ≠ "java/lang/invoke/VarHandle" ∧ (parseMethodDescriptor y.desc).map (fun d => d.parameters.length) = some n) (hR : rm.frames + 1 ≤ R.frames ∧ 8 + (maxL + 11) + rm.locals ≤ R.locals) (hN : xN s) (hK : va_K D cl tys s) (hP : va_P D cl W0 H) (hD : va_D A W0) (is : List Nat) (hsub : is.map (fun i => W0[i]?) = wc.map some) (hnd : va_nd is = true)
    (ci q0 : Nat) (hc : cl[ci]? = some (C, T, N)) (he : W0[q0]? = some (b, .inr (ci, fs))) (hn : As.length = n) (hsize : ls.size = nL) (hst : st0 = As.reverse ++ .ref b :: rest) (hW8 : (rest.map fun v => v.category).sum ≤ 8) (hdg : decode cc pc = .ok (.invokevirtual index, 3)) (hf : cells ≤ R.cells ∧ slots ≤ R.slots) :
    va_Run p l e R s m args below meth c H locs cells slots 0 0 (F0 m pc ls st0) rest (Qc (Value.ref b :: As).toArray) free := by
  have hPc : va_P D cl wc H := by
    intro k q hk
    have a := congrArg (fun l => l[k]?) hsub
    simp only [List.getElem?_map, hk, Option.map_some] at a
    cases hi : is[k]? with
    | none => rw [hi] at a; cases a
    | some i => rw [hi] at a; exact hP i q (by simpa using a)
  have hDc : va_D (fun _ => True) wc := (hD.sub is hnd hsub).weaken (fun _ _ _ _ => trivial)
  exact va_runV (As := As) (rest := rest) ⟨hx, hb, hml, hown, hts⟩ hM (cwV n hts hG hw hc0 hs0 hd hR) ⟨xPre_blind, va_recv hK hP hc he, fun U hU hW => ⟨rfl, by rw [hU]; exact hPc, va_K.moved hW.alike hK, hDc, hN.warm hW⟩⟩ rfl hn hsize hst (lv_room hW8) hdg hf
theorem xSs {y : MethodName} {bytes : ByteArray} {maxL nL index : Nat} {ret : Option FieldType} {Ws Ws' : List Cond} {rm : Room} {Qc : Array Value → State → Outcome → State → Prop} {free : Addr → Prop} {Ts : List Cond} {own : String} {As rest st0 : List Value} {wc W0 : va_W}
    (hx : p.tables.exec = Jvm.exec) (hb : c.code = cc) (hml : c.maxLocals = nL) (hown : s.vm.findClass own = some m.cls) (hts : ∀ w ∈ Ts, w.before args s = true) (hM : Met l y Ws rm (xPre D cl As tys wc) Qc 0 0 free) (n : Nat) (hcw : ∀ (hR : rm.frames + 1 ≤ R.frames ∧ 8 + (maxL + 11) + rm.locals ≤ R.locals), CallB R s args own index y bytes maxL ret Ws rm 0 0 n ∧ (Cond.static y).before args s = true) (hR : rm.frames + 1 ≤ R.frames ∧ 8 + (maxL + 11) + rm.locals ≤ R.locals)
    (hN : xN s) (hK : va_K D cl tys s) (hP : va_P D cl W0 H) (hD : va_D A W0) (is : List Nat) (hsub : is.map (fun i => W0[i]?) = wc.map some) (hnd : va_nd is = true) (hn : As.length = n) (hsize : ls.size = nL) (hst : st0 = As.reverse ++ rest) (hW8 : (rest.map fun v => v.category).sum ≤ 8) (hdg : decode cc pc = .ok (.invokestatic index, 3)) (hf : cells ≤ R.cells ∧ slots ≤ R.slots) :
    va_Run p l e R s m args below meth c H locs cells slots 0 0 (F0 m pc ls st0) rest (Qc As.toArray) free := by
  have hPc : va_P D cl wc H := by
    intro k q hk
    have a := congrArg (fun l => l[k]?) hsub
    simp only [List.getElem?_map, hk, Option.map_some] at a
    cases hi : is[k]? with
    | none => rw [hi] at a; cases a
    | some i => rw [hi] at a; exact hP i q (by simpa using a)
  have hDc : va_D (fun _ => True) wc := (hD.sub is hnd hsub).weaken (fun _ _ _ _ => trivial)
  exact va_runS (As := As) (rest := rest) ⟨hx, hb, hml, hown, hts⟩ hM (hcw hR) ⟨xPre_blind, fun U hU hW => ⟨rfl, by rw [hU]; exact hPc, va_K.moved hW.alike hK, hDc, hN.warm hW⟩⟩ rfl hn hsize hst (lv_room hW8) hdg hf
theorem xSN {y : MethodName} {bytes : ByteArray} {maxL nL index : Nat} {ret : Option FieldType} {Ws Ws' : List Cond} {rm : Room} {Qc : Array Value → State → Outcome → State → Prop} {free : Addr → Prop} {Ts : List Cond} {own host : String} {As rest st0 : List Value} {wc W0 : va_W}
    (hx : p.tables.exec = Jvm.exec) (hb : c.code = cc) (hml : c.maxLocals = nL) (hown : s.vm.findClass own = some m.cls) (hts : ∀ w ∈ Ts, w.before args s = true) (hM : Met l y Ws rm (xPre D cl As tys wc) Qc 0 0 free) (n : Nat) (hG : GoodIn Ts Ws) (hw : Ws = Cond.code y bytes maxL ret :: Ws') (hc0 : rm.cells = 0) (hs0 : rm.slots = 0) (hl : va_Nw (.methodLinkNest own index y host) s) (hini : (Cond.initialized y.cls).before args s = true) (hstt : (Cond.static y).before args s = true)
    (hd : y.cls ≠ "java/lang/invoke/MethodHandle" ∧ y.cls ≠ "java/lang/invoke/VarHandle" ∧ (parseMethodDescriptor y.desc).map (fun d => d.parameters.length) = some n) (hR : rm.frames + 1 ≤ R.frames ∧ 8 + (maxL + 11) + rm.locals ≤ R.locals)
    (hN : xN s) (hK : va_K D cl tys s) (hP : va_P D cl W0 H) (hD : va_D A W0) (is : List Nat) (hsub : is.map (fun i => W0[i]?) = wc.map some) (hnd : va_nd is = true) (hn : As.length = n) (hsize : ls.size = nL) (hst : st0 = As.reverse ++ rest) (hW8 : (rest.map fun v => v.category).sum ≤ 8) (hdg : decode cc pc = .ok (.invokestatic index, 3)) (hf : cells ≤ R.cells ∧ slots ≤ R.slots) :
    va_Run p l e R s m args below meth c H locs cells slots 0 0 (F0 m pc ls st0) rest (Qc As.toArray) free := by
  have hPc : va_P D cl wc H := by
    intro k q hk
    have a := congrArg (fun l => l[k]?) hsub
    simp only [List.getElem?_map, hk, Option.map_some] at a
    cases hi : is[k]? with
    | none => rw [hi] at a; cases a
    | some i => rw [hi] at a; exact hP i q (by simpa using a)
  have hDc : va_D (fun _ => True) wc := (hD.sub is hnd hsub).weaken (fun _ _ _ _ => trivial)
  exact va_runSN (As := As) (rest := rest) ⟨hx, hb, hml, hown, hts⟩ hM ⟨va_cnB n hts hG hw hc0 hs0 hl hini hd hR, hstt, trivial⟩ ⟨xPre_blind, fun U hU hW => ⟨rfl, by rw [hU]; exact hPc, va_K.moved hW.alike hK, hDc, hN.warm hW⟩⟩ rfl hn hsize hst (lv_room hW8) hdg hf
variable {st0 : List Value} {av : Array Value}
theorem xkRi {post : Int32 → Prop} (hr : va_Run p l e R s m args below meth c H locs cells slots 0 0 (F0 m pc ls st0) rest (vp_Si post av) (fun _ => False)) (kk : ∀ r : Int32, post r → W p l e R s m args below meth c H locs cells slots Q (F0 m (pc + 3) ls (.int r :: rest))) : W p l e R s m args below meth c H locs cells slots Q (F0 m pc ls st0) := vp_callSi hr.run kk
theorem xkRf {post : UInt32 → Prop} (hr : va_Run p l e R s m args below meth c H locs cells slots 0 0 (F0 m pc ls st0) rest (vp_Sf post av) (fun _ => False)) (kk : ∀ r : UInt32, post r → W p l e R s m args below meth c H locs cells slots Q (F0 m (pc + 3) ls (.float r :: rest))) : W p l e R s m args below meth c H locs cells slots Q (F0 m pc ls st0) := vp_callSf hr.run kk
theorem xkWv {wc w1 W0 : va_W} (hr : va_Run p l e R s m args below meth c H locs cells slots 0 0 (F0 m pc ls st0) rest (xWv D cl wc (fun w => w = w1) av) (va_B wc)) (hP : va_P D cl W0 H) (hD : va_D A W0) (hS : va_S A H0 H locs) (is : List Nat) (hsub : is.map (fun i => W0[i]?) = wc.map some) (hadr : wc.map Prod.fst = w1.map Prod.fst)
    (kk : ∀ (H1 : Heap) (locs1 : List Loc), va_P D cl (xset W0 is w1) H1 → va_D A (xset W0 is w1) → va_S A H0 H1 locs1 → W p l e R s m args below meth c H1 locs1 cells slots Q (F0 m (pc + 3) ls rest)) : W p l e R s m args below meth c H locs cells slots Q (F0 m pc ls st0) := by
  have hB : ∀ q, va_B wc q → A q := by
    rintro q ⟨k, e, hk⟩
    have a := congrArg (fun l => l[k]?) hsub
    simp only [List.getElem?_map, hk, Option.map_some] at a
    cases hi : is[k]? with
    | none => rw [hi] at a; cases a
    | some i => rw [hi] at a; exact hD.2 i (q, e) (by simpa using a)
  intro T hT X
  obtain ⟨v, st₀, t, T', L, h0, X', hL, e1, e2, ⟨⟨w, hv, hp, hP1⟩, hz, hk⟩, st⟩ := hr T hT X
  cases hv
  cases hp
  rw [h0] at hz hk
  rw [← e1] at hz hk hP1
  obtain ⟨hPn, hDn⟩ := xset_P hP hD hsub hadr hk hP1
  obtain ⟨t2, a1, b1⟩ := kk T'.heap (locs ++ L) hPn hDn
    ⟨Nat.le_trans hS.1 hz, fun q h1 h2 => by rw [hk q (Nat.lt_of_lt_of_le h1 hS.1) (fun z => h2 (hB q z))]; exact hS.2.1 q h1 h2, fun q hq => by
      rcases List.mem_append.mp hq with h | h
      · exact hS.2.2 q h
      · exact hB _ (hL q h)⟩ T' rfl X'
  exact ⟨t2, st t2 a1, b1⟩
theorem xkWi {wc w1 W0 : va_W} {x : Int32} (hr : va_Run p l e R s m args below meth c H locs cells slots 0 0 (F0 m pc ls st0) rest (xWi D cl wc (fun r w => r = x ∧ w = w1) av) (va_B wc)) (hP : va_P D cl W0 H) (hD : va_D A W0) (hS : va_S A H0 H locs) (is : List Nat) (hsub : is.map (fun i => W0[i]?) = wc.map some) (hadr : wc.map Prod.fst = w1.map Prod.fst)
    (kk : ∀ (H1 : Heap) (locs1 : List Loc), va_P D cl (xset W0 is w1) H1 → va_D A (xset W0 is w1) → va_S A H0 H1 locs1 → W p l e R s m args below meth c H1 locs1 cells slots Q (F0 m (pc + 3) ls (.int x :: rest))) : W p l e R s m args below meth c H locs cells slots Q (F0 m pc ls st0) := by
  have hB : ∀ q, va_B wc q → A q := by
    rintro q ⟨k, e, hk⟩
    have a := congrArg (fun l => l[k]?) hsub
    simp only [List.getElem?_map, hk, Option.map_some] at a
    cases hi : is[k]? with
    | none => rw [hi] at a; cases a
    | some i => rw [hi] at a; exact hD.2 i (q, e) (by simpa using a)
  intro T hT X
  obtain ⟨v, st₀, t, T', L, h0, X', hL, e1, e2, ⟨⟨r, w, hv, hp, hP1⟩, hz, hk⟩, st⟩ := hr T hT X
  cases hv
  obtain ⟨rfl, rfl⟩ := hp
  rw [h0] at hz hk
  rw [← e1] at hz hk hP1
  obtain ⟨hPn, hDn⟩ := xset_P hP hD hsub hadr hk hP1
  obtain ⟨t2, a1, b1⟩ := kk T'.heap (locs ++ L) hPn hDn
    ⟨Nat.le_trans hS.1 hz, fun q h1 h2 => by rw [hk q (Nat.lt_of_lt_of_le h1 hS.1) (fun z => h2 (hB q z))]; exact hS.2.1 q h1 h2, fun q hq => by
      rcases List.mem_append.mp hq with h | h
      · exact hS.2.2 q h
      · exact hB _ (hL q h)⟩ T' rfl X'
  exact ⟨t2, st t2 a1, b1⟩
theorem xr_zeq_n (hexec : p.tables.exec = Jvm.exec) (hb : c.code = cc) {a : Nat} (ha : a < 2 ^ 31) {off : Int} {tgt : Nat} (hdg : decode cc pc = .ok (.ifCond .eq off, 3)) (ht : (pc : Int) + off = (tgt : Int))
    (kt : a = 0 → W p l e R s m args below meth c H locs cells slots Q (F0 m tgt ls rest)) (kf : 0 < a → W p l e R s m args below meth c H locs cells slots Q (F0 m (pc + 3) ls rest)) : W p l e R s m args below meth c H locs cells slots Q (F0 m pc ls (.int (nI a) :: rest)) :=
  lv_if_eq hexec hb hdg ht (fun h => kt (nI_inj ha (by omega) h)) (fun h => kf (Nat.pos_of_ne_zero (fun q => h (by rw [q]; rfl))))
theorem xr_zne_n (hexec : p.tables.exec = Jvm.exec) (hb : c.code = cc) {a : Nat} (ha : a < 2 ^ 31) {off : Int} {tgt : Nat} (hdg : decode cc pc = .ok (.ifCond .ne off, 3)) (ht : (pc : Int) + off = (tgt : Int))
    (kt : 0 < a → W p l e R s m args below meth c H locs cells slots Q (F0 m tgt ls rest)) (kf : a = 0 → W p l e R s m args below meth c H locs cells slots Q (F0 m (pc + 3) ls rest)) : W p l e R s m args below meth c H locs cells slots Q (F0 m pc ls (.int (nI a) :: rest)) :=
  lv_if_ne hexec hb hdg ht (fun h => kt (Nat.pos_of_ne_zero (fun q => h (by rw [q]; rfl)))) (fun h => kf (nI_inj ha (by omega) h))
theorem xr_zgt_n (hexec : p.tables.exec = Jvm.exec) (hb : c.code = cc) {a : Nat} (ha : a < 2 ^ 31) {off : Int} {tgt : Nat} (hdg : decode cc pc = .ok (.ifCond .gt off, 3)) (ht : (pc : Int) + off = (tgt : Int))
    (kt : 0 < a → W p l e R s m args below meth c H locs cells slots Q (F0 m tgt ls rest)) (kf : a = 0 → W p l e R s m args below meth c H locs cells slots Q (F0 m (pc + 3) ls rest)) : W p l e R s m args below meth c H locs cells slots Q (F0 m pc ls (.int (nI a) :: rest)) :=
  lv_if_gt hexec hb hdg ht (fun h => kt ((nI_lt_iff (a := 0) (by omega) ha).mp h)) (fun h => kf (by have := mt (nI_lt_iff (a := 0) (by omega) ha).mpr h; omega))
theorem xr_zle_n (hexec : p.tables.exec = Jvm.exec) (hb : c.code = cc) {a : Nat} (ha : a < 2 ^ 31) {off : Int} {tgt : Nat} (hdg : decode cc pc = .ok (.ifCond .le off, 3)) (ht : (pc : Int) + off = (tgt : Int))
    (kt : a = 0 → W p l e R s m args below meth c H locs cells slots Q (F0 m tgt ls rest)) (kf : 0 < a → W p l e R s m args below meth c H locs cells slots Q (F0 m (pc + 3) ls rest)) : W p l e R s m args below meth c H locs cells slots Q (F0 m pc ls (.int (nI a) :: rest)) :=
  lv_if_le hexec hb hdg ht (fun h => kt (by have := (nI_le_iff (b := 0) ha (by omega)).mp h; omega)) (fun h => kf (by have := mt (nI_le_iff (b := 0) ha (by omega)).mpr h; omega))
theorem xr_zlt_n (hexec : p.tables.exec = Jvm.exec) (hb : c.code = cc) {a : Nat} (ha : a < 2 ^ 31) {off : Int} {tgt : Nat} (hdg : decode cc pc = .ok (.ifCond .lt off, 3)) (ht : (pc : Int) + off = (tgt : Int))
    (kf : W p l e R s m args below meth c H locs cells slots Q (F0 m (pc + 3) ls rest)) : W p l e R s m args below meth c H locs cells slots Q (F0 m pc ls (.int (nI a) :: rest)) :=
  lv_if_lt hexec hb hdg ht (fun h => absurd h (nI_pos ha)) (fun _ => kf)
theorem xr_zge_n (hexec : p.tables.exec = Jvm.exec) (hb : c.code = cc) {a : Nat} (ha : a < 2 ^ 31) {off : Int} {tgt : Nat} (hdg : decode cc pc = .ok (.ifCond .ge off, 3)) (ht : (pc : Int) + off = (tgt : Int))
    (kt : W p l e R s m args below meth c H locs cells slots Q (F0 m tgt ls rest)) : W p l e R s m args below meth c H locs cells slots Q (F0 m pc ls (.int (nI a) :: rest)) :=
  lv_if_ge hexec hb hdg ht (fun _ => kt) (fun h => absurd (nI_pos' ha) h)
end XR
theorem nI_inc1 (k : Nat) : nI k + Int32.ofInt 1 = nI (k + 1) := (nI_succ k).symm
theorem nI_incn (k j : Nat) : nI k + Int32.ofInt (j : Int) = nI (k + j) := by
  rw [show Int32.ofInt (j : Int) = nI j from rfl, nI_add]
theorem nI_dec1 {k : Nat} (h : 0 < k) : nI k + Int32.ofInt (-1) = nI (k - 1) := by
  obtain ⟨d, rfl⟩ : ∃ d, k = d + 1 := ⟨k - 1, by omega⟩
  rw [nI_succ, Int32.add_assoc, show (1 : Int32) + Int32.ofInt (-1) = 0 from by decide, Int32.add_zero]
  rfl
theorem xi_inc (x : Int32) : x + Int32.ofInt 1 = x + nI 1 := rfl
theorem xi_dec (x : Int32) : x + Int32.ofInt (-1) = x - nI 1 := by
  rw [Int32.sub_eq_add_neg]
  exact congrArg (x + ·) (by decide)
theorem nI_rem {a b : Nat} (ha : a < 2 ^ 31) (hb : b < 2 ^ 31) (h0 : 0 < b) : nI a - nI a / nI b * nI b = nI (a % b) := by
  have hd : nI a / nI b = nI (a / b) := by
    apply Int32.toInt_inj.mp
    rw [Int32.toInt_div_of_ne_left _ _ (by intro q; have := congrArg Int32.toInt q; rw [nI_toInt ha] at this; simp at this), nI_toInt ha, nI_toInt hb, nI_toInt (Nat.lt_of_le_of_lt (Nat.div_le_self _ _) ha)]
    rfl
  rw [hd, nI_mul, nI_sub (Nat.div_mul_le_self a b)]
  congr 1
  have := Nat.div_add_mod a b
  rw [Nat.mul_comm] at this
  omega
/-- a row of the world by another function that says the same -/
theorem xP_arr {D : va_G} {cl : List vw_C} {W : va_W} {H : Heap} (hP : va_P D cl W H) (q : Nat) {a : Nat} {c : ClassId} {n : Nat} {g f : Nat → Int32} (hq : W[q]? = some (a, .inl (c, n, .inl g))) (h : ∀ k, k < n → g k = f k) : va_P D cl (W.set q (a, .inl (c, n, .inl f))) H := by
  intro k x hk
  by_cases e : k = q
  · subst e
    rw [List.getElem?_set_self', hq] at hk
    have hx : x = (a, .inl (c, n, .inl f)) := by simpa using hk.symm
    subst hx
    have h0 : H[a]? = some (vp_cell c (n, .inl g)) := hP k _ hq
    show H[a]? = some (vp_cell c (n, .inl f))
    rw [h0]
    have e2 : vp_cell c (n, .inl g) = vp_cell c (n, .inl f) := by
      rw [vp_cell_i, vp_cell_i]
      unfold arrV
      congr 1
      apply Array.ext
      · simp
      · intro j h1 h2
        simp only [Array.getElem_ofFn]
        rw [h j (by simpa using h1)]
    rw [e2]
  · rw [List.getElem?_set_ne (Ne.symm e)] at hk
    exact hP k x hk
theorem xP_arrf {D : va_G} {cl : List vw_C} {W : va_W} {H : Heap} (hP : va_P D cl W H) (q : Nat) {a : Nat} {c : ClassId} {n : Nat} {g f : Nat → UInt32} (hq : W[q]? = some (a, .inl (c, n, .inr (.inr (.inl g))))) (h : ∀ k, k < n → g k = f k) : va_P D cl (W.set q (a, .inl (c, n, .inr (.inr (.inl f))))) H := by
  intro k x hk
  by_cases e : k = q
  · subst e
    rw [List.getElem?_set_self', hq] at hk
    have hx : x = (a, .inl (c, n, .inr (.inr (.inl f)))) := by simpa using hk.symm
    subst hx
    have h0 : H[a]? = some (vp_cell c (n, .inr (.inr (.inl g)))) := hP k _ hq
    show H[a]? = some (vp_cell c (n, .inr (.inr (.inl f))))
    rw [h0]
    have e2 : vp_cell c (n, .inr (.inr (.inl g))) = vp_cell c (n, .inr (.inr (.inl f))) := by
      rw [vp_cell_f, vp_cell_f]
      unfold arrV
      congr 1
      apply Array.ext
      · simp
      · intro j h1 h2
        simp only [Array.getElem_ofFn]
        rw [h j (by simpa using h1)]
    rw [e2]
  · rw [List.getElem?_set_ne (Ne.symm e)] at hk
    exact hP k x hk
theorem nI_min {a b : Nat} (ha : a < 2 ^ 31) (hb : b < 2 ^ 31) : (if nI b < nI a then nI b else nI a) = nI (min a b) := by
  by_cases h : b < a
  · rw [if_pos ((nI_lt_iff hb ha).mpr h), Nat.min_eq_right (by omega)]
  · rw [if_neg (fun q => h ((nI_lt_iff hb ha).mp q)), Nat.min_eq_left (by omega)]
theorem xsw_out {x : Int32} (n : Nat) (hn : n < 2 ^ 31) (h : ∀ j, j < n → ¬ x = nI j) : x.toInt < 0 ∨ ((n : Int) - 1) < x.toInt := by
  by_cases h0 : x.toInt < 0
  · exact Or.inl h0
  · refine Or.inr ?_
    by_cases h1 : ((n : Int) - 1) < x.toInt
    · exact h1
    · exfalso
      refine h x.toInt.toNat (by omega) (Int32.toInt_inj.mp ?_)
      rw [nI_toInt (by omega)]
      omega
abbrev xtys (cI cF cC cZ cQ cS : ClassId) : List (ClassId × FieldType) := [(cI, .int), (cF, .float), (cC, .char), (cZ, .boolean), (cQ, .array .int), (cS, .object "ShelfStages$State")]
def xrow (l : List Nat) : Nat → Option Nat := fun i => l[i]?
theorem xi_ite {r : Int32} {P : Prop} (d : Decidable P) (h : r = if P then nI 1 else nI 0) : (P ∧ r = nI 1) ∨ (¬ P ∧ r = nI 0) := by
  by_cases hp : P
  · exact Or.inl ⟨hp, by rw [h, if_pos hp]⟩
  · exact Or.inr ⟨hp, by rw [h, if_neg hp]⟩
end
section
/-! ===== BEGIN words of one list among another's, by their places ===== -/
theorem goodIn_r {big : List Cond} (ws : List Cond) (ps : List Nat) (hp : ws = ps.filterMap (fun i => big[i]?)) (h : ws.all goodWord = true) : GoodIn big ws := by
  intro w hw
  have h1 := List.all_eq_true.mp h w hw
  rw [hp] at hw
  obtain ⟨i, -, hi⟩ := List.mem_filterMap.mp hw
  have hm : w ∈ big := by first | exact List.mem_of_getElem? hi | exact List.getElem?_mem hi
  exact ⟨hm, good_of_word h1⟩
theorem goodIn_app {big a b : List Cond} (ha : GoodIn big a) (hb : GoodIn big b) : GoodIn big (a ++ b) := fun w h => (List.mem_append.mp h).elim (ha w) (hb w)
theorem goodIn_ca {big a b : List Cond} {c : Cond} (ha : GoodIn big (c :: a)) (hb : GoodIn big b) : GoodIn big (c :: (a ++ b)) := fun w h => (List.mem_cons.mp h).elim (fun e => ha w (List.mem_cons.mpr (Or.inl e))) (fun h => (List.mem_append.mp h).elim (fun h => ha w (List.mem_cons.mpr (Or.inr h))) (hb w))
theorem goodIn_sub {big ws : List Cond} (hm : ∀ w ∈ ws, w ∈ big) (h : ws.all goodWord = true) : GoodIn big ws := fun w hw => ⟨hm w hw, good_of_word (List.all_eq_true.mp h w hw)⟩
/-! ===== END ===== -/

/-! ===== BEGIN printed: names, fields, word lists, decode rows ===== -/
def RX0 : String := "ShelfStages$Batches"
def TX0 : u_T := fun k => match k with
  | 0 => ("ShelfStages$Batches", "size", "I", false)
  | 1 => ("ShelfStages$Batches", "good", "[I", true)
  | 2 => ("ShelfStages$Batches", "came", "[I", true)
  | 3 => ("ShelfStages$Batches", "left", "[I", true)
  | 4 => ("ShelfStages$Batches", "shelf", "[I", true)
  | 5 => ("ShelfStages$Batches", "sold", "[I", true)
  | 6 => ("ShelfStages$Batches", "given", "[I", true)
  | 7 => ("ShelfStages$Batches", "cents", "[I", true)
  | _ => ("ShelfStages$Batches", "wasted", "[[I", true)
def tyX0 : Nat → FieldType := fun k => match k with
  | 0 => .int
  | 1 => .array .int
  | 2 => .array .int
  | 3 => .array .int
  | 4 => .array .int
  | 5 => .array .int
  | 6 => .array .int
  | 7 => .array .int
  | _ => .array (.array .int)
abbrev wsX00 : List Cond := u_ws RX0 TX0 9
theorem nmX0 : ∀ a, a < 9 → ∀ b, b < 9 → a ≠ b → (TX0 a).2.1 ≠ (TX0 b).2.1 := by decide +kernel
theorem tyX0_ok : ∀ k, k < 9 → parseFieldDescriptor (TX0 k).2.2.1 = some (tyX0 k) := by decide +kernel
abbrev cX0_init : ByteArray := prog_2_method_1_code
def yX0_init : MethodName := ⟨RX0, "<init>", "()V"⟩
abbrev cX0_copyFrom : ByteArray := prog_2_method_2_code
def yX0_copyFrom : MethodName := ⟨RX0, "copyFrom", "(LShelfStages$Batches;)V"⟩
abbrev cX0_append : ByteArray := prog_2_method_3_code
def yX0_append : MethodName := ⟨RX0, "append", "(III)I"⟩
abbrev cX0_age : ByteArray := prog_2_method_4_code
def yX0_age : MethodName := ⟨RX0, "age", "()V"⟩
abbrev cX0_wastedOf : ByteArray := prog_2_method_5_code
def yX0_wastedOf : MethodName := ⟨RX0, "wastedOf", "(I)I"⟩
abbrev cX0_wastedOfAll : ByteArray := prog_2_method_6_code
def yX0_wastedOfAll : MethodName := ⟨RX0, "wastedOfAll", "()I"⟩
abbrev cX0_sum : ByteArray := prog_2_method_7_code
def yX0_sum : MethodName := ⟨RX0, "sum", "([I)I"⟩
abbrev cX0_sumOfGood : ByteArray := prog_2_method_8_code
def yX0_sumOfGood : MethodName := ⟨RX0, "sumOfGood", "([II)I"⟩
abbrev cX0_countOfGood : ByteArray := prog_2_method_9_code
def yX0_countOfGood : MethodName := ⟨RX0, "countOfGood", "(I)I"⟩
def RX1 : String := "ShelfStages$Delivery"
def TX1 : u_T := fun k => match k with
  | 0 => ("ShelfStages$Delivery", "size", "I", false)
  | 1 => ("ShelfStages$Delivery", "part", "I", false)
  | 2 => ("ShelfStages$Delivery", "digits", "I", false)
  | _ => ("ShelfStages$Delivery", "numbers", "[[I", true)
def tyX1 : Nat → FieldType := fun k => match k with
  | 0 => .int
  | 1 => .int
  | 2 => .int
  | _ => .array (.array .int)
abbrev wsX10 : List Cond := u_ws RX1 TX1 4
theorem nmX1 : ∀ a, a < 4 → ∀ b, b < 4 → a ≠ b → (TX1 a).2.1 ≠ (TX1 b).2.1 := by decide +kernel
theorem tyX1_ok : ∀ k, k < 4 → parseFieldDescriptor (TX1 k).2.2.1 = some (tyX1 k) := by decide +kernel
abbrev cX1_init : ByteArray := prog_3_method_1_code
def yX1_init : MethodName := ⟨RX1, "<init>", "()V"⟩
abbrev cX1_read : ByteArray := prog_3_method_2_code
def yX1_read : MethodName := ⟨RX1, "read", "([CI)I"⟩
abbrev cX1_goodIn : ByteArray := prog_3_method_3_code
def yX1_goodIn : MethodName := ⟨RX1, "goodIn", "(I)I"⟩
abbrev cX1_unitsIn : ByteArray := prog_3_method_4_code
def yX1_unitsIn : MethodName := ⟨RX1, "unitsIn", "(I)I"⟩
abbrev cX1_leftIn : ByteArray := prog_3_method_5_code
def yX1_leftIn : MethodName := ⟨RX1, "leftIn", "(I)I"⟩
abbrev cX1_accepts : ByteArray := prog_3_method_6_code
def yX1_accepts : MethodName := ⟨RX1, "accepts", "(C)Z"⟩
abbrev cX1_acceptsDigit : ByteArray := prog_3_method_7_code
def yX1_acceptsDigit : MethodName := ⟨RX1, "acceptsDigit", "(I)Z"⟩
abbrev cX1_openEntry : ByteArray := prog_3_method_8_code
def yX1_openEntry : MethodName := ⟨RX1, "openEntry", "()Z"⟩
abbrev cX1_openPart : ByteArray := prog_3_method_9_code
def yX1_openPart : MethodName := ⟨RX1, "openPart", "(I)Z"⟩
def RX2 : String := "ShelfStages$Filling"
def TX2 : u_T := fun k => match k with
  | 0 => ("ShelfStages$Filling", "size", "I", false)
  | 1 => ("ShelfStages$Filling", "got", "I", false)
  | 2 => ("ShelfStages$Filling", "replaced", "I", false)
  | 3 => ("ShelfStages$Filling", "batch", "[I", true)
  | 4 => ("ShelfStages$Filling", "units", "[I", true)
  | 5 => ("ShelfStages$Filling", "cents", "[I", true)
  | 6 => ("ShelfStages$Filling", "rest", "[I", true)
  | 7 => ("ShelfStages$Filling", "price", "[F", true)
  | 8 => ("ShelfStages$Filling", "orderedGood", "I", false)
  | 9 => ("ShelfStages$Filling", "wanted", "I", false)
  | _ => ("ShelfStages$Filling", "least", "I", false)
def tyX2 : Nat → FieldType := fun k => match k with
  | 0 => .int
  | 1 => .int
  | 2 => .int
  | 3 => .array .int
  | 4 => .array .int
  | 5 => .array .int
  | 6 => .array .int
  | 7 => .array .float
  | 8 => .int
  | 9 => .int
  | _ => .int
abbrev wsX20 : List Cond := u_ws RX2 TX2 11
theorem nmX2 : ∀ a, a < 11 → ∀ b, b < 11 → a ≠ b → (TX2 a).2.1 ≠ (TX2 b).2.1 := by decide +kernel
theorem tyX2_ok : ∀ k, k < 11 → parseFieldDescriptor (TX2 k).2.2.1 = some (tyX2 k) := by decide +kernel
abbrev cX2_init : ByteArray := prog_4_method_1_code
def yX2_init : MethodName := ⟨RX2, "<init>", "()V"⟩
abbrev cX2_fill : ByteArray := prog_4_method_2_code
def yX2_fill : MethodName := ⟨RX2, "fill", "(LShelfStages$State;IIIZ)V"⟩
abbrev cX2_due : ByteArray := prog_4_method_3_code
def yX2_due : MethodName := ⟨RX2, "due", "(F)I"⟩
abbrev cX2_takeFrom : ByteArray := prog_4_method_4_code
def yX2_takeFrom : MethodName := ⟨RX2, "takeFrom", "(LShelfStages$State;I)V"⟩
abbrev cX2_takePart : ByteArray := prog_4_method_5_code
def yX2_takePart : MethodName := ⟨RX2, "takePart", "(LShelfStages$State;II)V"⟩
abbrev cX2_chargedPrice : ByteArray := prog_4_method_6_code
def yX2_chargedPrice : MethodName := ⟨RX2, "chargedPrice", "(LShelfStages$State;I)F"⟩
abbrev cX2_nextBatch : ByteArray := prog_4_method_7_code
def yX2_nextBatch : MethodName := ⟨RX2, "nextBatch", "(LShelfStages$State;I)I"⟩
abbrev cX2_isOpen : ByteArray := prog_4_method_8_code
def yX2_isOpen : MethodName := ⟨RX2, "isOpen", "(LShelfStages$State;II)Z"⟩
abbrev cX2_isBefore : ByteArray := prog_4_method_9_code
def yX2_isBefore : MethodName := ⟨RX2, "isBefore", "(LShelfStages$State;II)Z"⟩
def RX3 : String := "ShelfStages$Goods"
def TX3 : u_T := fun k => match k with
  | 0 => ("ShelfStages$Goods", "size", "I", false)
  | 1 => ("ShelfStages$Goods", "price", "[I", true)
  | 2 => ("ShelfStages$Goods", "life", "[I", true)
  | 3 => ("ShelfStages$Goods", "listed", "[I", true)
  | _ => ("ShelfStages$Goods", "list", "[I", true)
def tyX3 : Nat → FieldType := fun k => match k with
  | 0 => .int
  | 1 => .array .int
  | 2 => .array .int
  | 3 => .array .int
  | _ => .array .int
abbrev wsX30 : List Cond := u_ws RX3 TX3 5
theorem nmX3 : ∀ a, a < 5 → ∀ b, b < 5 → a ≠ b → (TX3 a).2.1 ≠ (TX3 b).2.1 := by decide +kernel
theorem tyX3_ok : ∀ k, k < 5 → parseFieldDescriptor (TX3 k).2.2.1 = some (tyX3 k) := by decide +kernel
abbrev cX3_init : ByteArray := prog_5_method_1_code
def yX3_init : MethodName := ⟨RX3, "<init>", "()V"⟩
abbrev cX3_copyFrom : ByteArray := prog_5_method_2_code
def yX3_copyFrom : MethodName := ⟨RX3, "copyFrom", "(LShelfStages$Goods;)V"⟩
abbrev cX3_append : ByteArray := prog_5_method_3_code
def yX3_append : MethodName := ⟨RX3, "append", "(II)I"⟩
abbrev cX3_listedAt : ByteArray := prog_5_method_4_code
def yX3_listedAt : MethodName := ⟨RX3, "listedAt", "(II)I"⟩
abbrev cX3_lists : ByteArray := prog_5_method_5_code
def yX3_lists : MethodName := ⟨RX3, "lists", "(II)Z"⟩
abbrev cX3_insert : ByteArray := prog_5_method_6_code
def yX3_insert : MethodName := ⟨RX3, "insert", "(III)V"⟩
abbrev cX3_removeFrom : ByteArray := prog_5_method_7_code
def yX3_removeFrom : MethodName := ⟨RX3, "removeFrom", "(II)I"⟩
def RX4 : String := "ShelfStages$History"
def TX4 : u_T := fun k => match k with
  | 0 => ("ShelfStages$History", "states", "[LShelfStages$State;", true)
  | 1 => ("ShelfStages$History", "oldest", "I", false)
  | _ => ("ShelfStages$History", "size", "I", false)
def tyX4 : Nat → FieldType := fun k => match k with
  | 0 => .array (.object "ShelfStages$State")
  | 1 => .int
  | _ => .int
abbrev wsX40 : List Cond := u_ws RX4 TX4 3
theorem nmX4 : ∀ a, a < 3 → ∀ b, b < 3 → a ≠ b → (TX4 a).2.1 ≠ (TX4 b).2.1 := by decide +kernel
theorem tyX4_ok : ∀ k, k < 3 → parseFieldDescriptor (TX4 k).2.2.1 = some (tyX4 k) := by decide +kernel
abbrev cX4_init : ByteArray := prog_6_method_1_code
def yX4_init : MethodName := ⟨RX4, "<init>", "()V"⟩
abbrev cX4_push : ByteArray := prog_6_method_2_code
def yX4_push : MethodName := ⟨RX4, "push", "(LShelfStages$State;)V"⟩
abbrev cX4_popInto : ByteArray := prog_6_method_3_code
def yX4_popInto : MethodName := ⟨RX4, "popInto", "(LShelfStages$State;)V"⟩
def RX5 : String := "ShelfStages$Log"
def TX5 : u_T := fun k => match k with
  | 0 => ("ShelfStages$Log", "size", "I", false)
  | 1 => ("ShelfStages$Log", "next", "I", false)
  | 2 => ("ShelfStages$Log", "kind", "[I", true)
  | 3 => ("ShelfStages$Log", "batch", "[I", true)
  | 4 => ("ShelfStages$Log", "units", "[I", true)
  | _ => ("ShelfStages$Log", "day", "[I", true)
def tyX5 : Nat → FieldType := fun k => match k with
  | 0 => .int
  | 1 => .int
  | 2 => .array .int
  | 3 => .array .int
  | 4 => .array .int
  | _ => .array .int
abbrev wsX50 : List Cond := u_ws RX5 TX5 6
theorem nmX5 : ∀ a, a < 6 → ∀ b, b < 6 → a ≠ b → (TX5 a).2.1 ≠ (TX5 b).2.1 := by decide +kernel
theorem tyX5_ok : ∀ k, k < 6 → parseFieldDescriptor (TX5 k).2.2.1 = some (tyX5 k) := by decide +kernel
abbrev cX5_init : ByteArray := prog_7_method_1_code
def yX5_init : MethodName := ⟨RX5, "<init>", "()V"⟩
abbrev cX5_copyFrom : ByteArray := prog_7_method_2_code
def yX5_copyFrom : MethodName := ⟨RX5, "copyFrom", "(LShelfStages$Log;)V"⟩
abbrev cX5_append : ByteArray := prog_7_method_3_code
def yX5_append : MethodName := ⟨RX5, "append", "(IIII)V"⟩
abbrev cX5_placeOf : ByteArray := prog_7_method_4_code
def yX5_placeOf : MethodName := ⟨RX5, "placeOf", "(I)I"⟩
def RX6 : String := "ShelfStages$Orders"
def TX6 : u_T := fun k => match k with
  | 0 => ("ShelfStages$Orders", "size", "I", false)
  | 1 => ("ShelfStages$Orders", "takes", "I", false)
  | 2 => ("ShelfStages$Orders", "good", "[I", true)
  | 3 => ("ShelfStages$Orders", "wanted", "[I", true)
  | 4 => ("ShelfStages$Orders", "got", "[I", true)
  | 5 => ("ShelfStages$Orders", "replaced", "[I", true)
  | 6 => ("ShelfStages$Orders", "least", "[I", true)
  | 7 => ("ShelfStages$Orders", "accepts", "[I", true)
  | 8 => ("ShelfStages$Orders", "parts", "[I", true)
  | 9 => ("ShelfStages$Orders", "due", "[I", true)
  | 10 => ("ShelfStages$Orders", "day", "[I", true)
  | 11 => ("ShelfStages$Orders", "firstTake", "[I", true)
  | 12 => ("ShelfStages$Orders", "takeBatch", "[I", true)
  | _ => ("ShelfStages$Orders", "takeUnits", "[I", true)
def tyX6 : Nat → FieldType := fun k => match k with
  | 0 => .int
  | 1 => .int
  | 2 => .array .int
  | 3 => .array .int
  | 4 => .array .int
  | 5 => .array .int
  | 6 => .array .int
  | 7 => .array .int
  | 8 => .array .int
  | 9 => .array .int
  | 10 => .array .int
  | 11 => .array .int
  | 12 => .array .int
  | _ => .array .int
abbrev wsX60 : List Cond := u_ws RX6 TX6 14
theorem nmX6 : ∀ a, a < 14 → ∀ b, b < 14 → a ≠ b → (TX6 a).2.1 ≠ (TX6 b).2.1 := by decide +kernel
theorem tyX6_ok : ∀ k, k < 14 → parseFieldDescriptor (TX6 k).2.2.1 = some (tyX6 k) := by decide +kernel
abbrev cX6_init : ByteArray := prog_8_method_1_code
def yX6_init : MethodName := ⟨RX6, "<init>", "()V"⟩
abbrev cX6_copyFrom : ByteArray := prog_8_method_2_code
def yX6_copyFrom : MethodName := ⟨RX6, "copyFrom", "(LShelfStages$Orders;)V"⟩
abbrev cX6_append : ByteArray := prog_8_method_3_code
def yX6_append : MethodName := ⟨RX6, "append", "(IIIZI)V"⟩
abbrev cX6_appendTake : ByteArray := prog_8_method_4_code
def yX6_appendTake : MethodName := ⟨RX6, "appendTake", "(II)V"⟩
abbrev cX6_endLast : ByteArray := prog_8_method_5_code
def yX6_endLast : MethodName := ⟨RX6, "endLast", "(III)V"⟩
abbrev cX6_sum : ByteArray := prog_8_method_6_code
def yX6_sum : MethodName := ⟨RX6, "sum", "([I)I"⟩
abbrev cX6_gotForGood : ByteArray := prog_8_method_7_code
def yX6_gotForGood : MethodName := ⟨RX6, "gotForGood", "(I)I"⟩
abbrev cX6_refused : ByteArray := prog_8_method_8_code
def yX6_refused : MethodName := ⟨RX6, "refused", "()I"⟩
def RX7 : String := "ShelfStages$Stages"
def TX7 : u_T := fun k => match k with
  | 0 => ("ShelfStages$Stages", "share", "[I", true)
  | _ => ("ShelfStages$Stages", "markdown", "[F", true)
def tyX7 : Nat → FieldType := fun k => match k with
  | 0 => .array .int
  | _ => .array .float
abbrev wsX70 : List Cond := u_ws RX7 TX7 2
theorem nmX7 : ∀ a, a < 2 → ∀ b, b < 2 → a ≠ b → (TX7 a).2.1 ≠ (TX7 b).2.1 := by decide +kernel
theorem tyX7_ok : ∀ k, k < 2 → parseFieldDescriptor (TX7 k).2.2.1 = some (tyX7 k) := by decide +kernel
abbrev cX7_init : ByteArray := prog_9_method_1_code
def yX7_init : MethodName := ⟨RX7, "<init>", "()V"⟩
abbrev cX7_copyFrom : ByteArray := prog_9_method_2_code
def yX7_copyFrom : MethodName := ⟨RX7, "copyFrom", "(LShelfStages$Stages;)V"⟩
abbrev cX7_hasRoomFor : ByteArray := prog_9_method_3_code
def yX7_hasRoomFor : MethodName := ⟨RX7, "hasRoomFor", "(II)Z"⟩
abbrev cX7_reached : ByteArray := prog_9_method_4_code
def yX7_reached : MethodName := ⟨RX7, "reached", "(II)I"⟩
def RX8 : String := "ShelfStages$State"
def TX8 : u_T := fun k => match k with
  | 0 => ("ShelfStages$State", "goods", "LShelfStages$Goods;", true)
  | 1 => ("ShelfStages$State", "batches", "LShelfStages$Batches;", true)
  | 2 => ("ShelfStages$State", "orders", "LShelfStages$Orders;", true)
  | 3 => ("ShelfStages$State", "stages", "LShelfStages$Stages;", true)
  | 4 => ("ShelfStages$State", "log", "LShelfStages$Log;", true)
  | 5 => ("ShelfStages$State", "settings", "[I", true)
  | 6 => ("ShelfStages$State", "rebate", "F", false)
  | _ => ("ShelfStages$State", "day", "I", false)
def tyX8 : Nat → FieldType := fun k => match k with
  | 0 => .object "ShelfStages$Goods"
  | 1 => .object "ShelfStages$Batches"
  | 2 => .object "ShelfStages$Orders"
  | 3 => .object "ShelfStages$Stages"
  | 4 => .object "ShelfStages$Log"
  | 5 => .array .int
  | 6 => .float
  | _ => .int
abbrev wsX80 : List Cond := u_ws RX8 TX8 8
theorem nmX8 : ∀ a, a < 8 → ∀ b, b < 8 → a ≠ b → (TX8 a).2.1 ≠ (TX8 b).2.1 := by decide +kernel
theorem tyX8_ok : ∀ k, k < 8 → parseFieldDescriptor (TX8 k).2.2.1 = some (tyX8 k) := by decide +kernel
abbrev cX8_init : ByteArray := prog_10_method_1_code
def yX8_init : MethodName := ⟨RX8, "<init>", "()V"⟩
abbrev cX8_copyFrom : ByteArray := prog_10_method_2_code
def yX8_copyFrom : MethodName := ⟨RX8, "copyFrom", "(LShelfStages$State;)V"⟩
abbrev cX8_stageOf : ByteArray := prog_10_method_3_code
def yX8_stageOf : MethodName := ⟨RX8, "stageOf", "(I)I"⟩
abbrev cX8_priceOfUnit : ByteArray := prog_10_method_4_code
def yX8_priceOfUnit : MethodName := ⟨RX8, "priceOfUnit", "(I)F"⟩
abbrev cX8_isOnShelfIn : ByteArray := prog_10_method_5_code
def yX8_isOnShelfIn : MethodName := ⟨RX8, "isOnShelfIn", "(II)Z"⟩
abbrev cX8_batchesInStage : ByteArray := prog_10_method_6_code
def yX8_batchesInStage : MethodName := ⟨RX8, "batchesInStage", "(I)I"⟩
abbrev cX8_unitsInStage : ByteArray := prog_10_method_7_code
def yX8_unitsInStage : MethodName := ⟨RX8, "unitsInStage", "(I)I"⟩
abbrev cX8_receive : ByteArray := prog_10_method_8_code
def yX8_receive : MethodName := ⟨RX8, "receive", "(III)I"⟩
abbrev cX8_sell : ByteArray := prog_10_method_9_code
def yX8_sell : MethodName := ⟨RX8, "sell", "(LShelfStages$Filling;)V"⟩
abbrev cX8_give : ByteArray := prog_10_method_10_code
def yX8_give : MethodName := ⟨RX8, "give", "(II)V"⟩
abbrev cX8_waste : ByteArray := prog_10_method_11_code
def yX8_waste : MethodName := ⟨RX8, "waste", "(III)V"⟩
abbrev cX8_wasteGood : ByteArray := prog_10_method_12_code
def yX8_wasteGood : MethodName := ⟨RX8, "wasteGood", "(I)V"⟩
abbrev cX8_passDays : ByteArray := prog_10_method_13_code
def yX8_passDays : MethodName := ⟨RX8, "passDays", "(I)I"⟩
abbrev cX8_expire : ByteArray := prog_10_method_14_code
def yX8_expire : MethodName := ⟨RX8, "expire", "()I"⟩
abbrev cX8_donate : ByteArray := prog_10_method_15_code
def yX8_donate : MethodName := ⟨RX8, "donate", "()V"⟩
def RX9 : String := "ShelfStages"
def TX9 : u_T := fun k => match k with
  | 0 => ("ShelfStages", "now", "LShelfStages$State;", true)
  | 1 => ("ShelfStages", "snapshot", "LShelfStages$State;", true)
  | 2 => ("ShelfStages", "trial", "LShelfStages$State;", true)
  | 3 => ("ShelfStages", "history", "LShelfStages$History;", true)
  | 4 => ("ShelfStages", "filling", "LShelfStages$Filling;", true)
  | 5 => ("ShelfStages", "delivery", "LShelfStages$Delivery;", true)
  | 6 => ("ShelfStages", "text", "[C", true)
  | 7 => ("ShelfStages", "textLength", "I", false)
  | _ => ("ShelfStages", "hasSnapshot", "Z", false)
def tyX9 : Nat → FieldType := fun k => match k with
  | 0 => .object "ShelfStages$State"
  | 1 => .object "ShelfStages$State"
  | 2 => .object "ShelfStages$State"
  | 3 => .object "ShelfStages$History"
  | 4 => .object "ShelfStages$Filling"
  | 5 => .object "ShelfStages$Delivery"
  | 6 => .array .char
  | 7 => .int
  | _ => .boolean
abbrev wsX90 : List Cond := u_ws RX9 TX9 9
theorem nmX9 : ∀ a, a < 9 → ∀ b, b < 9 → a ≠ b → (TX9 a).2.1 ≠ (TX9 b).2.1 := by decide +kernel
theorem tyX9_ok : ∀ k, k < 9 → parseFieldDescriptor (TX9 k).2.2.1 = some (tyX9 k) := by decide +kernel
abbrev cX9_init : ByteArray := prog_1_method_1_code
def yX9_init : MethodName := ⟨RX9, "<init>", "()V"⟩
abbrev cX9_addGood : ByteArray := prog_1_method_2_code
def yX9_addGood : MethodName := ⟨RX9, "addGood", "(II)I"⟩
abbrev cX9_setPrice : ByteArray := prog_1_method_3_code
def yX9_setPrice : MethodName := ⟨RX9, "setPrice", "(II)I"⟩
abbrev cX9_addSubstitute : ByteArray := prog_1_method_4_code
def yX9_addSubstitute : MethodName := ⟨RX9, "addSubstitute", "(III)I"⟩
abbrev cX9_removeSubstitute : ByteArray := prog_1_method_5_code
def yX9_removeSubstitute : MethodName := ⟨RX9, "removeSubstitute", "(II)I"⟩
abbrev cX9_setStage : ByteArray := prog_1_method_6_code
def yX9_setStage : MethodName := ⟨RX9, "setStage", "(III)I"⟩
abbrev cX9_set : ByteArray := prog_1_method_7_code
def yX9_set : MethodName := ⟨RX9, "set", "(II)I"⟩
abbrev cX9_setRebate : ByteArray := prog_1_method_8_code
def yX9_setRebate : MethodName := ⟨RX9, "setRebate", "(I)I"⟩
abbrev cX9_bring : ByteArray := prog_1_method_9_code
def yX9_bring : MethodName := ⟨RX9, "bring", "(III)I"⟩
abbrev cX9_readDelivery : ByteArray := prog_1_method_10_code
def yX9_readDelivery : MethodName := ⟨RX9, "readDelivery", "()I"⟩
abbrev cX9_order : ByteArray := prog_1_method_11_code
def yX9_order : MethodName := ⟨RX9, "order", "(IIIZ)I"⟩
abbrev cX9_breakUnits : ByteArray := prog_1_method_12_code
def yX9_breakUnits : MethodName := ⟨RX9, "breakUnits", "(II)I"⟩
abbrev cX9_recall : ByteArray := prog_1_method_13_code
def yX9_recall : MethodName := ⟨RX9, "recall", "(I)I"⟩
abbrev cX9_pass : ByteArray := prog_1_method_14_code
def yX9_pass : MethodName := ⟨RX9, "pass", "(I)I"⟩
abbrev cX9_type : ByteArray := prog_1_method_15_code
def yX9_type : MethodName := ⟨RX9, "type", "(C)I"⟩
abbrev cX9_clearText : ByteArray := prog_1_method_16_code
def yX9_clearText : MethodName := ⟨RX9, "clearText", "()I"⟩
abbrev cX9_undo : ByteArray := prog_1_method_17_code
def yX9_undo : MethodName := ⟨RX9, "undo", "()I"⟩
abbrev cX9_keep : ByteArray := prog_1_method_18_code
def yX9_keep : MethodName := ⟨RX9, "keep", "()I"⟩
abbrev cX9_restore : ByteArray := prog_1_method_19_code
def yX9_restore : MethodName := ⟨RX9, "restore", "()I"⟩
abbrev cX9_good : ByteArray := prog_1_method_20_code
def yX9_good : MethodName := ⟨RX9, "good", "(II)I"⟩
abbrev cX9_substitute : ByteArray := prog_1_method_21_code
def yX9_substitute : MethodName := ⟨RX9, "substitute", "(II)I"⟩
abbrev cX9_batch : ByteArray := prog_1_method_22_code
def yX9_batch : MethodName := ⟨RX9, "batch", "(II)I"⟩
abbrev cX9_unitPrice : ByteArray := prog_1_method_23_code
def yX9_unitPrice : MethodName := ⟨RX9, "unitPrice", "(I)F"⟩
abbrev cX9_markdown : ByteArray := prog_1_method_24_code
def yX9_markdown : MethodName := ⟨RX9, "markdown", "(I)F"⟩
abbrev cX9_stage : ByteArray := prog_1_method_25_code
def yX9_stage : MethodName := ⟨RX9, "stage", "(II)I"⟩
abbrev cX9_orderTold : ByteArray := prog_1_method_26_code
def yX9_orderTold : MethodName := ⟨RX9, "orderTold", "(II)I"⟩
abbrev cX9_taken : ByteArray := prog_1_method_27_code
def yX9_taken : MethodName := ⟨RX9, "taken", "(III)I"⟩
abbrev cX9_wouldGet : ByteArray := prog_1_method_28_code
def yX9_wouldGet : MethodName := ⟨RX9, "wouldGet", "(IIIZI)I"⟩
abbrev cX9_wouldExpire : ByteArray := prog_1_method_29_code
def yX9_wouldExpire : MethodName := ⟨RX9, "wouldExpire", "(II)I"⟩
abbrev cX9_stageIn : ByteArray := prog_1_method_30_code
def yX9_stageIn : MethodName := ⟨RX9, "stageIn", "(II)I"⟩
abbrev cX9_event : ByteArray := prog_1_method_31_code
def yX9_event : MethodName := ⟨RX9, "event", "(II)I"⟩
abbrev cX9_takes : ByteArray := prog_1_method_32_code
def yX9_takes : MethodName := ⟨RX9, "takes", "(IZI)I"⟩
abbrev cX9_count : ByteArray := prog_1_method_33_code
def yX9_count : MethodName := ⟨RX9, "count", "(I)I"⟩
abbrev cX9_within : ByteArray := prog_1_method_34_code
def yX9_within : MethodName := ⟨RX9, "within", "(III)Z"⟩
abbrev cX9_hasGood : ByteArray := prog_1_method_35_code
def yX9_hasGood : MethodName := ⟨RX9, "hasGood", "(I)Z"⟩
abbrev cX9_hasBatch : ByteArray := prog_1_method_36_code
def yX9_hasBatch : MethodName := ⟨RX9, "hasBatch", "(I)Z"⟩
abbrev cX9_hasOrder : ByteArray := prog_1_method_37_code
def yX9_hasOrder : MethodName := ⟨RX9, "hasOrder", "(I)Z"⟩
abbrev cX9_isStage : ByteArray := prog_1_method_38_code
def yX9_isStage : MethodName := ⟨RX9, "isStage", "(I)Z"⟩
abbrev cX9_isSetting : ByteArray := prog_1_method_39_code
def yX9_isSetting : MethodName := ⟨RX9, "isSetting", "(II)Z"⟩
abbrev cX9_isSupply : ByteArray := prog_1_method_40_code
def yX9_isSupply : MethodName := ⟨RX9, "isSupply", "(III)Z"⟩
abbrev cX9_placeError : ByteArray := prog_1_method_41_code
def yX9_placeError : MethodName := ⟨RX9, "placeError", "(II)I"⟩
abbrev cX9_wishError : ByteArray := prog_1_method_42_code
def yX9_wishError : MethodName := ⟨RX9, "wishError", "(III)I"⟩
abbrev cX9_deliveryError : ByteArray := prog_1_method_43_code
def yX9_deliveryError : MethodName := ⟨RX9, "deliveryError", "()I"⟩
abbrev cX9_leftIn : ByteArray := prog_1_method_44_code
def yX9_leftIn : MethodName := ⟨RX9, "leftIn", "(II)I"⟩
abbrev cX9_floatOfBits : ByteArray := prog_1_method_45_code
def yX9_floatOfBits : MethodName := ⟨RX9, "floatOfBits", "(I)F"⟩
abbrev cX9_notANumber : ByteArray := prog_1_method_46_code
def yX9_notANumber : MethodName := ⟨RX9, "notANumber", "()F"⟩
abbrev cX9_copyRow : ByteArray := prog_1_method_47_code
def yX9_copyRow : MethodName := ⟨RX9, "copyRow", "([I[I)V"⟩
def RX10 : String := "ShelfStagesModel"
def TX10 : u_T := fun k => match k with
  | 0 => ("ShelfStagesModel", "z", "[I", true)
  | 1 => ("ShelfStagesModel", "past", "[I", true)
  | 2 => ("ShelfStagesModel", "kept", "[I", true)
  | 3 => ("ShelfStagesModel", "spare", "[I", true)
  | 4 => ("ShelfStagesModel", "pastMany", "I", false)
  | 5 => ("ShelfStagesModel", "isKept", "Z", false)
  | 6 => ("ShelfStagesModel", "text", "[C", true)
  | 7 => ("ShelfStagesModel", "typed", "I", false)
  | 8 => ("ShelfStagesModel", "isUsed", "[Z", true)
  | 9 => ("ShelfStagesModel", "planBatch", "[I", true)
  | 10 => ("ShelfStagesModel", "planUnits", "[I", true)
  | 11 => ("ShelfStagesModel", "planCents", "[I", true)
  | 12 => ("ShelfStagesModel", "planMany", "I", false)
  | 13 => ("ShelfStagesModel", "planGot", "I", false)
  | 14 => ("ShelfStagesModel", "planSubstitutes", "I", false)
  | 15 => ("ShelfStagesModel", "at", "I", false)
  | 16 => ("ShelfStagesModel", "fault", "I", false)
  | 17 => ("ShelfStagesModel", "entries", "I", false)
  | _ => ("ShelfStagesModel", "entry", "[I", true)
def tyX10 : Nat → FieldType := fun k => match k with
  | 0 => .array .int
  | 1 => .array .int
  | 2 => .array .int
  | 3 => .array .int
  | 4 => .int
  | 5 => .boolean
  | 6 => .array .char
  | 7 => .int
  | 8 => .array .boolean
  | 9 => .array .int
  | 10 => .array .int
  | 11 => .array .int
  | 12 => .int
  | 13 => .int
  | 14 => .int
  | 15 => .int
  | 16 => .int
  | 17 => .int
  | _ => .array .int
abbrev wsX100 : List Cond := u_ws RX10 TX10 19
theorem nmX10 : ∀ a, a < 19 → ∀ b, b < 19 → a ≠ b → (TX10 a).2.1 ≠ (TX10 b).2.1 := by decide +kernel
theorem tyX10_ok : ∀ k, k < 19 → parseFieldDescriptor (TX10 k).2.2.1 = some (tyX10 k) := by decide +kernel
abbrev cX10_init : ByteArray := prog_12_method_1_code
def yX10_init : MethodName := ⟨RX10, "<init>", "()V"⟩
abbrev cX10_in : ByteArray := prog_12_method_2_code
def yX10_in : MethodName := ⟨RX10, "in", "(III)Z"⟩
abbrev cX10_record : ByteArray := prog_12_method_3_code
def yX10_record : MethodName := ⟨RX10, "record", "()V"⟩
abbrev cX10_undo : ByteArray := prog_12_method_4_code
def yX10_undo : MethodName := ⟨RX10, "undo", "()I"⟩
abbrev cX10_keep : ByteArray := prog_12_method_5_code
def yX10_keep : MethodName := ⟨RX10, "keep", "()I"⟩
abbrev cX10_restore : ByteArray := prog_12_method_6_code
def yX10_restore : MethodName := ⟨RX10, "restore", "()I"⟩
abbrev cX10_isGood : ByteArray := prog_12_method_7_code
def yX10_isGood : MethodName := ⟨RX10, "isGood", "(I)Z"⟩
abbrev cX10_isBatch : ByteArray := prog_12_method_8_code
def yX10_isBatch : MethodName := ⟨RX10, "isBatch", "(I)Z"⟩
abbrev cX10_isOrder : ByteArray := prog_12_method_9_code
def yX10_isOrder : MethodName := ⟨RX10, "isOrder", "(I)Z"⟩
abbrev cX10_ofGood : ByteArray := prog_12_method_10_code
def yX10_ofGood : MethodName := ⟨RX10, "ofGood", "(II)I"⟩
abbrev cX10_ofBatch : ByteArray := prog_12_method_11_code
def yX10_ofBatch : MethodName := ⟨RX10, "ofBatch", "(II)I"⟩
abbrev cX10_ofOrder : ByteArray := prog_12_method_12_code
def yX10_ofOrder : MethodName := ⟨RX10, "ofOrder", "(II)I"⟩
abbrev cX10_addTo : ByteArray := prog_12_method_13_code
def yX10_addTo : MethodName := ⟨RX10, "addTo", "(III)V"⟩
abbrev cX10_note : ByteArray := prog_12_method_14_code
def yX10_note : MethodName := ⟨RX10, "note", "(III)V"⟩
abbrev cX10_addGood : ByteArray := prog_12_method_15_code
def yX10_addGood : MethodName := ⟨RX10, "addGood", "(II)I"⟩
abbrev cX10_setPrice : ByteArray := prog_12_method_16_code
def yX10_setPrice : MethodName := ⟨RX10, "setPrice", "(II)I"⟩
abbrev cX10_addSubstitute : ByteArray := prog_12_method_17_code
def yX10_addSubstitute : MethodName := ⟨RX10, "addSubstitute", "(III)I"⟩
abbrev cX10_removeSubstitute : ByteArray := prog_12_method_18_code
def yX10_removeSubstitute : MethodName := ⟨RX10, "removeSubstitute", "(II)I"⟩
abbrev cX10_setStage : ByteArray := prog_12_method_19_code
def yX10_setStage : MethodName := ⟨RX10, "setStage", "(III)I"⟩
abbrev cX10_set : ByteArray := prog_12_method_20_code
def yX10_set : MethodName := ⟨RX10, "set", "(II)I"⟩
abbrev cX10_setRebate : ByteArray := prog_12_method_21_code
def yX10_setRebate : MethodName := ⟨RX10, "setRebate", "(I)I"⟩
abbrev cX10_floatOf : ByteArray := prog_12_method_22_code
def yX10_floatOf : MethodName := ⟨RX10, "floatOf", "(I)F"⟩
abbrev cX10_stageOf : ByteArray := prog_12_method_23_code
def yX10_stageOf : MethodName := ⟨RX10, "stageOf", "(II)I"⟩
abbrev cX10_stageOfBatch : ByteArray := prog_12_method_24_code
def yX10_stageOfBatch : MethodName := ⟨RX10, "stageOfBatch", "(I)I"⟩
abbrev cX10_priceOf : ByteArray := prog_12_method_25_code
def yX10_priceOf : MethodName := ⟨RX10, "priceOf", "(I)F"⟩
abbrev cX10_isSooner : ByteArray := prog_12_method_26_code
def yX10_isSooner : MethodName := ⟨RX10, "isSooner", "(II)Z"⟩
abbrev cX10_nextBatch : ByteArray := prog_12_method_27_code
def yX10_nextBatch : MethodName := ⟨RX10, "nextBatch", "(II)I"⟩
abbrev cX10_centsOf : ByteArray := prog_12_method_28_code
def yX10_centsOf : MethodName := ⟨RX10, "centsOf", "(III)I"⟩
abbrev cX10_takeFrom : ByteArray := prog_12_method_29_code
def yX10_takeFrom : MethodName := ⟨RX10, "takeFrom", "(IIII)V"⟩
abbrev cX10_plan : ByteArray := prog_12_method_30_code
def yX10_plan : MethodName := ⟨RX10, "plan", "(IIIZ)V"⟩
abbrev cX10_planDue : ByteArray := prog_12_method_31_code
def yX10_planDue : MethodName := ⟨RX10, "planDue", "()I"⟩
abbrev cX10_order : ByteArray := prog_12_method_32_code
def yX10_order : MethodName := ⟨RX10, "order", "(IIIZ)I"⟩
abbrev cX10_sell : ByteArray := prog_12_method_33_code
def yX10_sell : MethodName := ⟨RX10, "sell", "(I)V"⟩
abbrev cX10_wouldGet : ByteArray := prog_12_method_34_code
def yX10_wouldGet : MethodName := ⟨RX10, "wouldGet", "(IIIZI)I"⟩
abbrev cX10_putBatch : ByteArray := prog_12_method_35_code
def yX10_putBatch : MethodName := ⟨RX10, "putBatch", "(III)I"⟩
abbrev cX10_bring : ByteArray := prog_12_method_36_code
def yX10_bring : MethodName := ⟨RX10, "bring", "(III)I"⟩
abbrev cX10_waste : ByteArray := prog_12_method_37_code
def yX10_waste : MethodName := ⟨RX10, "waste", "(III)V"⟩
abbrev cX10_breakUnits : ByteArray := prog_12_method_38_code
def yX10_breakUnits : MethodName := ⟨RX10, "breakUnits", "(II)I"⟩
abbrev cX10_shelfOf : ByteArray := prog_12_method_39_code
def yX10_shelfOf : MethodName := ⟨RX10, "shelfOf", "(I)I"⟩
abbrev cX10_recall : ByteArray := prog_12_method_40_code
def yX10_recall : MethodName := ⟨RX10, "recall", "(I)I"⟩
abbrev cX10_expire : ByteArray := prog_12_method_41_code
def yX10_expire : MethodName := ⟨RX10, "expire", "()I"⟩
abbrev cX10_donate : ByteArray := prog_12_method_42_code
def yX10_donate : MethodName := ⟨RX10, "donate", "()V"⟩
abbrev cX10_passDay : ByteArray := prog_12_method_43_code
def yX10_passDay : MethodName := ⟨RX10, "passDay", "()I"⟩
abbrev cX10_pass : ByteArray := prog_12_method_44_code
def yX10_pass : MethodName := ⟨RX10, "pass", "(I)I"⟩
abbrev cX10_wouldExpire : ByteArray := prog_12_method_45_code
def yX10_wouldExpire : MethodName := ⟨RX10, "wouldExpire", "(II)I"⟩
abbrev cX10_stageIn : ByteArray := prog_12_method_46_code
def yX10_stageIn : MethodName := ⟨RX10, "stageIn", "(II)I"⟩
abbrev cX10_type : ByteArray := prog_12_method_47_code
def yX10_type : MethodName := ⟨RX10, "type", "(C)I"⟩
abbrev cX10_clearText : ByteArray := prog_12_method_48_code
def yX10_clearText : MethodName := ⟨RX10, "clearText", "()I"⟩
abbrev cX10_letter : ByteArray := prog_12_method_49_code
def yX10_letter : MethodName := ⟨RX10, "letter", "(I)I"⟩
abbrev cX10_isDigit : ByteArray := prog_12_method_50_code
def yX10_isDigit : MethodName := ⟨RX10, "isDigit", "(I)Z"⟩
abbrev cX10_readNumber : ByteArray := prog_12_method_51_code
def yX10_readNumber : MethodName := ⟨RX10, "readNumber", "()I"⟩
abbrev cX10_readEntry : ByteArray := prog_12_method_52_code
def yX10_readEntry : MethodName := ⟨RX10, "readEntry", "()V"⟩
abbrev cX10_readText : ByteArray := prog_12_method_53_code
def yX10_readText : MethodName := ⟨RX10, "readText", "()V"⟩
abbrev cX10_whyNot : ByteArray := prog_12_method_54_code
def yX10_whyNot : MethodName := ⟨RX10, "whyNot", "()I"⟩
abbrev cX10_readDelivery : ByteArray := prog_12_method_55_code
def yX10_readDelivery : MethodName := ⟨RX10, "readDelivery", "()I"⟩
abbrev cX10_sumOfBatches : ByteArray := prog_12_method_56_code
def yX10_sumOfBatches : MethodName := ⟨RX10, "sumOfBatches", "(II)I"⟩
abbrev cX10_batchesOf : ByteArray := prog_12_method_57_code
def yX10_batchesOf : MethodName := ⟨RX10, "batchesOf", "(I)I"⟩
abbrev cX10_good : ByteArray := prog_12_method_58_code
def yX10_good : MethodName := ⟨RX10, "good", "(II)I"⟩
abbrev cX10_substitute : ByteArray := prog_12_method_59_code
def yX10_substitute : MethodName := ⟨RX10, "substitute", "(II)I"⟩
abbrev cX10_wasted : ByteArray := prog_12_method_60_code
def yX10_wasted : MethodName := ⟨RX10, "wasted", "(I)I"⟩
abbrev cX10_batch : ByteArray := prog_12_method_61_code
def yX10_batch : MethodName := ⟨RX10, "batch", "(II)I"⟩
abbrev cX10_unitPrice : ByteArray := prog_12_method_62_code
def yX10_unitPrice : MethodName := ⟨RX10, "unitPrice", "(I)F"⟩
abbrev cX10_markdown : ByteArray := prog_12_method_63_code
def yX10_markdown : MethodName := ⟨RX10, "markdown", "(I)F"⟩
abbrev cX10_stage : ByteArray := prog_12_method_64_code
def yX10_stage : MethodName := ⟨RX10, "stage", "(II)I"⟩
abbrev cX10_orderTold : ByteArray := prog_12_method_65_code
def yX10_orderTold : MethodName := ⟨RX10, "orderTold", "(II)I"⟩
abbrev cX10_taken : ByteArray := prog_12_method_66_code
def yX10_taken : MethodName := ⟨RX10, "taken", "(III)I"⟩
abbrev cX10_event : ByteArray := prog_12_method_67_code
def yX10_event : MethodName := ⟨RX10, "event", "(II)I"⟩
abbrev cX10_takes : ByteArray := prog_12_method_68_code
def yX10_takes : MethodName := ⟨RX10, "takes", "(IZI)I"⟩
abbrev cX10_ofOrders : ByteArray := prog_12_method_69_code
def yX10_ofOrders : MethodName := ⟨RX10, "ofOrders", "(I)I"⟩
abbrev cX10_allWasted : ByteArray := prog_12_method_70_code
def yX10_allWasted : MethodName := ⟨RX10, "allWasted", "()I"⟩
abbrev cX10_count : ByteArray := prog_12_method_71_code
def yX10_count : MethodName := ⟨RX10, "count", "(I)I"⟩
def RJ9 : String := "java/lang/Math"
def TJ9 : u_T := fun k => match k with
  | _ => ("", "", "", false)
def tyJ9 : Nat → FieldType := fun k => match k with
  | _ => .int
abbrev wsJ90 : List Cond := u_ws RJ9 TJ9 0
theorem nmJ9 : ∀ a, a < 0 → ∀ b, b < 0 → a ≠ b → (TJ9 a).2.1 ≠ (TJ9 b).2.1 := by decide +kernel
theorem tyJ9_ok : ∀ k, k < 0 → parseFieldDescriptor (TJ9 k).2.2.1 = some (tyJ9 k) := by decide +kernel
abbrev cJ9_floorMod_7cf53 : ByteArray := prog_13_method_50_code
def yJ9_floorMod_7cf53 : MethodName := ⟨RJ9, "floorMod", "(II)I"⟩
abbrev cJ9_min_7cf53 : ByteArray := prog_13_method_69_code
def yJ9_min_7cf53 : MethodName := ⟨RJ9, "min", "(II)I"⟩
def RJ10 : String := "java/lang/System"
def TJ10 : u_T := fun k => match k with
  | _ => ("", "", "", false)
def tyJ10 : Nat → FieldType := fun k => match k with
  | _ => .int
abbrev wsJ100 : List Cond := u_ws RJ10 TJ10 0
theorem nmJ10 : ∀ a, a < 0 → ∀ b, b < 0 → a ≠ b → (TJ10 a).2.1 ≠ (TJ10 b).2.1 := by decide +kernel
theorem tyJ10_ok : ∀ k, k < 0 → parseFieldDescriptor (TJ10 k).2.2.1 = some (tyJ10 k) := by decide +kernel
def RL : String := "ShelfStagesLaw"
abbrev cL_law : ByteArray := code
def yL_law : MethodName := ⟨RL, "law", "([I)Z"⟩
def wsX0_init : List Cond := .code yX0_init cX0_init 1 none :: ([.methodLink RX0 3 objectInit, .instanceMethod objectInit, .code objectInit ⟨#[0xb1]⟩ 1 none, .arrayClass .int, .fieldLink RX0 9 "ShelfStages$Batches" "good" "[I", .fieldLink RX0 15 "ShelfStages$Batches" "came" "[I", .fieldLink RX0 18 "ShelfStages$Batches" "left" "[I", .fieldLink RX0 21 "ShelfStages$Batches" "shelf" "[I", .fieldLink RX0 24 "ShelfStages$Batches" "sold" "[I", .fieldLink RX0 27 "ShelfStages$Batches" "given" "[I", .fieldLink RX0 30 "ShelfStages$Batches" "cents" "[I", .classLink RX0 33 "[[I", .fieldLink RX0 35 "ShelfStages$Batches" "wasted" "[[I"] ++ wsX00)
def wsX9_copyRow : List Cond := .code yX9_copyRow cX9_copyRow 2 none :: ([.methodLink RX9 357 Lib.Math.min.name, .static Lib.Math.min.name, .initialized "java/lang/Math", .code Lib.Math.min.name Lib.Math.min.code 2 (some .int), .methodLink RX9 362 arraycopyName, .native arraycopyName, .static arraycopyName, .initialized "java/lang/System"])
def wsX0_copyFrom : List Cond := .code yX0_copyFrom cX0_copyFrom 3 none :: ([.fieldLink RX0 38 "ShelfStages$Batches" "size" "I", .fieldLink RX0 9 "ShelfStages$Batches" "good" "[I", .fieldLink RX0 15 "ShelfStages$Batches" "came" "[I", .fieldLink RX0 18 "ShelfStages$Batches" "left" "[I", .fieldLink RX0 21 "ShelfStages$Batches" "shelf" "[I", .fieldLink RX0 24 "ShelfStages$Batches" "sold" "[I", .fieldLink RX0 27 "ShelfStages$Batches" "given" "[I", .fieldLink RX0 30 "ShelfStages$Batches" "cents" "[I", .fieldLink RX0 35 "ShelfStages$Batches" "wasted" "[[I", .static yX9_copyRow, .initialized RX9, .code yX9_copyRow cX9_copyRow 2 none, .methodLink RX9 357 Lib.Math.min.name, .static Lib.Math.min.name, .initialized "java/lang/Math", .code Lib.Math.min.name Lib.Math.min.code 2 (some .int), .methodLink RX9 362 arraycopyName, .native arraycopyName, .static arraycopyName, .initialized "java/lang/System"] ++ wsX00)
def wsX0_append : List Cond := .code yX0_append cX0_append 5 (some .int) :: ([.fieldLink RX0 38 "ShelfStages$Batches" "size" "I", .fieldLink RX0 9 "ShelfStages$Batches" "good" "[I", .fieldLink RX0 15 "ShelfStages$Batches" "came" "[I", .fieldLink RX0 18 "ShelfStages$Batches" "left" "[I", .fieldLink RX0 21 "ShelfStages$Batches" "shelf" "[I"] ++ wsX00)
def wsX0_age : List Cond := .code yX0_age cX0_age 2 none :: ([.fieldLink RX0 38 "ShelfStages$Batches" "size" "I", .fieldLink RX0 21 "ShelfStages$Batches" "shelf" "[I", .fieldLink RX0 18 "ShelfStages$Batches" "left" "[I"] ++ wsX00)
def wsX0_wastedOf : List Cond := .code yX0_wastedOf cX0_wastedOf 2 (some .int) :: ([.fieldLink RX0 35 "ShelfStages$Batches" "wasted" "[[I"] ++ wsX00)
def wsX0_sum : List Cond := .code yX0_sum cX0_sum 4 (some .int) :: ([.fieldLink RX0 38 "ShelfStages$Batches" "size" "I"] ++ wsX00)
def wsX0_wastedOfAll : List Cond := .code yX0_wastedOfAll cX0_wastedOfAll 1 (some .int) :: ([.fieldLink RX0 35 "ShelfStages$Batches" "wasted" "[[I", .methodLink RX0 46 yX0_sum, .instanceMethod yX0_sum, .selects RX0 yX0_sum yX0_sum, .initialized RX0, .code yX0_sum cX0_sum 4 (some .int), .fieldLink RX0 38 "ShelfStages$Batches" "size" "I"] ++ wsX00)
def wsX0_sumOfGood : List Cond := .code yX0_sumOfGood cX0_sumOfGood 5 (some .int) :: ([.fieldLink RX0 38 "ShelfStages$Batches" "size" "I", .fieldLink RX0 9 "ShelfStages$Batches" "good" "[I"] ++ wsX00)
def wsX0_countOfGood : List Cond := .code yX0_countOfGood cX0_countOfGood 4 (some .int) :: ([.fieldLink RX0 38 "ShelfStages$Batches" "size" "I", .fieldLink RX0 9 "ShelfStages$Batches" "good" "[I"] ++ wsX00)
def wsX1_init : List Cond := .code yX1_init cX1_init 1 none :: ([.methodLink RX1 3 objectInit, .instanceMethod objectInit, .code objectInit ⟨#[0xb1]⟩ 1 none, .classLink RX1 11 "[[I", .arrayClass .int, .fieldLink RX1 13 "ShelfStages$Delivery" "numbers" "[[I"] ++ wsX10)
def wsX1_openPart : List Cond := .code yX1_openPart cX1_openPart 2 (some .boolean) :: ([.fieldLink RX1 28 "ShelfStages$Delivery" "part" "I", .fieldLink RX1 31 "ShelfStages$Delivery" "digits" "I"] ++ wsX10)
def wsX1_openEntry : List Cond := .code yX1_openEntry cX1_openEntry 1 (some .boolean) :: ([.fieldLink RX1 16 "ShelfStages$Delivery" "size" "I", .fieldLink RX1 13 "ShelfStages$Delivery" "numbers" "[[I", .methodLink RX1 38 yX1_openPart, .instanceMethod yX1_openPart, .selects RX1 yX1_openPart yX1_openPart, .initialized RX1, .code yX1_openPart cX1_openPart 2 (some .boolean), .fieldLink RX1 28 "ShelfStages$Delivery" "part" "I", .fieldLink RX1 31 "ShelfStages$Delivery" "digits" "I"] ++ wsX10)
def wsX1_acceptsDigit : List Cond := .code yX1_acceptsDigit cX1_acceptsDigit 5 (some .boolean) :: ([.fieldLink RX1 13 "ShelfStages$Delivery" "numbers" "[[I", .fieldLink RX1 28 "ShelfStages$Delivery" "part" "I", .fieldLink RX1 16 "ShelfStages$Delivery" "size" "I", .fieldLink RX1 31 "ShelfStages$Delivery" "digits" "I"] ++ wsX10)
def wsX1_accepts : List Cond := .code yX1_accepts cX1_accepts 2 (some .boolean) :: ([.fieldLink RX1 31 "ShelfStages$Delivery" "digits" "I", .fieldLink RX1 28 "ShelfStages$Delivery" "part" "I", .methodLink RX1 34 yX1_acceptsDigit, .instanceMethod yX1_acceptsDigit, .selects RX1 yX1_acceptsDigit yX1_acceptsDigit, .initialized RX1, .code yX1_acceptsDigit cX1_acceptsDigit 5 (some .boolean), .fieldLink RX1 13 "ShelfStages$Delivery" "numbers" "[[I", .fieldLink RX1 16 "ShelfStages$Delivery" "size" "I", .methodLink RX1 38 yX1_openPart, .instanceMethod yX1_openPart, .selects RX1 yX1_openPart yX1_openPart, .code yX1_openPart cX1_openPart 2 (some .boolean), .methodLink RX1 20 yX1_openEntry, .instanceMethod yX1_openEntry, .selects RX1 yX1_openEntry yX1_openEntry, .code yX1_openEntry cX1_openEntry 1 (some .boolean)] ++ wsX10)
def wsX1_read : List Cond := .code yX1_read cX1_read 4 (some .int) :: ([.fieldLink RX1 16 "ShelfStages$Delivery" "size" "I", .fieldLink RX1 28 "ShelfStages$Delivery" "part" "I", .fieldLink RX1 31 "ShelfStages$Delivery" "digits" "I", .methodLink RX1 20 yX1_openEntry, .instanceMethod yX1_openEntry, .selects RX1 yX1_openEntry yX1_openEntry, .initialized RX1, .code yX1_openEntry cX1_openEntry 1 (some .boolean), .fieldLink RX1 13 "ShelfStages$Delivery" "numbers" "[[I", .methodLink RX1 38 yX1_openPart, .instanceMethod yX1_openPart, .selects RX1 yX1_openPart yX1_openPart, .code yX1_openPart cX1_openPart 2 (some .boolean), .methodLink RX1 24 yX1_accepts, .instanceMethod yX1_accepts, .selects RX1 yX1_accepts yX1_accepts, .code yX1_accepts cX1_accepts 2 (some .boolean), .methodLink RX1 34 yX1_acceptsDigit, .instanceMethod yX1_acceptsDigit, .selects RX1 yX1_acceptsDigit yX1_acceptsDigit, .code yX1_acceptsDigit cX1_acceptsDigit 5 (some .boolean)] ++ wsX10)
def wsX1_goodIn : List Cond := .code yX1_goodIn cX1_goodIn 2 (some .int) :: ([.fieldLink RX1 13 "ShelfStages$Delivery" "numbers" "[[I"] ++ wsX10)
def wsX1_unitsIn : List Cond := .code yX1_unitsIn cX1_unitsIn 2 (some .int) :: ([.fieldLink RX1 13 "ShelfStages$Delivery" "numbers" "[[I"] ++ wsX10)
def wsX1_leftIn : List Cond := .code yX1_leftIn cX1_leftIn 2 (some .int) :: ([.fieldLink RX1 13 "ShelfStages$Delivery" "numbers" "[[I"] ++ wsX10)
def wsX2_init : List Cond := .code yX2_init cX2_init 1 none :: ([.methodLink RX2 3 objectInit, .instanceMethod objectInit, .code objectInit ⟨#[0xb1]⟩ 1 none, .arrayClass .int, .fieldLink RX2 9 "ShelfStages$Filling" "batch" "[I", .fieldLink RX2 15 "ShelfStages$Filling" "units" "[I", .fieldLink RX2 18 "ShelfStages$Filling" "cents" "[I", .fieldLink RX2 21 "ShelfStages$Filling" "rest" "[I", .arrayClass .float, .fieldLink RX2 24 "ShelfStages$Filling" "price" "[F"] ++ wsX20)
def wsX7_reached : List Cond := .code yX7_reached cX7_reached 4 (some .int) :: ([.fieldLink RX7 9 "ShelfStages$Stages" "share" "[I"] ++ wsX70)
def wsX8_stageOf : List Cond := .code yX8_stageOf cX8_stageOf 2 (some .int) :: ([.fieldLink RX8 35 "ShelfStages$State" "stages" "LShelfStages$Stages;", .fieldLink RX8 21 "ShelfStages$State" "batches" "LShelfStages$Batches;", .fieldLink RX8 78 "ShelfStages$Batches" "left" "[I", .fieldLink RX8 12 "ShelfStages$State" "goods" "LShelfStages$Goods;", .fieldLink RX8 81 "ShelfStages$Goods" "life" "[I", .fieldLink RX8 84 "ShelfStages$Batches" "good" "[I", .methodLink RX8 87 yX7_reached, .instanceMethod yX7_reached, .selects RX7 yX7_reached yX7_reached, .initialized RX7, .code yX7_reached cX7_reached 4 (some .int), .fieldLink RX7 9 "ShelfStages$Stages" "share" "[I"] ++ wsX80 ++ wsX00 ++ wsX30 ++ wsX70)
def wsX8_priceOfUnit : List Cond := .code yX8_priceOfUnit cX8_priceOfUnit 3 (some .float) :: ([.fieldLink RX8 12 "ShelfStages$State" "goods" "LShelfStages$Goods;", .fieldLink RX8 91 "ShelfStages$Goods" "price" "[I", .fieldLink RX8 21 "ShelfStages$State" "batches" "LShelfStages$Batches;", .fieldLink RX8 84 "ShelfStages$Batches" "good" "[I", .fieldLink RX8 35 "ShelfStages$State" "stages" "LShelfStages$Stages;", .fieldLink RX8 94 "ShelfStages$Stages" "markdown" "[F", .constantFloat RX8 102 (1120403456), .methodLink RX8 98 yX8_stageOf, .instanceMethod yX8_stageOf, .selects RX8 yX8_stageOf yX8_stageOf, .initialized RX8, .code yX8_stageOf cX8_stageOf 2 (some .int), .fieldLink RX8 78 "ShelfStages$Batches" "left" "[I", .fieldLink RX8 81 "ShelfStages$Goods" "life" "[I", .methodLink RX8 87 yX7_reached, .instanceMethod yX7_reached, .selects RX7 yX7_reached yX7_reached, .initialized RX7, .code yX7_reached cX7_reached 4 (some .int), .fieldLink RX7 9 "ShelfStages$Stages" "share" "[I"] ++ wsX80 ++ wsX30 ++ wsX00 ++ wsX70)
def wsX2_isOpen : List Cond := .code yX2_isOpen cX2_isOpen 5 (some .boolean) :: ([.fieldLink RX2 44 "ShelfStages$State" "batches" "LShelfStages$Batches;", .fieldLink RX2 104 "ShelfStages$Batches" "good" "[I", .fieldLink RX2 21 "ShelfStages$Filling" "rest" "[I", .fieldLink RX2 114 "ShelfStages$Batches" "left" "[I", .fieldLink RX2 41 "ShelfStages$Filling" "least" "I"] ++ wsX80 ++ wsX00 ++ wsX20)
def wsX2_isBefore : List Cond := .code yX2_isBefore cX2_isBefore 5 (some .boolean) :: ([.fieldLink RX2 44 "ShelfStages$State" "batches" "LShelfStages$Batches;", .fieldLink RX2 114 "ShelfStages$Batches" "left" "[I", .fieldLink RX2 117 "ShelfStages$State" "settings" "[I", .fieldLink RX2 24 "ShelfStages$Filling" "price" "[F"] ++ wsX80 ++ wsX00 ++ wsX20)
def wsX2_nextBatch : List Cond := .code yX2_nextBatch cX2_nextBatch 5 (some .int) :: ([.fieldLink RX2 44 "ShelfStages$State" "batches" "LShelfStages$Batches;", .fieldLink RX2 59 "ShelfStages$Batches" "size" "I", .methodLink RX2 107 yX2_isOpen, .instanceMethod yX2_isOpen, .selects RX2 yX2_isOpen yX2_isOpen, .initialized RX2, .code yX2_isOpen cX2_isOpen 5 (some .boolean), .fieldLink RX2 104 "ShelfStages$Batches" "good" "[I", .fieldLink RX2 21 "ShelfStages$Filling" "rest" "[I", .fieldLink RX2 114 "ShelfStages$Batches" "left" "[I", .fieldLink RX2 41 "ShelfStages$Filling" "least" "I", .methodLink RX2 111 yX2_isBefore, .instanceMethod yX2_isBefore, .selects RX2 yX2_isBefore yX2_isBefore, .code yX2_isBefore cX2_isBefore 5 (some .boolean), .fieldLink RX2 117 "ShelfStages$State" "settings" "[I", .fieldLink RX2 24 "ShelfStages$Filling" "price" "[F"] ++ wsX80 ++ wsX00 ++ wsX20)
def wsX2_chargedPrice : List Cond := .code yX2_chargedPrice cX2_chargedPrice 5 (some .float) :: ([.fieldLink RX2 68 "ShelfStages$State" "goods" "LShelfStages$Goods;", .fieldLink RX2 102 "ShelfStages$Goods" "price" "[I", .fieldLink RX2 35 "ShelfStages$Filling" "orderedGood" "I", .fieldLink RX2 44 "ShelfStages$State" "batches" "LShelfStages$Batches;", .fieldLink RX2 104 "ShelfStages$Batches" "good" "[I", .fieldLink RX2 24 "ShelfStages$Filling" "price" "[F"] ++ wsX80 ++ wsX30 ++ wsX20 ++ wsX00)
def wsX2_takePart : List Cond := .code yX2_takePart cX2_takePart 4 none :: ([.fieldLink RX2 28 "ShelfStages$Filling" "size" "I", .fieldLink RX2 9 "ShelfStages$Filling" "batch" "[I", .fieldLink RX2 15 "ShelfStages$Filling" "units" "[I", .fieldLink RX2 18 "ShelfStages$Filling" "cents" "[I", .fieldLink RX2 21 "ShelfStages$Filling" "rest" "[I", .fieldLink RX2 32 "ShelfStages$Filling" "got" "I", .methodLink RX2 98 yX2_chargedPrice, .instanceMethod yX2_chargedPrice, .selects RX2 yX2_chargedPrice yX2_chargedPrice, .initialized RX2, .code yX2_chargedPrice cX2_chargedPrice 5 (some .float), .fieldLink RX2 68 "ShelfStages$State" "goods" "LShelfStages$Goods;", .fieldLink RX2 102 "ShelfStages$Goods" "price" "[I", .fieldLink RX2 35 "ShelfStages$Filling" "orderedGood" "I", .fieldLink RX2 44 "ShelfStages$State" "batches" "LShelfStages$Batches;", .fieldLink RX2 104 "ShelfStages$Batches" "good" "[I", .fieldLink RX2 24 "ShelfStages$Filling" "price" "[F"] ++ wsX20 ++ wsX80 ++ wsX30 ++ wsX00)
def wsX2_takeFrom_r1 : List Cond := [Cond.fieldLink RX2 32 "ShelfStages$Filling" "got" "I", Cond.fieldLink RX2 38 "ShelfStages$Filling" "wanted" "I", Cond.fieldLink RX2 21 "ShelfStages$Filling" "rest" "[I", Cond.methodLink RX2 89 Lib.Math.min.name, Cond.static Lib.Math.min.name, Cond.initialized "java/lang/Math", Cond.code Lib.Math.min.name Lib.Math.min.code 2 (some .int), Cond.methodLink RX2 85 yX2_nextBatch, Cond.instanceMethod yX2_nextBatch, Cond.selects RX2 yX2_nextBatch yX2_nextBatch, Cond.initialized RX2, Cond.code yX2_nextBatch cX2_nextBatch 5 (some .int), Cond.fieldLink RX2 44 "ShelfStages$State" "batches" "LShelfStages$Batches;", Cond.fieldLink RX2 59 "ShelfStages$Batches" "size" "I", Cond.methodLink RX2 107 yX2_isOpen, Cond.instanceMethod yX2_isOpen, Cond.selects RX2 yX2_isOpen yX2_isOpen, Cond.code yX2_isOpen cX2_isOpen 5 (some .boolean), Cond.fieldLink RX2 104 "ShelfStages$Batches" "good" "[I", Cond.fieldLink RX2 114 "ShelfStages$Batches" "left" "[I", Cond.fieldLink RX2 41 "ShelfStages$Filling" "least" "I", Cond.methodLink RX2 111 yX2_isBefore, Cond.instanceMethod yX2_isBefore, Cond.selects RX2 yX2_isBefore yX2_isBefore]
def wsX2_takeFrom_r2 : List Cond := [Cond.code yX2_isBefore cX2_isBefore 5 (some .boolean), Cond.fieldLink RX2 117 "ShelfStages$State" "settings" "[I", Cond.fieldLink RX2 24 "ShelfStages$Filling" "price" "[F", Cond.methodLink RX2 94 yX2_takePart, Cond.instanceMethod yX2_takePart, Cond.selects RX2 yX2_takePart yX2_takePart, Cond.code yX2_takePart cX2_takePart 4 none, Cond.fieldLink RX2 28 "ShelfStages$Filling" "size" "I", Cond.fieldLink RX2 9 "ShelfStages$Filling" "batch" "[I", Cond.fieldLink RX2 15 "ShelfStages$Filling" "units" "[I", Cond.fieldLink RX2 18 "ShelfStages$Filling" "cents" "[I", Cond.methodLink RX2 98 yX2_chargedPrice, Cond.instanceMethod yX2_chargedPrice, Cond.selects RX2 yX2_chargedPrice yX2_chargedPrice, Cond.code yX2_chargedPrice cX2_chargedPrice 5 (some .float), Cond.fieldLink RX2 68 "ShelfStages$State" "goods" "LShelfStages$Goods;", Cond.fieldLink RX2 102 "ShelfStages$Goods" "price" "[I", Cond.fieldLink RX2 35 "ShelfStages$Filling" "orderedGood" "I"]
def wsX2_takeFrom : List Cond := .code yX2_takeFrom cX2_takeFrom 5 none :: ((wsX2_takeFrom_r1 ++ wsX2_takeFrom_r2) ++ wsX20 ++ wsX80 ++ wsX00 ++ wsX30)
def wsX3_listedAt : List Cond := .code yX3_listedAt cX3_listedAt 3 (some .int) :: ([.fieldLink RX3 21 "ShelfStages$Goods" "list" "[I"] ++ wsX30)
def wsX2_fill_r1 : List Cond := [Cond.fieldLink RX2 28 "ShelfStages$Filling" "size" "I", Cond.fieldLink RX2 32 "ShelfStages$Filling" "got" "I", Cond.fieldLink RX2 35 "ShelfStages$Filling" "orderedGood" "I", Cond.fieldLink RX2 38 "ShelfStages$Filling" "wanted" "I", Cond.fieldLink RX2 41 "ShelfStages$Filling" "least" "I", Cond.fieldLink RX2 44 "ShelfStages$State" "batches" "LShelfStages$Batches;", Cond.fieldLink RX2 50 "ShelfStages$Batches" "shelf" "[I", Cond.fieldLink RX2 21 "ShelfStages$Filling" "rest" "[I", Cond.fieldLink RX2 59 "ShelfStages$Batches" "size" "I", Cond.fieldLink RX2 24 "ShelfStages$Filling" "price" "[F", Cond.fieldLink RX2 68 "ShelfStages$State" "goods" "LShelfStages$Goods;", Cond.fieldLink RX2 72 "ShelfStages$Goods" "listed" "[I", Cond.fieldLink RX2 81 "ShelfStages$Filling" "replaced" "I", Cond.static yX9_copyRow, Cond.initialized RX9, Cond.code yX9_copyRow cX9_copyRow 2 none, Cond.methodLink RX9 357 Lib.Math.min.name, Cond.static Lib.Math.min.name, Cond.initialized "java/lang/Math", Cond.code Lib.Math.min.name Lib.Math.min.code 2 (some .int), Cond.methodLink RX9 362 arraycopyName, Cond.native arraycopyName, Cond.static arraycopyName, Cond.initialized "java/lang/System"]
def wsX2_fill_r2 : List Cond := [Cond.methodLink RX2 60 yX8_priceOfUnit, Cond.instanceMethod yX8_priceOfUnit, Cond.selects RX8 yX8_priceOfUnit yX8_priceOfUnit, Cond.initialized RX8, Cond.code yX8_priceOfUnit cX8_priceOfUnit 3 (some .float), Cond.fieldLink RX8 12 "ShelfStages$State" "goods" "LShelfStages$Goods;", Cond.fieldLink RX8 91 "ShelfStages$Goods" "price" "[I", Cond.fieldLink RX8 21 "ShelfStages$State" "batches" "LShelfStages$Batches;", Cond.fieldLink RX8 84 "ShelfStages$Batches" "good" "[I", Cond.fieldLink RX8 35 "ShelfStages$State" "stages" "LShelfStages$Stages;", Cond.fieldLink RX8 94 "ShelfStages$Stages" "markdown" "[F", Cond.constantFloat RX8 102 (1120403456), Cond.methodLink RX8 98 yX8_stageOf, Cond.instanceMethod yX8_stageOf, Cond.selects RX8 yX8_stageOf yX8_stageOf, Cond.code yX8_stageOf cX8_stageOf 2 (some .int), Cond.fieldLink RX8 78 "ShelfStages$Batches" "left" "[I", Cond.fieldLink RX8 81 "ShelfStages$Goods" "life" "[I", Cond.methodLink RX8 87 yX7_reached, Cond.instanceMethod yX7_reached, Cond.selects RX7 yX7_reached yX7_reached, Cond.initialized RX7, Cond.code yX7_reached cX7_reached 4 (some .int), Cond.fieldLink RX7 9 "ShelfStages$Stages" "share" "[I"]
def wsX2_fill_r3 : List Cond := [Cond.methodLink RX2 64 yX2_takeFrom, Cond.instanceMethod yX2_takeFrom, Cond.selects RX2 yX2_takeFrom yX2_takeFrom, Cond.initialized RX2, Cond.code yX2_takeFrom cX2_takeFrom 5 none, Cond.methodLink RX2 89 Lib.Math.min.name, Cond.methodLink RX2 85 yX2_nextBatch, Cond.instanceMethod yX2_nextBatch, Cond.selects RX2 yX2_nextBatch yX2_nextBatch, Cond.code yX2_nextBatch cX2_nextBatch 5 (some .int), Cond.methodLink RX2 107 yX2_isOpen, Cond.instanceMethod yX2_isOpen, Cond.selects RX2 yX2_isOpen yX2_isOpen, Cond.code yX2_isOpen cX2_isOpen 5 (some .boolean), Cond.fieldLink RX2 104 "ShelfStages$Batches" "good" "[I", Cond.fieldLink RX2 114 "ShelfStages$Batches" "left" "[I", Cond.methodLink RX2 111 yX2_isBefore, Cond.instanceMethod yX2_isBefore, Cond.selects RX2 yX2_isBefore yX2_isBefore, Cond.code yX2_isBefore cX2_isBefore 5 (some .boolean), Cond.fieldLink RX2 117 "ShelfStages$State" "settings" "[I", Cond.methodLink RX2 94 yX2_takePart, Cond.instanceMethod yX2_takePart, Cond.selects RX2 yX2_takePart yX2_takePart]
def wsX2_fill_r4 : List Cond := [Cond.code yX2_takePart cX2_takePart 4 none, Cond.fieldLink RX2 9 "ShelfStages$Filling" "batch" "[I", Cond.fieldLink RX2 15 "ShelfStages$Filling" "units" "[I", Cond.fieldLink RX2 18 "ShelfStages$Filling" "cents" "[I", Cond.methodLink RX2 98 yX2_chargedPrice, Cond.instanceMethod yX2_chargedPrice, Cond.selects RX2 yX2_chargedPrice yX2_chargedPrice, Cond.code yX2_chargedPrice cX2_chargedPrice 5 (some .float), Cond.fieldLink RX2 102 "ShelfStages$Goods" "price" "[I", Cond.methodLink RX2 77 yX3_listedAt, Cond.instanceMethod yX3_listedAt, Cond.selects RX3 yX3_listedAt yX3_listedAt, Cond.initialized RX3, Cond.code yX3_listedAt cX3_listedAt 3 (some .int), Cond.fieldLink RX3 21 "ShelfStages$Goods" "list" "[I"]
def wsX2_fill : List Cond := .code yX2_fill cX2_fill 9 none :: ((wsX2_fill_r1 ++ (wsX2_fill_r2 ++ (wsX2_fill_r3 ++ wsX2_fill_r4))) ++ wsX20 ++ wsX80 ++ wsX00 ++ wsX30 ++ wsX70)
def wsX2_due : List Cond := .code yX2_due cX2_due 4 (some .int) :: ([.fieldLink RX2 28 "ShelfStages$Filling" "size" "I", .fieldLink RX2 18 "ShelfStages$Filling" "cents" "[I", .constantFloat RX2 84 (1120403456)] ++ wsX20)
def wsX3_init : List Cond := .code yX3_init cX3_init 1 none :: ([.methodLink RX3 3 objectInit, .instanceMethod objectInit, .code objectInit ⟨#[0xb1]⟩ 1 none, .arrayClass .int, .fieldLink RX3 9 "ShelfStages$Goods" "price" "[I", .fieldLink RX3 15 "ShelfStages$Goods" "life" "[I", .fieldLink RX3 18 "ShelfStages$Goods" "listed" "[I", .fieldLink RX3 21 "ShelfStages$Goods" "list" "[I"] ++ wsX30)
def wsX3_copyFrom : List Cond := .code yX3_copyFrom cX3_copyFrom 2 none :: ([.fieldLink RX3 24 "ShelfStages$Goods" "size" "I", .fieldLink RX3 9 "ShelfStages$Goods" "price" "[I", .fieldLink RX3 15 "ShelfStages$Goods" "life" "[I", .fieldLink RX3 18 "ShelfStages$Goods" "listed" "[I", .fieldLink RX3 21 "ShelfStages$Goods" "list" "[I", .static yX9_copyRow, .initialized RX9, .code yX9_copyRow cX9_copyRow 2 none, .methodLink RX9 357 Lib.Math.min.name, .static Lib.Math.min.name, .initialized "java/lang/Math", .code Lib.Math.min.name Lib.Math.min.code 2 (some .int), .methodLink RX9 362 arraycopyName, .native arraycopyName, .static arraycopyName, .initialized "java/lang/System"] ++ wsX30)
def wsX3_append : List Cond := .code yX3_append cX3_append 4 (some .int) :: ([.fieldLink RX3 24 "ShelfStages$Goods" "size" "I", .fieldLink RX3 9 "ShelfStages$Goods" "price" "[I", .fieldLink RX3 15 "ShelfStages$Goods" "life" "[I"] ++ wsX30)
def wsX3_lists : List Cond := .code yX3_lists cX3_lists 4 (some .boolean) :: ([.fieldLink RX3 18 "ShelfStages$Goods" "listed" "[I", .methodLink RX3 32 yX3_listedAt, .instanceMethod yX3_listedAt, .selects RX3 yX3_listedAt yX3_listedAt, .initialized RX3, .code yX3_listedAt cX3_listedAt 3 (some .int), .fieldLink RX3 21 "ShelfStages$Goods" "list" "[I"] ++ wsX30)
def wsX3_insert : List Cond := .code yX3_insert cX3_insert 6 none :: ([.fieldLink RX3 18 "ShelfStages$Goods" "listed" "[I", .fieldLink RX3 21 "ShelfStages$Goods" "list" "[I"] ++ wsX30)
def wsX3_removeFrom : List Cond := .code yX3_removeFrom cX3_removeFrom 6 (some .int) :: ([.fieldLink RX3 21 "ShelfStages$Goods" "list" "[I", .fieldLink RX3 18 "ShelfStages$Goods" "listed" "[I"] ++ wsX30)
def wsX6_init : List Cond := .code yX6_init cX6_init 1 none :: ([.methodLink RX6 3 objectInit, .instanceMethod objectInit, .code objectInit ⟨#[0xb1]⟩ 1 none, .arrayClass .int, .fieldLink RX6 9 "ShelfStages$Orders" "good" "[I", .fieldLink RX6 15 "ShelfStages$Orders" "wanted" "[I", .fieldLink RX6 18 "ShelfStages$Orders" "got" "[I", .fieldLink RX6 21 "ShelfStages$Orders" "replaced" "[I", .fieldLink RX6 24 "ShelfStages$Orders" "least" "[I", .fieldLink RX6 27 "ShelfStages$Orders" "accepts" "[I", .fieldLink RX6 30 "ShelfStages$Orders" "parts" "[I", .fieldLink RX6 33 "ShelfStages$Orders" "due" "[I", .fieldLink RX6 36 "ShelfStages$Orders" "day" "[I", .fieldLink RX6 39 "ShelfStages$Orders" "firstTake" "[I", .fieldLink RX6 42 "ShelfStages$Orders" "takeBatch" "[I", .fieldLink RX6 45 "ShelfStages$Orders" "takeUnits" "[I"] ++ wsX60)
def wsX7_init : List Cond := .code yX7_init cX7_init 1 none :: ([.methodLink RX7 3 objectInit, .instanceMethod objectInit, .code objectInit ⟨#[0xb1]⟩ 1 none, .arrayClass .int, .fieldLink RX7 9 "ShelfStages$Stages" "share" "[I", .arrayClass .float, .constantFloat RX7 15 (1101004800), .constantFloat RX7 16 (1109393408), .constantFloat RX7 17 (1116471296), .fieldLink RX7 18 "ShelfStages$Stages" "markdown" "[F"] ++ wsX70)
def wsX5_init : List Cond := .code yX5_init cX5_init 1 none :: ([.methodLink RX5 3 objectInit, .instanceMethod objectInit, .code objectInit ⟨#[0xb1]⟩ 1 none, .arrayClass .int, .fieldLink RX5 9 "ShelfStages$Log" "kind" "[I", .fieldLink RX5 15 "ShelfStages$Log" "batch" "[I", .fieldLink RX5 18 "ShelfStages$Log" "units" "[I", .fieldLink RX5 21 "ShelfStages$Log" "day" "[I"] ++ wsX50)
def wsX8_init_r1 : List Cond := [Cond.methodLink RX8 3 objectInit, Cond.instanceMethod objectInit, Cond.code objectInit ⟨#[0xb1]⟩ 1 none, Cond.classLink RX8 9 RX3, Cond.instantiable RX3 5, Cond.initialized RX3, Cond.fieldLink RX8 12 "ShelfStages$State" "goods" "LShelfStages$Goods;", Cond.classLink RX8 18 RX0, Cond.instantiable RX0 9, Cond.initialized RX0, Cond.fieldLink RX8 21 "ShelfStages$State" "batches" "LShelfStages$Batches;", Cond.classLink RX8 25 RX6, Cond.instantiable RX6 14, Cond.initialized RX6, Cond.fieldLink RX8 28 "ShelfStages$State" "orders" "LShelfStages$Orders;", Cond.classLink RX8 32 RX7, Cond.instantiable RX7 2, Cond.initialized RX7, Cond.fieldLink RX8 35 "ShelfStages$State" "stages" "LShelfStages$Stages;", Cond.classLink RX8 39 RX5, Cond.instantiable RX5 6, Cond.initialized RX5, Cond.fieldLink RX8 42 "ShelfStages$State" "log" "LShelfStages$Log;", Cond.arrayClass .int]
def wsX8_init_r2 : List Cond := [Cond.fieldLink RX8 46 "ShelfStages$State" "settings" "[I", Cond.instanceMethod yX3_init, Cond.code yX3_init cX3_init 1 none, Cond.methodLink RX3 3 objectInit, Cond.fieldLink RX3 9 "ShelfStages$Goods" "price" "[I", Cond.fieldLink RX3 15 "ShelfStages$Goods" "life" "[I", Cond.fieldLink RX3 18 "ShelfStages$Goods" "listed" "[I", Cond.fieldLink RX3 21 "ShelfStages$Goods" "list" "[I", Cond.instanceMethod yX0_init, Cond.code yX0_init cX0_init 1 none, Cond.methodLink RX0 3 objectInit, Cond.fieldLink RX0 9 "ShelfStages$Batches" "good" "[I", Cond.fieldLink RX0 15 "ShelfStages$Batches" "came" "[I", Cond.fieldLink RX0 18 "ShelfStages$Batches" "left" "[I", Cond.fieldLink RX0 21 "ShelfStages$Batches" "shelf" "[I", Cond.fieldLink RX0 24 "ShelfStages$Batches" "sold" "[I", Cond.fieldLink RX0 27 "ShelfStages$Batches" "given" "[I", Cond.fieldLink RX0 30 "ShelfStages$Batches" "cents" "[I", Cond.classLink RX0 33 "[[I", Cond.fieldLink RX0 35 "ShelfStages$Batches" "wasted" "[[I", Cond.instanceMethod yX6_init, Cond.code yX6_init cX6_init 1 none, Cond.methodLink RX6 3 objectInit, Cond.fieldLink RX6 9 "ShelfStages$Orders" "good" "[I"]
def wsX8_init_r3 : List Cond := [Cond.fieldLink RX6 15 "ShelfStages$Orders" "wanted" "[I", Cond.fieldLink RX6 18 "ShelfStages$Orders" "got" "[I", Cond.fieldLink RX6 21 "ShelfStages$Orders" "replaced" "[I", Cond.fieldLink RX6 24 "ShelfStages$Orders" "least" "[I", Cond.fieldLink RX6 27 "ShelfStages$Orders" "accepts" "[I", Cond.fieldLink RX6 30 "ShelfStages$Orders" "parts" "[I", Cond.fieldLink RX6 33 "ShelfStages$Orders" "due" "[I", Cond.fieldLink RX6 36 "ShelfStages$Orders" "day" "[I", Cond.fieldLink RX6 39 "ShelfStages$Orders" "firstTake" "[I", Cond.fieldLink RX6 42 "ShelfStages$Orders" "takeBatch" "[I", Cond.fieldLink RX6 45 "ShelfStages$Orders" "takeUnits" "[I", Cond.instanceMethod yX7_init, Cond.code yX7_init cX7_init 1 none, Cond.methodLink RX7 3 objectInit, Cond.fieldLink RX7 9 "ShelfStages$Stages" "share" "[I", Cond.arrayClass .float, Cond.constantFloat RX7 15 (1101004800), Cond.constantFloat RX7 16 (1109393408), Cond.constantFloat RX7 17 (1116471296), Cond.fieldLink RX7 18 "ShelfStages$Stages" "markdown" "[F", Cond.instanceMethod yX5_init, Cond.code yX5_init cX5_init 1 none, Cond.methodLink RX5 3 objectInit, Cond.fieldLink RX5 9 "ShelfStages$Log" "kind" "[I"]
def wsX8_init_r4 : List Cond := [Cond.fieldLink RX5 15 "ShelfStages$Log" "batch" "[I", Cond.fieldLink RX5 18 "ShelfStages$Log" "units" "[I", Cond.fieldLink RX5 21 "ShelfStages$Log" "day" "[I"]
def wsX8_init : List Cond := .code yX8_init cX8_init 1 none :: ((wsX8_init_r1 ++ (wsX8_init_r2 ++ (wsX8_init_r3 ++ wsX8_init_r4))) ++ wsX30 ++ wsX80 ++ wsX00 ++ wsX60 ++ wsX70 ++ wsX50)
def wsX4_init_r1 : List Cond := [Cond.methodLink RX4 3 objectInit, Cond.instanceMethod objectInit, Cond.code objectInit ⟨#[0xb1]⟩ 1 none, Cond.classLink RX4 9 RX8, Cond.fieldLink RX4 11 "ShelfStages$History" "states" "[LShelfStages$State;", Cond.instantiable RX8 8, Cond.initialized RX8, Cond.instanceMethod yX8_init, Cond.code yX8_init cX8_init 1 none, Cond.methodLink RX8 3 objectInit, Cond.classLink RX8 9 RX3, Cond.instantiable RX3 5, Cond.initialized RX3, Cond.fieldLink RX8 12 "ShelfStages$State" "goods" "LShelfStages$Goods;", Cond.classLink RX8 18 RX0, Cond.instantiable RX0 9, Cond.initialized RX0, Cond.fieldLink RX8 21 "ShelfStages$State" "batches" "LShelfStages$Batches;", Cond.classLink RX8 25 RX6, Cond.instantiable RX6 14, Cond.initialized RX6, Cond.fieldLink RX8 28 "ShelfStages$State" "orders" "LShelfStages$Orders;", Cond.classLink RX8 32 RX7, Cond.instantiable RX7 2]
def wsX4_init_r2 : List Cond := [Cond.initialized RX7, Cond.fieldLink RX8 35 "ShelfStages$State" "stages" "LShelfStages$Stages;", Cond.classLink RX8 39 RX5, Cond.instantiable RX5 6, Cond.initialized RX5, Cond.fieldLink RX8 42 "ShelfStages$State" "log" "LShelfStages$Log;", Cond.arrayClass .int, Cond.fieldLink RX8 46 "ShelfStages$State" "settings" "[I", Cond.instanceMethod yX3_init, Cond.code yX3_init cX3_init 1 none, Cond.methodLink RX3 3 objectInit, Cond.fieldLink RX3 9 "ShelfStages$Goods" "price" "[I", Cond.fieldLink RX3 15 "ShelfStages$Goods" "life" "[I", Cond.fieldLink RX3 18 "ShelfStages$Goods" "listed" "[I", Cond.fieldLink RX3 21 "ShelfStages$Goods" "list" "[I", Cond.instanceMethod yX0_init, Cond.code yX0_init cX0_init 1 none, Cond.methodLink RX0 3 objectInit, Cond.fieldLink RX0 9 "ShelfStages$Batches" "good" "[I", Cond.fieldLink RX0 15 "ShelfStages$Batches" "came" "[I", Cond.fieldLink RX0 18 "ShelfStages$Batches" "left" "[I", Cond.fieldLink RX0 21 "ShelfStages$Batches" "shelf" "[I", Cond.fieldLink RX0 24 "ShelfStages$Batches" "sold" "[I", Cond.fieldLink RX0 27 "ShelfStages$Batches" "given" "[I"]
def wsX4_init_r3 : List Cond := [Cond.fieldLink RX0 30 "ShelfStages$Batches" "cents" "[I", Cond.classLink RX0 33 "[[I", Cond.fieldLink RX0 35 "ShelfStages$Batches" "wasted" "[[I", Cond.instanceMethod yX6_init, Cond.code yX6_init cX6_init 1 none, Cond.methodLink RX6 3 objectInit, Cond.fieldLink RX6 9 "ShelfStages$Orders" "good" "[I", Cond.fieldLink RX6 15 "ShelfStages$Orders" "wanted" "[I", Cond.fieldLink RX6 18 "ShelfStages$Orders" "got" "[I", Cond.fieldLink RX6 21 "ShelfStages$Orders" "replaced" "[I", Cond.fieldLink RX6 24 "ShelfStages$Orders" "least" "[I", Cond.fieldLink RX6 27 "ShelfStages$Orders" "accepts" "[I", Cond.fieldLink RX6 30 "ShelfStages$Orders" "parts" "[I", Cond.fieldLink RX6 33 "ShelfStages$Orders" "due" "[I", Cond.fieldLink RX6 36 "ShelfStages$Orders" "day" "[I", Cond.fieldLink RX6 39 "ShelfStages$Orders" "firstTake" "[I", Cond.fieldLink RX6 42 "ShelfStages$Orders" "takeBatch" "[I", Cond.fieldLink RX6 45 "ShelfStages$Orders" "takeUnits" "[I", Cond.instanceMethod yX7_init, Cond.code yX7_init cX7_init 1 none, Cond.methodLink RX7 3 objectInit, Cond.fieldLink RX7 9 "ShelfStages$Stages" "share" "[I", Cond.arrayClass .float, Cond.constantFloat RX7 15 (1101004800)]
def wsX4_init_r4 : List Cond := [Cond.constantFloat RX7 16 (1109393408), Cond.constantFloat RX7 17 (1116471296), Cond.fieldLink RX7 18 "ShelfStages$Stages" "markdown" "[F", Cond.instanceMethod yX5_init, Cond.code yX5_init cX5_init 1 none, Cond.methodLink RX5 3 objectInit, Cond.fieldLink RX5 9 "ShelfStages$Log" "kind" "[I", Cond.fieldLink RX5 15 "ShelfStages$Log" "batch" "[I", Cond.fieldLink RX5 18 "ShelfStages$Log" "units" "[I", Cond.fieldLink RX5 21 "ShelfStages$Log" "day" "[I"]
def wsX4_init : List Cond := .code yX4_init cX4_init 2 none :: ((wsX4_init_r1 ++ (wsX4_init_r2 ++ (wsX4_init_r3 ++ wsX4_init_r4))) ++ wsX40 ++ wsX80 ++ wsX30 ++ wsX00 ++ wsX60 ++ wsX70 ++ wsX50)
def wsX6_copyFrom_r1 : List Cond := [Cond.fieldLink RX6 48 "ShelfStages$Orders" "size" "I", Cond.fieldLink RX6 52 "ShelfStages$Orders" "takes" "I", Cond.fieldLink RX6 9 "ShelfStages$Orders" "good" "[I", Cond.fieldLink RX6 15 "ShelfStages$Orders" "wanted" "[I", Cond.fieldLink RX6 18 "ShelfStages$Orders" "got" "[I", Cond.fieldLink RX6 21 "ShelfStages$Orders" "replaced" "[I", Cond.fieldLink RX6 24 "ShelfStages$Orders" "least" "[I", Cond.fieldLink RX6 27 "ShelfStages$Orders" "accepts" "[I", Cond.fieldLink RX6 30 "ShelfStages$Orders" "parts" "[I", Cond.fieldLink RX6 33 "ShelfStages$Orders" "due" "[I", Cond.fieldLink RX6 36 "ShelfStages$Orders" "day" "[I", Cond.fieldLink RX6 39 "ShelfStages$Orders" "firstTake" "[I", Cond.fieldLink RX6 42 "ShelfStages$Orders" "takeBatch" "[I", Cond.fieldLink RX6 45 "ShelfStages$Orders" "takeUnits" "[I", Cond.static yX9_copyRow, Cond.initialized RX9, Cond.code yX9_copyRow cX9_copyRow 2 none, Cond.methodLink RX9 357 Lib.Math.min.name, Cond.static Lib.Math.min.name, Cond.initialized "java/lang/Math", Cond.code Lib.Math.min.name Lib.Math.min.code 2 (some .int), Cond.methodLink RX9 362 arraycopyName, Cond.native arraycopyName, Cond.static arraycopyName]
def wsX6_copyFrom_r2 : List Cond := [Cond.initialized "java/lang/System"]
def wsX6_copyFrom : List Cond := .code yX6_copyFrom cX6_copyFrom 2 none :: ((wsX6_copyFrom_r1 ++ wsX6_copyFrom_r2) ++ wsX60)
def wsX7_copyFrom : List Cond := .code yX7_copyFrom cX7_copyFrom 3 none :: ([.fieldLink RX7 9 "ShelfStages$Stages" "share" "[I", .fieldLink RX7 18 "ShelfStages$Stages" "markdown" "[F"] ++ wsX70)
def wsX5_copyFrom : List Cond := .code yX5_copyFrom cX5_copyFrom 2 none :: ([.fieldLink RX5 24 "ShelfStages$Log" "size" "I", .fieldLink RX5 28 "ShelfStages$Log" "next" "I", .fieldLink RX5 9 "ShelfStages$Log" "kind" "[I", .fieldLink RX5 15 "ShelfStages$Log" "batch" "[I", .fieldLink RX5 18 "ShelfStages$Log" "units" "[I", .fieldLink RX5 21 "ShelfStages$Log" "day" "[I", .static yX9_copyRow, .initialized RX9, .code yX9_copyRow cX9_copyRow 2 none, .methodLink RX9 357 Lib.Math.min.name, .static Lib.Math.min.name, .initialized "java/lang/Math", .code Lib.Math.min.name Lib.Math.min.code 2 (some .int), .methodLink RX9 362 arraycopyName, .native arraycopyName, .static arraycopyName, .initialized "java/lang/System"] ++ wsX50)
def wsX8_copyFrom_r1 : List Cond := [Cond.fieldLink RX8 12 "ShelfStages$State" "goods" "LShelfStages$Goods;", Cond.fieldLink RX8 21 "ShelfStages$State" "batches" "LShelfStages$Batches;", Cond.fieldLink RX8 28 "ShelfStages$State" "orders" "LShelfStages$Orders;", Cond.fieldLink RX8 35 "ShelfStages$State" "stages" "LShelfStages$Stages;", Cond.fieldLink RX8 42 "ShelfStages$State" "log" "LShelfStages$Log;", Cond.fieldLink RX8 46 "ShelfStages$State" "settings" "[I", Cond.fieldLink RX8 70 "ShelfStages$State" "rebate" "F", Cond.fieldLink RX8 74 "ShelfStages$State" "day" "I", Cond.methodLink RX8 50 yX3_copyFrom, Cond.instanceMethod yX3_copyFrom, Cond.selects RX3 yX3_copyFrom yX3_copyFrom, Cond.initialized RX3, Cond.code yX3_copyFrom cX3_copyFrom 2 none, Cond.fieldLink RX3 24 "ShelfStages$Goods" "size" "I", Cond.fieldLink RX3 9 "ShelfStages$Goods" "price" "[I", Cond.fieldLink RX3 15 "ShelfStages$Goods" "life" "[I", Cond.fieldLink RX3 18 "ShelfStages$Goods" "listed" "[I", Cond.fieldLink RX3 21 "ShelfStages$Goods" "list" "[I", Cond.static yX9_copyRow, Cond.initialized RX9, Cond.code yX9_copyRow cX9_copyRow 2 none, Cond.methodLink RX9 357 Lib.Math.min.name, Cond.static Lib.Math.min.name, Cond.initialized "java/lang/Math"]
def wsX8_copyFrom_r2 : List Cond := [Cond.code Lib.Math.min.name Lib.Math.min.code 2 (some .int), Cond.methodLink RX9 362 arraycopyName, Cond.native arraycopyName, Cond.static arraycopyName, Cond.initialized "java/lang/System", Cond.methodLink RX8 54 yX0_copyFrom, Cond.instanceMethod yX0_copyFrom, Cond.selects RX0 yX0_copyFrom yX0_copyFrom, Cond.initialized RX0, Cond.code yX0_copyFrom cX0_copyFrom 3 none, Cond.fieldLink RX0 38 "ShelfStages$Batches" "size" "I", Cond.fieldLink RX0 9 "ShelfStages$Batches" "good" "[I", Cond.fieldLink RX0 15 "ShelfStages$Batches" "came" "[I", Cond.fieldLink RX0 18 "ShelfStages$Batches" "left" "[I", Cond.fieldLink RX0 21 "ShelfStages$Batches" "shelf" "[I", Cond.fieldLink RX0 24 "ShelfStages$Batches" "sold" "[I", Cond.fieldLink RX0 27 "ShelfStages$Batches" "given" "[I", Cond.fieldLink RX0 30 "ShelfStages$Batches" "cents" "[I", Cond.fieldLink RX0 35 "ShelfStages$Batches" "wasted" "[[I", Cond.methodLink RX8 57 yX6_copyFrom, Cond.instanceMethod yX6_copyFrom, Cond.selects RX6 yX6_copyFrom yX6_copyFrom, Cond.initialized RX6, Cond.code yX6_copyFrom cX6_copyFrom 2 none]
def wsX8_copyFrom_r3 : List Cond := [Cond.fieldLink RX6 48 "ShelfStages$Orders" "size" "I", Cond.fieldLink RX6 52 "ShelfStages$Orders" "takes" "I", Cond.fieldLink RX6 9 "ShelfStages$Orders" "good" "[I", Cond.fieldLink RX6 15 "ShelfStages$Orders" "wanted" "[I", Cond.fieldLink RX6 18 "ShelfStages$Orders" "got" "[I", Cond.fieldLink RX6 21 "ShelfStages$Orders" "replaced" "[I", Cond.fieldLink RX6 24 "ShelfStages$Orders" "least" "[I", Cond.fieldLink RX6 27 "ShelfStages$Orders" "accepts" "[I", Cond.fieldLink RX6 30 "ShelfStages$Orders" "parts" "[I", Cond.fieldLink RX6 33 "ShelfStages$Orders" "due" "[I", Cond.fieldLink RX6 36 "ShelfStages$Orders" "day" "[I", Cond.fieldLink RX6 39 "ShelfStages$Orders" "firstTake" "[I", Cond.fieldLink RX6 42 "ShelfStages$Orders" "takeBatch" "[I", Cond.fieldLink RX6 45 "ShelfStages$Orders" "takeUnits" "[I", Cond.methodLink RX8 60 yX7_copyFrom, Cond.instanceMethod yX7_copyFrom, Cond.selects RX7 yX7_copyFrom yX7_copyFrom, Cond.initialized RX7, Cond.code yX7_copyFrom cX7_copyFrom 3 none, Cond.fieldLink RX7 9 "ShelfStages$Stages" "share" "[I", Cond.fieldLink RX7 18 "ShelfStages$Stages" "markdown" "[F", Cond.methodLink RX8 63 yX5_copyFrom, Cond.instanceMethod yX5_copyFrom, Cond.selects RX5 yX5_copyFrom yX5_copyFrom]
def wsX8_copyFrom_r4 : List Cond := [Cond.initialized RX5, Cond.code yX5_copyFrom cX5_copyFrom 2 none, Cond.fieldLink RX5 24 "ShelfStages$Log" "size" "I", Cond.fieldLink RX5 28 "ShelfStages$Log" "next" "I", Cond.fieldLink RX5 9 "ShelfStages$Log" "kind" "[I", Cond.fieldLink RX5 15 "ShelfStages$Log" "batch" "[I", Cond.fieldLink RX5 18 "ShelfStages$Log" "units" "[I", Cond.fieldLink RX5 21 "ShelfStages$Log" "day" "[I"]
def wsX8_copyFrom : List Cond := .code yX8_copyFrom cX8_copyFrom 2 none :: ((wsX8_copyFrom_r1 ++ (wsX8_copyFrom_r2 ++ (wsX8_copyFrom_r3 ++ wsX8_copyFrom_r4))) ++ wsX80 ++ wsX30 ++ wsX00 ++ wsX60 ++ wsX70 ++ wsX50)
def wsX4_push_r1 : List Cond := [Cond.fieldLink RX4 18 "ShelfStages$History" "size" "I", Cond.fieldLink RX4 22 "ShelfStages$History" "oldest" "I", Cond.fieldLink RX4 11 "ShelfStages$History" "states" "[LShelfStages$State;", Cond.methodLink RX4 25 yX8_copyFrom, Cond.instanceMethod yX8_copyFrom, Cond.selects RX8 yX8_copyFrom yX8_copyFrom, Cond.initialized RX8, Cond.code yX8_copyFrom cX8_copyFrom 2 none, Cond.fieldLink RX8 12 "ShelfStages$State" "goods" "LShelfStages$Goods;", Cond.fieldLink RX8 21 "ShelfStages$State" "batches" "LShelfStages$Batches;", Cond.fieldLink RX8 28 "ShelfStages$State" "orders" "LShelfStages$Orders;", Cond.fieldLink RX8 35 "ShelfStages$State" "stages" "LShelfStages$Stages;", Cond.fieldLink RX8 42 "ShelfStages$State" "log" "LShelfStages$Log;", Cond.fieldLink RX8 46 "ShelfStages$State" "settings" "[I", Cond.fieldLink RX8 70 "ShelfStages$State" "rebate" "F", Cond.fieldLink RX8 74 "ShelfStages$State" "day" "I", Cond.methodLink RX8 50 yX3_copyFrom, Cond.instanceMethod yX3_copyFrom, Cond.selects RX3 yX3_copyFrom yX3_copyFrom, Cond.initialized RX3, Cond.code yX3_copyFrom cX3_copyFrom 2 none, Cond.fieldLink RX3 24 "ShelfStages$Goods" "size" "I", Cond.fieldLink RX3 9 "ShelfStages$Goods" "price" "[I", Cond.fieldLink RX3 15 "ShelfStages$Goods" "life" "[I"]
def wsX4_push_r2 : List Cond := [Cond.fieldLink RX3 18 "ShelfStages$Goods" "listed" "[I", Cond.fieldLink RX3 21 "ShelfStages$Goods" "list" "[I", Cond.static yX9_copyRow, Cond.initialized RX9, Cond.code yX9_copyRow cX9_copyRow 2 none, Cond.methodLink RX9 357 Lib.Math.min.name, Cond.static Lib.Math.min.name, Cond.initialized "java/lang/Math", Cond.code Lib.Math.min.name Lib.Math.min.code 2 (some .int), Cond.methodLink RX9 362 arraycopyName, Cond.native arraycopyName, Cond.static arraycopyName, Cond.initialized "java/lang/System", Cond.methodLink RX8 54 yX0_copyFrom, Cond.instanceMethod yX0_copyFrom, Cond.selects RX0 yX0_copyFrom yX0_copyFrom, Cond.initialized RX0, Cond.code yX0_copyFrom cX0_copyFrom 3 none, Cond.fieldLink RX0 38 "ShelfStages$Batches" "size" "I", Cond.fieldLink RX0 9 "ShelfStages$Batches" "good" "[I", Cond.fieldLink RX0 15 "ShelfStages$Batches" "came" "[I", Cond.fieldLink RX0 18 "ShelfStages$Batches" "left" "[I", Cond.fieldLink RX0 21 "ShelfStages$Batches" "shelf" "[I", Cond.fieldLink RX0 24 "ShelfStages$Batches" "sold" "[I"]
def wsX4_push_r3 : List Cond := [Cond.fieldLink RX0 27 "ShelfStages$Batches" "given" "[I", Cond.fieldLink RX0 30 "ShelfStages$Batches" "cents" "[I", Cond.fieldLink RX0 35 "ShelfStages$Batches" "wasted" "[[I", Cond.methodLink RX8 57 yX6_copyFrom, Cond.instanceMethod yX6_copyFrom, Cond.selects RX6 yX6_copyFrom yX6_copyFrom, Cond.initialized RX6, Cond.code yX6_copyFrom cX6_copyFrom 2 none, Cond.fieldLink RX6 48 "ShelfStages$Orders" "size" "I", Cond.fieldLink RX6 52 "ShelfStages$Orders" "takes" "I", Cond.fieldLink RX6 9 "ShelfStages$Orders" "good" "[I", Cond.fieldLink RX6 15 "ShelfStages$Orders" "wanted" "[I", Cond.fieldLink RX6 18 "ShelfStages$Orders" "got" "[I", Cond.fieldLink RX6 21 "ShelfStages$Orders" "replaced" "[I", Cond.fieldLink RX6 24 "ShelfStages$Orders" "least" "[I", Cond.fieldLink RX6 27 "ShelfStages$Orders" "accepts" "[I", Cond.fieldLink RX6 30 "ShelfStages$Orders" "parts" "[I", Cond.fieldLink RX6 33 "ShelfStages$Orders" "due" "[I", Cond.fieldLink RX6 36 "ShelfStages$Orders" "day" "[I", Cond.fieldLink RX6 39 "ShelfStages$Orders" "firstTake" "[I", Cond.fieldLink RX6 42 "ShelfStages$Orders" "takeBatch" "[I", Cond.fieldLink RX6 45 "ShelfStages$Orders" "takeUnits" "[I", Cond.methodLink RX8 60 yX7_copyFrom, Cond.instanceMethod yX7_copyFrom]
def wsX4_push_r4 : List Cond := [Cond.selects RX7 yX7_copyFrom yX7_copyFrom, Cond.initialized RX7, Cond.code yX7_copyFrom cX7_copyFrom 3 none, Cond.fieldLink RX7 9 "ShelfStages$Stages" "share" "[I", Cond.fieldLink RX7 18 "ShelfStages$Stages" "markdown" "[F", Cond.methodLink RX8 63 yX5_copyFrom, Cond.instanceMethod yX5_copyFrom, Cond.selects RX5 yX5_copyFrom yX5_copyFrom, Cond.initialized RX5, Cond.code yX5_copyFrom cX5_copyFrom 2 none, Cond.fieldLink RX5 24 "ShelfStages$Log" "size" "I", Cond.fieldLink RX5 28 "ShelfStages$Log" "next" "I", Cond.fieldLink RX5 9 "ShelfStages$Log" "kind" "[I", Cond.fieldLink RX5 15 "ShelfStages$Log" "batch" "[I", Cond.fieldLink RX5 18 "ShelfStages$Log" "units" "[I", Cond.fieldLink RX5 21 "ShelfStages$Log" "day" "[I"]
def wsX4_push : List Cond := .code yX4_push cX4_push 2 none :: ((wsX4_push_r1 ++ (wsX4_push_r2 ++ (wsX4_push_r3 ++ wsX4_push_r4))) ++ wsX40 ++ wsX80 ++ wsX30 ++ wsX00 ++ wsX60 ++ wsX70 ++ wsX50)
def wsX4_popInto_r1 : List Cond := [Cond.fieldLink RX4 18 "ShelfStages$History" "size" "I", Cond.fieldLink RX4 11 "ShelfStages$History" "states" "[LShelfStages$State;", Cond.fieldLink RX4 22 "ShelfStages$History" "oldest" "I", Cond.methodLink RX4 25 yX8_copyFrom, Cond.instanceMethod yX8_copyFrom, Cond.selects RX8 yX8_copyFrom yX8_copyFrom, Cond.initialized RX8, Cond.code yX8_copyFrom cX8_copyFrom 2 none, Cond.fieldLink RX8 12 "ShelfStages$State" "goods" "LShelfStages$Goods;", Cond.fieldLink RX8 21 "ShelfStages$State" "batches" "LShelfStages$Batches;", Cond.fieldLink RX8 28 "ShelfStages$State" "orders" "LShelfStages$Orders;", Cond.fieldLink RX8 35 "ShelfStages$State" "stages" "LShelfStages$Stages;", Cond.fieldLink RX8 42 "ShelfStages$State" "log" "LShelfStages$Log;", Cond.fieldLink RX8 46 "ShelfStages$State" "settings" "[I", Cond.fieldLink RX8 70 "ShelfStages$State" "rebate" "F", Cond.fieldLink RX8 74 "ShelfStages$State" "day" "I", Cond.methodLink RX8 50 yX3_copyFrom, Cond.instanceMethod yX3_copyFrom, Cond.selects RX3 yX3_copyFrom yX3_copyFrom, Cond.initialized RX3, Cond.code yX3_copyFrom cX3_copyFrom 2 none, Cond.fieldLink RX3 24 "ShelfStages$Goods" "size" "I", Cond.fieldLink RX3 9 "ShelfStages$Goods" "price" "[I", Cond.fieldLink RX3 15 "ShelfStages$Goods" "life" "[I"]
def wsX4_popInto_r2 : List Cond := [Cond.fieldLink RX3 18 "ShelfStages$Goods" "listed" "[I", Cond.fieldLink RX3 21 "ShelfStages$Goods" "list" "[I", Cond.static yX9_copyRow, Cond.initialized RX9, Cond.code yX9_copyRow cX9_copyRow 2 none, Cond.methodLink RX9 357 Lib.Math.min.name, Cond.static Lib.Math.min.name, Cond.initialized "java/lang/Math", Cond.code Lib.Math.min.name Lib.Math.min.code 2 (some .int), Cond.methodLink RX9 362 arraycopyName, Cond.native arraycopyName, Cond.static arraycopyName, Cond.initialized "java/lang/System", Cond.methodLink RX8 54 yX0_copyFrom, Cond.instanceMethod yX0_copyFrom, Cond.selects RX0 yX0_copyFrom yX0_copyFrom, Cond.initialized RX0, Cond.code yX0_copyFrom cX0_copyFrom 3 none, Cond.fieldLink RX0 38 "ShelfStages$Batches" "size" "I", Cond.fieldLink RX0 9 "ShelfStages$Batches" "good" "[I", Cond.fieldLink RX0 15 "ShelfStages$Batches" "came" "[I", Cond.fieldLink RX0 18 "ShelfStages$Batches" "left" "[I", Cond.fieldLink RX0 21 "ShelfStages$Batches" "shelf" "[I", Cond.fieldLink RX0 24 "ShelfStages$Batches" "sold" "[I"]
def wsX4_popInto_r3 : List Cond := [Cond.fieldLink RX0 27 "ShelfStages$Batches" "given" "[I", Cond.fieldLink RX0 30 "ShelfStages$Batches" "cents" "[I", Cond.fieldLink RX0 35 "ShelfStages$Batches" "wasted" "[[I", Cond.methodLink RX8 57 yX6_copyFrom, Cond.instanceMethod yX6_copyFrom, Cond.selects RX6 yX6_copyFrom yX6_copyFrom, Cond.initialized RX6, Cond.code yX6_copyFrom cX6_copyFrom 2 none, Cond.fieldLink RX6 48 "ShelfStages$Orders" "size" "I", Cond.fieldLink RX6 52 "ShelfStages$Orders" "takes" "I", Cond.fieldLink RX6 9 "ShelfStages$Orders" "good" "[I", Cond.fieldLink RX6 15 "ShelfStages$Orders" "wanted" "[I", Cond.fieldLink RX6 18 "ShelfStages$Orders" "got" "[I", Cond.fieldLink RX6 21 "ShelfStages$Orders" "replaced" "[I", Cond.fieldLink RX6 24 "ShelfStages$Orders" "least" "[I", Cond.fieldLink RX6 27 "ShelfStages$Orders" "accepts" "[I", Cond.fieldLink RX6 30 "ShelfStages$Orders" "parts" "[I", Cond.fieldLink RX6 33 "ShelfStages$Orders" "due" "[I", Cond.fieldLink RX6 36 "ShelfStages$Orders" "day" "[I", Cond.fieldLink RX6 39 "ShelfStages$Orders" "firstTake" "[I", Cond.fieldLink RX6 42 "ShelfStages$Orders" "takeBatch" "[I", Cond.fieldLink RX6 45 "ShelfStages$Orders" "takeUnits" "[I", Cond.methodLink RX8 60 yX7_copyFrom, Cond.instanceMethod yX7_copyFrom]
def wsX4_popInto_r4 : List Cond := [Cond.selects RX7 yX7_copyFrom yX7_copyFrom, Cond.initialized RX7, Cond.code yX7_copyFrom cX7_copyFrom 3 none, Cond.fieldLink RX7 9 "ShelfStages$Stages" "share" "[I", Cond.fieldLink RX7 18 "ShelfStages$Stages" "markdown" "[F", Cond.methodLink RX8 63 yX5_copyFrom, Cond.instanceMethod yX5_copyFrom, Cond.selects RX5 yX5_copyFrom yX5_copyFrom, Cond.initialized RX5, Cond.code yX5_copyFrom cX5_copyFrom 2 none, Cond.fieldLink RX5 24 "ShelfStages$Log" "size" "I", Cond.fieldLink RX5 28 "ShelfStages$Log" "next" "I", Cond.fieldLink RX5 9 "ShelfStages$Log" "kind" "[I", Cond.fieldLink RX5 15 "ShelfStages$Log" "batch" "[I", Cond.fieldLink RX5 18 "ShelfStages$Log" "units" "[I", Cond.fieldLink RX5 21 "ShelfStages$Log" "day" "[I"]
def wsX4_popInto : List Cond := .code yX4_popInto cX4_popInto 2 none :: ((wsX4_popInto_r1 ++ (wsX4_popInto_r2 ++ (wsX4_popInto_r3 ++ wsX4_popInto_r4))) ++ wsX40 ++ wsX80 ++ wsX30 ++ wsX00 ++ wsX60 ++ wsX70 ++ wsX50)
def wsX5_append : List Cond := .code yX5_append cX5_append 5 none :: ([.fieldLink RX5 9 "ShelfStages$Log" "kind" "[I", .fieldLink RX5 28 "ShelfStages$Log" "next" "I", .fieldLink RX5 15 "ShelfStages$Log" "batch" "[I", .fieldLink RX5 18 "ShelfStages$Log" "units" "[I", .fieldLink RX5 21 "ShelfStages$Log" "day" "[I", .fieldLink RX5 24 "ShelfStages$Log" "size" "I", .methodLink RX5 35 Lib.Math.min.name, .static Lib.Math.min.name, .initialized "java/lang/Math", .code Lib.Math.min.name Lib.Math.min.code 2 (some .int)] ++ wsX50)
def wsJ9_floorMod_7cf53 : List Cond := .code yJ9_floorMod_7cf53 cJ9_floorMod_7cf53 3 (some .int) :: ([])
def wsX5_placeOf : List Cond := .code yX5_placeOf cX5_placeOf 2 (some .int) :: ([.fieldLink RX5 28 "ShelfStages$Log" "next" "I", .methodLink RX5 41 yJ9_floorMod_7cf53, .static yJ9_floorMod_7cf53, .initialized RJ9, .code yJ9_floorMod_7cf53 cJ9_floorMod_7cf53 3 (some .int)] ++ wsX50)
def wsX6_append : List Cond := .code yX6_append cX6_append 7 none :: ([.fieldLink RX6 48 "ShelfStages$Orders" "size" "I", .fieldLink RX6 9 "ShelfStages$Orders" "good" "[I", .fieldLink RX6 15 "ShelfStages$Orders" "wanted" "[I", .fieldLink RX6 24 "ShelfStages$Orders" "least" "[I", .fieldLink RX6 27 "ShelfStages$Orders" "accepts" "[I", .fieldLink RX6 36 "ShelfStages$Orders" "day" "[I", .fieldLink RX6 39 "ShelfStages$Orders" "firstTake" "[I", .fieldLink RX6 52 "ShelfStages$Orders" "takes" "I"] ++ wsX60)
def wsX6_appendTake : List Cond := .code yX6_appendTake cX6_appendTake 3 none :: ([.fieldLink RX6 48 "ShelfStages$Orders" "size" "I", .fieldLink RX6 52 "ShelfStages$Orders" "takes" "I", .fieldLink RX6 42 "ShelfStages$Orders" "takeBatch" "[I", .fieldLink RX6 45 "ShelfStages$Orders" "takeUnits" "[I", .fieldLink RX6 30 "ShelfStages$Orders" "parts" "[I"] ++ wsX60)
def wsX6_endLast : List Cond := .code yX6_endLast cX6_endLast 4 none :: ([.fieldLink RX6 48 "ShelfStages$Orders" "size" "I", .fieldLink RX6 18 "ShelfStages$Orders" "got" "[I", .fieldLink RX6 21 "ShelfStages$Orders" "replaced" "[I", .fieldLink RX6 33 "ShelfStages$Orders" "due" "[I"] ++ wsX60)
def wsX6_sum : List Cond := .code yX6_sum cX6_sum 4 (some .int) :: ([.fieldLink RX6 48 "ShelfStages$Orders" "size" "I"] ++ wsX60)
def wsX6_gotForGood : List Cond := .code yX6_gotForGood cX6_gotForGood 4 (some .int) :: ([.fieldLink RX6 48 "ShelfStages$Orders" "size" "I", .fieldLink RX6 9 "ShelfStages$Orders" "good" "[I", .fieldLink RX6 18 "ShelfStages$Orders" "got" "[I"] ++ wsX60)
def wsX6_refused : List Cond := .code yX6_refused cX6_refused 3 (some .int) :: ([.fieldLink RX6 48 "ShelfStages$Orders" "size" "I", .fieldLink RX6 18 "ShelfStages$Orders" "got" "[I"] ++ wsX60)
def wsX7_hasRoomFor : List Cond := .code yX7_hasRoomFor cX7_hasRoomFor 4 (some .boolean) :: ([.fieldLink RX7 9 "ShelfStages$Stages" "share" "[I"] ++ wsX70)
def wsX8_isOnShelfIn : List Cond := .code yX8_isOnShelfIn cX8_isOnShelfIn 3 (some .boolean) :: ([.fieldLink RX8 21 "ShelfStages$State" "batches" "LShelfStages$Batches;", .fieldLink RX8 103 "ShelfStages$Batches" "shelf" "[I", .methodLink RX8 98 yX8_stageOf, .instanceMethod yX8_stageOf, .selects RX8 yX8_stageOf yX8_stageOf, .initialized RX8, .code yX8_stageOf cX8_stageOf 2 (some .int), .fieldLink RX8 35 "ShelfStages$State" "stages" "LShelfStages$Stages;", .fieldLink RX8 78 "ShelfStages$Batches" "left" "[I", .fieldLink RX8 12 "ShelfStages$State" "goods" "LShelfStages$Goods;", .fieldLink RX8 81 "ShelfStages$Goods" "life" "[I", .fieldLink RX8 84 "ShelfStages$Batches" "good" "[I", .methodLink RX8 87 yX7_reached, .instanceMethod yX7_reached, .selects RX7 yX7_reached yX7_reached, .initialized RX7, .code yX7_reached cX7_reached 4 (some .int), .fieldLink RX7 9 "ShelfStages$Stages" "share" "[I"] ++ wsX80 ++ wsX00 ++ wsX30 ++ wsX70)
def wsX8_batchesInStage : List Cond := .code yX8_batchesInStage cX8_batchesInStage 4 (some .int) :: ([.fieldLink RX8 21 "ShelfStages$State" "batches" "LShelfStages$Batches;", .fieldLink RX8 106 "ShelfStages$Batches" "size" "I", .methodLink RX8 109 yX8_isOnShelfIn, .instanceMethod yX8_isOnShelfIn, .selects RX8 yX8_isOnShelfIn yX8_isOnShelfIn, .initialized RX8, .code yX8_isOnShelfIn cX8_isOnShelfIn 3 (some .boolean), .fieldLink RX8 103 "ShelfStages$Batches" "shelf" "[I", .methodLink RX8 98 yX8_stageOf, .instanceMethod yX8_stageOf, .selects RX8 yX8_stageOf yX8_stageOf, .code yX8_stageOf cX8_stageOf 2 (some .int), .fieldLink RX8 35 "ShelfStages$State" "stages" "LShelfStages$Stages;", .fieldLink RX8 78 "ShelfStages$Batches" "left" "[I", .fieldLink RX8 12 "ShelfStages$State" "goods" "LShelfStages$Goods;", .fieldLink RX8 81 "ShelfStages$Goods" "life" "[I", .fieldLink RX8 84 "ShelfStages$Batches" "good" "[I", .methodLink RX8 87 yX7_reached, .instanceMethod yX7_reached, .selects RX7 yX7_reached yX7_reached, .initialized RX7, .code yX7_reached cX7_reached 4 (some .int), .fieldLink RX7 9 "ShelfStages$Stages" "share" "[I"] ++ wsX80 ++ wsX00 ++ wsX30 ++ wsX70)
def wsX8_unitsInStage : List Cond := .code yX8_unitsInStage cX8_unitsInStage 4 (some .int) :: ([.fieldLink RX8 21 "ShelfStages$State" "batches" "LShelfStages$Batches;", .fieldLink RX8 106 "ShelfStages$Batches" "size" "I", .fieldLink RX8 103 "ShelfStages$Batches" "shelf" "[I", .methodLink RX8 109 yX8_isOnShelfIn, .instanceMethod yX8_isOnShelfIn, .selects RX8 yX8_isOnShelfIn yX8_isOnShelfIn, .initialized RX8, .code yX8_isOnShelfIn cX8_isOnShelfIn 3 (some .boolean), .methodLink RX8 98 yX8_stageOf, .instanceMethod yX8_stageOf, .selects RX8 yX8_stageOf yX8_stageOf, .code yX8_stageOf cX8_stageOf 2 (some .int), .fieldLink RX8 35 "ShelfStages$State" "stages" "LShelfStages$Stages;", .fieldLink RX8 78 "ShelfStages$Batches" "left" "[I", .fieldLink RX8 12 "ShelfStages$State" "goods" "LShelfStages$Goods;", .fieldLink RX8 81 "ShelfStages$Goods" "life" "[I", .fieldLink RX8 84 "ShelfStages$Batches" "good" "[I", .methodLink RX8 87 yX7_reached, .instanceMethod yX7_reached, .selects RX7 yX7_reached yX7_reached, .initialized RX7, .code yX7_reached cX7_reached 4 (some .int), .fieldLink RX7 9 "ShelfStages$Stages" "share" "[I"] ++ wsX80 ++ wsX00 ++ wsX30 ++ wsX70)
def wsX8_receive_r1 : List Cond := [Cond.fieldLink RX8 21 "ShelfStages$State" "batches" "LShelfStages$Batches;", Cond.fieldLink RX8 42 "ShelfStages$State" "log" "LShelfStages$Log;", Cond.fieldLink RX8 74 "ShelfStages$State" "day" "I", Cond.methodLink RX8 113 yX0_append, Cond.instanceMethod yX0_append, Cond.selects RX0 yX0_append yX0_append, Cond.initialized RX0, Cond.code yX0_append cX0_append 5 (some .int), Cond.fieldLink RX0 38 "ShelfStages$Batches" "size" "I", Cond.fieldLink RX0 9 "ShelfStages$Batches" "good" "[I", Cond.fieldLink RX0 15 "ShelfStages$Batches" "came" "[I", Cond.fieldLink RX0 18 "ShelfStages$Batches" "left" "[I", Cond.fieldLink RX0 21 "ShelfStages$Batches" "shelf" "[I", Cond.methodLink RX8 117 yX5_append, Cond.instanceMethod yX5_append, Cond.selects RX5 yX5_append yX5_append, Cond.initialized RX5, Cond.code yX5_append cX5_append 5 none, Cond.fieldLink RX5 9 "ShelfStages$Log" "kind" "[I", Cond.fieldLink RX5 28 "ShelfStages$Log" "next" "I", Cond.fieldLink RX5 15 "ShelfStages$Log" "batch" "[I", Cond.fieldLink RX5 18 "ShelfStages$Log" "units" "[I", Cond.fieldLink RX5 21 "ShelfStages$Log" "day" "[I", Cond.fieldLink RX5 24 "ShelfStages$Log" "size" "I"]
def wsX8_receive_r2 : List Cond := [Cond.methodLink RX5 35 Lib.Math.min.name, Cond.static Lib.Math.min.name, Cond.initialized "java/lang/Math", Cond.code Lib.Math.min.name Lib.Math.min.code 2 (some .int)]
def wsX8_receive : List Cond := .code yX8_receive cX8_receive 5 (some .int) :: ((wsX8_receive_r1 ++ wsX8_receive_r2) ++ wsX80 ++ wsX00 ++ wsX50)
def wsX8_sell_r1 : List Cond := [Cond.fieldLink RX8 120 "ShelfStages$Filling" "size" "I", Cond.fieldLink RX8 123 "ShelfStages$Filling" "batch" "[I", Cond.fieldLink RX8 126 "ShelfStages$Filling" "units" "[I", Cond.fieldLink RX8 21 "ShelfStages$State" "batches" "LShelfStages$Batches;", Cond.fieldLink RX8 103 "ShelfStages$Batches" "shelf" "[I", Cond.fieldLink RX8 129 "ShelfStages$Batches" "sold" "[I", Cond.fieldLink RX8 132 "ShelfStages$Batches" "cents" "[I", Cond.fieldLink RX8 135 "ShelfStages$Filling" "cents" "[I", Cond.fieldLink RX8 28 "ShelfStages$State" "orders" "LShelfStages$Orders;", Cond.fieldLink RX8 42 "ShelfStages$State" "log" "LShelfStages$Log;", Cond.fieldLink RX8 74 "ShelfStages$State" "day" "I", Cond.fieldLink RX8 140 "ShelfStages$Filling" "got" "I", Cond.fieldLink RX8 143 "ShelfStages$Filling" "replaced" "I", Cond.fieldLink RX8 70 "ShelfStages$State" "rebate" "F", Cond.methodLink RX8 136 yX6_appendTake, Cond.instanceMethod yX6_appendTake, Cond.selects RX6 yX6_appendTake yX6_appendTake, Cond.initialized RX6, Cond.code yX6_appendTake cX6_appendTake 3 none, Cond.fieldLink RX6 48 "ShelfStages$Orders" "size" "I", Cond.fieldLink RX6 52 "ShelfStages$Orders" "takes" "I", Cond.fieldLink RX6 42 "ShelfStages$Orders" "takeBatch" "[I", Cond.fieldLink RX6 45 "ShelfStages$Orders" "takeUnits" "[I", Cond.fieldLink RX6 30 "ShelfStages$Orders" "parts" "[I"]
def wsX8_sell_r2 : List Cond := [Cond.methodLink RX8 117 yX5_append, Cond.instanceMethod yX5_append, Cond.selects RX5 yX5_append yX5_append, Cond.initialized RX5, Cond.code yX5_append cX5_append 5 none, Cond.fieldLink RX5 9 "ShelfStages$Log" "kind" "[I", Cond.fieldLink RX5 28 "ShelfStages$Log" "next" "I", Cond.fieldLink RX5 15 "ShelfStages$Log" "batch" "[I", Cond.fieldLink RX5 18 "ShelfStages$Log" "units" "[I", Cond.fieldLink RX5 21 "ShelfStages$Log" "day" "[I", Cond.fieldLink RX5 24 "ShelfStages$Log" "size" "I", Cond.methodLink RX5 35 Lib.Math.min.name, Cond.static Lib.Math.min.name, Cond.initialized "java/lang/Math", Cond.code Lib.Math.min.name Lib.Math.min.code 2 (some .int), Cond.methodLink RX8 146 yX2_due, Cond.instanceMethod yX2_due, Cond.selects RX2 yX2_due yX2_due, Cond.initialized RX2, Cond.code yX2_due cX2_due 4 (some .int), Cond.fieldLink RX2 28 "ShelfStages$Filling" "size" "I", Cond.fieldLink RX2 18 "ShelfStages$Filling" "cents" "[I", Cond.constantFloat RX2 84 (1120403456), Cond.methodLink RX8 150 yX6_endLast]
def wsX8_sell_r3 : List Cond := [Cond.instanceMethod yX6_endLast, Cond.selects RX6 yX6_endLast yX6_endLast, Cond.code yX6_endLast cX6_endLast 4 none, Cond.fieldLink RX6 18 "ShelfStages$Orders" "got" "[I", Cond.fieldLink RX6 21 "ShelfStages$Orders" "replaced" "[I", Cond.fieldLink RX6 33 "ShelfStages$Orders" "due" "[I"]
def wsX8_sell : List Cond := .code yX8_sell cX8_sell 5 none :: ((wsX8_sell_r1 ++ (wsX8_sell_r2 ++ wsX8_sell_r3)) ++ wsX20 ++ wsX80 ++ wsX00 ++ wsX60 ++ wsX50)
def wsX8_give : List Cond := .code yX8_give cX8_give 3 none :: ([.fieldLink RX8 21 "ShelfStages$State" "batches" "LShelfStages$Batches;", .fieldLink RX8 103 "ShelfStages$Batches" "shelf" "[I", .fieldLink RX8 154 "ShelfStages$Batches" "given" "[I", .fieldLink RX8 42 "ShelfStages$State" "log" "LShelfStages$Log;", .fieldLink RX8 74 "ShelfStages$State" "day" "I", .methodLink RX8 117 yX5_append, .instanceMethod yX5_append, .selects RX5 yX5_append yX5_append, .initialized RX5, .code yX5_append cX5_append 5 none, .fieldLink RX5 9 "ShelfStages$Log" "kind" "[I", .fieldLink RX5 28 "ShelfStages$Log" "next" "I", .fieldLink RX5 15 "ShelfStages$Log" "batch" "[I", .fieldLink RX5 18 "ShelfStages$Log" "units" "[I", .fieldLink RX5 21 "ShelfStages$Log" "day" "[I", .fieldLink RX5 24 "ShelfStages$Log" "size" "I", .methodLink RX5 35 Lib.Math.min.name, .static Lib.Math.min.name, .initialized "java/lang/Math", .code Lib.Math.min.name Lib.Math.min.code 2 (some .int)] ++ wsX80 ++ wsX00 ++ wsX50)
def wsX8_waste : List Cond := .code yX8_waste cX8_waste 4 none :: ([.fieldLink RX8 21 "ShelfStages$State" "batches" "LShelfStages$Batches;", .fieldLink RX8 103 "ShelfStages$Batches" "shelf" "[I", .fieldLink RX8 157 "ShelfStages$Batches" "wasted" "[[I", .fieldLink RX8 42 "ShelfStages$State" "log" "LShelfStages$Log;", .fieldLink RX8 74 "ShelfStages$State" "day" "I", .methodLink RX8 117 yX5_append, .instanceMethod yX5_append, .selects RX5 yX5_append yX5_append, .initialized RX5, .code yX5_append cX5_append 5 none, .fieldLink RX5 9 "ShelfStages$Log" "kind" "[I", .fieldLink RX5 28 "ShelfStages$Log" "next" "I", .fieldLink RX5 15 "ShelfStages$Log" "batch" "[I", .fieldLink RX5 18 "ShelfStages$Log" "units" "[I", .fieldLink RX5 21 "ShelfStages$Log" "day" "[I", .fieldLink RX5 24 "ShelfStages$Log" "size" "I", .methodLink RX5 35 Lib.Math.min.name, .static Lib.Math.min.name, .initialized "java/lang/Math", .code Lib.Math.min.name Lib.Math.min.code 2 (some .int)] ++ wsX80 ++ wsX00 ++ wsX50)
def wsX8_wasteGood_r1 : List Cond := [Cond.fieldLink RX8 21 "ShelfStages$State" "batches" "LShelfStages$Batches;", Cond.fieldLink RX8 106 "ShelfStages$Batches" "size" "I", Cond.fieldLink RX8 84 "ShelfStages$Batches" "good" "[I", Cond.fieldLink RX8 103 "ShelfStages$Batches" "shelf" "[I", Cond.methodLink RX8 161 yX8_waste, Cond.instanceMethod yX8_waste, Cond.selects RX8 yX8_waste yX8_waste, Cond.initialized RX8, Cond.code yX8_waste cX8_waste 4 none, Cond.fieldLink RX8 157 "ShelfStages$Batches" "wasted" "[[I", Cond.fieldLink RX8 42 "ShelfStages$State" "log" "LShelfStages$Log;", Cond.fieldLink RX8 74 "ShelfStages$State" "day" "I", Cond.methodLink RX8 117 yX5_append, Cond.instanceMethod yX5_append, Cond.selects RX5 yX5_append yX5_append, Cond.initialized RX5, Cond.code yX5_append cX5_append 5 none, Cond.fieldLink RX5 9 "ShelfStages$Log" "kind" "[I", Cond.fieldLink RX5 28 "ShelfStages$Log" "next" "I", Cond.fieldLink RX5 15 "ShelfStages$Log" "batch" "[I", Cond.fieldLink RX5 18 "ShelfStages$Log" "units" "[I", Cond.fieldLink RX5 21 "ShelfStages$Log" "day" "[I", Cond.fieldLink RX5 24 "ShelfStages$Log" "size" "I", Cond.methodLink RX5 35 Lib.Math.min.name]
def wsX8_wasteGood_r2 : List Cond := [Cond.static Lib.Math.min.name, Cond.initialized "java/lang/Math", Cond.code Lib.Math.min.name Lib.Math.min.code 2 (some .int)]
def wsX8_wasteGood : List Cond := .code yX8_wasteGood cX8_wasteGood 3 none :: ((wsX8_wasteGood_r1 ++ wsX8_wasteGood_r2) ++ wsX80 ++ wsX00 ++ wsX50)
def wsX8_expire_r1 : List Cond := [Cond.fieldLink RX8 21 "ShelfStages$State" "batches" "LShelfStages$Batches;", Cond.fieldLink RX8 106 "ShelfStages$Batches" "size" "I", Cond.fieldLink RX8 103 "ShelfStages$Batches" "shelf" "[I", Cond.fieldLink RX8 78 "ShelfStages$Batches" "left" "[I", Cond.methodLink RX8 161 yX8_waste, Cond.instanceMethod yX8_waste, Cond.selects RX8 yX8_waste yX8_waste, Cond.initialized RX8, Cond.code yX8_waste cX8_waste 4 none, Cond.fieldLink RX8 157 "ShelfStages$Batches" "wasted" "[[I", Cond.fieldLink RX8 42 "ShelfStages$State" "log" "LShelfStages$Log;", Cond.fieldLink RX8 74 "ShelfStages$State" "day" "I", Cond.methodLink RX8 117 yX5_append, Cond.instanceMethod yX5_append, Cond.selects RX5 yX5_append yX5_append, Cond.initialized RX5, Cond.code yX5_append cX5_append 5 none, Cond.fieldLink RX5 9 "ShelfStages$Log" "kind" "[I", Cond.fieldLink RX5 28 "ShelfStages$Log" "next" "I", Cond.fieldLink RX5 15 "ShelfStages$Log" "batch" "[I", Cond.fieldLink RX5 18 "ShelfStages$Log" "units" "[I", Cond.fieldLink RX5 21 "ShelfStages$Log" "day" "[I", Cond.fieldLink RX5 24 "ShelfStages$Log" "size" "I", Cond.methodLink RX5 35 Lib.Math.min.name]
def wsX8_expire_r2 : List Cond := [Cond.static Lib.Math.min.name, Cond.initialized "java/lang/Math", Cond.code Lib.Math.min.name Lib.Math.min.code 2 (some .int)]
def wsX8_expire : List Cond := .code yX8_expire cX8_expire 4 (some .int) :: ((wsX8_expire_r1 ++ wsX8_expire_r2) ++ wsX80 ++ wsX00 ++ wsX50)
def wsX8_donate_r1 : List Cond := [Cond.fieldLink RX8 46 "ShelfStages$State" "settings" "[I", Cond.fieldLink RX8 21 "ShelfStages$State" "batches" "LShelfStages$Batches;", Cond.fieldLink RX8 106 "ShelfStages$Batches" "size" "I", Cond.fieldLink RX8 103 "ShelfStages$Batches" "shelf" "[I", Cond.methodLink RX8 174 Lib.Math.min.name, Cond.static Lib.Math.min.name, Cond.initialized "java/lang/Math", Cond.code Lib.Math.min.name Lib.Math.min.code 2 (some .int), Cond.methodLink RX8 98 yX8_stageOf, Cond.instanceMethod yX8_stageOf, Cond.selects RX8 yX8_stageOf yX8_stageOf, Cond.initialized RX8, Cond.code yX8_stageOf cX8_stageOf 2 (some .int), Cond.fieldLink RX8 35 "ShelfStages$State" "stages" "LShelfStages$Stages;", Cond.fieldLink RX8 78 "ShelfStages$Batches" "left" "[I", Cond.fieldLink RX8 12 "ShelfStages$State" "goods" "LShelfStages$Goods;", Cond.fieldLink RX8 81 "ShelfStages$Goods" "life" "[I", Cond.fieldLink RX8 84 "ShelfStages$Batches" "good" "[I", Cond.methodLink RX8 87 yX7_reached, Cond.instanceMethod yX7_reached, Cond.selects RX7 yX7_reached yX7_reached, Cond.initialized RX7, Cond.code yX7_reached cX7_reached 4 (some .int), Cond.fieldLink RX7 9 "ShelfStages$Stages" "share" "[I"]
def wsX8_donate_r2 : List Cond := [Cond.methodLink RX8 179 yX8_give, Cond.instanceMethod yX8_give, Cond.selects RX8 yX8_give yX8_give, Cond.code yX8_give cX8_give 3 none, Cond.fieldLink RX8 154 "ShelfStages$Batches" "given" "[I", Cond.fieldLink RX8 42 "ShelfStages$State" "log" "LShelfStages$Log;", Cond.fieldLink RX8 74 "ShelfStages$State" "day" "I", Cond.methodLink RX8 117 yX5_append, Cond.instanceMethod yX5_append, Cond.selects RX5 yX5_append yX5_append, Cond.initialized RX5, Cond.code yX5_append cX5_append 5 none, Cond.fieldLink RX5 9 "ShelfStages$Log" "kind" "[I", Cond.fieldLink RX5 28 "ShelfStages$Log" "next" "I", Cond.fieldLink RX5 15 "ShelfStages$Log" "batch" "[I", Cond.fieldLink RX5 18 "ShelfStages$Log" "units" "[I", Cond.fieldLink RX5 21 "ShelfStages$Log" "day" "[I", Cond.fieldLink RX5 24 "ShelfStages$Log" "size" "I", Cond.methodLink RX5 35 Lib.Math.min.name]
def wsX8_donate : List Cond := .code yX8_donate cX8_donate 4 none :: ((wsX8_donate_r1 ++ wsX8_donate_r2) ++ wsX80 ++ wsX00 ++ wsX30 ++ wsX70 ++ wsX50)
def wsX8_passDays_r1 : List Cond := [Cond.fieldLink RX8 74 "ShelfStages$State" "day" "I", Cond.fieldLink RX8 21 "ShelfStages$State" "batches" "LShelfStages$Batches;", Cond.methodLink RX8 164 yX0_age, Cond.instanceMethod yX0_age, Cond.selects RX0 yX0_age yX0_age, Cond.initialized RX0, Cond.code yX0_age cX0_age 2 none, Cond.fieldLink RX0 38 "ShelfStages$Batches" "size" "I", Cond.fieldLink RX0 21 "ShelfStages$Batches" "shelf" "[I", Cond.fieldLink RX0 18 "ShelfStages$Batches" "left" "[I", Cond.methodLink RX8 167 yX8_expire, Cond.instanceMethod yX8_expire, Cond.selects RX8 yX8_expire yX8_expire, Cond.initialized RX8, Cond.code yX8_expire cX8_expire 4 (some .int), Cond.fieldLink RX8 106 "ShelfStages$Batches" "size" "I", Cond.fieldLink RX8 103 "ShelfStages$Batches" "shelf" "[I", Cond.fieldLink RX8 78 "ShelfStages$Batches" "left" "[I", Cond.methodLink RX8 161 yX8_waste, Cond.instanceMethod yX8_waste, Cond.selects RX8 yX8_waste yX8_waste, Cond.code yX8_waste cX8_waste 4 none, Cond.fieldLink RX8 157 "ShelfStages$Batches" "wasted" "[[I", Cond.fieldLink RX8 42 "ShelfStages$State" "log" "LShelfStages$Log;"]
def wsX8_passDays_r2 : List Cond := [Cond.methodLink RX8 117 yX5_append, Cond.instanceMethod yX5_append, Cond.selects RX5 yX5_append yX5_append, Cond.initialized RX5, Cond.code yX5_append cX5_append 5 none, Cond.fieldLink RX5 9 "ShelfStages$Log" "kind" "[I", Cond.fieldLink RX5 28 "ShelfStages$Log" "next" "I", Cond.fieldLink RX5 15 "ShelfStages$Log" "batch" "[I", Cond.fieldLink RX5 18 "ShelfStages$Log" "units" "[I", Cond.fieldLink RX5 21 "ShelfStages$Log" "day" "[I", Cond.fieldLink RX5 24 "ShelfStages$Log" "size" "I", Cond.methodLink RX5 35 Lib.Math.min.name, Cond.static Lib.Math.min.name, Cond.initialized "java/lang/Math", Cond.code Lib.Math.min.name Lib.Math.min.code 2 (some .int), Cond.methodLink RX8 171 yX8_donate, Cond.instanceMethod yX8_donate, Cond.selects RX8 yX8_donate yX8_donate, Cond.code yX8_donate cX8_donate 4 none, Cond.fieldLink RX8 46 "ShelfStages$State" "settings" "[I", Cond.methodLink RX8 174 Lib.Math.min.name, Cond.methodLink RX8 98 yX8_stageOf, Cond.instanceMethod yX8_stageOf, Cond.selects RX8 yX8_stageOf yX8_stageOf]
def wsX8_passDays_r3 : List Cond := [Cond.code yX8_stageOf cX8_stageOf 2 (some .int), Cond.fieldLink RX8 35 "ShelfStages$State" "stages" "LShelfStages$Stages;", Cond.fieldLink RX8 12 "ShelfStages$State" "goods" "LShelfStages$Goods;", Cond.fieldLink RX8 81 "ShelfStages$Goods" "life" "[I", Cond.fieldLink RX8 84 "ShelfStages$Batches" "good" "[I", Cond.methodLink RX8 87 yX7_reached, Cond.instanceMethod yX7_reached, Cond.selects RX7 yX7_reached yX7_reached, Cond.initialized RX7, Cond.code yX7_reached cX7_reached 4 (some .int), Cond.fieldLink RX7 9 "ShelfStages$Stages" "share" "[I", Cond.methodLink RX8 179 yX8_give, Cond.instanceMethod yX8_give, Cond.selects RX8 yX8_give yX8_give, Cond.code yX8_give cX8_give 3 none, Cond.fieldLink RX8 154 "ShelfStages$Batches" "given" "[I"]
def wsX8_passDays : List Cond := .code yX8_passDays cX8_passDays 4 (some .int) :: ((wsX8_passDays_r1 ++ (wsX8_passDays_r2 ++ wsX8_passDays_r3)) ++ wsX80 ++ wsX00 ++ wsX50 ++ wsX30 ++ wsX70)
def wsX9_init_r1 : List Cond := [Cond.methodLink RX9 3 objectInit, Cond.instanceMethod objectInit, Cond.code objectInit ⟨#[0xb1]⟩ 1 none, Cond.classLink RX9 9 RX8, Cond.instantiable RX8 8, Cond.initialized RX8, Cond.fieldLink RX9 12 "ShelfStages" "now" "LShelfStages$State;", Cond.fieldLink RX9 16 "ShelfStages" "snapshot" "LShelfStages$State;", Cond.fieldLink RX9 19 "ShelfStages" "trial" "LShelfStages$State;", Cond.classLink RX9 22 RX4, Cond.instantiable RX4 3, Cond.initialized RX4, Cond.fieldLink RX9 25 "ShelfStages" "history" "LShelfStages$History;", Cond.classLink RX9 29 RX2, Cond.instantiable RX2 11, Cond.initialized RX2, Cond.fieldLink RX9 32 "ShelfStages" "filling" "LShelfStages$Filling;", Cond.classLink RX9 36 RX1, Cond.instantiable RX1 4, Cond.initialized RX1, Cond.fieldLink RX9 39 "ShelfStages" "delivery" "LShelfStages$Delivery;", Cond.arrayClass .char, Cond.fieldLink RX9 43 "ShelfStages" "text" "[C", Cond.instanceMethod yX8_init]
def wsX9_init_r2 : List Cond := [Cond.code yX8_init cX8_init 1 none, Cond.methodLink RX8 3 objectInit, Cond.classLink RX8 9 RX3, Cond.instantiable RX3 5, Cond.initialized RX3, Cond.fieldLink RX8 12 "ShelfStages$State" "goods" "LShelfStages$Goods;", Cond.classLink RX8 18 RX0, Cond.instantiable RX0 9, Cond.initialized RX0, Cond.fieldLink RX8 21 "ShelfStages$State" "batches" "LShelfStages$Batches;", Cond.classLink RX8 25 RX6, Cond.instantiable RX6 14, Cond.initialized RX6, Cond.fieldLink RX8 28 "ShelfStages$State" "orders" "LShelfStages$Orders;", Cond.classLink RX8 32 RX7, Cond.instantiable RX7 2, Cond.initialized RX7, Cond.fieldLink RX8 35 "ShelfStages$State" "stages" "LShelfStages$Stages;", Cond.classLink RX8 39 RX5, Cond.instantiable RX5 6, Cond.initialized RX5, Cond.fieldLink RX8 42 "ShelfStages$State" "log" "LShelfStages$Log;", Cond.arrayClass .int, Cond.fieldLink RX8 46 "ShelfStages$State" "settings" "[I"]
def wsX9_init_r3 : List Cond := [Cond.instanceMethod yX3_init, Cond.code yX3_init cX3_init 1 none, Cond.methodLink RX3 3 objectInit, Cond.fieldLink RX3 9 "ShelfStages$Goods" "price" "[I", Cond.fieldLink RX3 15 "ShelfStages$Goods" "life" "[I", Cond.fieldLink RX3 18 "ShelfStages$Goods" "listed" "[I", Cond.fieldLink RX3 21 "ShelfStages$Goods" "list" "[I", Cond.instanceMethod yX0_init, Cond.code yX0_init cX0_init 1 none, Cond.methodLink RX0 3 objectInit, Cond.fieldLink RX0 9 "ShelfStages$Batches" "good" "[I", Cond.fieldLink RX0 15 "ShelfStages$Batches" "came" "[I", Cond.fieldLink RX0 18 "ShelfStages$Batches" "left" "[I", Cond.fieldLink RX0 21 "ShelfStages$Batches" "shelf" "[I", Cond.fieldLink RX0 24 "ShelfStages$Batches" "sold" "[I", Cond.fieldLink RX0 27 "ShelfStages$Batches" "given" "[I", Cond.fieldLink RX0 30 "ShelfStages$Batches" "cents" "[I", Cond.classLink RX0 33 "[[I", Cond.fieldLink RX0 35 "ShelfStages$Batches" "wasted" "[[I", Cond.instanceMethod yX6_init, Cond.code yX6_init cX6_init 1 none, Cond.methodLink RX6 3 objectInit, Cond.fieldLink RX6 9 "ShelfStages$Orders" "good" "[I", Cond.fieldLink RX6 15 "ShelfStages$Orders" "wanted" "[I"]
def wsX9_init_r4 : List Cond := [Cond.fieldLink RX6 18 "ShelfStages$Orders" "got" "[I", Cond.fieldLink RX6 21 "ShelfStages$Orders" "replaced" "[I", Cond.fieldLink RX6 24 "ShelfStages$Orders" "least" "[I", Cond.fieldLink RX6 27 "ShelfStages$Orders" "accepts" "[I", Cond.fieldLink RX6 30 "ShelfStages$Orders" "parts" "[I", Cond.fieldLink RX6 33 "ShelfStages$Orders" "due" "[I", Cond.fieldLink RX6 36 "ShelfStages$Orders" "day" "[I", Cond.fieldLink RX6 39 "ShelfStages$Orders" "firstTake" "[I", Cond.fieldLink RX6 42 "ShelfStages$Orders" "takeBatch" "[I", Cond.fieldLink RX6 45 "ShelfStages$Orders" "takeUnits" "[I", Cond.instanceMethod yX7_init, Cond.code yX7_init cX7_init 1 none, Cond.methodLink RX7 3 objectInit, Cond.fieldLink RX7 9 "ShelfStages$Stages" "share" "[I", Cond.arrayClass .float, Cond.constantFloat RX7 15 (1101004800), Cond.constantFloat RX7 16 (1109393408), Cond.constantFloat RX7 17 (1116471296), Cond.fieldLink RX7 18 "ShelfStages$Stages" "markdown" "[F", Cond.instanceMethod yX5_init, Cond.code yX5_init cX5_init 1 none, Cond.methodLink RX5 3 objectInit, Cond.fieldLink RX5 9 "ShelfStages$Log" "kind" "[I", Cond.fieldLink RX5 15 "ShelfStages$Log" "batch" "[I"]
def wsX9_init_r5 : List Cond := [Cond.fieldLink RX5 18 "ShelfStages$Log" "units" "[I", Cond.fieldLink RX5 21 "ShelfStages$Log" "day" "[I", Cond.methodLink RX9 24 yX4_init, Cond.instanceMethod yX4_init, Cond.code yX4_init cX4_init 2 none, Cond.methodLink RX4 3 objectInit, Cond.classLink RX4 9 RX8, Cond.fieldLink RX4 11 "ShelfStages$History" "states" "[LShelfStages$State;", Cond.instanceMethod yX2_init, Cond.code yX2_init cX2_init 1 none, Cond.methodLink RX2 3 objectInit, Cond.fieldLink RX2 9 "ShelfStages$Filling" "batch" "[I", Cond.fieldLink RX2 15 "ShelfStages$Filling" "units" "[I", Cond.fieldLink RX2 18 "ShelfStages$Filling" "cents" "[I", Cond.fieldLink RX2 21 "ShelfStages$Filling" "rest" "[I", Cond.fieldLink RX2 24 "ShelfStages$Filling" "price" "[F", Cond.instanceMethod yX1_init, Cond.code yX1_init cX1_init 1 none, Cond.methodLink RX1 3 objectInit, Cond.classLink RX1 11 "[[I", Cond.fieldLink RX1 13 "ShelfStages$Delivery" "numbers" "[[I"]
def wsX9_init : List Cond := .code yX9_init cX9_init 1 none :: ((wsX9_init_r1 ++ (wsX9_init_r2 ++ (wsX9_init_r3 ++ (wsX9_init_r4 ++ wsX9_init_r5)))) ++ wsX80 ++ wsX90 ++ wsX40 ++ wsX20 ++ wsX10 ++ wsX30 ++ wsX00 ++ wsX60 ++ wsX70 ++ wsX50)
def wsX9_within : List Cond := .code yX9_within cX9_within 3 (some .boolean) :: ([])
def wsX9_addGood_r1 : List Cond := [Cond.fieldLink RX9 12 "ShelfStages" "now" "LShelfStages$State;", Cond.fieldLink RX9 51 "ShelfStages$State" "goods" "LShelfStages$Goods;", Cond.fieldLink RX9 55 "ShelfStages$Goods" "size" "I", Cond.fieldLink RX9 25 "ShelfStages" "history" "LShelfStages$History;", Cond.methodLink RX9 47 yX9_within, Cond.static yX9_within, Cond.initialized RX9, Cond.code yX9_within cX9_within 3 (some .boolean), Cond.methodLink RX9 61 yX4_push, Cond.instanceMethod yX4_push, Cond.selects RX4 yX4_push yX4_push, Cond.initialized RX4, Cond.code yX4_push cX4_push 2 none, Cond.fieldLink RX4 18 "ShelfStages$History" "size" "I", Cond.fieldLink RX4 22 "ShelfStages$History" "oldest" "I", Cond.fieldLink RX4 11 "ShelfStages$History" "states" "[LShelfStages$State;", Cond.methodLink RX4 25 yX8_copyFrom, Cond.instanceMethod yX8_copyFrom, Cond.selects RX8 yX8_copyFrom yX8_copyFrom, Cond.initialized RX8, Cond.code yX8_copyFrom cX8_copyFrom 2 none, Cond.fieldLink RX8 12 "ShelfStages$State" "goods" "LShelfStages$Goods;", Cond.fieldLink RX8 21 "ShelfStages$State" "batches" "LShelfStages$Batches;", Cond.fieldLink RX8 28 "ShelfStages$State" "orders" "LShelfStages$Orders;"]
def wsX9_addGood_r2 : List Cond := [Cond.fieldLink RX8 35 "ShelfStages$State" "stages" "LShelfStages$Stages;", Cond.fieldLink RX8 42 "ShelfStages$State" "log" "LShelfStages$Log;", Cond.fieldLink RX8 46 "ShelfStages$State" "settings" "[I", Cond.fieldLink RX8 70 "ShelfStages$State" "rebate" "F", Cond.fieldLink RX8 74 "ShelfStages$State" "day" "I", Cond.methodLink RX8 50 yX3_copyFrom, Cond.instanceMethod yX3_copyFrom, Cond.selects RX3 yX3_copyFrom yX3_copyFrom, Cond.initialized RX3, Cond.code yX3_copyFrom cX3_copyFrom 2 none, Cond.fieldLink RX3 24 "ShelfStages$Goods" "size" "I", Cond.fieldLink RX3 9 "ShelfStages$Goods" "price" "[I", Cond.fieldLink RX3 15 "ShelfStages$Goods" "life" "[I", Cond.fieldLink RX3 18 "ShelfStages$Goods" "listed" "[I", Cond.fieldLink RX3 21 "ShelfStages$Goods" "list" "[I", Cond.static yX9_copyRow, Cond.code yX9_copyRow cX9_copyRow 2 none, Cond.methodLink RX9 357 Lib.Math.min.name, Cond.static Lib.Math.min.name, Cond.initialized "java/lang/Math", Cond.code Lib.Math.min.name Lib.Math.min.code 2 (some .int), Cond.methodLink RX9 362 arraycopyName, Cond.native arraycopyName, Cond.static arraycopyName]
def wsX9_addGood_r3 : List Cond := [Cond.initialized "java/lang/System", Cond.methodLink RX8 54 yX0_copyFrom, Cond.instanceMethod yX0_copyFrom, Cond.selects RX0 yX0_copyFrom yX0_copyFrom, Cond.initialized RX0, Cond.code yX0_copyFrom cX0_copyFrom 3 none, Cond.fieldLink RX0 38 "ShelfStages$Batches" "size" "I", Cond.fieldLink RX0 9 "ShelfStages$Batches" "good" "[I", Cond.fieldLink RX0 15 "ShelfStages$Batches" "came" "[I", Cond.fieldLink RX0 18 "ShelfStages$Batches" "left" "[I", Cond.fieldLink RX0 21 "ShelfStages$Batches" "shelf" "[I", Cond.fieldLink RX0 24 "ShelfStages$Batches" "sold" "[I", Cond.fieldLink RX0 27 "ShelfStages$Batches" "given" "[I", Cond.fieldLink RX0 30 "ShelfStages$Batches" "cents" "[I", Cond.fieldLink RX0 35 "ShelfStages$Batches" "wasted" "[[I", Cond.methodLink RX8 57 yX6_copyFrom, Cond.instanceMethod yX6_copyFrom, Cond.selects RX6 yX6_copyFrom yX6_copyFrom, Cond.initialized RX6, Cond.code yX6_copyFrom cX6_copyFrom 2 none, Cond.fieldLink RX6 48 "ShelfStages$Orders" "size" "I", Cond.fieldLink RX6 52 "ShelfStages$Orders" "takes" "I", Cond.fieldLink RX6 9 "ShelfStages$Orders" "good" "[I", Cond.fieldLink RX6 15 "ShelfStages$Orders" "wanted" "[I"]
def wsX9_addGood_r4 : List Cond := [Cond.fieldLink RX6 18 "ShelfStages$Orders" "got" "[I", Cond.fieldLink RX6 21 "ShelfStages$Orders" "replaced" "[I", Cond.fieldLink RX6 24 "ShelfStages$Orders" "least" "[I", Cond.fieldLink RX6 27 "ShelfStages$Orders" "accepts" "[I", Cond.fieldLink RX6 30 "ShelfStages$Orders" "parts" "[I", Cond.fieldLink RX6 33 "ShelfStages$Orders" "due" "[I", Cond.fieldLink RX6 36 "ShelfStages$Orders" "day" "[I", Cond.fieldLink RX6 39 "ShelfStages$Orders" "firstTake" "[I", Cond.fieldLink RX6 42 "ShelfStages$Orders" "takeBatch" "[I", Cond.fieldLink RX6 45 "ShelfStages$Orders" "takeUnits" "[I", Cond.methodLink RX8 60 yX7_copyFrom, Cond.instanceMethod yX7_copyFrom, Cond.selects RX7 yX7_copyFrom yX7_copyFrom, Cond.initialized RX7, Cond.code yX7_copyFrom cX7_copyFrom 3 none, Cond.fieldLink RX7 9 "ShelfStages$Stages" "share" "[I", Cond.fieldLink RX7 18 "ShelfStages$Stages" "markdown" "[F", Cond.methodLink RX8 63 yX5_copyFrom, Cond.instanceMethod yX5_copyFrom, Cond.selects RX5 yX5_copyFrom yX5_copyFrom, Cond.initialized RX5, Cond.code yX5_copyFrom cX5_copyFrom 2 none, Cond.fieldLink RX5 24 "ShelfStages$Log" "size" "I", Cond.fieldLink RX5 28 "ShelfStages$Log" "next" "I"]
def wsX9_addGood_r5 : List Cond := [Cond.fieldLink RX5 9 "ShelfStages$Log" "kind" "[I", Cond.fieldLink RX5 15 "ShelfStages$Log" "batch" "[I", Cond.fieldLink RX5 18 "ShelfStages$Log" "units" "[I", Cond.fieldLink RX5 21 "ShelfStages$Log" "day" "[I", Cond.methodLink RX9 65 yX3_append, Cond.instanceMethod yX3_append, Cond.selects RX3 yX3_append yX3_append, Cond.code yX3_append cX3_append 4 (some .int)]
def wsX9_addGood : List Cond := .code yX9_addGood cX9_addGood 3 (some .int) :: ((wsX9_addGood_r1 ++ (wsX9_addGood_r2 ++ (wsX9_addGood_r3 ++ (wsX9_addGood_r4 ++ wsX9_addGood_r5)))) ++ wsX90 ++ wsX80 ++ wsX30 ++ wsX40 ++ wsX00 ++ wsX60 ++ wsX70 ++ wsX50)
def wsX9_hasGood : List Cond := .code yX9_hasGood cX9_hasGood 2 (some .boolean) :: ([.fieldLink RX9 12 "ShelfStages" "now" "LShelfStages$State;", .fieldLink RX9 51 "ShelfStages$State" "goods" "LShelfStages$Goods;", .fieldLink RX9 55 "ShelfStages$Goods" "size" "I", .methodLink RX9 47 yX9_within, .static yX9_within, .initialized RX9, .code yX9_within cX9_within 3 (some .boolean)] ++ wsX90 ++ wsX80 ++ wsX30)
def wsX9_setPrice_r1 : List Cond := [Cond.fieldLink RX9 12 "ShelfStages" "now" "LShelfStages$State;", Cond.fieldLink RX9 51 "ShelfStages$State" "goods" "LShelfStages$Goods;", Cond.fieldLink RX9 73 "ShelfStages$Goods" "price" "[I", Cond.fieldLink RX9 25 "ShelfStages" "history" "LShelfStages$History;", Cond.methodLink RX9 69 yX9_hasGood, Cond.instanceMethod yX9_hasGood, Cond.selects RX9 yX9_hasGood yX9_hasGood, Cond.initialized RX9, Cond.code yX9_hasGood cX9_hasGood 2 (some .boolean), Cond.fieldLink RX9 55 "ShelfStages$Goods" "size" "I", Cond.methodLink RX9 47 yX9_within, Cond.static yX9_within, Cond.code yX9_within cX9_within 3 (some .boolean), Cond.methodLink RX9 61 yX4_push, Cond.instanceMethod yX4_push, Cond.selects RX4 yX4_push yX4_push, Cond.initialized RX4, Cond.code yX4_push cX4_push 2 none, Cond.fieldLink RX4 18 "ShelfStages$History" "size" "I", Cond.fieldLink RX4 22 "ShelfStages$History" "oldest" "I", Cond.fieldLink RX4 11 "ShelfStages$History" "states" "[LShelfStages$State;", Cond.methodLink RX4 25 yX8_copyFrom, Cond.instanceMethod yX8_copyFrom, Cond.selects RX8 yX8_copyFrom yX8_copyFrom]
def wsX9_setPrice_r2 : List Cond := [Cond.initialized RX8, Cond.code yX8_copyFrom cX8_copyFrom 2 none, Cond.fieldLink RX8 12 "ShelfStages$State" "goods" "LShelfStages$Goods;", Cond.fieldLink RX8 21 "ShelfStages$State" "batches" "LShelfStages$Batches;", Cond.fieldLink RX8 28 "ShelfStages$State" "orders" "LShelfStages$Orders;", Cond.fieldLink RX8 35 "ShelfStages$State" "stages" "LShelfStages$Stages;", Cond.fieldLink RX8 42 "ShelfStages$State" "log" "LShelfStages$Log;", Cond.fieldLink RX8 46 "ShelfStages$State" "settings" "[I", Cond.fieldLink RX8 70 "ShelfStages$State" "rebate" "F", Cond.fieldLink RX8 74 "ShelfStages$State" "day" "I", Cond.methodLink RX8 50 yX3_copyFrom, Cond.instanceMethod yX3_copyFrom, Cond.selects RX3 yX3_copyFrom yX3_copyFrom, Cond.initialized RX3, Cond.code yX3_copyFrom cX3_copyFrom 2 none, Cond.fieldLink RX3 24 "ShelfStages$Goods" "size" "I", Cond.fieldLink RX3 9 "ShelfStages$Goods" "price" "[I", Cond.fieldLink RX3 15 "ShelfStages$Goods" "life" "[I", Cond.fieldLink RX3 18 "ShelfStages$Goods" "listed" "[I", Cond.fieldLink RX3 21 "ShelfStages$Goods" "list" "[I", Cond.static yX9_copyRow, Cond.code yX9_copyRow cX9_copyRow 2 none, Cond.methodLink RX9 357 Lib.Math.min.name, Cond.static Lib.Math.min.name]
def wsX9_setPrice_r3 : List Cond := [Cond.initialized "java/lang/Math", Cond.code Lib.Math.min.name Lib.Math.min.code 2 (some .int), Cond.methodLink RX9 362 arraycopyName, Cond.native arraycopyName, Cond.static arraycopyName, Cond.initialized "java/lang/System", Cond.methodLink RX8 54 yX0_copyFrom, Cond.instanceMethod yX0_copyFrom, Cond.selects RX0 yX0_copyFrom yX0_copyFrom, Cond.initialized RX0, Cond.code yX0_copyFrom cX0_copyFrom 3 none, Cond.fieldLink RX0 38 "ShelfStages$Batches" "size" "I", Cond.fieldLink RX0 9 "ShelfStages$Batches" "good" "[I", Cond.fieldLink RX0 15 "ShelfStages$Batches" "came" "[I", Cond.fieldLink RX0 18 "ShelfStages$Batches" "left" "[I", Cond.fieldLink RX0 21 "ShelfStages$Batches" "shelf" "[I", Cond.fieldLink RX0 24 "ShelfStages$Batches" "sold" "[I", Cond.fieldLink RX0 27 "ShelfStages$Batches" "given" "[I", Cond.fieldLink RX0 30 "ShelfStages$Batches" "cents" "[I", Cond.fieldLink RX0 35 "ShelfStages$Batches" "wasted" "[[I", Cond.methodLink RX8 57 yX6_copyFrom, Cond.instanceMethod yX6_copyFrom, Cond.selects RX6 yX6_copyFrom yX6_copyFrom, Cond.initialized RX6]
def wsX9_setPrice_r4 : List Cond := [Cond.code yX6_copyFrom cX6_copyFrom 2 none, Cond.fieldLink RX6 48 "ShelfStages$Orders" "size" "I", Cond.fieldLink RX6 52 "ShelfStages$Orders" "takes" "I", Cond.fieldLink RX6 9 "ShelfStages$Orders" "good" "[I", Cond.fieldLink RX6 15 "ShelfStages$Orders" "wanted" "[I", Cond.fieldLink RX6 18 "ShelfStages$Orders" "got" "[I", Cond.fieldLink RX6 21 "ShelfStages$Orders" "replaced" "[I", Cond.fieldLink RX6 24 "ShelfStages$Orders" "least" "[I", Cond.fieldLink RX6 27 "ShelfStages$Orders" "accepts" "[I", Cond.fieldLink RX6 30 "ShelfStages$Orders" "parts" "[I", Cond.fieldLink RX6 33 "ShelfStages$Orders" "due" "[I", Cond.fieldLink RX6 36 "ShelfStages$Orders" "day" "[I", Cond.fieldLink RX6 39 "ShelfStages$Orders" "firstTake" "[I", Cond.fieldLink RX6 42 "ShelfStages$Orders" "takeBatch" "[I", Cond.fieldLink RX6 45 "ShelfStages$Orders" "takeUnits" "[I", Cond.methodLink RX8 60 yX7_copyFrom, Cond.instanceMethod yX7_copyFrom, Cond.selects RX7 yX7_copyFrom yX7_copyFrom, Cond.initialized RX7, Cond.code yX7_copyFrom cX7_copyFrom 3 none, Cond.fieldLink RX7 9 "ShelfStages$Stages" "share" "[I", Cond.fieldLink RX7 18 "ShelfStages$Stages" "markdown" "[F", Cond.methodLink RX8 63 yX5_copyFrom, Cond.instanceMethod yX5_copyFrom]
def wsX9_setPrice_r5 : List Cond := [Cond.selects RX5 yX5_copyFrom yX5_copyFrom, Cond.initialized RX5, Cond.code yX5_copyFrom cX5_copyFrom 2 none, Cond.fieldLink RX5 24 "ShelfStages$Log" "size" "I", Cond.fieldLink RX5 28 "ShelfStages$Log" "next" "I", Cond.fieldLink RX5 9 "ShelfStages$Log" "kind" "[I", Cond.fieldLink RX5 15 "ShelfStages$Log" "batch" "[I", Cond.fieldLink RX5 18 "ShelfStages$Log" "units" "[I", Cond.fieldLink RX5 21 "ShelfStages$Log" "day" "[I"]
def wsX9_setPrice : List Cond := .code yX9_setPrice cX9_setPrice 4 (some .int) :: ((wsX9_setPrice_r1 ++ (wsX9_setPrice_r2 ++ (wsX9_setPrice_r3 ++ (wsX9_setPrice_r4 ++ wsX9_setPrice_r5)))) ++ wsX90 ++ wsX80 ++ wsX30 ++ wsX40 ++ wsX00 ++ wsX60 ++ wsX70 ++ wsX50)
def wsX9_addSubstitute_r1 : List Cond := [Cond.fieldLink RX9 12 "ShelfStages" "now" "LShelfStages$State;", Cond.fieldLink RX9 51 "ShelfStages$State" "goods" "LShelfStages$Goods;", Cond.fieldLink RX9 77 "ShelfStages$Goods" "listed" "[I", Cond.fieldLink RX9 25 "ShelfStages" "history" "LShelfStages$History;", Cond.methodLink RX9 69 yX9_hasGood, Cond.instanceMethod yX9_hasGood, Cond.selects RX9 yX9_hasGood yX9_hasGood, Cond.initialized RX9, Cond.code yX9_hasGood cX9_hasGood 2 (some .boolean), Cond.fieldLink RX9 55 "ShelfStages$Goods" "size" "I", Cond.methodLink RX9 47 yX9_within, Cond.static yX9_within, Cond.code yX9_within cX9_within 3 (some .boolean), Cond.methodLink RX9 80 yX3_lists, Cond.instanceMethod yX3_lists, Cond.selects RX3 yX3_lists yX3_lists, Cond.initialized RX3, Cond.code yX3_lists cX3_lists 4 (some .boolean), Cond.fieldLink RX3 18 "ShelfStages$Goods" "listed" "[I", Cond.methodLink RX3 32 yX3_listedAt, Cond.instanceMethod yX3_listedAt, Cond.selects RX3 yX3_listedAt yX3_listedAt, Cond.code yX3_listedAt cX3_listedAt 3 (some .int), Cond.fieldLink RX3 21 "ShelfStages$Goods" "list" "[I"]
def wsX9_addSubstitute_r2 : List Cond := [Cond.methodLink RX9 61 yX4_push, Cond.instanceMethod yX4_push, Cond.selects RX4 yX4_push yX4_push, Cond.initialized RX4, Cond.code yX4_push cX4_push 2 none, Cond.fieldLink RX4 18 "ShelfStages$History" "size" "I", Cond.fieldLink RX4 22 "ShelfStages$History" "oldest" "I", Cond.fieldLink RX4 11 "ShelfStages$History" "states" "[LShelfStages$State;", Cond.methodLink RX4 25 yX8_copyFrom, Cond.instanceMethod yX8_copyFrom, Cond.selects RX8 yX8_copyFrom yX8_copyFrom, Cond.initialized RX8, Cond.code yX8_copyFrom cX8_copyFrom 2 none, Cond.fieldLink RX8 12 "ShelfStages$State" "goods" "LShelfStages$Goods;", Cond.fieldLink RX8 21 "ShelfStages$State" "batches" "LShelfStages$Batches;", Cond.fieldLink RX8 28 "ShelfStages$State" "orders" "LShelfStages$Orders;", Cond.fieldLink RX8 35 "ShelfStages$State" "stages" "LShelfStages$Stages;", Cond.fieldLink RX8 42 "ShelfStages$State" "log" "LShelfStages$Log;", Cond.fieldLink RX8 46 "ShelfStages$State" "settings" "[I", Cond.fieldLink RX8 70 "ShelfStages$State" "rebate" "F", Cond.fieldLink RX8 74 "ShelfStages$State" "day" "I", Cond.methodLink RX8 50 yX3_copyFrom, Cond.instanceMethod yX3_copyFrom, Cond.selects RX3 yX3_copyFrom yX3_copyFrom]
def wsX9_addSubstitute_r3 : List Cond := [Cond.code yX3_copyFrom cX3_copyFrom 2 none, Cond.fieldLink RX3 24 "ShelfStages$Goods" "size" "I", Cond.fieldLink RX3 9 "ShelfStages$Goods" "price" "[I", Cond.fieldLink RX3 15 "ShelfStages$Goods" "life" "[I", Cond.static yX9_copyRow, Cond.code yX9_copyRow cX9_copyRow 2 none, Cond.methodLink RX9 357 Lib.Math.min.name, Cond.static Lib.Math.min.name, Cond.initialized "java/lang/Math", Cond.code Lib.Math.min.name Lib.Math.min.code 2 (some .int), Cond.methodLink RX9 362 arraycopyName, Cond.native arraycopyName, Cond.static arraycopyName, Cond.initialized "java/lang/System", Cond.methodLink RX8 54 yX0_copyFrom, Cond.instanceMethod yX0_copyFrom, Cond.selects RX0 yX0_copyFrom yX0_copyFrom, Cond.initialized RX0, Cond.code yX0_copyFrom cX0_copyFrom 3 none, Cond.fieldLink RX0 38 "ShelfStages$Batches" "size" "I", Cond.fieldLink RX0 9 "ShelfStages$Batches" "good" "[I", Cond.fieldLink RX0 15 "ShelfStages$Batches" "came" "[I", Cond.fieldLink RX0 18 "ShelfStages$Batches" "left" "[I", Cond.fieldLink RX0 21 "ShelfStages$Batches" "shelf" "[I"]
def wsX9_addSubstitute_r4 : List Cond := [Cond.fieldLink RX0 24 "ShelfStages$Batches" "sold" "[I", Cond.fieldLink RX0 27 "ShelfStages$Batches" "given" "[I", Cond.fieldLink RX0 30 "ShelfStages$Batches" "cents" "[I", Cond.fieldLink RX0 35 "ShelfStages$Batches" "wasted" "[[I", Cond.methodLink RX8 57 yX6_copyFrom, Cond.instanceMethod yX6_copyFrom, Cond.selects RX6 yX6_copyFrom yX6_copyFrom, Cond.initialized RX6, Cond.code yX6_copyFrom cX6_copyFrom 2 none, Cond.fieldLink RX6 48 "ShelfStages$Orders" "size" "I", Cond.fieldLink RX6 52 "ShelfStages$Orders" "takes" "I", Cond.fieldLink RX6 9 "ShelfStages$Orders" "good" "[I", Cond.fieldLink RX6 15 "ShelfStages$Orders" "wanted" "[I", Cond.fieldLink RX6 18 "ShelfStages$Orders" "got" "[I", Cond.fieldLink RX6 21 "ShelfStages$Orders" "replaced" "[I", Cond.fieldLink RX6 24 "ShelfStages$Orders" "least" "[I", Cond.fieldLink RX6 27 "ShelfStages$Orders" "accepts" "[I", Cond.fieldLink RX6 30 "ShelfStages$Orders" "parts" "[I", Cond.fieldLink RX6 33 "ShelfStages$Orders" "due" "[I", Cond.fieldLink RX6 36 "ShelfStages$Orders" "day" "[I", Cond.fieldLink RX6 39 "ShelfStages$Orders" "firstTake" "[I", Cond.fieldLink RX6 42 "ShelfStages$Orders" "takeBatch" "[I", Cond.fieldLink RX6 45 "ShelfStages$Orders" "takeUnits" "[I", Cond.methodLink RX8 60 yX7_copyFrom]
def wsX9_addSubstitute_r5 : List Cond := [Cond.instanceMethod yX7_copyFrom, Cond.selects RX7 yX7_copyFrom yX7_copyFrom, Cond.initialized RX7, Cond.code yX7_copyFrom cX7_copyFrom 3 none, Cond.fieldLink RX7 9 "ShelfStages$Stages" "share" "[I", Cond.fieldLink RX7 18 "ShelfStages$Stages" "markdown" "[F", Cond.methodLink RX8 63 yX5_copyFrom, Cond.instanceMethod yX5_copyFrom, Cond.selects RX5 yX5_copyFrom yX5_copyFrom, Cond.initialized RX5, Cond.code yX5_copyFrom cX5_copyFrom 2 none, Cond.fieldLink RX5 24 "ShelfStages$Log" "size" "I", Cond.fieldLink RX5 28 "ShelfStages$Log" "next" "I", Cond.fieldLink RX5 9 "ShelfStages$Log" "kind" "[I", Cond.fieldLink RX5 15 "ShelfStages$Log" "batch" "[I", Cond.fieldLink RX5 18 "ShelfStages$Log" "units" "[I", Cond.fieldLink RX5 21 "ShelfStages$Log" "day" "[I", Cond.methodLink RX9 84 yX3_insert, Cond.instanceMethod yX3_insert, Cond.selects RX3 yX3_insert yX3_insert, Cond.code yX3_insert cX3_insert 6 none]
def wsX9_addSubstitute : List Cond := .code yX9_addSubstitute cX9_addSubstitute 5 (some .int) :: ((wsX9_addSubstitute_r1 ++ (wsX9_addSubstitute_r2 ++ (wsX9_addSubstitute_r3 ++ (wsX9_addSubstitute_r4 ++ wsX9_addSubstitute_r5)))) ++ wsX90 ++ wsX80 ++ wsX30 ++ wsX40 ++ wsX00 ++ wsX60 ++ wsX70 ++ wsX50)
def wsX9_placeError : List Cond := .code yX9_placeError cX9_placeError 3 (some .int) :: ([.fieldLink RX9 12 "ShelfStages" "now" "LShelfStages$State;", .fieldLink RX9 51 "ShelfStages$State" "goods" "LShelfStages$Goods;", .fieldLink RX9 77 "ShelfStages$Goods" "listed" "[I", .methodLink RX9 69 yX9_hasGood, .instanceMethod yX9_hasGood, .selects RX9 yX9_hasGood yX9_hasGood, .initialized RX9, .code yX9_hasGood cX9_hasGood 2 (some .boolean), .fieldLink RX9 55 "ShelfStages$Goods" "size" "I", .methodLink RX9 47 yX9_within, .static yX9_within, .code yX9_within cX9_within 3 (some .boolean)] ++ wsX90 ++ wsX80 ++ wsX30)
def wsX9_removeSubstitute_r1 : List Cond := [Cond.fieldLink RX9 25 "ShelfStages" "history" "LShelfStages$History;", Cond.fieldLink RX9 12 "ShelfStages" "now" "LShelfStages$State;", Cond.fieldLink RX9 51 "ShelfStages$State" "goods" "LShelfStages$Goods;", Cond.methodLink RX9 88 yX9_placeError, Cond.instanceMethod yX9_placeError, Cond.selects RX9 yX9_placeError yX9_placeError, Cond.initialized RX9, Cond.code yX9_placeError cX9_placeError 3 (some .int), Cond.fieldLink RX9 77 "ShelfStages$Goods" "listed" "[I", Cond.methodLink RX9 69 yX9_hasGood, Cond.instanceMethod yX9_hasGood, Cond.selects RX9 yX9_hasGood yX9_hasGood, Cond.code yX9_hasGood cX9_hasGood 2 (some .boolean), Cond.fieldLink RX9 55 "ShelfStages$Goods" "size" "I", Cond.methodLink RX9 47 yX9_within, Cond.static yX9_within, Cond.code yX9_within cX9_within 3 (some .boolean), Cond.methodLink RX9 61 yX4_push, Cond.instanceMethod yX4_push, Cond.selects RX4 yX4_push yX4_push, Cond.initialized RX4, Cond.code yX4_push cX4_push 2 none, Cond.fieldLink RX4 18 "ShelfStages$History" "size" "I", Cond.fieldLink RX4 22 "ShelfStages$History" "oldest" "I"]
def wsX9_removeSubstitute_r2 : List Cond := [Cond.fieldLink RX4 11 "ShelfStages$History" "states" "[LShelfStages$State;", Cond.methodLink RX4 25 yX8_copyFrom, Cond.instanceMethod yX8_copyFrom, Cond.selects RX8 yX8_copyFrom yX8_copyFrom, Cond.initialized RX8, Cond.code yX8_copyFrom cX8_copyFrom 2 none, Cond.fieldLink RX8 12 "ShelfStages$State" "goods" "LShelfStages$Goods;", Cond.fieldLink RX8 21 "ShelfStages$State" "batches" "LShelfStages$Batches;", Cond.fieldLink RX8 28 "ShelfStages$State" "orders" "LShelfStages$Orders;", Cond.fieldLink RX8 35 "ShelfStages$State" "stages" "LShelfStages$Stages;", Cond.fieldLink RX8 42 "ShelfStages$State" "log" "LShelfStages$Log;", Cond.fieldLink RX8 46 "ShelfStages$State" "settings" "[I", Cond.fieldLink RX8 70 "ShelfStages$State" "rebate" "F", Cond.fieldLink RX8 74 "ShelfStages$State" "day" "I", Cond.methodLink RX8 50 yX3_copyFrom, Cond.instanceMethod yX3_copyFrom, Cond.selects RX3 yX3_copyFrom yX3_copyFrom, Cond.initialized RX3, Cond.code yX3_copyFrom cX3_copyFrom 2 none, Cond.fieldLink RX3 24 "ShelfStages$Goods" "size" "I", Cond.fieldLink RX3 9 "ShelfStages$Goods" "price" "[I", Cond.fieldLink RX3 15 "ShelfStages$Goods" "life" "[I", Cond.fieldLink RX3 18 "ShelfStages$Goods" "listed" "[I", Cond.fieldLink RX3 21 "ShelfStages$Goods" "list" "[I"]
def wsX9_removeSubstitute_r3 : List Cond := [Cond.static yX9_copyRow, Cond.code yX9_copyRow cX9_copyRow 2 none, Cond.methodLink RX9 357 Lib.Math.min.name, Cond.static Lib.Math.min.name, Cond.initialized "java/lang/Math", Cond.code Lib.Math.min.name Lib.Math.min.code 2 (some .int), Cond.methodLink RX9 362 arraycopyName, Cond.native arraycopyName, Cond.static arraycopyName, Cond.initialized "java/lang/System", Cond.methodLink RX8 54 yX0_copyFrom, Cond.instanceMethod yX0_copyFrom, Cond.selects RX0 yX0_copyFrom yX0_copyFrom, Cond.initialized RX0, Cond.code yX0_copyFrom cX0_copyFrom 3 none, Cond.fieldLink RX0 38 "ShelfStages$Batches" "size" "I", Cond.fieldLink RX0 9 "ShelfStages$Batches" "good" "[I", Cond.fieldLink RX0 15 "ShelfStages$Batches" "came" "[I", Cond.fieldLink RX0 18 "ShelfStages$Batches" "left" "[I", Cond.fieldLink RX0 21 "ShelfStages$Batches" "shelf" "[I", Cond.fieldLink RX0 24 "ShelfStages$Batches" "sold" "[I", Cond.fieldLink RX0 27 "ShelfStages$Batches" "given" "[I", Cond.fieldLink RX0 30 "ShelfStages$Batches" "cents" "[I", Cond.fieldLink RX0 35 "ShelfStages$Batches" "wasted" "[[I"]
def wsX9_removeSubstitute_r4 : List Cond := [Cond.methodLink RX8 57 yX6_copyFrom, Cond.instanceMethod yX6_copyFrom, Cond.selects RX6 yX6_copyFrom yX6_copyFrom, Cond.initialized RX6, Cond.code yX6_copyFrom cX6_copyFrom 2 none, Cond.fieldLink RX6 48 "ShelfStages$Orders" "size" "I", Cond.fieldLink RX6 52 "ShelfStages$Orders" "takes" "I", Cond.fieldLink RX6 9 "ShelfStages$Orders" "good" "[I", Cond.fieldLink RX6 15 "ShelfStages$Orders" "wanted" "[I", Cond.fieldLink RX6 18 "ShelfStages$Orders" "got" "[I", Cond.fieldLink RX6 21 "ShelfStages$Orders" "replaced" "[I", Cond.fieldLink RX6 24 "ShelfStages$Orders" "least" "[I", Cond.fieldLink RX6 27 "ShelfStages$Orders" "accepts" "[I", Cond.fieldLink RX6 30 "ShelfStages$Orders" "parts" "[I", Cond.fieldLink RX6 33 "ShelfStages$Orders" "due" "[I", Cond.fieldLink RX6 36 "ShelfStages$Orders" "day" "[I", Cond.fieldLink RX6 39 "ShelfStages$Orders" "firstTake" "[I", Cond.fieldLink RX6 42 "ShelfStages$Orders" "takeBatch" "[I", Cond.fieldLink RX6 45 "ShelfStages$Orders" "takeUnits" "[I", Cond.methodLink RX8 60 yX7_copyFrom, Cond.instanceMethod yX7_copyFrom, Cond.selects RX7 yX7_copyFrom yX7_copyFrom, Cond.initialized RX7, Cond.code yX7_copyFrom cX7_copyFrom 3 none]
def wsX9_removeSubstitute_r5 : List Cond := [Cond.fieldLink RX7 9 "ShelfStages$Stages" "share" "[I", Cond.fieldLink RX7 18 "ShelfStages$Stages" "markdown" "[F", Cond.methodLink RX8 63 yX5_copyFrom, Cond.instanceMethod yX5_copyFrom, Cond.selects RX5 yX5_copyFrom yX5_copyFrom, Cond.initialized RX5, Cond.code yX5_copyFrom cX5_copyFrom 2 none, Cond.fieldLink RX5 24 "ShelfStages$Log" "size" "I", Cond.fieldLink RX5 28 "ShelfStages$Log" "next" "I", Cond.fieldLink RX5 9 "ShelfStages$Log" "kind" "[I", Cond.fieldLink RX5 15 "ShelfStages$Log" "batch" "[I", Cond.fieldLink RX5 18 "ShelfStages$Log" "units" "[I", Cond.fieldLink RX5 21 "ShelfStages$Log" "day" "[I", Cond.methodLink RX9 91 yX3_removeFrom, Cond.instanceMethod yX3_removeFrom, Cond.selects RX3 yX3_removeFrom yX3_removeFrom, Cond.code yX3_removeFrom cX3_removeFrom 6 (some .int)]
def wsX9_removeSubstitute : List Cond := .code yX9_removeSubstitute cX9_removeSubstitute 4 (some .int) :: ((wsX9_removeSubstitute_r1 ++ (wsX9_removeSubstitute_r2 ++ (wsX9_removeSubstitute_r3 ++ (wsX9_removeSubstitute_r4 ++ wsX9_removeSubstitute_r5)))) ++ wsX90 ++ wsX80 ++ wsX30 ++ wsX40 ++ wsX00 ++ wsX60 ++ wsX70 ++ wsX50)
def wsX9_floatOfBits : List Cond := .code yX9_floatOfBits cX9_floatOfBits 5 (some .float) :: ([.constant RX9 353 (8388607), .constant RX9 354 (8388608), .constantFloat RX9 355 (1056964608)])
def wsX9_setStage_r1 : List Cond := [Cond.fieldLink RX9 12 "ShelfStages" "now" "LShelfStages$State;", Cond.fieldLink RX9 94 "ShelfStages$State" "stages" "LShelfStages$Stages;", Cond.constant RX9 103 (1120403456), Cond.fieldLink RX9 104 "ShelfStages$Stages" "share" "[I", Cond.fieldLink RX9 111 "ShelfStages$Stages" "markdown" "[F", Cond.fieldLink RX9 25 "ShelfStages" "history" "LShelfStages$History;", Cond.methodLink RX9 47 yX9_within, Cond.static yX9_within, Cond.initialized RX9, Cond.code yX9_within cX9_within 3 (some .boolean), Cond.methodLink RX9 98 yX7_hasRoomFor, Cond.instanceMethod yX7_hasRoomFor, Cond.selects RX7 yX7_hasRoomFor yX7_hasRoomFor, Cond.initialized RX7, Cond.code yX7_hasRoomFor cX7_hasRoomFor 4 (some .boolean), Cond.fieldLink RX7 9 "ShelfStages$Stages" "share" "[I", Cond.methodLink RX9 107 yX9_floatOfBits, Cond.static yX9_floatOfBits, Cond.code yX9_floatOfBits cX9_floatOfBits 5 (some .float), Cond.constant RX9 353 (8388607), Cond.constant RX9 354 (8388608), Cond.constantFloat RX9 355 (1056964608), Cond.methodLink RX9 61 yX4_push, Cond.instanceMethod yX4_push]
def wsX9_setStage_r2 : List Cond := [Cond.selects RX4 yX4_push yX4_push, Cond.initialized RX4, Cond.code yX4_push cX4_push 2 none, Cond.fieldLink RX4 18 "ShelfStages$History" "size" "I", Cond.fieldLink RX4 22 "ShelfStages$History" "oldest" "I", Cond.fieldLink RX4 11 "ShelfStages$History" "states" "[LShelfStages$State;", Cond.methodLink RX4 25 yX8_copyFrom, Cond.instanceMethod yX8_copyFrom, Cond.selects RX8 yX8_copyFrom yX8_copyFrom, Cond.initialized RX8, Cond.code yX8_copyFrom cX8_copyFrom 2 none, Cond.fieldLink RX8 12 "ShelfStages$State" "goods" "LShelfStages$Goods;", Cond.fieldLink RX8 21 "ShelfStages$State" "batches" "LShelfStages$Batches;", Cond.fieldLink RX8 28 "ShelfStages$State" "orders" "LShelfStages$Orders;", Cond.fieldLink RX8 35 "ShelfStages$State" "stages" "LShelfStages$Stages;", Cond.fieldLink RX8 42 "ShelfStages$State" "log" "LShelfStages$Log;", Cond.fieldLink RX8 46 "ShelfStages$State" "settings" "[I", Cond.fieldLink RX8 70 "ShelfStages$State" "rebate" "F", Cond.fieldLink RX8 74 "ShelfStages$State" "day" "I", Cond.methodLink RX8 50 yX3_copyFrom, Cond.instanceMethod yX3_copyFrom, Cond.selects RX3 yX3_copyFrom yX3_copyFrom, Cond.initialized RX3, Cond.code yX3_copyFrom cX3_copyFrom 2 none]
def wsX9_setStage_r3 : List Cond := [Cond.fieldLink RX3 24 "ShelfStages$Goods" "size" "I", Cond.fieldLink RX3 9 "ShelfStages$Goods" "price" "[I", Cond.fieldLink RX3 15 "ShelfStages$Goods" "life" "[I", Cond.fieldLink RX3 18 "ShelfStages$Goods" "listed" "[I", Cond.fieldLink RX3 21 "ShelfStages$Goods" "list" "[I", Cond.static yX9_copyRow, Cond.code yX9_copyRow cX9_copyRow 2 none, Cond.methodLink RX9 357 Lib.Math.min.name, Cond.static Lib.Math.min.name, Cond.initialized "java/lang/Math", Cond.code Lib.Math.min.name Lib.Math.min.code 2 (some .int), Cond.methodLink RX9 362 arraycopyName, Cond.native arraycopyName, Cond.static arraycopyName, Cond.initialized "java/lang/System", Cond.methodLink RX8 54 yX0_copyFrom, Cond.instanceMethod yX0_copyFrom, Cond.selects RX0 yX0_copyFrom yX0_copyFrom, Cond.initialized RX0, Cond.code yX0_copyFrom cX0_copyFrom 3 none, Cond.fieldLink RX0 38 "ShelfStages$Batches" "size" "I", Cond.fieldLink RX0 9 "ShelfStages$Batches" "good" "[I", Cond.fieldLink RX0 15 "ShelfStages$Batches" "came" "[I", Cond.fieldLink RX0 18 "ShelfStages$Batches" "left" "[I"]
def wsX9_setStage_r4 : List Cond := [Cond.fieldLink RX0 21 "ShelfStages$Batches" "shelf" "[I", Cond.fieldLink RX0 24 "ShelfStages$Batches" "sold" "[I", Cond.fieldLink RX0 27 "ShelfStages$Batches" "given" "[I", Cond.fieldLink RX0 30 "ShelfStages$Batches" "cents" "[I", Cond.fieldLink RX0 35 "ShelfStages$Batches" "wasted" "[[I", Cond.methodLink RX8 57 yX6_copyFrom, Cond.instanceMethod yX6_copyFrom, Cond.selects RX6 yX6_copyFrom yX6_copyFrom, Cond.initialized RX6, Cond.code yX6_copyFrom cX6_copyFrom 2 none, Cond.fieldLink RX6 48 "ShelfStages$Orders" "size" "I", Cond.fieldLink RX6 52 "ShelfStages$Orders" "takes" "I", Cond.fieldLink RX6 9 "ShelfStages$Orders" "good" "[I", Cond.fieldLink RX6 15 "ShelfStages$Orders" "wanted" "[I", Cond.fieldLink RX6 18 "ShelfStages$Orders" "got" "[I", Cond.fieldLink RX6 21 "ShelfStages$Orders" "replaced" "[I", Cond.fieldLink RX6 24 "ShelfStages$Orders" "least" "[I", Cond.fieldLink RX6 27 "ShelfStages$Orders" "accepts" "[I", Cond.fieldLink RX6 30 "ShelfStages$Orders" "parts" "[I", Cond.fieldLink RX6 33 "ShelfStages$Orders" "due" "[I", Cond.fieldLink RX6 36 "ShelfStages$Orders" "day" "[I", Cond.fieldLink RX6 39 "ShelfStages$Orders" "firstTake" "[I", Cond.fieldLink RX6 42 "ShelfStages$Orders" "takeBatch" "[I", Cond.fieldLink RX6 45 "ShelfStages$Orders" "takeUnits" "[I"]
def wsX9_setStage_r5 : List Cond := [Cond.methodLink RX8 60 yX7_copyFrom, Cond.instanceMethod yX7_copyFrom, Cond.selects RX7 yX7_copyFrom yX7_copyFrom, Cond.code yX7_copyFrom cX7_copyFrom 3 none, Cond.fieldLink RX7 18 "ShelfStages$Stages" "markdown" "[F", Cond.methodLink RX8 63 yX5_copyFrom, Cond.instanceMethod yX5_copyFrom, Cond.selects RX5 yX5_copyFrom yX5_copyFrom, Cond.initialized RX5, Cond.code yX5_copyFrom cX5_copyFrom 2 none, Cond.fieldLink RX5 24 "ShelfStages$Log" "size" "I", Cond.fieldLink RX5 28 "ShelfStages$Log" "next" "I", Cond.fieldLink RX5 9 "ShelfStages$Log" "kind" "[I", Cond.fieldLink RX5 15 "ShelfStages$Log" "batch" "[I", Cond.fieldLink RX5 18 "ShelfStages$Log" "units" "[I", Cond.fieldLink RX5 21 "ShelfStages$Log" "day" "[I"]
def wsX9_setStage : List Cond := .code yX9_setStage cX9_setStage 7 (some .int) :: ((wsX9_setStage_r1 ++ (wsX9_setStage_r2 ++ (wsX9_setStage_r3 ++ (wsX9_setStage_r4 ++ wsX9_setStage_r5)))) ++ wsX90 ++ wsX80 ++ wsX70 ++ wsX40 ++ wsX30 ++ wsX00 ++ wsX60 ++ wsX50)
def wsX9_isSetting : List Cond := .code yX9_isSetting cX9_isSetting 2 (some .boolean) :: ([.methodLink RX9 47 yX9_within, .static yX9_within, .initialized RX9, .code yX9_within cX9_within 3 (some .boolean)])
def wsX9_set_r1 : List Cond := [Cond.fieldLink RX9 12 "ShelfStages" "now" "LShelfStages$State;", Cond.fieldLink RX9 118 "ShelfStages$State" "settings" "[I", Cond.fieldLink RX9 25 "ShelfStages" "history" "LShelfStages$History;", Cond.methodLink RX9 115 yX9_isSetting, Cond.static yX9_isSetting, Cond.initialized RX9, Cond.code yX9_isSetting cX9_isSetting 2 (some .boolean), Cond.methodLink RX9 47 yX9_within, Cond.static yX9_within, Cond.code yX9_within cX9_within 3 (some .boolean), Cond.methodLink RX9 61 yX4_push, Cond.instanceMethod yX4_push, Cond.selects RX4 yX4_push yX4_push, Cond.initialized RX4, Cond.code yX4_push cX4_push 2 none, Cond.fieldLink RX4 18 "ShelfStages$History" "size" "I", Cond.fieldLink RX4 22 "ShelfStages$History" "oldest" "I", Cond.fieldLink RX4 11 "ShelfStages$History" "states" "[LShelfStages$State;", Cond.methodLink RX4 25 yX8_copyFrom, Cond.instanceMethod yX8_copyFrom, Cond.selects RX8 yX8_copyFrom yX8_copyFrom, Cond.initialized RX8, Cond.code yX8_copyFrom cX8_copyFrom 2 none, Cond.fieldLink RX8 12 "ShelfStages$State" "goods" "LShelfStages$Goods;"]
def wsX9_set_r2 : List Cond := [Cond.fieldLink RX8 21 "ShelfStages$State" "batches" "LShelfStages$Batches;", Cond.fieldLink RX8 28 "ShelfStages$State" "orders" "LShelfStages$Orders;", Cond.fieldLink RX8 35 "ShelfStages$State" "stages" "LShelfStages$Stages;", Cond.fieldLink RX8 42 "ShelfStages$State" "log" "LShelfStages$Log;", Cond.fieldLink RX8 46 "ShelfStages$State" "settings" "[I", Cond.fieldLink RX8 70 "ShelfStages$State" "rebate" "F", Cond.fieldLink RX8 74 "ShelfStages$State" "day" "I", Cond.methodLink RX8 50 yX3_copyFrom, Cond.instanceMethod yX3_copyFrom, Cond.selects RX3 yX3_copyFrom yX3_copyFrom, Cond.initialized RX3, Cond.code yX3_copyFrom cX3_copyFrom 2 none, Cond.fieldLink RX3 24 "ShelfStages$Goods" "size" "I", Cond.fieldLink RX3 9 "ShelfStages$Goods" "price" "[I", Cond.fieldLink RX3 15 "ShelfStages$Goods" "life" "[I", Cond.fieldLink RX3 18 "ShelfStages$Goods" "listed" "[I", Cond.fieldLink RX3 21 "ShelfStages$Goods" "list" "[I", Cond.static yX9_copyRow, Cond.code yX9_copyRow cX9_copyRow 2 none, Cond.methodLink RX9 357 Lib.Math.min.name, Cond.static Lib.Math.min.name, Cond.initialized "java/lang/Math", Cond.code Lib.Math.min.name Lib.Math.min.code 2 (some .int), Cond.methodLink RX9 362 arraycopyName]
def wsX9_set_r3 : List Cond := [Cond.native arraycopyName, Cond.static arraycopyName, Cond.initialized "java/lang/System", Cond.methodLink RX8 54 yX0_copyFrom, Cond.instanceMethod yX0_copyFrom, Cond.selects RX0 yX0_copyFrom yX0_copyFrom, Cond.initialized RX0, Cond.code yX0_copyFrom cX0_copyFrom 3 none, Cond.fieldLink RX0 38 "ShelfStages$Batches" "size" "I", Cond.fieldLink RX0 9 "ShelfStages$Batches" "good" "[I", Cond.fieldLink RX0 15 "ShelfStages$Batches" "came" "[I", Cond.fieldLink RX0 18 "ShelfStages$Batches" "left" "[I", Cond.fieldLink RX0 21 "ShelfStages$Batches" "shelf" "[I", Cond.fieldLink RX0 24 "ShelfStages$Batches" "sold" "[I", Cond.fieldLink RX0 27 "ShelfStages$Batches" "given" "[I", Cond.fieldLink RX0 30 "ShelfStages$Batches" "cents" "[I", Cond.fieldLink RX0 35 "ShelfStages$Batches" "wasted" "[[I", Cond.methodLink RX8 57 yX6_copyFrom, Cond.instanceMethod yX6_copyFrom, Cond.selects RX6 yX6_copyFrom yX6_copyFrom, Cond.initialized RX6, Cond.code yX6_copyFrom cX6_copyFrom 2 none, Cond.fieldLink RX6 48 "ShelfStages$Orders" "size" "I", Cond.fieldLink RX6 52 "ShelfStages$Orders" "takes" "I"]
def wsX9_set_r4 : List Cond := [Cond.fieldLink RX6 9 "ShelfStages$Orders" "good" "[I", Cond.fieldLink RX6 15 "ShelfStages$Orders" "wanted" "[I", Cond.fieldLink RX6 18 "ShelfStages$Orders" "got" "[I", Cond.fieldLink RX6 21 "ShelfStages$Orders" "replaced" "[I", Cond.fieldLink RX6 24 "ShelfStages$Orders" "least" "[I", Cond.fieldLink RX6 27 "ShelfStages$Orders" "accepts" "[I", Cond.fieldLink RX6 30 "ShelfStages$Orders" "parts" "[I", Cond.fieldLink RX6 33 "ShelfStages$Orders" "due" "[I", Cond.fieldLink RX6 36 "ShelfStages$Orders" "day" "[I", Cond.fieldLink RX6 39 "ShelfStages$Orders" "firstTake" "[I", Cond.fieldLink RX6 42 "ShelfStages$Orders" "takeBatch" "[I", Cond.fieldLink RX6 45 "ShelfStages$Orders" "takeUnits" "[I", Cond.methodLink RX8 60 yX7_copyFrom, Cond.instanceMethod yX7_copyFrom, Cond.selects RX7 yX7_copyFrom yX7_copyFrom, Cond.initialized RX7, Cond.code yX7_copyFrom cX7_copyFrom 3 none, Cond.fieldLink RX7 9 "ShelfStages$Stages" "share" "[I", Cond.fieldLink RX7 18 "ShelfStages$Stages" "markdown" "[F", Cond.methodLink RX8 63 yX5_copyFrom, Cond.instanceMethod yX5_copyFrom, Cond.selects RX5 yX5_copyFrom yX5_copyFrom, Cond.initialized RX5, Cond.code yX5_copyFrom cX5_copyFrom 2 none]
def wsX9_set_r5 : List Cond := [Cond.fieldLink RX5 24 "ShelfStages$Log" "size" "I", Cond.fieldLink RX5 28 "ShelfStages$Log" "next" "I", Cond.fieldLink RX5 9 "ShelfStages$Log" "kind" "[I", Cond.fieldLink RX5 15 "ShelfStages$Log" "batch" "[I", Cond.fieldLink RX5 18 "ShelfStages$Log" "units" "[I", Cond.fieldLink RX5 21 "ShelfStages$Log" "day" "[I"]
def wsX9_set : List Cond := .code yX9_set cX9_set 4 (some .int) :: ((wsX9_set_r1 ++ (wsX9_set_r2 ++ (wsX9_set_r3 ++ (wsX9_set_r4 ++ wsX9_set_r5)))) ++ wsX90 ++ wsX80 ++ wsX40 ++ wsX30 ++ wsX00 ++ wsX60 ++ wsX70 ++ wsX50)
def wsX9_setRebate_r1 : List Cond := [Cond.constant RX9 121 (1106247680), Cond.fieldLink RX9 12 "ShelfStages" "now" "LShelfStages$State;", Cond.fieldLink RX9 122 "ShelfStages$State" "rebate" "F", Cond.fieldLink RX9 25 "ShelfStages" "history" "LShelfStages$History;", Cond.methodLink RX9 47 yX9_within, Cond.static yX9_within, Cond.initialized RX9, Cond.code yX9_within cX9_within 3 (some .boolean), Cond.methodLink RX9 107 yX9_floatOfBits, Cond.static yX9_floatOfBits, Cond.code yX9_floatOfBits cX9_floatOfBits 5 (some .float), Cond.constant RX9 353 (8388607), Cond.constant RX9 354 (8388608), Cond.constantFloat RX9 355 (1056964608), Cond.methodLink RX9 61 yX4_push, Cond.instanceMethod yX4_push, Cond.selects RX4 yX4_push yX4_push, Cond.initialized RX4, Cond.code yX4_push cX4_push 2 none, Cond.fieldLink RX4 18 "ShelfStages$History" "size" "I", Cond.fieldLink RX4 22 "ShelfStages$History" "oldest" "I", Cond.fieldLink RX4 11 "ShelfStages$History" "states" "[LShelfStages$State;", Cond.methodLink RX4 25 yX8_copyFrom, Cond.instanceMethod yX8_copyFrom]
def wsX9_setRebate_r2 : List Cond := [Cond.selects RX8 yX8_copyFrom yX8_copyFrom, Cond.initialized RX8, Cond.code yX8_copyFrom cX8_copyFrom 2 none, Cond.fieldLink RX8 12 "ShelfStages$State" "goods" "LShelfStages$Goods;", Cond.fieldLink RX8 21 "ShelfStages$State" "batches" "LShelfStages$Batches;", Cond.fieldLink RX8 28 "ShelfStages$State" "orders" "LShelfStages$Orders;", Cond.fieldLink RX8 35 "ShelfStages$State" "stages" "LShelfStages$Stages;", Cond.fieldLink RX8 42 "ShelfStages$State" "log" "LShelfStages$Log;", Cond.fieldLink RX8 46 "ShelfStages$State" "settings" "[I", Cond.fieldLink RX8 70 "ShelfStages$State" "rebate" "F", Cond.fieldLink RX8 74 "ShelfStages$State" "day" "I", Cond.methodLink RX8 50 yX3_copyFrom, Cond.instanceMethod yX3_copyFrom, Cond.selects RX3 yX3_copyFrom yX3_copyFrom, Cond.initialized RX3, Cond.code yX3_copyFrom cX3_copyFrom 2 none, Cond.fieldLink RX3 24 "ShelfStages$Goods" "size" "I", Cond.fieldLink RX3 9 "ShelfStages$Goods" "price" "[I", Cond.fieldLink RX3 15 "ShelfStages$Goods" "life" "[I", Cond.fieldLink RX3 18 "ShelfStages$Goods" "listed" "[I", Cond.fieldLink RX3 21 "ShelfStages$Goods" "list" "[I", Cond.static yX9_copyRow, Cond.code yX9_copyRow cX9_copyRow 2 none, Cond.methodLink RX9 357 Lib.Math.min.name]
def wsX9_setRebate_r3 : List Cond := [Cond.static Lib.Math.min.name, Cond.initialized "java/lang/Math", Cond.code Lib.Math.min.name Lib.Math.min.code 2 (some .int), Cond.methodLink RX9 362 arraycopyName, Cond.native arraycopyName, Cond.static arraycopyName, Cond.initialized "java/lang/System", Cond.methodLink RX8 54 yX0_copyFrom, Cond.instanceMethod yX0_copyFrom, Cond.selects RX0 yX0_copyFrom yX0_copyFrom, Cond.initialized RX0, Cond.code yX0_copyFrom cX0_copyFrom 3 none, Cond.fieldLink RX0 38 "ShelfStages$Batches" "size" "I", Cond.fieldLink RX0 9 "ShelfStages$Batches" "good" "[I", Cond.fieldLink RX0 15 "ShelfStages$Batches" "came" "[I", Cond.fieldLink RX0 18 "ShelfStages$Batches" "left" "[I", Cond.fieldLink RX0 21 "ShelfStages$Batches" "shelf" "[I", Cond.fieldLink RX0 24 "ShelfStages$Batches" "sold" "[I", Cond.fieldLink RX0 27 "ShelfStages$Batches" "given" "[I", Cond.fieldLink RX0 30 "ShelfStages$Batches" "cents" "[I", Cond.fieldLink RX0 35 "ShelfStages$Batches" "wasted" "[[I", Cond.methodLink RX8 57 yX6_copyFrom, Cond.instanceMethod yX6_copyFrom, Cond.selects RX6 yX6_copyFrom yX6_copyFrom]
def wsX9_setRebate_r4 : List Cond := [Cond.initialized RX6, Cond.code yX6_copyFrom cX6_copyFrom 2 none, Cond.fieldLink RX6 48 "ShelfStages$Orders" "size" "I", Cond.fieldLink RX6 52 "ShelfStages$Orders" "takes" "I", Cond.fieldLink RX6 9 "ShelfStages$Orders" "good" "[I", Cond.fieldLink RX6 15 "ShelfStages$Orders" "wanted" "[I", Cond.fieldLink RX6 18 "ShelfStages$Orders" "got" "[I", Cond.fieldLink RX6 21 "ShelfStages$Orders" "replaced" "[I", Cond.fieldLink RX6 24 "ShelfStages$Orders" "least" "[I", Cond.fieldLink RX6 27 "ShelfStages$Orders" "accepts" "[I", Cond.fieldLink RX6 30 "ShelfStages$Orders" "parts" "[I", Cond.fieldLink RX6 33 "ShelfStages$Orders" "due" "[I", Cond.fieldLink RX6 36 "ShelfStages$Orders" "day" "[I", Cond.fieldLink RX6 39 "ShelfStages$Orders" "firstTake" "[I", Cond.fieldLink RX6 42 "ShelfStages$Orders" "takeBatch" "[I", Cond.fieldLink RX6 45 "ShelfStages$Orders" "takeUnits" "[I", Cond.methodLink RX8 60 yX7_copyFrom, Cond.instanceMethod yX7_copyFrom, Cond.selects RX7 yX7_copyFrom yX7_copyFrom, Cond.initialized RX7, Cond.code yX7_copyFrom cX7_copyFrom 3 none, Cond.fieldLink RX7 9 "ShelfStages$Stages" "share" "[I", Cond.fieldLink RX7 18 "ShelfStages$Stages" "markdown" "[F", Cond.methodLink RX8 63 yX5_copyFrom]
def wsX9_setRebate_r5 : List Cond := [Cond.instanceMethod yX5_copyFrom, Cond.selects RX5 yX5_copyFrom yX5_copyFrom, Cond.initialized RX5, Cond.code yX5_copyFrom cX5_copyFrom 2 none, Cond.fieldLink RX5 24 "ShelfStages$Log" "size" "I", Cond.fieldLink RX5 28 "ShelfStages$Log" "next" "I", Cond.fieldLink RX5 9 "ShelfStages$Log" "kind" "[I", Cond.fieldLink RX5 15 "ShelfStages$Log" "batch" "[I", Cond.fieldLink RX5 18 "ShelfStages$Log" "units" "[I", Cond.fieldLink RX5 21 "ShelfStages$Log" "day" "[I"]
def wsX9_setRebate : List Cond := .code yX9_setRebate cX9_setRebate 3 (some .int) :: ((wsX9_setRebate_r1 ++ (wsX9_setRebate_r2 ++ (wsX9_setRebate_r3 ++ (wsX9_setRebate_r4 ++ wsX9_setRebate_r5)))) ++ wsX90 ++ wsX80 ++ wsX40 ++ wsX30 ++ wsX00 ++ wsX60 ++ wsX70 ++ wsX50)
def wsX9_isSupply : List Cond := .code yX9_isSupply cX9_isSupply 4 (some .boolean) :: ([.fieldLink RX9 12 "ShelfStages" "now" "LShelfStages$State;", .fieldLink RX9 51 "ShelfStages$State" "goods" "LShelfStages$Goods;", .fieldLink RX9 220 "ShelfStages$Goods" "life" "[I", .methodLink RX9 47 yX9_within, .static yX9_within, .initialized RX9, .code yX9_within cX9_within 3 (some .boolean)] ++ wsX90 ++ wsX80 ++ wsX30)
def wsX9_bring_r1 : List Cond := [Cond.fieldLink RX9 12 "ShelfStages" "now" "LShelfStages$State;", Cond.fieldLink RX9 129 "ShelfStages$State" "batches" "LShelfStages$Batches;", Cond.fieldLink RX9 133 "ShelfStages$Batches" "size" "I", Cond.fieldLink RX9 25 "ShelfStages" "history" "LShelfStages$History;", Cond.methodLink RX9 69 yX9_hasGood, Cond.instanceMethod yX9_hasGood, Cond.selects RX9 yX9_hasGood yX9_hasGood, Cond.initialized RX9, Cond.code yX9_hasGood cX9_hasGood 2 (some .boolean), Cond.fieldLink RX9 51 "ShelfStages$State" "goods" "LShelfStages$Goods;", Cond.fieldLink RX9 55 "ShelfStages$Goods" "size" "I", Cond.methodLink RX9 47 yX9_within, Cond.static yX9_within, Cond.code yX9_within cX9_within 3 (some .boolean), Cond.methodLink RX9 126 yX9_isSupply, Cond.instanceMethod yX9_isSupply, Cond.selects RX9 yX9_isSupply yX9_isSupply, Cond.code yX9_isSupply cX9_isSupply 4 (some .boolean), Cond.fieldLink RX9 220 "ShelfStages$Goods" "life" "[I", Cond.methodLink RX9 61 yX4_push, Cond.instanceMethod yX4_push, Cond.selects RX4 yX4_push yX4_push, Cond.initialized RX4, Cond.code yX4_push cX4_push 2 none]
def wsX9_bring_r2 : List Cond := [Cond.fieldLink RX4 18 "ShelfStages$History" "size" "I", Cond.fieldLink RX4 22 "ShelfStages$History" "oldest" "I", Cond.fieldLink RX4 11 "ShelfStages$History" "states" "[LShelfStages$State;", Cond.methodLink RX4 25 yX8_copyFrom, Cond.instanceMethod yX8_copyFrom, Cond.selects RX8 yX8_copyFrom yX8_copyFrom, Cond.initialized RX8, Cond.code yX8_copyFrom cX8_copyFrom 2 none, Cond.fieldLink RX8 12 "ShelfStages$State" "goods" "LShelfStages$Goods;", Cond.fieldLink RX8 21 "ShelfStages$State" "batches" "LShelfStages$Batches;", Cond.fieldLink RX8 28 "ShelfStages$State" "orders" "LShelfStages$Orders;", Cond.fieldLink RX8 35 "ShelfStages$State" "stages" "LShelfStages$Stages;", Cond.fieldLink RX8 42 "ShelfStages$State" "log" "LShelfStages$Log;", Cond.fieldLink RX8 46 "ShelfStages$State" "settings" "[I", Cond.fieldLink RX8 70 "ShelfStages$State" "rebate" "F", Cond.fieldLink RX8 74 "ShelfStages$State" "day" "I", Cond.methodLink RX8 50 yX3_copyFrom, Cond.instanceMethod yX3_copyFrom, Cond.selects RX3 yX3_copyFrom yX3_copyFrom, Cond.initialized RX3, Cond.code yX3_copyFrom cX3_copyFrom 2 none, Cond.fieldLink RX3 24 "ShelfStages$Goods" "size" "I", Cond.fieldLink RX3 9 "ShelfStages$Goods" "price" "[I", Cond.fieldLink RX3 15 "ShelfStages$Goods" "life" "[I"]
def wsX9_bring_r3 : List Cond := [Cond.fieldLink RX3 18 "ShelfStages$Goods" "listed" "[I", Cond.fieldLink RX3 21 "ShelfStages$Goods" "list" "[I", Cond.static yX9_copyRow, Cond.code yX9_copyRow cX9_copyRow 2 none, Cond.methodLink RX9 357 Lib.Math.min.name, Cond.static Lib.Math.min.name, Cond.initialized "java/lang/Math", Cond.code Lib.Math.min.name Lib.Math.min.code 2 (some .int), Cond.methodLink RX9 362 arraycopyName, Cond.native arraycopyName, Cond.static arraycopyName, Cond.initialized "java/lang/System", Cond.methodLink RX8 54 yX0_copyFrom, Cond.instanceMethod yX0_copyFrom, Cond.selects RX0 yX0_copyFrom yX0_copyFrom, Cond.initialized RX0, Cond.code yX0_copyFrom cX0_copyFrom 3 none, Cond.fieldLink RX0 38 "ShelfStages$Batches" "size" "I", Cond.fieldLink RX0 9 "ShelfStages$Batches" "good" "[I", Cond.fieldLink RX0 15 "ShelfStages$Batches" "came" "[I", Cond.fieldLink RX0 18 "ShelfStages$Batches" "left" "[I", Cond.fieldLink RX0 21 "ShelfStages$Batches" "shelf" "[I", Cond.fieldLink RX0 24 "ShelfStages$Batches" "sold" "[I", Cond.fieldLink RX0 27 "ShelfStages$Batches" "given" "[I"]
def wsX9_bring_r4 : List Cond := [Cond.fieldLink RX0 30 "ShelfStages$Batches" "cents" "[I", Cond.fieldLink RX0 35 "ShelfStages$Batches" "wasted" "[[I", Cond.methodLink RX8 57 yX6_copyFrom, Cond.instanceMethod yX6_copyFrom, Cond.selects RX6 yX6_copyFrom yX6_copyFrom, Cond.initialized RX6, Cond.code yX6_copyFrom cX6_copyFrom 2 none, Cond.fieldLink RX6 48 "ShelfStages$Orders" "size" "I", Cond.fieldLink RX6 52 "ShelfStages$Orders" "takes" "I", Cond.fieldLink RX6 9 "ShelfStages$Orders" "good" "[I", Cond.fieldLink RX6 15 "ShelfStages$Orders" "wanted" "[I", Cond.fieldLink RX6 18 "ShelfStages$Orders" "got" "[I", Cond.fieldLink RX6 21 "ShelfStages$Orders" "replaced" "[I", Cond.fieldLink RX6 24 "ShelfStages$Orders" "least" "[I", Cond.fieldLink RX6 27 "ShelfStages$Orders" "accepts" "[I", Cond.fieldLink RX6 30 "ShelfStages$Orders" "parts" "[I", Cond.fieldLink RX6 33 "ShelfStages$Orders" "due" "[I", Cond.fieldLink RX6 36 "ShelfStages$Orders" "day" "[I", Cond.fieldLink RX6 39 "ShelfStages$Orders" "firstTake" "[I", Cond.fieldLink RX6 42 "ShelfStages$Orders" "takeBatch" "[I", Cond.fieldLink RX6 45 "ShelfStages$Orders" "takeUnits" "[I", Cond.methodLink RX8 60 yX7_copyFrom, Cond.instanceMethod yX7_copyFrom, Cond.selects RX7 yX7_copyFrom yX7_copyFrom]
def wsX9_bring_r5 : List Cond := [Cond.initialized RX7, Cond.code yX7_copyFrom cX7_copyFrom 3 none, Cond.fieldLink RX7 9 "ShelfStages$Stages" "share" "[I", Cond.fieldLink RX7 18 "ShelfStages$Stages" "markdown" "[F", Cond.methodLink RX8 63 yX5_copyFrom, Cond.instanceMethod yX5_copyFrom, Cond.selects RX5 yX5_copyFrom yX5_copyFrom, Cond.initialized RX5, Cond.code yX5_copyFrom cX5_copyFrom 2 none, Cond.fieldLink RX5 24 "ShelfStages$Log" "size" "I", Cond.fieldLink RX5 28 "ShelfStages$Log" "next" "I", Cond.fieldLink RX5 9 "ShelfStages$Log" "kind" "[I", Cond.fieldLink RX5 15 "ShelfStages$Log" "batch" "[I", Cond.fieldLink RX5 18 "ShelfStages$Log" "units" "[I", Cond.fieldLink RX5 21 "ShelfStages$Log" "day" "[I", Cond.methodLink RX9 136 yX8_receive, Cond.instanceMethod yX8_receive, Cond.selects RX8 yX8_receive yX8_receive, Cond.code yX8_receive cX8_receive 5 (some .int), Cond.methodLink RX8 113 yX0_append, Cond.instanceMethod yX0_append, Cond.selects RX0 yX0_append yX0_append, Cond.code yX0_append cX0_append 5 (some .int), Cond.methodLink RX8 117 yX5_append]
def wsX9_bring_r6 : List Cond := [Cond.instanceMethod yX5_append, Cond.selects RX5 yX5_append yX5_append, Cond.code yX5_append cX5_append 5 none, Cond.methodLink RX5 35 Lib.Math.min.name]
def wsX9_bring : List Cond := .code yX9_bring cX9_bring 4 (some .int) :: ((wsX9_bring_r1 ++ (wsX9_bring_r2 ++ (wsX9_bring_r3 ++ (wsX9_bring_r4 ++ (wsX9_bring_r5 ++ wsX9_bring_r6))))) ++ wsX90 ++ wsX80 ++ wsX00 ++ wsX30 ++ wsX40 ++ wsX60 ++ wsX70 ++ wsX50)
def wsX9_leftIn : List Cond := .code yX9_leftIn cX9_leftIn 4 (some .int) :: ([.fieldLink RX9 39 "ShelfStages" "delivery" "LShelfStages$Delivery;", .fieldLink RX9 12 "ShelfStages" "now" "LShelfStages$State;", .fieldLink RX9 51 "ShelfStages$State" "goods" "LShelfStages$Goods;", .fieldLink RX9 220 "ShelfStages$Goods" "life" "[I", .methodLink RX9 351 yX1_leftIn, .instanceMethod yX1_leftIn, .selects RX1 yX1_leftIn yX1_leftIn, .initialized RX1, .code yX1_leftIn cX1_leftIn 2 (some .int), .fieldLink RX1 13 "ShelfStages$Delivery" "numbers" "[[I"] ++ wsX90 ++ wsX80 ++ wsX30 ++ wsX10)
def wsX9_deliveryError_r1 : List Cond := [Cond.fieldLink RX9 39 "ShelfStages" "delivery" "LShelfStages$Delivery;", Cond.fieldLink RX9 151 "ShelfStages$Delivery" "size" "I", Cond.fieldLink RX9 12 "ShelfStages" "now" "LShelfStages$State;", Cond.fieldLink RX9 129 "ShelfStages$State" "batches" "LShelfStages$Batches;", Cond.fieldLink RX9 133 "ShelfStages$Batches" "size" "I", Cond.methodLink RX9 152 yX1_goodIn, Cond.instanceMethod yX1_goodIn, Cond.selects RX1 yX1_goodIn yX1_goodIn, Cond.initialized RX1, Cond.code yX1_goodIn cX1_goodIn 2 (some .int), Cond.fieldLink RX1 13 "ShelfStages$Delivery" "numbers" "[[I", Cond.methodLink RX9 69 yX9_hasGood, Cond.instanceMethod yX9_hasGood, Cond.selects RX9 yX9_hasGood yX9_hasGood, Cond.initialized RX9, Cond.code yX9_hasGood cX9_hasGood 2 (some .boolean), Cond.fieldLink RX9 51 "ShelfStages$State" "goods" "LShelfStages$Goods;", Cond.fieldLink RX9 55 "ShelfStages$Goods" "size" "I", Cond.methodLink RX9 47 yX9_within, Cond.static yX9_within, Cond.code yX9_within cX9_within 3 (some .boolean), Cond.methodLink RX9 156 yX1_unitsIn, Cond.instanceMethod yX1_unitsIn, Cond.selects RX1 yX1_unitsIn yX1_unitsIn]
def wsX9_deliveryError_r2 : List Cond := [Cond.code yX1_unitsIn cX1_unitsIn 2 (some .int), Cond.methodLink RX9 159 yX9_leftIn, Cond.instanceMethod yX9_leftIn, Cond.selects RX9 yX9_leftIn yX9_leftIn, Cond.code yX9_leftIn cX9_leftIn 4 (some .int), Cond.fieldLink RX9 220 "ShelfStages$Goods" "life" "[I", Cond.methodLink RX9 351 yX1_leftIn, Cond.instanceMethod yX1_leftIn, Cond.selects RX1 yX1_leftIn yX1_leftIn, Cond.code yX1_leftIn cX1_leftIn 2 (some .int), Cond.methodLink RX9 126 yX9_isSupply, Cond.instanceMethod yX9_isSupply, Cond.selects RX9 yX9_isSupply yX9_isSupply, Cond.code yX9_isSupply cX9_isSupply 4 (some .boolean)]
def wsX9_deliveryError : List Cond := .code yX9_deliveryError cX9_deliveryError 3 (some .int) :: ((wsX9_deliveryError_r1 ++ wsX9_deliveryError_r2) ++ wsX90 ++ wsX10 ++ wsX80 ++ wsX00 ++ wsX30)
def wsX9_readDelivery_r1 : List Cond := [Cond.fieldLink RX9 39 "ShelfStages" "delivery" "LShelfStages$Delivery;", Cond.fieldLink RX9 43 "ShelfStages" "text" "[C", Cond.fieldLink RX9 140 "ShelfStages" "textLength" "I", Cond.fieldLink RX9 25 "ShelfStages" "history" "LShelfStages$History;", Cond.fieldLink RX9 12 "ShelfStages" "now" "LShelfStages$State;", Cond.fieldLink RX9 151 "ShelfStages$Delivery" "size" "I", Cond.methodLink RX9 143 yX1_read, Cond.instanceMethod yX1_read, Cond.selects RX1 yX1_read yX1_read, Cond.initialized RX1, Cond.code yX1_read cX1_read 4 (some .int), Cond.fieldLink RX1 16 "ShelfStages$Delivery" "size" "I", Cond.fieldLink RX1 28 "ShelfStages$Delivery" "part" "I", Cond.fieldLink RX1 31 "ShelfStages$Delivery" "digits" "I", Cond.methodLink RX1 20 yX1_openEntry, Cond.instanceMethod yX1_openEntry, Cond.selects RX1 yX1_openEntry yX1_openEntry, Cond.code yX1_openEntry cX1_openEntry 1 (some .boolean), Cond.fieldLink RX1 13 "ShelfStages$Delivery" "numbers" "[[I", Cond.methodLink RX1 38 yX1_openPart, Cond.instanceMethod yX1_openPart, Cond.selects RX1 yX1_openPart yX1_openPart, Cond.code yX1_openPart cX1_openPart 2 (some .boolean), Cond.methodLink RX1 24 yX1_accepts]
def wsX9_readDelivery_r2 : List Cond := [Cond.instanceMethod yX1_accepts, Cond.selects RX1 yX1_accepts yX1_accepts, Cond.code yX1_accepts cX1_accepts 2 (some .boolean), Cond.methodLink RX1 34 yX1_acceptsDigit, Cond.instanceMethod yX1_acceptsDigit, Cond.selects RX1 yX1_acceptsDigit yX1_acceptsDigit, Cond.code yX1_acceptsDigit cX1_acceptsDigit 5 (some .boolean), Cond.methodLink RX9 147 yX9_deliveryError, Cond.instanceMethod yX9_deliveryError, Cond.selects RX9 yX9_deliveryError yX9_deliveryError, Cond.initialized RX9, Cond.code yX9_deliveryError cX9_deliveryError 3 (some .int), Cond.fieldLink RX9 129 "ShelfStages$State" "batches" "LShelfStages$Batches;", Cond.fieldLink RX9 133 "ShelfStages$Batches" "size" "I", Cond.methodLink RX9 152 yX1_goodIn, Cond.instanceMethod yX1_goodIn, Cond.selects RX1 yX1_goodIn yX1_goodIn, Cond.code yX1_goodIn cX1_goodIn 2 (some .int), Cond.methodLink RX9 69 yX9_hasGood, Cond.instanceMethod yX9_hasGood, Cond.selects RX9 yX9_hasGood yX9_hasGood, Cond.code yX9_hasGood cX9_hasGood 2 (some .boolean), Cond.fieldLink RX9 51 "ShelfStages$State" "goods" "LShelfStages$Goods;", Cond.fieldLink RX9 55 "ShelfStages$Goods" "size" "I"]
def wsX9_readDelivery_r3 : List Cond := [Cond.methodLink RX9 47 yX9_within, Cond.static yX9_within, Cond.code yX9_within cX9_within 3 (some .boolean), Cond.methodLink RX9 156 yX1_unitsIn, Cond.instanceMethod yX1_unitsIn, Cond.selects RX1 yX1_unitsIn yX1_unitsIn, Cond.code yX1_unitsIn cX1_unitsIn 2 (some .int), Cond.methodLink RX9 159 yX9_leftIn, Cond.instanceMethod yX9_leftIn, Cond.selects RX9 yX9_leftIn yX9_leftIn, Cond.code yX9_leftIn cX9_leftIn 4 (some .int), Cond.fieldLink RX9 220 "ShelfStages$Goods" "life" "[I", Cond.methodLink RX9 351 yX1_leftIn, Cond.instanceMethod yX1_leftIn, Cond.selects RX1 yX1_leftIn yX1_leftIn, Cond.code yX1_leftIn cX1_leftIn 2 (some .int), Cond.methodLink RX9 126 yX9_isSupply, Cond.instanceMethod yX9_isSupply, Cond.selects RX9 yX9_isSupply yX9_isSupply, Cond.code yX9_isSupply cX9_isSupply 4 (some .boolean), Cond.methodLink RX9 61 yX4_push, Cond.instanceMethod yX4_push, Cond.selects RX4 yX4_push yX4_push, Cond.initialized RX4]
def wsX9_readDelivery_r4 : List Cond := [Cond.code yX4_push cX4_push 2 none, Cond.fieldLink RX4 18 "ShelfStages$History" "size" "I", Cond.fieldLink RX4 22 "ShelfStages$History" "oldest" "I", Cond.fieldLink RX4 11 "ShelfStages$History" "states" "[LShelfStages$State;", Cond.methodLink RX4 25 yX8_copyFrom, Cond.instanceMethod yX8_copyFrom, Cond.selects RX8 yX8_copyFrom yX8_copyFrom, Cond.initialized RX8, Cond.code yX8_copyFrom cX8_copyFrom 2 none, Cond.fieldLink RX8 12 "ShelfStages$State" "goods" "LShelfStages$Goods;", Cond.fieldLink RX8 21 "ShelfStages$State" "batches" "LShelfStages$Batches;", Cond.fieldLink RX8 28 "ShelfStages$State" "orders" "LShelfStages$Orders;", Cond.fieldLink RX8 35 "ShelfStages$State" "stages" "LShelfStages$Stages;", Cond.fieldLink RX8 42 "ShelfStages$State" "log" "LShelfStages$Log;", Cond.fieldLink RX8 46 "ShelfStages$State" "settings" "[I", Cond.fieldLink RX8 70 "ShelfStages$State" "rebate" "F", Cond.fieldLink RX8 74 "ShelfStages$State" "day" "I", Cond.methodLink RX8 50 yX3_copyFrom, Cond.instanceMethod yX3_copyFrom, Cond.selects RX3 yX3_copyFrom yX3_copyFrom, Cond.initialized RX3, Cond.code yX3_copyFrom cX3_copyFrom 2 none, Cond.fieldLink RX3 24 "ShelfStages$Goods" "size" "I", Cond.fieldLink RX3 9 "ShelfStages$Goods" "price" "[I"]
def wsX9_readDelivery_r5 : List Cond := [Cond.fieldLink RX3 15 "ShelfStages$Goods" "life" "[I", Cond.fieldLink RX3 18 "ShelfStages$Goods" "listed" "[I", Cond.fieldLink RX3 21 "ShelfStages$Goods" "list" "[I", Cond.static yX9_copyRow, Cond.code yX9_copyRow cX9_copyRow 2 none, Cond.methodLink RX9 357 Lib.Math.min.name, Cond.static Lib.Math.min.name, Cond.initialized "java/lang/Math", Cond.code Lib.Math.min.name Lib.Math.min.code 2 (some .int), Cond.methodLink RX9 362 arraycopyName, Cond.native arraycopyName, Cond.static arraycopyName, Cond.initialized "java/lang/System", Cond.methodLink RX8 54 yX0_copyFrom, Cond.instanceMethod yX0_copyFrom, Cond.selects RX0 yX0_copyFrom yX0_copyFrom, Cond.initialized RX0, Cond.code yX0_copyFrom cX0_copyFrom 3 none, Cond.fieldLink RX0 38 "ShelfStages$Batches" "size" "I", Cond.fieldLink RX0 9 "ShelfStages$Batches" "good" "[I", Cond.fieldLink RX0 15 "ShelfStages$Batches" "came" "[I", Cond.fieldLink RX0 18 "ShelfStages$Batches" "left" "[I", Cond.fieldLink RX0 21 "ShelfStages$Batches" "shelf" "[I", Cond.fieldLink RX0 24 "ShelfStages$Batches" "sold" "[I"]
def wsX9_readDelivery_r6 : List Cond := [Cond.fieldLink RX0 27 "ShelfStages$Batches" "given" "[I", Cond.fieldLink RX0 30 "ShelfStages$Batches" "cents" "[I", Cond.fieldLink RX0 35 "ShelfStages$Batches" "wasted" "[[I", Cond.methodLink RX8 57 yX6_copyFrom, Cond.instanceMethod yX6_copyFrom, Cond.selects RX6 yX6_copyFrom yX6_copyFrom, Cond.initialized RX6, Cond.code yX6_copyFrom cX6_copyFrom 2 none, Cond.fieldLink RX6 48 "ShelfStages$Orders" "size" "I", Cond.fieldLink RX6 52 "ShelfStages$Orders" "takes" "I", Cond.fieldLink RX6 9 "ShelfStages$Orders" "good" "[I", Cond.fieldLink RX6 15 "ShelfStages$Orders" "wanted" "[I", Cond.fieldLink RX6 18 "ShelfStages$Orders" "got" "[I", Cond.fieldLink RX6 21 "ShelfStages$Orders" "replaced" "[I", Cond.fieldLink RX6 24 "ShelfStages$Orders" "least" "[I", Cond.fieldLink RX6 27 "ShelfStages$Orders" "accepts" "[I", Cond.fieldLink RX6 30 "ShelfStages$Orders" "parts" "[I", Cond.fieldLink RX6 33 "ShelfStages$Orders" "due" "[I", Cond.fieldLink RX6 36 "ShelfStages$Orders" "day" "[I", Cond.fieldLink RX6 39 "ShelfStages$Orders" "firstTake" "[I", Cond.fieldLink RX6 42 "ShelfStages$Orders" "takeBatch" "[I", Cond.fieldLink RX6 45 "ShelfStages$Orders" "takeUnits" "[I", Cond.methodLink RX8 60 yX7_copyFrom, Cond.instanceMethod yX7_copyFrom]
def wsX9_readDelivery_r7 : List Cond := [Cond.selects RX7 yX7_copyFrom yX7_copyFrom, Cond.initialized RX7, Cond.code yX7_copyFrom cX7_copyFrom 3 none, Cond.fieldLink RX7 9 "ShelfStages$Stages" "share" "[I", Cond.fieldLink RX7 18 "ShelfStages$Stages" "markdown" "[F", Cond.methodLink RX8 63 yX5_copyFrom, Cond.instanceMethod yX5_copyFrom, Cond.selects RX5 yX5_copyFrom yX5_copyFrom, Cond.initialized RX5, Cond.code yX5_copyFrom cX5_copyFrom 2 none, Cond.fieldLink RX5 24 "ShelfStages$Log" "size" "I", Cond.fieldLink RX5 28 "ShelfStages$Log" "next" "I", Cond.fieldLink RX5 9 "ShelfStages$Log" "kind" "[I", Cond.fieldLink RX5 15 "ShelfStages$Log" "batch" "[I", Cond.fieldLink RX5 18 "ShelfStages$Log" "units" "[I", Cond.fieldLink RX5 21 "ShelfStages$Log" "day" "[I", Cond.methodLink RX9 136 yX8_receive, Cond.instanceMethod yX8_receive, Cond.selects RX8 yX8_receive yX8_receive, Cond.code yX8_receive cX8_receive 5 (some .int), Cond.methodLink RX8 113 yX0_append, Cond.instanceMethod yX0_append, Cond.selects RX0 yX0_append yX0_append, Cond.code yX0_append cX0_append 5 (some .int)]
def wsX9_readDelivery_r8 : List Cond := [Cond.methodLink RX8 117 yX5_append, Cond.instanceMethod yX5_append, Cond.selects RX5 yX5_append yX5_append, Cond.code yX5_append cX5_append 5 none, Cond.methodLink RX5 35 Lib.Math.min.name]
def wsX9_readDelivery : List Cond := .code yX9_readDelivery cX9_readDelivery 5 (some .int) :: ((wsX9_readDelivery_r1 ++ (wsX9_readDelivery_r2 ++ (wsX9_readDelivery_r3 ++ (wsX9_readDelivery_r4 ++ (wsX9_readDelivery_r5 ++ (wsX9_readDelivery_r6 ++ (wsX9_readDelivery_r7 ++ wsX9_readDelivery_r8))))))) ++ wsX90 ++ wsX10 ++ wsX80 ++ wsX00 ++ wsX30 ++ wsX40 ++ wsX60 ++ wsX70 ++ wsX50)
def wsX9_wishError : List Cond := .code yX9_wishError cX9_wishError 5 (some .int) :: ([.methodLink RX9 69 yX9_hasGood, .instanceMethod yX9_hasGood, .selects RX9 yX9_hasGood yX9_hasGood, .initialized RX9, .code yX9_hasGood cX9_hasGood 2 (some .boolean), .fieldLink RX9 12 "ShelfStages" "now" "LShelfStages$State;", .fieldLink RX9 51 "ShelfStages$State" "goods" "LShelfStages$Goods;", .fieldLink RX9 55 "ShelfStages$Goods" "size" "I", .methodLink RX9 47 yX9_within, .static yX9_within, .code yX9_within cX9_within 3 (some .boolean)] ++ wsX90 ++ wsX80 ++ wsX30)
def wsX9_order_r1 : List Cond := [Cond.fieldLink RX9 12 "ShelfStages" "now" "LShelfStages$State;", Cond.fieldLink RX9 165 "ShelfStages$State" "orders" "LShelfStages$Orders;", Cond.fieldLink RX9 169 "ShelfStages$Orders" "size" "I", Cond.fieldLink RX9 25 "ShelfStages" "history" "LShelfStages$History;", Cond.fieldLink RX9 172 "ShelfStages$State" "day" "I", Cond.fieldLink RX9 32 "ShelfStages" "filling" "LShelfStages$Filling;", Cond.fieldLink RX9 186 "ShelfStages$Filling" "got" "I", Cond.methodLink RX9 162 yX9_wishError, Cond.instanceMethod yX9_wishError, Cond.selects RX9 yX9_wishError yX9_wishError, Cond.initialized RX9, Cond.code yX9_wishError cX9_wishError 5 (some .int), Cond.methodLink RX9 69 yX9_hasGood, Cond.instanceMethod yX9_hasGood, Cond.selects RX9 yX9_hasGood yX9_hasGood, Cond.code yX9_hasGood cX9_hasGood 2 (some .boolean), Cond.fieldLink RX9 51 "ShelfStages$State" "goods" "LShelfStages$Goods;", Cond.fieldLink RX9 55 "ShelfStages$Goods" "size" "I", Cond.methodLink RX9 47 yX9_within, Cond.static yX9_within, Cond.code yX9_within cX9_within 3 (some .boolean), Cond.methodLink RX9 61 yX4_push, Cond.instanceMethod yX4_push, Cond.selects RX4 yX4_push yX4_push]
def wsX9_order_r2 : List Cond := [Cond.initialized RX4, Cond.code yX4_push cX4_push 2 none, Cond.fieldLink RX4 18 "ShelfStages$History" "size" "I", Cond.fieldLink RX4 22 "ShelfStages$History" "oldest" "I", Cond.fieldLink RX4 11 "ShelfStages$History" "states" "[LShelfStages$State;", Cond.methodLink RX4 25 yX8_copyFrom, Cond.instanceMethod yX8_copyFrom, Cond.selects RX8 yX8_copyFrom yX8_copyFrom, Cond.initialized RX8, Cond.code yX8_copyFrom cX8_copyFrom 2 none, Cond.fieldLink RX8 12 "ShelfStages$State" "goods" "LShelfStages$Goods;", Cond.fieldLink RX8 21 "ShelfStages$State" "batches" "LShelfStages$Batches;", Cond.fieldLink RX8 28 "ShelfStages$State" "orders" "LShelfStages$Orders;", Cond.fieldLink RX8 35 "ShelfStages$State" "stages" "LShelfStages$Stages;", Cond.fieldLink RX8 42 "ShelfStages$State" "log" "LShelfStages$Log;", Cond.fieldLink RX8 46 "ShelfStages$State" "settings" "[I", Cond.fieldLink RX8 70 "ShelfStages$State" "rebate" "F", Cond.fieldLink RX8 74 "ShelfStages$State" "day" "I", Cond.methodLink RX8 50 yX3_copyFrom, Cond.instanceMethod yX3_copyFrom, Cond.selects RX3 yX3_copyFrom yX3_copyFrom, Cond.initialized RX3, Cond.code yX3_copyFrom cX3_copyFrom 2 none, Cond.fieldLink RX3 24 "ShelfStages$Goods" "size" "I"]
def wsX9_order_r3 : List Cond := [Cond.fieldLink RX3 9 "ShelfStages$Goods" "price" "[I", Cond.fieldLink RX3 15 "ShelfStages$Goods" "life" "[I", Cond.fieldLink RX3 18 "ShelfStages$Goods" "listed" "[I", Cond.fieldLink RX3 21 "ShelfStages$Goods" "list" "[I", Cond.static yX9_copyRow, Cond.code yX9_copyRow cX9_copyRow 2 none, Cond.methodLink RX9 357 Lib.Math.min.name, Cond.static Lib.Math.min.name, Cond.initialized "java/lang/Math", Cond.code Lib.Math.min.name Lib.Math.min.code 2 (some .int), Cond.methodLink RX9 362 arraycopyName, Cond.native arraycopyName, Cond.static arraycopyName, Cond.initialized "java/lang/System", Cond.methodLink RX8 54 yX0_copyFrom, Cond.instanceMethod yX0_copyFrom, Cond.selects RX0 yX0_copyFrom yX0_copyFrom, Cond.initialized RX0, Cond.code yX0_copyFrom cX0_copyFrom 3 none, Cond.fieldLink RX0 38 "ShelfStages$Batches" "size" "I", Cond.fieldLink RX0 9 "ShelfStages$Batches" "good" "[I", Cond.fieldLink RX0 15 "ShelfStages$Batches" "came" "[I", Cond.fieldLink RX0 18 "ShelfStages$Batches" "left" "[I", Cond.fieldLink RX0 21 "ShelfStages$Batches" "shelf" "[I"]
def wsX9_order_r4 : List Cond := [Cond.fieldLink RX0 24 "ShelfStages$Batches" "sold" "[I", Cond.fieldLink RX0 27 "ShelfStages$Batches" "given" "[I", Cond.fieldLink RX0 30 "ShelfStages$Batches" "cents" "[I", Cond.fieldLink RX0 35 "ShelfStages$Batches" "wasted" "[[I", Cond.methodLink RX8 57 yX6_copyFrom, Cond.instanceMethod yX6_copyFrom, Cond.selects RX6 yX6_copyFrom yX6_copyFrom, Cond.initialized RX6, Cond.code yX6_copyFrom cX6_copyFrom 2 none, Cond.fieldLink RX6 48 "ShelfStages$Orders" "size" "I", Cond.fieldLink RX6 52 "ShelfStages$Orders" "takes" "I", Cond.fieldLink RX6 9 "ShelfStages$Orders" "good" "[I", Cond.fieldLink RX6 15 "ShelfStages$Orders" "wanted" "[I", Cond.fieldLink RX6 18 "ShelfStages$Orders" "got" "[I", Cond.fieldLink RX6 21 "ShelfStages$Orders" "replaced" "[I", Cond.fieldLink RX6 24 "ShelfStages$Orders" "least" "[I", Cond.fieldLink RX6 27 "ShelfStages$Orders" "accepts" "[I", Cond.fieldLink RX6 30 "ShelfStages$Orders" "parts" "[I", Cond.fieldLink RX6 33 "ShelfStages$Orders" "due" "[I", Cond.fieldLink RX6 36 "ShelfStages$Orders" "day" "[I", Cond.fieldLink RX6 39 "ShelfStages$Orders" "firstTake" "[I", Cond.fieldLink RX6 42 "ShelfStages$Orders" "takeBatch" "[I", Cond.fieldLink RX6 45 "ShelfStages$Orders" "takeUnits" "[I", Cond.methodLink RX8 60 yX7_copyFrom]
def wsX9_order_r5 : List Cond := [Cond.instanceMethod yX7_copyFrom, Cond.selects RX7 yX7_copyFrom yX7_copyFrom, Cond.initialized RX7, Cond.code yX7_copyFrom cX7_copyFrom 3 none, Cond.fieldLink RX7 9 "ShelfStages$Stages" "share" "[I", Cond.fieldLink RX7 18 "ShelfStages$Stages" "markdown" "[F", Cond.methodLink RX8 63 yX5_copyFrom, Cond.instanceMethod yX5_copyFrom, Cond.selects RX5 yX5_copyFrom yX5_copyFrom, Cond.initialized RX5, Cond.code yX5_copyFrom cX5_copyFrom 2 none, Cond.fieldLink RX5 24 "ShelfStages$Log" "size" "I", Cond.fieldLink RX5 28 "ShelfStages$Log" "next" "I", Cond.fieldLink RX5 9 "ShelfStages$Log" "kind" "[I", Cond.fieldLink RX5 15 "ShelfStages$Log" "batch" "[I", Cond.fieldLink RX5 18 "ShelfStages$Log" "units" "[I", Cond.fieldLink RX5 21 "ShelfStages$Log" "day" "[I", Cond.methodLink RX9 175 yX6_append, Cond.instanceMethod yX6_append, Cond.selects RX6 yX6_append yX6_append, Cond.code yX6_append cX6_append 7 none, Cond.methodLink RX9 178 yX2_fill, Cond.instanceMethod yX2_fill, Cond.selects RX2 yX2_fill yX2_fill]
def wsX9_order_r6 : List Cond := [Cond.initialized RX2, Cond.code yX2_fill cX2_fill 9 none, Cond.fieldLink RX2 28 "ShelfStages$Filling" "size" "I", Cond.fieldLink RX2 32 "ShelfStages$Filling" "got" "I", Cond.fieldLink RX2 35 "ShelfStages$Filling" "orderedGood" "I", Cond.fieldLink RX2 38 "ShelfStages$Filling" "wanted" "I", Cond.fieldLink RX2 41 "ShelfStages$Filling" "least" "I", Cond.fieldLink RX2 44 "ShelfStages$State" "batches" "LShelfStages$Batches;", Cond.fieldLink RX2 50 "ShelfStages$Batches" "shelf" "[I", Cond.fieldLink RX2 21 "ShelfStages$Filling" "rest" "[I", Cond.fieldLink RX2 59 "ShelfStages$Batches" "size" "I", Cond.fieldLink RX2 24 "ShelfStages$Filling" "price" "[F", Cond.fieldLink RX2 68 "ShelfStages$State" "goods" "LShelfStages$Goods;", Cond.fieldLink RX2 72 "ShelfStages$Goods" "listed" "[I", Cond.fieldLink RX2 81 "ShelfStages$Filling" "replaced" "I", Cond.methodLink RX2 60 yX8_priceOfUnit, Cond.instanceMethod yX8_priceOfUnit, Cond.selects RX8 yX8_priceOfUnit yX8_priceOfUnit, Cond.code yX8_priceOfUnit cX8_priceOfUnit 3 (some .float), Cond.fieldLink RX8 91 "ShelfStages$Goods" "price" "[I", Cond.fieldLink RX8 84 "ShelfStages$Batches" "good" "[I", Cond.fieldLink RX8 94 "ShelfStages$Stages" "markdown" "[F", Cond.constantFloat RX8 102 (1120403456), Cond.methodLink RX8 98 yX8_stageOf]
def wsX9_order_r7 : List Cond := [Cond.instanceMethod yX8_stageOf, Cond.selects RX8 yX8_stageOf yX8_stageOf, Cond.code yX8_stageOf cX8_stageOf 2 (some .int), Cond.fieldLink RX8 78 "ShelfStages$Batches" "left" "[I", Cond.fieldLink RX8 81 "ShelfStages$Goods" "life" "[I", Cond.methodLink RX8 87 yX7_reached, Cond.instanceMethod yX7_reached, Cond.selects RX7 yX7_reached yX7_reached, Cond.code yX7_reached cX7_reached 4 (some .int), Cond.methodLink RX2 64 yX2_takeFrom, Cond.instanceMethod yX2_takeFrom, Cond.selects RX2 yX2_takeFrom yX2_takeFrom, Cond.code yX2_takeFrom cX2_takeFrom 5 none, Cond.methodLink RX2 89 Lib.Math.min.name, Cond.methodLink RX2 85 yX2_nextBatch, Cond.instanceMethod yX2_nextBatch, Cond.selects RX2 yX2_nextBatch yX2_nextBatch, Cond.code yX2_nextBatch cX2_nextBatch 5 (some .int), Cond.methodLink RX2 107 yX2_isOpen, Cond.instanceMethod yX2_isOpen, Cond.selects RX2 yX2_isOpen yX2_isOpen, Cond.code yX2_isOpen cX2_isOpen 5 (some .boolean), Cond.fieldLink RX2 104 "ShelfStages$Batches" "good" "[I", Cond.fieldLink RX2 114 "ShelfStages$Batches" "left" "[I"]
def wsX9_order_r8 : List Cond := [Cond.methodLink RX2 111 yX2_isBefore, Cond.instanceMethod yX2_isBefore, Cond.selects RX2 yX2_isBefore yX2_isBefore, Cond.code yX2_isBefore cX2_isBefore 5 (some .boolean), Cond.fieldLink RX2 117 "ShelfStages$State" "settings" "[I", Cond.methodLink RX2 94 yX2_takePart, Cond.instanceMethod yX2_takePart, Cond.selects RX2 yX2_takePart yX2_takePart, Cond.code yX2_takePart cX2_takePart 4 none, Cond.fieldLink RX2 9 "ShelfStages$Filling" "batch" "[I", Cond.fieldLink RX2 15 "ShelfStages$Filling" "units" "[I", Cond.fieldLink RX2 18 "ShelfStages$Filling" "cents" "[I", Cond.methodLink RX2 98 yX2_chargedPrice, Cond.instanceMethod yX2_chargedPrice, Cond.selects RX2 yX2_chargedPrice yX2_chargedPrice, Cond.code yX2_chargedPrice cX2_chargedPrice 5 (some .float), Cond.fieldLink RX2 102 "ShelfStages$Goods" "price" "[I", Cond.methodLink RX2 77 yX3_listedAt, Cond.instanceMethod yX3_listedAt, Cond.selects RX3 yX3_listedAt yX3_listedAt, Cond.code yX3_listedAt cX3_listedAt 3 (some .int), Cond.methodLink RX9 182 yX8_sell, Cond.instanceMethod yX8_sell, Cond.selects RX8 yX8_sell yX8_sell]
def wsX9_order_r9 : List Cond := [Cond.code yX8_sell cX8_sell 5 none, Cond.fieldLink RX8 120 "ShelfStages$Filling" "size" "I", Cond.fieldLink RX8 123 "ShelfStages$Filling" "batch" "[I", Cond.fieldLink RX8 126 "ShelfStages$Filling" "units" "[I", Cond.fieldLink RX8 103 "ShelfStages$Batches" "shelf" "[I", Cond.fieldLink RX8 129 "ShelfStages$Batches" "sold" "[I", Cond.fieldLink RX8 132 "ShelfStages$Batches" "cents" "[I", Cond.fieldLink RX8 135 "ShelfStages$Filling" "cents" "[I", Cond.fieldLink RX8 140 "ShelfStages$Filling" "got" "I", Cond.fieldLink RX8 143 "ShelfStages$Filling" "replaced" "I", Cond.methodLink RX8 136 yX6_appendTake, Cond.instanceMethod yX6_appendTake, Cond.selects RX6 yX6_appendTake yX6_appendTake, Cond.code yX6_appendTake cX6_appendTake 3 none, Cond.methodLink RX8 117 yX5_append, Cond.instanceMethod yX5_append, Cond.selects RX5 yX5_append yX5_append, Cond.code yX5_append cX5_append 5 none, Cond.methodLink RX5 35 Lib.Math.min.name, Cond.methodLink RX8 146 yX2_due, Cond.instanceMethod yX2_due, Cond.selects RX2 yX2_due yX2_due, Cond.code yX2_due cX2_due 4 (some .int), Cond.constantFloat RX2 84 (1120403456)]
def wsX9_order_r10 : List Cond := [Cond.methodLink RX8 150 yX6_endLast, Cond.instanceMethod yX6_endLast, Cond.selects RX6 yX6_endLast yX6_endLast, Cond.code yX6_endLast cX6_endLast 4 none]
def wsX9_order : List Cond := .code yX9_order cX9_order 6 (some .int) :: ((wsX9_order_r1 ++ (wsX9_order_r2 ++ (wsX9_order_r3 ++ (wsX9_order_r4 ++ (wsX9_order_r5 ++ (wsX9_order_r6 ++ (wsX9_order_r7 ++ (wsX9_order_r8 ++ (wsX9_order_r9 ++ wsX9_order_r10))))))))) ++ wsX90 ++ wsX80 ++ wsX60 ++ wsX20 ++ wsX30 ++ wsX40 ++ wsX00 ++ wsX70 ++ wsX50)
def wsX9_hasBatch : List Cond := .code yX9_hasBatch cX9_hasBatch 2 (some .boolean) :: ([.fieldLink RX9 12 "ShelfStages" "now" "LShelfStages$State;", .fieldLink RX9 129 "ShelfStages$State" "batches" "LShelfStages$Batches;", .fieldLink RX9 133 "ShelfStages$Batches" "size" "I", .methodLink RX9 47 yX9_within, .static yX9_within, .initialized RX9, .code yX9_within cX9_within 3 (some .boolean)] ++ wsX90 ++ wsX80 ++ wsX00)
def wsX9_breakUnits_r1 : List Cond := [Cond.fieldLink RX9 12 "ShelfStages" "now" "LShelfStages$State;", Cond.fieldLink RX9 129 "ShelfStages$State" "batches" "LShelfStages$Batches;", Cond.fieldLink RX9 192 "ShelfStages$Batches" "shelf" "[I", Cond.fieldLink RX9 25 "ShelfStages" "history" "LShelfStages$History;", Cond.methodLink RX9 189 yX9_hasBatch, Cond.instanceMethod yX9_hasBatch, Cond.selects RX9 yX9_hasBatch yX9_hasBatch, Cond.initialized RX9, Cond.code yX9_hasBatch cX9_hasBatch 2 (some .boolean), Cond.fieldLink RX9 133 "ShelfStages$Batches" "size" "I", Cond.methodLink RX9 47 yX9_within, Cond.static yX9_within, Cond.code yX9_within cX9_within 3 (some .boolean), Cond.methodLink RX9 61 yX4_push, Cond.instanceMethod yX4_push, Cond.selects RX4 yX4_push yX4_push, Cond.initialized RX4, Cond.code yX4_push cX4_push 2 none, Cond.fieldLink RX4 18 "ShelfStages$History" "size" "I", Cond.fieldLink RX4 22 "ShelfStages$History" "oldest" "I", Cond.fieldLink RX4 11 "ShelfStages$History" "states" "[LShelfStages$State;", Cond.methodLink RX4 25 yX8_copyFrom, Cond.instanceMethod yX8_copyFrom, Cond.selects RX8 yX8_copyFrom yX8_copyFrom]
def wsX9_breakUnits_r2 : List Cond := [Cond.initialized RX8, Cond.code yX8_copyFrom cX8_copyFrom 2 none, Cond.fieldLink RX8 12 "ShelfStages$State" "goods" "LShelfStages$Goods;", Cond.fieldLink RX8 21 "ShelfStages$State" "batches" "LShelfStages$Batches;", Cond.fieldLink RX8 28 "ShelfStages$State" "orders" "LShelfStages$Orders;", Cond.fieldLink RX8 35 "ShelfStages$State" "stages" "LShelfStages$Stages;", Cond.fieldLink RX8 42 "ShelfStages$State" "log" "LShelfStages$Log;", Cond.fieldLink RX8 46 "ShelfStages$State" "settings" "[I", Cond.fieldLink RX8 70 "ShelfStages$State" "rebate" "F", Cond.fieldLink RX8 74 "ShelfStages$State" "day" "I", Cond.methodLink RX8 50 yX3_copyFrom, Cond.instanceMethod yX3_copyFrom, Cond.selects RX3 yX3_copyFrom yX3_copyFrom, Cond.initialized RX3, Cond.code yX3_copyFrom cX3_copyFrom 2 none, Cond.fieldLink RX3 24 "ShelfStages$Goods" "size" "I", Cond.fieldLink RX3 9 "ShelfStages$Goods" "price" "[I", Cond.fieldLink RX3 15 "ShelfStages$Goods" "life" "[I", Cond.fieldLink RX3 18 "ShelfStages$Goods" "listed" "[I", Cond.fieldLink RX3 21 "ShelfStages$Goods" "list" "[I", Cond.static yX9_copyRow, Cond.code yX9_copyRow cX9_copyRow 2 none, Cond.methodLink RX9 357 Lib.Math.min.name, Cond.static Lib.Math.min.name]
def wsX9_breakUnits_r3 : List Cond := [Cond.initialized "java/lang/Math", Cond.code Lib.Math.min.name Lib.Math.min.code 2 (some .int), Cond.methodLink RX9 362 arraycopyName, Cond.native arraycopyName, Cond.static arraycopyName, Cond.initialized "java/lang/System", Cond.methodLink RX8 54 yX0_copyFrom, Cond.instanceMethod yX0_copyFrom, Cond.selects RX0 yX0_copyFrom yX0_copyFrom, Cond.initialized RX0, Cond.code yX0_copyFrom cX0_copyFrom 3 none, Cond.fieldLink RX0 38 "ShelfStages$Batches" "size" "I", Cond.fieldLink RX0 9 "ShelfStages$Batches" "good" "[I", Cond.fieldLink RX0 15 "ShelfStages$Batches" "came" "[I", Cond.fieldLink RX0 18 "ShelfStages$Batches" "left" "[I", Cond.fieldLink RX0 21 "ShelfStages$Batches" "shelf" "[I", Cond.fieldLink RX0 24 "ShelfStages$Batches" "sold" "[I", Cond.fieldLink RX0 27 "ShelfStages$Batches" "given" "[I", Cond.fieldLink RX0 30 "ShelfStages$Batches" "cents" "[I", Cond.fieldLink RX0 35 "ShelfStages$Batches" "wasted" "[[I", Cond.methodLink RX8 57 yX6_copyFrom, Cond.instanceMethod yX6_copyFrom, Cond.selects RX6 yX6_copyFrom yX6_copyFrom, Cond.initialized RX6]
def wsX9_breakUnits_r4 : List Cond := [Cond.code yX6_copyFrom cX6_copyFrom 2 none, Cond.fieldLink RX6 48 "ShelfStages$Orders" "size" "I", Cond.fieldLink RX6 52 "ShelfStages$Orders" "takes" "I", Cond.fieldLink RX6 9 "ShelfStages$Orders" "good" "[I", Cond.fieldLink RX6 15 "ShelfStages$Orders" "wanted" "[I", Cond.fieldLink RX6 18 "ShelfStages$Orders" "got" "[I", Cond.fieldLink RX6 21 "ShelfStages$Orders" "replaced" "[I", Cond.fieldLink RX6 24 "ShelfStages$Orders" "least" "[I", Cond.fieldLink RX6 27 "ShelfStages$Orders" "accepts" "[I", Cond.fieldLink RX6 30 "ShelfStages$Orders" "parts" "[I", Cond.fieldLink RX6 33 "ShelfStages$Orders" "due" "[I", Cond.fieldLink RX6 36 "ShelfStages$Orders" "day" "[I", Cond.fieldLink RX6 39 "ShelfStages$Orders" "firstTake" "[I", Cond.fieldLink RX6 42 "ShelfStages$Orders" "takeBatch" "[I", Cond.fieldLink RX6 45 "ShelfStages$Orders" "takeUnits" "[I", Cond.methodLink RX8 60 yX7_copyFrom, Cond.instanceMethod yX7_copyFrom, Cond.selects RX7 yX7_copyFrom yX7_copyFrom, Cond.initialized RX7, Cond.code yX7_copyFrom cX7_copyFrom 3 none, Cond.fieldLink RX7 9 "ShelfStages$Stages" "share" "[I", Cond.fieldLink RX7 18 "ShelfStages$Stages" "markdown" "[F", Cond.methodLink RX8 63 yX5_copyFrom, Cond.instanceMethod yX5_copyFrom]
def wsX9_breakUnits_r5 : List Cond := [Cond.selects RX5 yX5_copyFrom yX5_copyFrom, Cond.initialized RX5, Cond.code yX5_copyFrom cX5_copyFrom 2 none, Cond.fieldLink RX5 24 "ShelfStages$Log" "size" "I", Cond.fieldLink RX5 28 "ShelfStages$Log" "next" "I", Cond.fieldLink RX5 9 "ShelfStages$Log" "kind" "[I", Cond.fieldLink RX5 15 "ShelfStages$Log" "batch" "[I", Cond.fieldLink RX5 18 "ShelfStages$Log" "units" "[I", Cond.fieldLink RX5 21 "ShelfStages$Log" "day" "[I", Cond.methodLink RX9 195 yX8_waste, Cond.instanceMethod yX8_waste, Cond.selects RX8 yX8_waste yX8_waste, Cond.code yX8_waste cX8_waste 4 none, Cond.fieldLink RX8 103 "ShelfStages$Batches" "shelf" "[I", Cond.fieldLink RX8 157 "ShelfStages$Batches" "wasted" "[[I", Cond.methodLink RX8 117 yX5_append, Cond.instanceMethod yX5_append, Cond.selects RX5 yX5_append yX5_append, Cond.code yX5_append cX5_append 5 none, Cond.methodLink RX5 35 Lib.Math.min.name]
def wsX9_breakUnits : List Cond := .code yX9_breakUnits cX9_breakUnits 3 (some .int) :: ((wsX9_breakUnits_r1 ++ (wsX9_breakUnits_r2 ++ (wsX9_breakUnits_r3 ++ (wsX9_breakUnits_r4 ++ wsX9_breakUnits_r5)))) ++ wsX90 ++ wsX80 ++ wsX00 ++ wsX40 ++ wsX30 ++ wsX60 ++ wsX70 ++ wsX50)
def wsX9_recall_r1 : List Cond := [Cond.fieldLink RX9 12 "ShelfStages" "now" "LShelfStages$State;", Cond.fieldLink RX9 129 "ShelfStages$State" "batches" "LShelfStages$Batches;", Cond.fieldLink RX9 192 "ShelfStages$Batches" "shelf" "[I", Cond.fieldLink RX9 25 "ShelfStages" "history" "LShelfStages$History;", Cond.methodLink RX9 69 yX9_hasGood, Cond.instanceMethod yX9_hasGood, Cond.selects RX9 yX9_hasGood yX9_hasGood, Cond.initialized RX9, Cond.code yX9_hasGood cX9_hasGood 2 (some .boolean), Cond.fieldLink RX9 51 "ShelfStages$State" "goods" "LShelfStages$Goods;", Cond.fieldLink RX9 55 "ShelfStages$Goods" "size" "I", Cond.methodLink RX9 47 yX9_within, Cond.static yX9_within, Cond.code yX9_within cX9_within 3 (some .boolean), Cond.methodLink RX9 198 yX0_sumOfGood, Cond.instanceMethod yX0_sumOfGood, Cond.selects RX0 yX0_sumOfGood yX0_sumOfGood, Cond.initialized RX0, Cond.code yX0_sumOfGood cX0_sumOfGood 5 (some .int), Cond.fieldLink RX0 38 "ShelfStages$Batches" "size" "I", Cond.fieldLink RX0 9 "ShelfStages$Batches" "good" "[I", Cond.methodLink RX9 61 yX4_push, Cond.instanceMethod yX4_push, Cond.selects RX4 yX4_push yX4_push]
def wsX9_recall_r2 : List Cond := [Cond.initialized RX4, Cond.code yX4_push cX4_push 2 none, Cond.fieldLink RX4 18 "ShelfStages$History" "size" "I", Cond.fieldLink RX4 22 "ShelfStages$History" "oldest" "I", Cond.fieldLink RX4 11 "ShelfStages$History" "states" "[LShelfStages$State;", Cond.methodLink RX4 25 yX8_copyFrom, Cond.instanceMethod yX8_copyFrom, Cond.selects RX8 yX8_copyFrom yX8_copyFrom, Cond.initialized RX8, Cond.code yX8_copyFrom cX8_copyFrom 2 none, Cond.fieldLink RX8 12 "ShelfStages$State" "goods" "LShelfStages$Goods;", Cond.fieldLink RX8 21 "ShelfStages$State" "batches" "LShelfStages$Batches;", Cond.fieldLink RX8 28 "ShelfStages$State" "orders" "LShelfStages$Orders;", Cond.fieldLink RX8 35 "ShelfStages$State" "stages" "LShelfStages$Stages;", Cond.fieldLink RX8 42 "ShelfStages$State" "log" "LShelfStages$Log;", Cond.fieldLink RX8 46 "ShelfStages$State" "settings" "[I", Cond.fieldLink RX8 70 "ShelfStages$State" "rebate" "F", Cond.fieldLink RX8 74 "ShelfStages$State" "day" "I", Cond.methodLink RX8 50 yX3_copyFrom, Cond.instanceMethod yX3_copyFrom, Cond.selects RX3 yX3_copyFrom yX3_copyFrom, Cond.initialized RX3, Cond.code yX3_copyFrom cX3_copyFrom 2 none, Cond.fieldLink RX3 24 "ShelfStages$Goods" "size" "I"]
def wsX9_recall_r3 : List Cond := [Cond.fieldLink RX3 9 "ShelfStages$Goods" "price" "[I", Cond.fieldLink RX3 15 "ShelfStages$Goods" "life" "[I", Cond.fieldLink RX3 18 "ShelfStages$Goods" "listed" "[I", Cond.fieldLink RX3 21 "ShelfStages$Goods" "list" "[I", Cond.static yX9_copyRow, Cond.code yX9_copyRow cX9_copyRow 2 none, Cond.methodLink RX9 357 Lib.Math.min.name, Cond.static Lib.Math.min.name, Cond.initialized "java/lang/Math", Cond.code Lib.Math.min.name Lib.Math.min.code 2 (some .int), Cond.methodLink RX9 362 arraycopyName, Cond.native arraycopyName, Cond.static arraycopyName, Cond.initialized "java/lang/System", Cond.methodLink RX8 54 yX0_copyFrom, Cond.instanceMethod yX0_copyFrom, Cond.selects RX0 yX0_copyFrom yX0_copyFrom, Cond.code yX0_copyFrom cX0_copyFrom 3 none, Cond.fieldLink RX0 15 "ShelfStages$Batches" "came" "[I", Cond.fieldLink RX0 18 "ShelfStages$Batches" "left" "[I", Cond.fieldLink RX0 21 "ShelfStages$Batches" "shelf" "[I", Cond.fieldLink RX0 24 "ShelfStages$Batches" "sold" "[I", Cond.fieldLink RX0 27 "ShelfStages$Batches" "given" "[I", Cond.fieldLink RX0 30 "ShelfStages$Batches" "cents" "[I"]
def wsX9_recall_r4 : List Cond := [Cond.fieldLink RX0 35 "ShelfStages$Batches" "wasted" "[[I", Cond.methodLink RX8 57 yX6_copyFrom, Cond.instanceMethod yX6_copyFrom, Cond.selects RX6 yX6_copyFrom yX6_copyFrom, Cond.initialized RX6, Cond.code yX6_copyFrom cX6_copyFrom 2 none, Cond.fieldLink RX6 48 "ShelfStages$Orders" "size" "I", Cond.fieldLink RX6 52 "ShelfStages$Orders" "takes" "I", Cond.fieldLink RX6 9 "ShelfStages$Orders" "good" "[I", Cond.fieldLink RX6 15 "ShelfStages$Orders" "wanted" "[I", Cond.fieldLink RX6 18 "ShelfStages$Orders" "got" "[I", Cond.fieldLink RX6 21 "ShelfStages$Orders" "replaced" "[I", Cond.fieldLink RX6 24 "ShelfStages$Orders" "least" "[I", Cond.fieldLink RX6 27 "ShelfStages$Orders" "accepts" "[I", Cond.fieldLink RX6 30 "ShelfStages$Orders" "parts" "[I", Cond.fieldLink RX6 33 "ShelfStages$Orders" "due" "[I", Cond.fieldLink RX6 36 "ShelfStages$Orders" "day" "[I", Cond.fieldLink RX6 39 "ShelfStages$Orders" "firstTake" "[I", Cond.fieldLink RX6 42 "ShelfStages$Orders" "takeBatch" "[I", Cond.fieldLink RX6 45 "ShelfStages$Orders" "takeUnits" "[I", Cond.methodLink RX8 60 yX7_copyFrom, Cond.instanceMethod yX7_copyFrom, Cond.selects RX7 yX7_copyFrom yX7_copyFrom, Cond.initialized RX7]
def wsX9_recall_r5 : List Cond := [Cond.code yX7_copyFrom cX7_copyFrom 3 none, Cond.fieldLink RX7 9 "ShelfStages$Stages" "share" "[I", Cond.fieldLink RX7 18 "ShelfStages$Stages" "markdown" "[F", Cond.methodLink RX8 63 yX5_copyFrom, Cond.instanceMethod yX5_copyFrom, Cond.selects RX5 yX5_copyFrom yX5_copyFrom, Cond.initialized RX5, Cond.code yX5_copyFrom cX5_copyFrom 2 none, Cond.fieldLink RX5 24 "ShelfStages$Log" "size" "I", Cond.fieldLink RX5 28 "ShelfStages$Log" "next" "I", Cond.fieldLink RX5 9 "ShelfStages$Log" "kind" "[I", Cond.fieldLink RX5 15 "ShelfStages$Log" "batch" "[I", Cond.fieldLink RX5 18 "ShelfStages$Log" "units" "[I", Cond.fieldLink RX5 21 "ShelfStages$Log" "day" "[I", Cond.methodLink RX9 202 yX8_wasteGood, Cond.instanceMethod yX8_wasteGood, Cond.selects RX8 yX8_wasteGood yX8_wasteGood, Cond.code yX8_wasteGood cX8_wasteGood 3 none, Cond.fieldLink RX8 106 "ShelfStages$Batches" "size" "I", Cond.fieldLink RX8 84 "ShelfStages$Batches" "good" "[I", Cond.fieldLink RX8 103 "ShelfStages$Batches" "shelf" "[I", Cond.methodLink RX8 161 yX8_waste, Cond.instanceMethod yX8_waste, Cond.selects RX8 yX8_waste yX8_waste]
def wsX9_recall_r6 : List Cond := [Cond.code yX8_waste cX8_waste 4 none, Cond.fieldLink RX8 157 "ShelfStages$Batches" "wasted" "[[I", Cond.methodLink RX8 117 yX5_append, Cond.instanceMethod yX5_append, Cond.selects RX5 yX5_append yX5_append, Cond.code yX5_append cX5_append 5 none, Cond.methodLink RX5 35 Lib.Math.min.name]
def wsX9_recall : List Cond := .code yX9_recall cX9_recall 3 (some .int) :: ((wsX9_recall_r1 ++ (wsX9_recall_r2 ++ (wsX9_recall_r3 ++ (wsX9_recall_r4 ++ (wsX9_recall_r5 ++ wsX9_recall_r6))))) ++ wsX90 ++ wsX80 ++ wsX00 ++ wsX30 ++ wsX40 ++ wsX60 ++ wsX70 ++ wsX50)
def wsX9_pass_r1 : List Cond := [Cond.fieldLink RX9 12 "ShelfStages" "now" "LShelfStages$State;", Cond.fieldLink RX9 172 "ShelfStages$State" "day" "I", Cond.fieldLink RX9 25 "ShelfStages" "history" "LShelfStages$History;", Cond.methodLink RX9 47 yX9_within, Cond.static yX9_within, Cond.initialized RX9, Cond.code yX9_within cX9_within 3 (some .boolean), Cond.methodLink RX9 61 yX4_push, Cond.instanceMethod yX4_push, Cond.selects RX4 yX4_push yX4_push, Cond.initialized RX4, Cond.code yX4_push cX4_push 2 none, Cond.fieldLink RX4 18 "ShelfStages$History" "size" "I", Cond.fieldLink RX4 22 "ShelfStages$History" "oldest" "I", Cond.fieldLink RX4 11 "ShelfStages$History" "states" "[LShelfStages$State;", Cond.methodLink RX4 25 yX8_copyFrom, Cond.instanceMethod yX8_copyFrom, Cond.selects RX8 yX8_copyFrom yX8_copyFrom, Cond.initialized RX8, Cond.code yX8_copyFrom cX8_copyFrom 2 none, Cond.fieldLink RX8 12 "ShelfStages$State" "goods" "LShelfStages$Goods;", Cond.fieldLink RX8 21 "ShelfStages$State" "batches" "LShelfStages$Batches;", Cond.fieldLink RX8 28 "ShelfStages$State" "orders" "LShelfStages$Orders;", Cond.fieldLink RX8 35 "ShelfStages$State" "stages" "LShelfStages$Stages;"]
def wsX9_pass_r2 : List Cond := [Cond.fieldLink RX8 42 "ShelfStages$State" "log" "LShelfStages$Log;", Cond.fieldLink RX8 46 "ShelfStages$State" "settings" "[I", Cond.fieldLink RX8 70 "ShelfStages$State" "rebate" "F", Cond.fieldLink RX8 74 "ShelfStages$State" "day" "I", Cond.methodLink RX8 50 yX3_copyFrom, Cond.instanceMethod yX3_copyFrom, Cond.selects RX3 yX3_copyFrom yX3_copyFrom, Cond.initialized RX3, Cond.code yX3_copyFrom cX3_copyFrom 2 none, Cond.fieldLink RX3 24 "ShelfStages$Goods" "size" "I", Cond.fieldLink RX3 9 "ShelfStages$Goods" "price" "[I", Cond.fieldLink RX3 15 "ShelfStages$Goods" "life" "[I", Cond.fieldLink RX3 18 "ShelfStages$Goods" "listed" "[I", Cond.fieldLink RX3 21 "ShelfStages$Goods" "list" "[I", Cond.static yX9_copyRow, Cond.code yX9_copyRow cX9_copyRow 2 none, Cond.methodLink RX9 357 Lib.Math.min.name, Cond.static Lib.Math.min.name, Cond.initialized "java/lang/Math", Cond.code Lib.Math.min.name Lib.Math.min.code 2 (some .int), Cond.methodLink RX9 362 arraycopyName, Cond.native arraycopyName, Cond.static arraycopyName, Cond.initialized "java/lang/System"]
def wsX9_pass_r3 : List Cond := [Cond.methodLink RX8 54 yX0_copyFrom, Cond.instanceMethod yX0_copyFrom, Cond.selects RX0 yX0_copyFrom yX0_copyFrom, Cond.initialized RX0, Cond.code yX0_copyFrom cX0_copyFrom 3 none, Cond.fieldLink RX0 38 "ShelfStages$Batches" "size" "I", Cond.fieldLink RX0 9 "ShelfStages$Batches" "good" "[I", Cond.fieldLink RX0 15 "ShelfStages$Batches" "came" "[I", Cond.fieldLink RX0 18 "ShelfStages$Batches" "left" "[I", Cond.fieldLink RX0 21 "ShelfStages$Batches" "shelf" "[I", Cond.fieldLink RX0 24 "ShelfStages$Batches" "sold" "[I", Cond.fieldLink RX0 27 "ShelfStages$Batches" "given" "[I", Cond.fieldLink RX0 30 "ShelfStages$Batches" "cents" "[I", Cond.fieldLink RX0 35 "ShelfStages$Batches" "wasted" "[[I", Cond.methodLink RX8 57 yX6_copyFrom, Cond.instanceMethod yX6_copyFrom, Cond.selects RX6 yX6_copyFrom yX6_copyFrom, Cond.initialized RX6, Cond.code yX6_copyFrom cX6_copyFrom 2 none, Cond.fieldLink RX6 48 "ShelfStages$Orders" "size" "I", Cond.fieldLink RX6 52 "ShelfStages$Orders" "takes" "I", Cond.fieldLink RX6 9 "ShelfStages$Orders" "good" "[I", Cond.fieldLink RX6 15 "ShelfStages$Orders" "wanted" "[I", Cond.fieldLink RX6 18 "ShelfStages$Orders" "got" "[I"]
def wsX9_pass_r4 : List Cond := [Cond.fieldLink RX6 21 "ShelfStages$Orders" "replaced" "[I", Cond.fieldLink RX6 24 "ShelfStages$Orders" "least" "[I", Cond.fieldLink RX6 27 "ShelfStages$Orders" "accepts" "[I", Cond.fieldLink RX6 30 "ShelfStages$Orders" "parts" "[I", Cond.fieldLink RX6 33 "ShelfStages$Orders" "due" "[I", Cond.fieldLink RX6 36 "ShelfStages$Orders" "day" "[I", Cond.fieldLink RX6 39 "ShelfStages$Orders" "firstTake" "[I", Cond.fieldLink RX6 42 "ShelfStages$Orders" "takeBatch" "[I", Cond.fieldLink RX6 45 "ShelfStages$Orders" "takeUnits" "[I", Cond.methodLink RX8 60 yX7_copyFrom, Cond.instanceMethod yX7_copyFrom, Cond.selects RX7 yX7_copyFrom yX7_copyFrom, Cond.initialized RX7, Cond.code yX7_copyFrom cX7_copyFrom 3 none, Cond.fieldLink RX7 9 "ShelfStages$Stages" "share" "[I", Cond.fieldLink RX7 18 "ShelfStages$Stages" "markdown" "[F", Cond.methodLink RX8 63 yX5_copyFrom, Cond.instanceMethod yX5_copyFrom, Cond.selects RX5 yX5_copyFrom yX5_copyFrom, Cond.initialized RX5, Cond.code yX5_copyFrom cX5_copyFrom 2 none, Cond.fieldLink RX5 24 "ShelfStages$Log" "size" "I", Cond.fieldLink RX5 28 "ShelfStages$Log" "next" "I", Cond.fieldLink RX5 9 "ShelfStages$Log" "kind" "[I"]
def wsX9_pass_r5 : List Cond := [Cond.fieldLink RX5 15 "ShelfStages$Log" "batch" "[I", Cond.fieldLink RX5 18 "ShelfStages$Log" "units" "[I", Cond.fieldLink RX5 21 "ShelfStages$Log" "day" "[I", Cond.methodLink RX9 206 yX8_passDays, Cond.instanceMethod yX8_passDays, Cond.selects RX8 yX8_passDays yX8_passDays, Cond.code yX8_passDays cX8_passDays 4 (some .int), Cond.methodLink RX8 164 yX0_age, Cond.instanceMethod yX0_age, Cond.selects RX0 yX0_age yX0_age, Cond.code yX0_age cX0_age 2 none, Cond.methodLink RX8 167 yX8_expire, Cond.instanceMethod yX8_expire, Cond.selects RX8 yX8_expire yX8_expire, Cond.code yX8_expire cX8_expire 4 (some .int), Cond.fieldLink RX8 106 "ShelfStages$Batches" "size" "I", Cond.fieldLink RX8 103 "ShelfStages$Batches" "shelf" "[I", Cond.fieldLink RX8 78 "ShelfStages$Batches" "left" "[I", Cond.methodLink RX8 161 yX8_waste, Cond.instanceMethod yX8_waste, Cond.selects RX8 yX8_waste yX8_waste, Cond.code yX8_waste cX8_waste 4 none, Cond.fieldLink RX8 157 "ShelfStages$Batches" "wasted" "[[I", Cond.methodLink RX8 117 yX5_append]
def wsX9_pass_r6 : List Cond := [Cond.instanceMethod yX5_append, Cond.selects RX5 yX5_append yX5_append, Cond.code yX5_append cX5_append 5 none, Cond.methodLink RX5 35 Lib.Math.min.name, Cond.methodLink RX8 171 yX8_donate, Cond.instanceMethod yX8_donate, Cond.selects RX8 yX8_donate yX8_donate, Cond.code yX8_donate cX8_donate 4 none, Cond.methodLink RX8 174 Lib.Math.min.name, Cond.methodLink RX8 98 yX8_stageOf, Cond.instanceMethod yX8_stageOf, Cond.selects RX8 yX8_stageOf yX8_stageOf, Cond.code yX8_stageOf cX8_stageOf 2 (some .int), Cond.fieldLink RX8 81 "ShelfStages$Goods" "life" "[I", Cond.fieldLink RX8 84 "ShelfStages$Batches" "good" "[I", Cond.methodLink RX8 87 yX7_reached, Cond.instanceMethod yX7_reached, Cond.selects RX7 yX7_reached yX7_reached, Cond.code yX7_reached cX7_reached 4 (some .int), Cond.methodLink RX8 179 yX8_give, Cond.instanceMethod yX8_give, Cond.selects RX8 yX8_give yX8_give, Cond.code yX8_give cX8_give 3 none, Cond.fieldLink RX8 154 "ShelfStages$Batches" "given" "[I"]
def wsX9_pass : List Cond := .code yX9_pass cX9_pass 2 (some .int) :: ((wsX9_pass_r1 ++ (wsX9_pass_r2 ++ (wsX9_pass_r3 ++ (wsX9_pass_r4 ++ (wsX9_pass_r5 ++ wsX9_pass_r6))))) ++ wsX90 ++ wsX80 ++ wsX40 ++ wsX30 ++ wsX00 ++ wsX60 ++ wsX70 ++ wsX50)
def wsX9_type : List Cond := .code yX9_type cX9_type 2 (some .int) :: ([.fieldLink RX9 140 "ShelfStages" "textLength" "I", .fieldLink RX9 43 "ShelfStages" "text" "[C"] ++ wsX90)
def wsX9_clearText : List Cond := .code yX9_clearText cX9_clearText 2 (some .int) :: ([.fieldLink RX9 140 "ShelfStages" "textLength" "I"] ++ wsX90)
def wsX9_undo_r1 : List Cond := [Cond.fieldLink RX9 25 "ShelfStages" "history" "LShelfStages$History;", Cond.fieldLink RX9 209 "ShelfStages$History" "size" "I", Cond.fieldLink RX9 12 "ShelfStages" "now" "LShelfStages$State;", Cond.methodLink RX9 210 yX4_popInto, Cond.instanceMethod yX4_popInto, Cond.selects RX4 yX4_popInto yX4_popInto, Cond.initialized RX4, Cond.code yX4_popInto cX4_popInto 2 none, Cond.fieldLink RX4 18 "ShelfStages$History" "size" "I", Cond.fieldLink RX4 11 "ShelfStages$History" "states" "[LShelfStages$State;", Cond.fieldLink RX4 22 "ShelfStages$History" "oldest" "I", Cond.methodLink RX4 25 yX8_copyFrom, Cond.instanceMethod yX8_copyFrom, Cond.selects RX8 yX8_copyFrom yX8_copyFrom, Cond.initialized RX8, Cond.code yX8_copyFrom cX8_copyFrom 2 none, Cond.fieldLink RX8 12 "ShelfStages$State" "goods" "LShelfStages$Goods;", Cond.fieldLink RX8 21 "ShelfStages$State" "batches" "LShelfStages$Batches;", Cond.fieldLink RX8 28 "ShelfStages$State" "orders" "LShelfStages$Orders;", Cond.fieldLink RX8 35 "ShelfStages$State" "stages" "LShelfStages$Stages;", Cond.fieldLink RX8 42 "ShelfStages$State" "log" "LShelfStages$Log;", Cond.fieldLink RX8 46 "ShelfStages$State" "settings" "[I", Cond.fieldLink RX8 70 "ShelfStages$State" "rebate" "F", Cond.fieldLink RX8 74 "ShelfStages$State" "day" "I"]
def wsX9_undo_r2 : List Cond := [Cond.methodLink RX8 50 yX3_copyFrom, Cond.instanceMethod yX3_copyFrom, Cond.selects RX3 yX3_copyFrom yX3_copyFrom, Cond.initialized RX3, Cond.code yX3_copyFrom cX3_copyFrom 2 none, Cond.fieldLink RX3 24 "ShelfStages$Goods" "size" "I", Cond.fieldLink RX3 9 "ShelfStages$Goods" "price" "[I", Cond.fieldLink RX3 15 "ShelfStages$Goods" "life" "[I", Cond.fieldLink RX3 18 "ShelfStages$Goods" "listed" "[I", Cond.fieldLink RX3 21 "ShelfStages$Goods" "list" "[I", Cond.static yX9_copyRow, Cond.initialized RX9, Cond.code yX9_copyRow cX9_copyRow 2 none, Cond.methodLink RX9 357 Lib.Math.min.name, Cond.static Lib.Math.min.name, Cond.initialized "java/lang/Math", Cond.code Lib.Math.min.name Lib.Math.min.code 2 (some .int), Cond.methodLink RX9 362 arraycopyName, Cond.native arraycopyName, Cond.static arraycopyName, Cond.initialized "java/lang/System", Cond.methodLink RX8 54 yX0_copyFrom, Cond.instanceMethod yX0_copyFrom, Cond.selects RX0 yX0_copyFrom yX0_copyFrom]
def wsX9_undo_r3 : List Cond := [Cond.initialized RX0, Cond.code yX0_copyFrom cX0_copyFrom 3 none, Cond.fieldLink RX0 38 "ShelfStages$Batches" "size" "I", Cond.fieldLink RX0 9 "ShelfStages$Batches" "good" "[I", Cond.fieldLink RX0 15 "ShelfStages$Batches" "came" "[I", Cond.fieldLink RX0 18 "ShelfStages$Batches" "left" "[I", Cond.fieldLink RX0 21 "ShelfStages$Batches" "shelf" "[I", Cond.fieldLink RX0 24 "ShelfStages$Batches" "sold" "[I", Cond.fieldLink RX0 27 "ShelfStages$Batches" "given" "[I", Cond.fieldLink RX0 30 "ShelfStages$Batches" "cents" "[I", Cond.fieldLink RX0 35 "ShelfStages$Batches" "wasted" "[[I", Cond.methodLink RX8 57 yX6_copyFrom, Cond.instanceMethod yX6_copyFrom, Cond.selects RX6 yX6_copyFrom yX6_copyFrom, Cond.initialized RX6, Cond.code yX6_copyFrom cX6_copyFrom 2 none, Cond.fieldLink RX6 48 "ShelfStages$Orders" "size" "I", Cond.fieldLink RX6 52 "ShelfStages$Orders" "takes" "I", Cond.fieldLink RX6 9 "ShelfStages$Orders" "good" "[I", Cond.fieldLink RX6 15 "ShelfStages$Orders" "wanted" "[I", Cond.fieldLink RX6 18 "ShelfStages$Orders" "got" "[I", Cond.fieldLink RX6 21 "ShelfStages$Orders" "replaced" "[I", Cond.fieldLink RX6 24 "ShelfStages$Orders" "least" "[I", Cond.fieldLink RX6 27 "ShelfStages$Orders" "accepts" "[I"]
def wsX9_undo_r4 : List Cond := [Cond.fieldLink RX6 30 "ShelfStages$Orders" "parts" "[I", Cond.fieldLink RX6 33 "ShelfStages$Orders" "due" "[I", Cond.fieldLink RX6 36 "ShelfStages$Orders" "day" "[I", Cond.fieldLink RX6 39 "ShelfStages$Orders" "firstTake" "[I", Cond.fieldLink RX6 42 "ShelfStages$Orders" "takeBatch" "[I", Cond.fieldLink RX6 45 "ShelfStages$Orders" "takeUnits" "[I", Cond.methodLink RX8 60 yX7_copyFrom, Cond.instanceMethod yX7_copyFrom, Cond.selects RX7 yX7_copyFrom yX7_copyFrom, Cond.initialized RX7, Cond.code yX7_copyFrom cX7_copyFrom 3 none, Cond.fieldLink RX7 9 "ShelfStages$Stages" "share" "[I", Cond.fieldLink RX7 18 "ShelfStages$Stages" "markdown" "[F", Cond.methodLink RX8 63 yX5_copyFrom, Cond.instanceMethod yX5_copyFrom, Cond.selects RX5 yX5_copyFrom yX5_copyFrom, Cond.initialized RX5, Cond.code yX5_copyFrom cX5_copyFrom 2 none, Cond.fieldLink RX5 24 "ShelfStages$Log" "size" "I", Cond.fieldLink RX5 28 "ShelfStages$Log" "next" "I", Cond.fieldLink RX5 9 "ShelfStages$Log" "kind" "[I", Cond.fieldLink RX5 15 "ShelfStages$Log" "batch" "[I", Cond.fieldLink RX5 18 "ShelfStages$Log" "units" "[I", Cond.fieldLink RX5 21 "ShelfStages$Log" "day" "[I"]
def wsX9_undo : List Cond := .code yX9_undo cX9_undo 1 (some .int) :: ((wsX9_undo_r1 ++ (wsX9_undo_r2 ++ (wsX9_undo_r3 ++ wsX9_undo_r4))) ++ wsX90 ++ wsX40 ++ wsX80 ++ wsX30 ++ wsX00 ++ wsX60 ++ wsX70 ++ wsX50)
def wsX9_keep_r1 : List Cond := [Cond.fieldLink RX9 16 "ShelfStages" "snapshot" "LShelfStages$State;", Cond.fieldLink RX9 12 "ShelfStages" "now" "LShelfStages$State;", Cond.fieldLink RX9 216 "ShelfStages" "hasSnapshot" "Z", Cond.fieldLink RX9 172 "ShelfStages$State" "day" "I", Cond.methodLink RX9 213 yX8_copyFrom, Cond.instanceMethod yX8_copyFrom, Cond.selects RX8 yX8_copyFrom yX8_copyFrom, Cond.initialized RX8, Cond.code yX8_copyFrom cX8_copyFrom 2 none, Cond.fieldLink RX8 12 "ShelfStages$State" "goods" "LShelfStages$Goods;", Cond.fieldLink RX8 21 "ShelfStages$State" "batches" "LShelfStages$Batches;", Cond.fieldLink RX8 28 "ShelfStages$State" "orders" "LShelfStages$Orders;", Cond.fieldLink RX8 35 "ShelfStages$State" "stages" "LShelfStages$Stages;", Cond.fieldLink RX8 42 "ShelfStages$State" "log" "LShelfStages$Log;", Cond.fieldLink RX8 46 "ShelfStages$State" "settings" "[I", Cond.fieldLink RX8 70 "ShelfStages$State" "rebate" "F", Cond.fieldLink RX8 74 "ShelfStages$State" "day" "I", Cond.methodLink RX8 50 yX3_copyFrom, Cond.instanceMethod yX3_copyFrom, Cond.selects RX3 yX3_copyFrom yX3_copyFrom, Cond.initialized RX3, Cond.code yX3_copyFrom cX3_copyFrom 2 none, Cond.fieldLink RX3 24 "ShelfStages$Goods" "size" "I", Cond.fieldLink RX3 9 "ShelfStages$Goods" "price" "[I"]
def wsX9_keep_r2 : List Cond := [Cond.fieldLink RX3 15 "ShelfStages$Goods" "life" "[I", Cond.fieldLink RX3 18 "ShelfStages$Goods" "listed" "[I", Cond.fieldLink RX3 21 "ShelfStages$Goods" "list" "[I", Cond.static yX9_copyRow, Cond.initialized RX9, Cond.code yX9_copyRow cX9_copyRow 2 none, Cond.methodLink RX9 357 Lib.Math.min.name, Cond.static Lib.Math.min.name, Cond.initialized "java/lang/Math", Cond.code Lib.Math.min.name Lib.Math.min.code 2 (some .int), Cond.methodLink RX9 362 arraycopyName, Cond.native arraycopyName, Cond.static arraycopyName, Cond.initialized "java/lang/System", Cond.methodLink RX8 54 yX0_copyFrom, Cond.instanceMethod yX0_copyFrom, Cond.selects RX0 yX0_copyFrom yX0_copyFrom, Cond.initialized RX0, Cond.code yX0_copyFrom cX0_copyFrom 3 none, Cond.fieldLink RX0 38 "ShelfStages$Batches" "size" "I", Cond.fieldLink RX0 9 "ShelfStages$Batches" "good" "[I", Cond.fieldLink RX0 15 "ShelfStages$Batches" "came" "[I", Cond.fieldLink RX0 18 "ShelfStages$Batches" "left" "[I", Cond.fieldLink RX0 21 "ShelfStages$Batches" "shelf" "[I"]
def wsX9_keep_r3 : List Cond := [Cond.fieldLink RX0 24 "ShelfStages$Batches" "sold" "[I", Cond.fieldLink RX0 27 "ShelfStages$Batches" "given" "[I", Cond.fieldLink RX0 30 "ShelfStages$Batches" "cents" "[I", Cond.fieldLink RX0 35 "ShelfStages$Batches" "wasted" "[[I", Cond.methodLink RX8 57 yX6_copyFrom, Cond.instanceMethod yX6_copyFrom, Cond.selects RX6 yX6_copyFrom yX6_copyFrom, Cond.initialized RX6, Cond.code yX6_copyFrom cX6_copyFrom 2 none, Cond.fieldLink RX6 48 "ShelfStages$Orders" "size" "I", Cond.fieldLink RX6 52 "ShelfStages$Orders" "takes" "I", Cond.fieldLink RX6 9 "ShelfStages$Orders" "good" "[I", Cond.fieldLink RX6 15 "ShelfStages$Orders" "wanted" "[I", Cond.fieldLink RX6 18 "ShelfStages$Orders" "got" "[I", Cond.fieldLink RX6 21 "ShelfStages$Orders" "replaced" "[I", Cond.fieldLink RX6 24 "ShelfStages$Orders" "least" "[I", Cond.fieldLink RX6 27 "ShelfStages$Orders" "accepts" "[I", Cond.fieldLink RX6 30 "ShelfStages$Orders" "parts" "[I", Cond.fieldLink RX6 33 "ShelfStages$Orders" "due" "[I", Cond.fieldLink RX6 36 "ShelfStages$Orders" "day" "[I", Cond.fieldLink RX6 39 "ShelfStages$Orders" "firstTake" "[I", Cond.fieldLink RX6 42 "ShelfStages$Orders" "takeBatch" "[I", Cond.fieldLink RX6 45 "ShelfStages$Orders" "takeUnits" "[I", Cond.methodLink RX8 60 yX7_copyFrom]
def wsX9_keep_r4 : List Cond := [Cond.instanceMethod yX7_copyFrom, Cond.selects RX7 yX7_copyFrom yX7_copyFrom, Cond.initialized RX7, Cond.code yX7_copyFrom cX7_copyFrom 3 none, Cond.fieldLink RX7 9 "ShelfStages$Stages" "share" "[I", Cond.fieldLink RX7 18 "ShelfStages$Stages" "markdown" "[F", Cond.methodLink RX8 63 yX5_copyFrom, Cond.instanceMethod yX5_copyFrom, Cond.selects RX5 yX5_copyFrom yX5_copyFrom, Cond.initialized RX5, Cond.code yX5_copyFrom cX5_copyFrom 2 none, Cond.fieldLink RX5 24 "ShelfStages$Log" "size" "I", Cond.fieldLink RX5 28 "ShelfStages$Log" "next" "I", Cond.fieldLink RX5 9 "ShelfStages$Log" "kind" "[I", Cond.fieldLink RX5 15 "ShelfStages$Log" "batch" "[I", Cond.fieldLink RX5 18 "ShelfStages$Log" "units" "[I", Cond.fieldLink RX5 21 "ShelfStages$Log" "day" "[I"]
def wsX9_keep : List Cond := .code yX9_keep cX9_keep 1 (some .int) :: ((wsX9_keep_r1 ++ (wsX9_keep_r2 ++ (wsX9_keep_r3 ++ wsX9_keep_r4))) ++ wsX90 ++ wsX80 ++ wsX30 ++ wsX00 ++ wsX60 ++ wsX70 ++ wsX50)
def wsX9_restore_r1 : List Cond := [Cond.fieldLink RX9 216 "ShelfStages" "hasSnapshot" "Z", Cond.fieldLink RX9 25 "ShelfStages" "history" "LShelfStages$History;", Cond.fieldLink RX9 12 "ShelfStages" "now" "LShelfStages$State;", Cond.fieldLink RX9 16 "ShelfStages" "snapshot" "LShelfStages$State;", Cond.fieldLink RX9 172 "ShelfStages$State" "day" "I", Cond.methodLink RX9 61 yX4_push, Cond.instanceMethod yX4_push, Cond.selects RX4 yX4_push yX4_push, Cond.initialized RX4, Cond.code yX4_push cX4_push 2 none, Cond.fieldLink RX4 18 "ShelfStages$History" "size" "I", Cond.fieldLink RX4 22 "ShelfStages$History" "oldest" "I", Cond.fieldLink RX4 11 "ShelfStages$History" "states" "[LShelfStages$State;", Cond.methodLink RX4 25 yX8_copyFrom, Cond.instanceMethod yX8_copyFrom, Cond.selects RX8 yX8_copyFrom yX8_copyFrom, Cond.initialized RX8, Cond.code yX8_copyFrom cX8_copyFrom 2 none, Cond.fieldLink RX8 12 "ShelfStages$State" "goods" "LShelfStages$Goods;", Cond.fieldLink RX8 21 "ShelfStages$State" "batches" "LShelfStages$Batches;", Cond.fieldLink RX8 28 "ShelfStages$State" "orders" "LShelfStages$Orders;", Cond.fieldLink RX8 35 "ShelfStages$State" "stages" "LShelfStages$Stages;", Cond.fieldLink RX8 42 "ShelfStages$State" "log" "LShelfStages$Log;", Cond.fieldLink RX8 46 "ShelfStages$State" "settings" "[I"]
def wsX9_restore_r2 : List Cond := [Cond.fieldLink RX8 70 "ShelfStages$State" "rebate" "F", Cond.fieldLink RX8 74 "ShelfStages$State" "day" "I", Cond.methodLink RX8 50 yX3_copyFrom, Cond.instanceMethod yX3_copyFrom, Cond.selects RX3 yX3_copyFrom yX3_copyFrom, Cond.initialized RX3, Cond.code yX3_copyFrom cX3_copyFrom 2 none, Cond.fieldLink RX3 24 "ShelfStages$Goods" "size" "I", Cond.fieldLink RX3 9 "ShelfStages$Goods" "price" "[I", Cond.fieldLink RX3 15 "ShelfStages$Goods" "life" "[I", Cond.fieldLink RX3 18 "ShelfStages$Goods" "listed" "[I", Cond.fieldLink RX3 21 "ShelfStages$Goods" "list" "[I", Cond.static yX9_copyRow, Cond.initialized RX9, Cond.code yX9_copyRow cX9_copyRow 2 none, Cond.methodLink RX9 357 Lib.Math.min.name, Cond.static Lib.Math.min.name, Cond.initialized "java/lang/Math", Cond.code Lib.Math.min.name Lib.Math.min.code 2 (some .int), Cond.methodLink RX9 362 arraycopyName, Cond.native arraycopyName, Cond.static arraycopyName, Cond.initialized "java/lang/System", Cond.methodLink RX8 54 yX0_copyFrom]
def wsX9_restore_r3 : List Cond := [Cond.instanceMethod yX0_copyFrom, Cond.selects RX0 yX0_copyFrom yX0_copyFrom, Cond.initialized RX0, Cond.code yX0_copyFrom cX0_copyFrom 3 none, Cond.fieldLink RX0 38 "ShelfStages$Batches" "size" "I", Cond.fieldLink RX0 9 "ShelfStages$Batches" "good" "[I", Cond.fieldLink RX0 15 "ShelfStages$Batches" "came" "[I", Cond.fieldLink RX0 18 "ShelfStages$Batches" "left" "[I", Cond.fieldLink RX0 21 "ShelfStages$Batches" "shelf" "[I", Cond.fieldLink RX0 24 "ShelfStages$Batches" "sold" "[I", Cond.fieldLink RX0 27 "ShelfStages$Batches" "given" "[I", Cond.fieldLink RX0 30 "ShelfStages$Batches" "cents" "[I", Cond.fieldLink RX0 35 "ShelfStages$Batches" "wasted" "[[I", Cond.methodLink RX8 57 yX6_copyFrom, Cond.instanceMethod yX6_copyFrom, Cond.selects RX6 yX6_copyFrom yX6_copyFrom, Cond.initialized RX6, Cond.code yX6_copyFrom cX6_copyFrom 2 none, Cond.fieldLink RX6 48 "ShelfStages$Orders" "size" "I", Cond.fieldLink RX6 52 "ShelfStages$Orders" "takes" "I", Cond.fieldLink RX6 9 "ShelfStages$Orders" "good" "[I", Cond.fieldLink RX6 15 "ShelfStages$Orders" "wanted" "[I", Cond.fieldLink RX6 18 "ShelfStages$Orders" "got" "[I", Cond.fieldLink RX6 21 "ShelfStages$Orders" "replaced" "[I"]
def wsX9_restore_r4 : List Cond := [Cond.fieldLink RX6 24 "ShelfStages$Orders" "least" "[I", Cond.fieldLink RX6 27 "ShelfStages$Orders" "accepts" "[I", Cond.fieldLink RX6 30 "ShelfStages$Orders" "parts" "[I", Cond.fieldLink RX6 33 "ShelfStages$Orders" "due" "[I", Cond.fieldLink RX6 36 "ShelfStages$Orders" "day" "[I", Cond.fieldLink RX6 39 "ShelfStages$Orders" "firstTake" "[I", Cond.fieldLink RX6 42 "ShelfStages$Orders" "takeBatch" "[I", Cond.fieldLink RX6 45 "ShelfStages$Orders" "takeUnits" "[I", Cond.methodLink RX8 60 yX7_copyFrom, Cond.instanceMethod yX7_copyFrom, Cond.selects RX7 yX7_copyFrom yX7_copyFrom, Cond.initialized RX7, Cond.code yX7_copyFrom cX7_copyFrom 3 none, Cond.fieldLink RX7 9 "ShelfStages$Stages" "share" "[I", Cond.fieldLink RX7 18 "ShelfStages$Stages" "markdown" "[F", Cond.methodLink RX8 63 yX5_copyFrom, Cond.instanceMethod yX5_copyFrom, Cond.selects RX5 yX5_copyFrom yX5_copyFrom, Cond.initialized RX5, Cond.code yX5_copyFrom cX5_copyFrom 2 none, Cond.fieldLink RX5 24 "ShelfStages$Log" "size" "I", Cond.fieldLink RX5 28 "ShelfStages$Log" "next" "I", Cond.fieldLink RX5 9 "ShelfStages$Log" "kind" "[I", Cond.fieldLink RX5 15 "ShelfStages$Log" "batch" "[I"]
def wsX9_restore_r5 : List Cond := [Cond.fieldLink RX5 18 "ShelfStages$Log" "units" "[I", Cond.fieldLink RX5 21 "ShelfStages$Log" "day" "[I", Cond.methodLink RX9 213 yX8_copyFrom]
def wsX9_restore : List Cond := .code yX9_restore cX9_restore 1 (some .int) :: ((wsX9_restore_r1 ++ (wsX9_restore_r2 ++ (wsX9_restore_r3 ++ (wsX9_restore_r4 ++ wsX9_restore_r5)))) ++ wsX90 ++ wsX80 ++ wsX40 ++ wsX30 ++ wsX00 ++ wsX60 ++ wsX70 ++ wsX50)
def wsX9_good_r1 : List Cond := [Cond.fieldLink RX9 12 "ShelfStages" "now" "LShelfStages$State;", Cond.fieldLink RX9 129 "ShelfStages$State" "batches" "LShelfStages$Batches;", Cond.fieldLink RX9 51 "ShelfStages$State" "goods" "LShelfStages$Goods;", Cond.fieldLink RX9 73 "ShelfStages$Goods" "price" "[I", Cond.fieldLink RX9 220 "ShelfStages$Goods" "life" "[I", Cond.fieldLink RX9 77 "ShelfStages$Goods" "listed" "[I", Cond.fieldLink RX9 192 "ShelfStages$Batches" "shelf" "[I", Cond.fieldLink RX9 226 "ShelfStages$Batches" "sold" "[I", Cond.fieldLink RX9 165 "ShelfStages$State" "orders" "LShelfStages$Orders;", Cond.methodLink RX9 69 yX9_hasGood, Cond.instanceMethod yX9_hasGood, Cond.selects RX9 yX9_hasGood yX9_hasGood, Cond.initialized RX9, Cond.code yX9_hasGood cX9_hasGood 2 (some .boolean), Cond.fieldLink RX9 55 "ShelfStages$Goods" "size" "I", Cond.methodLink RX9 47 yX9_within, Cond.static yX9_within, Cond.code yX9_within cX9_within 3 (some .boolean), Cond.methodLink RX9 198 yX0_sumOfGood, Cond.instanceMethod yX0_sumOfGood, Cond.selects RX0 yX0_sumOfGood yX0_sumOfGood, Cond.initialized RX0, Cond.code yX0_sumOfGood cX0_sumOfGood 5 (some .int), Cond.fieldLink RX0 38 "ShelfStages$Batches" "size" "I"]
def wsX9_good_r2 : List Cond := [Cond.fieldLink RX0 9 "ShelfStages$Batches" "good" "[I", Cond.methodLink RX9 223 yX0_countOfGood, Cond.instanceMethod yX0_countOfGood, Cond.selects RX0 yX0_countOfGood yX0_countOfGood, Cond.code yX0_countOfGood cX0_countOfGood 4 (some .int), Cond.methodLink RX9 229 yX6_gotForGood, Cond.instanceMethod yX6_gotForGood, Cond.selects RX6 yX6_gotForGood yX6_gotForGood, Cond.initialized RX6, Cond.code yX6_gotForGood cX6_gotForGood 4 (some .int), Cond.fieldLink RX6 48 "ShelfStages$Orders" "size" "I", Cond.fieldLink RX6 9 "ShelfStages$Orders" "good" "[I", Cond.fieldLink RX6 18 "ShelfStages$Orders" "got" "[I"]
def wsX9_good : List Cond := .code yX9_good cX9_good 4 (some .int) :: ((wsX9_good_r1 ++ wsX9_good_r2) ++ wsX90 ++ wsX80 ++ wsX30 ++ wsX00 ++ wsX60)
def wsX9_substitute : List Cond := .code yX9_substitute cX9_substitute 4 (some .int) :: ([.fieldLink RX9 12 "ShelfStages" "now" "LShelfStages$State;", .fieldLink RX9 51 "ShelfStages$State" "goods" "LShelfStages$Goods;", .methodLink RX9 88 yX9_placeError, .instanceMethod yX9_placeError, .selects RX9 yX9_placeError yX9_placeError, .initialized RX9, .code yX9_placeError cX9_placeError 3 (some .int), .fieldLink RX9 77 "ShelfStages$Goods" "listed" "[I", .methodLink RX9 69 yX9_hasGood, .instanceMethod yX9_hasGood, .selects RX9 yX9_hasGood yX9_hasGood, .code yX9_hasGood cX9_hasGood 2 (some .boolean), .fieldLink RX9 55 "ShelfStages$Goods" "size" "I", .methodLink RX9 47 yX9_within, .static yX9_within, .code yX9_within cX9_within 3 (some .boolean), .methodLink RX9 232 yX3_listedAt, .instanceMethod yX3_listedAt, .selects RX3 yX3_listedAt yX3_listedAt, .initialized RX3, .code yX3_listedAt cX3_listedAt 3 (some .int), .fieldLink RX3 21 "ShelfStages$Goods" "list" "[I"] ++ wsX90 ++ wsX80 ++ wsX30)
def wsX9_batch_r1 : List Cond := [Cond.fieldLink RX9 12 "ShelfStages" "now" "LShelfStages$State;", Cond.fieldLink RX9 129 "ShelfStages$State" "batches" "LShelfStages$Batches;", Cond.fieldLink RX9 235 "ShelfStages$Batches" "good" "[I", Cond.fieldLink RX9 238 "ShelfStages$Batches" "came" "[I", Cond.fieldLink RX9 241 "ShelfStages$Batches" "left" "[I", Cond.fieldLink RX9 192 "ShelfStages$Batches" "shelf" "[I", Cond.fieldLink RX9 226 "ShelfStages$Batches" "sold" "[I", Cond.fieldLink RX9 244 "ShelfStages$Batches" "given" "[I", Cond.fieldLink RX9 250 "ShelfStages$Batches" "wasted" "[[I", Cond.fieldLink RX9 257 "ShelfStages$Batches" "cents" "[I", Cond.methodLink RX9 189 yX9_hasBatch, Cond.instanceMethod yX9_hasBatch, Cond.selects RX9 yX9_hasBatch yX9_hasBatch, Cond.initialized RX9, Cond.code yX9_hasBatch cX9_hasBatch 2 (some .boolean), Cond.fieldLink RX9 133 "ShelfStages$Batches" "size" "I", Cond.methodLink RX9 47 yX9_within, Cond.static yX9_within, Cond.code yX9_within cX9_within 3 (some .boolean), Cond.methodLink RX9 247 yX0_wastedOf, Cond.instanceMethod yX0_wastedOf, Cond.selects RX0 yX0_wastedOf yX0_wastedOf, Cond.initialized RX0, Cond.code yX0_wastedOf cX0_wastedOf 2 (some .int)]
def wsX9_batch_r2 : List Cond := [Cond.fieldLink RX0 35 "ShelfStages$Batches" "wasted" "[[I", Cond.methodLink RX9 254 yX8_stageOf, Cond.instanceMethod yX8_stageOf, Cond.selects RX8 yX8_stageOf yX8_stageOf, Cond.initialized RX8, Cond.code yX8_stageOf cX8_stageOf 2 (some .int), Cond.fieldLink RX8 35 "ShelfStages$State" "stages" "LShelfStages$Stages;", Cond.fieldLink RX8 21 "ShelfStages$State" "batches" "LShelfStages$Batches;", Cond.fieldLink RX8 78 "ShelfStages$Batches" "left" "[I", Cond.fieldLink RX8 12 "ShelfStages$State" "goods" "LShelfStages$Goods;", Cond.fieldLink RX8 81 "ShelfStages$Goods" "life" "[I", Cond.fieldLink RX8 84 "ShelfStages$Batches" "good" "[I", Cond.methodLink RX8 87 yX7_reached, Cond.instanceMethod yX7_reached, Cond.selects RX7 yX7_reached yX7_reached, Cond.initialized RX7, Cond.code yX7_reached cX7_reached 4 (some .int), Cond.fieldLink RX7 9 "ShelfStages$Stages" "share" "[I"]
def wsX9_batch : List Cond := .code yX9_batch cX9_batch 4 (some .int) :: ((wsX9_batch_r1 ++ wsX9_batch_r2) ++ wsX90 ++ wsX80 ++ wsX00 ++ wsX30 ++ wsX70)
def wsX9_notANumber : List Cond := .code yX9_notANumber cX9_notANumber 0 (some .float) :: ([.constantFloat RX9 356 (2143289344)])
def wsX9_unitPrice_r1 : List Cond := [Cond.fieldLink RX9 12 "ShelfStages" "now" "LShelfStages$State;", Cond.methodLink RX9 189 yX9_hasBatch, Cond.instanceMethod yX9_hasBatch, Cond.selects RX9 yX9_hasBatch yX9_hasBatch, Cond.initialized RX9, Cond.code yX9_hasBatch cX9_hasBatch 2 (some .boolean), Cond.fieldLink RX9 129 "ShelfStages$State" "batches" "LShelfStages$Batches;", Cond.fieldLink RX9 133 "ShelfStages$Batches" "size" "I", Cond.methodLink RX9 47 yX9_within, Cond.static yX9_within, Cond.code yX9_within cX9_within 3 (some .boolean), Cond.methodLink RX9 260 yX9_notANumber, Cond.static yX9_notANumber, Cond.code yX9_notANumber cX9_notANumber 0 (some .float), Cond.constantFloat RX9 356 (2143289344), Cond.methodLink RX9 264 yX8_priceOfUnit, Cond.instanceMethod yX8_priceOfUnit, Cond.selects RX8 yX8_priceOfUnit yX8_priceOfUnit, Cond.initialized RX8, Cond.code yX8_priceOfUnit cX8_priceOfUnit 3 (some .float), Cond.fieldLink RX8 12 "ShelfStages$State" "goods" "LShelfStages$Goods;", Cond.fieldLink RX8 91 "ShelfStages$Goods" "price" "[I", Cond.fieldLink RX8 21 "ShelfStages$State" "batches" "LShelfStages$Batches;", Cond.fieldLink RX8 84 "ShelfStages$Batches" "good" "[I"]
def wsX9_unitPrice_r2 : List Cond := [Cond.fieldLink RX8 35 "ShelfStages$State" "stages" "LShelfStages$Stages;", Cond.fieldLink RX8 94 "ShelfStages$Stages" "markdown" "[F", Cond.constantFloat RX8 102 (1120403456), Cond.methodLink RX8 98 yX8_stageOf, Cond.instanceMethod yX8_stageOf, Cond.selects RX8 yX8_stageOf yX8_stageOf, Cond.code yX8_stageOf cX8_stageOf 2 (some .int), Cond.fieldLink RX8 78 "ShelfStages$Batches" "left" "[I", Cond.fieldLink RX8 81 "ShelfStages$Goods" "life" "[I", Cond.methodLink RX8 87 yX7_reached, Cond.instanceMethod yX7_reached, Cond.selects RX7 yX7_reached yX7_reached, Cond.initialized RX7, Cond.code yX7_reached cX7_reached 4 (some .int), Cond.fieldLink RX7 9 "ShelfStages$Stages" "share" "[I"]
def wsX9_unitPrice : List Cond := .code yX9_unitPrice cX9_unitPrice 2 (some .float) :: ((wsX9_unitPrice_r1 ++ wsX9_unitPrice_r2) ++ wsX90 ++ wsX80 ++ wsX00 ++ wsX30 ++ wsX70)
def wsX9_isStage : List Cond := .code yX9_isStage cX9_isStage 1 (some .boolean) :: ([.methodLink RX9 47 yX9_within, .static yX9_within, .initialized RX9, .code yX9_within cX9_within 3 (some .boolean)])
def wsX9_markdown : List Cond := .code yX9_markdown cX9_markdown 2 (some .float) :: ([.fieldLink RX9 12 "ShelfStages" "now" "LShelfStages$State;", .fieldLink RX9 94 "ShelfStages$State" "stages" "LShelfStages$Stages;", .fieldLink RX9 111 "ShelfStages$Stages" "markdown" "[F", .methodLink RX9 267 yX9_isStage, .static yX9_isStage, .initialized RX9, .code yX9_isStage cX9_isStage 1 (some .boolean), .methodLink RX9 47 yX9_within, .static yX9_within, .code yX9_within cX9_within 3 (some .boolean), .methodLink RX9 260 yX9_notANumber, .static yX9_notANumber, .code yX9_notANumber cX9_notANumber 0 (some .float), .constantFloat RX9 356 (2143289344)] ++ wsX90 ++ wsX80 ++ wsX70)
def wsX9_stage_r1 : List Cond := [Cond.fieldLink RX9 12 "ShelfStages" "now" "LShelfStages$State;", Cond.fieldLink RX9 94 "ShelfStages$State" "stages" "LShelfStages$Stages;", Cond.fieldLink RX9 104 "ShelfStages$Stages" "share" "[I", Cond.methodLink RX9 267 yX9_isStage, Cond.static yX9_isStage, Cond.initialized RX9, Cond.code yX9_isStage cX9_isStage 1 (some .boolean), Cond.methodLink RX9 47 yX9_within, Cond.static yX9_within, Cond.code yX9_within cX9_within 3 (some .boolean), Cond.methodLink RX9 270 yX8_batchesInStage, Cond.instanceMethod yX8_batchesInStage, Cond.selects RX8 yX8_batchesInStage yX8_batchesInStage, Cond.initialized RX8, Cond.code yX8_batchesInStage cX8_batchesInStage 4 (some .int), Cond.fieldLink RX8 21 "ShelfStages$State" "batches" "LShelfStages$Batches;", Cond.fieldLink RX8 106 "ShelfStages$Batches" "size" "I", Cond.methodLink RX8 109 yX8_isOnShelfIn, Cond.instanceMethod yX8_isOnShelfIn, Cond.selects RX8 yX8_isOnShelfIn yX8_isOnShelfIn, Cond.code yX8_isOnShelfIn cX8_isOnShelfIn 3 (some .boolean), Cond.fieldLink RX8 103 "ShelfStages$Batches" "shelf" "[I", Cond.methodLink RX8 98 yX8_stageOf, Cond.instanceMethod yX8_stageOf]
def wsX9_stage_r2 : List Cond := [Cond.selects RX8 yX8_stageOf yX8_stageOf, Cond.code yX8_stageOf cX8_stageOf 2 (some .int), Cond.fieldLink RX8 35 "ShelfStages$State" "stages" "LShelfStages$Stages;", Cond.fieldLink RX8 78 "ShelfStages$Batches" "left" "[I", Cond.fieldLink RX8 12 "ShelfStages$State" "goods" "LShelfStages$Goods;", Cond.fieldLink RX8 81 "ShelfStages$Goods" "life" "[I", Cond.fieldLink RX8 84 "ShelfStages$Batches" "good" "[I", Cond.methodLink RX8 87 yX7_reached, Cond.instanceMethod yX7_reached, Cond.selects RX7 yX7_reached yX7_reached, Cond.initialized RX7, Cond.code yX7_reached cX7_reached 4 (some .int), Cond.fieldLink RX7 9 "ShelfStages$Stages" "share" "[I", Cond.methodLink RX9 273 yX8_unitsInStage, Cond.instanceMethod yX8_unitsInStage, Cond.selects RX8 yX8_unitsInStage yX8_unitsInStage, Cond.code yX8_unitsInStage cX8_unitsInStage 4 (some .int)]
def wsX9_stage : List Cond := .code yX9_stage cX9_stage 3 (some .int) :: ((wsX9_stage_r1 ++ wsX9_stage_r2) ++ wsX90 ++ wsX80 ++ wsX70 ++ wsX00 ++ wsX30)
def wsX9_hasOrder : List Cond := .code yX9_hasOrder cX9_hasOrder 2 (some .boolean) :: ([.fieldLink RX9 12 "ShelfStages" "now" "LShelfStages$State;", .fieldLink RX9 165 "ShelfStages$State" "orders" "LShelfStages$Orders;", .fieldLink RX9 169 "ShelfStages$Orders" "size" "I", .methodLink RX9 47 yX9_within, .static yX9_within, .initialized RX9, .code yX9_within cX9_within 3 (some .boolean)] ++ wsX90 ++ wsX80 ++ wsX60)
def wsX9_orderTold : List Cond := .code yX9_orderTold cX9_orderTold 4 (some .int) :: ([.fieldLink RX9 12 "ShelfStages" "now" "LShelfStages$State;", .fieldLink RX9 165 "ShelfStages$State" "orders" "LShelfStages$Orders;", .fieldLink RX9 279 "ShelfStages$Orders" "good" "[I", .fieldLink RX9 280 "ShelfStages$Orders" "wanted" "[I", .fieldLink RX9 283 "ShelfStages$Orders" "got" "[I", .fieldLink RX9 285 "ShelfStages$Orders" "replaced" "[I", .fieldLink RX9 288 "ShelfStages$Orders" "least" "[I", .fieldLink RX9 291 "ShelfStages$Orders" "accepts" "[I", .fieldLink RX9 294 "ShelfStages$Orders" "parts" "[I", .fieldLink RX9 297 "ShelfStages$Orders" "due" "[I", .fieldLink RX9 300 "ShelfStages$Orders" "day" "[I", .methodLink RX9 276 yX9_hasOrder, .instanceMethod yX9_hasOrder, .selects RX9 yX9_hasOrder yX9_hasOrder, .initialized RX9, .code yX9_hasOrder cX9_hasOrder 2 (some .boolean), .fieldLink RX9 169 "ShelfStages$Orders" "size" "I", .methodLink RX9 47 yX9_within, .static yX9_within, .code yX9_within cX9_within 3 (some .boolean)] ++ wsX90 ++ wsX80 ++ wsX60)
def wsX9_taken : List Cond := .code yX9_taken cX9_taken 5 (some .int) :: ([.fieldLink RX9 12 "ShelfStages" "now" "LShelfStages$State;", .fieldLink RX9 165 "ShelfStages$State" "orders" "LShelfStages$Orders;", .fieldLink RX9 294 "ShelfStages$Orders" "parts" "[I", .fieldLink RX9 302 "ShelfStages$Orders" "firstTake" "[I", .fieldLink RX9 305 "ShelfStages$Orders" "takeBatch" "[I", .fieldLink RX9 308 "ShelfStages$Orders" "takeUnits" "[I", .methodLink RX9 276 yX9_hasOrder, .instanceMethod yX9_hasOrder, .selects RX9 yX9_hasOrder yX9_hasOrder, .initialized RX9, .code yX9_hasOrder cX9_hasOrder 2 (some .boolean), .fieldLink RX9 169 "ShelfStages$Orders" "size" "I", .methodLink RX9 47 yX9_within, .static yX9_within, .code yX9_within cX9_within 3 (some .boolean)] ++ wsX90 ++ wsX80 ++ wsX60)
def wsX9_wouldGet_r1 : List Cond := [Cond.fieldLink RX9 32 "ShelfStages" "filling" "LShelfStages$Filling;", Cond.fieldLink RX9 12 "ShelfStages" "now" "LShelfStages$State;", Cond.fieldLink RX9 186 "ShelfStages$Filling" "got" "I", Cond.fieldLink RX9 311 "ShelfStages$Filling" "replaced" "I", Cond.fieldLink RX9 313 "ShelfStages$Filling" "size" "I", Cond.fieldLink RX9 122 "ShelfStages$State" "rebate" "F", Cond.methodLink RX9 162 yX9_wishError, Cond.instanceMethod yX9_wishError, Cond.selects RX9 yX9_wishError yX9_wishError, Cond.initialized RX9, Cond.code yX9_wishError cX9_wishError 5 (some .int), Cond.methodLink RX9 69 yX9_hasGood, Cond.instanceMethod yX9_hasGood, Cond.selects RX9 yX9_hasGood yX9_hasGood, Cond.code yX9_hasGood cX9_hasGood 2 (some .boolean), Cond.fieldLink RX9 51 "ShelfStages$State" "goods" "LShelfStages$Goods;", Cond.fieldLink RX9 55 "ShelfStages$Goods" "size" "I", Cond.methodLink RX9 47 yX9_within, Cond.static yX9_within, Cond.code yX9_within cX9_within 3 (some .boolean), Cond.methodLink RX9 178 yX2_fill, Cond.instanceMethod yX2_fill, Cond.selects RX2 yX2_fill yX2_fill, Cond.initialized RX2]
def wsX9_wouldGet_r2 : List Cond := [Cond.code yX2_fill cX2_fill 9 none, Cond.fieldLink RX2 28 "ShelfStages$Filling" "size" "I", Cond.fieldLink RX2 32 "ShelfStages$Filling" "got" "I", Cond.fieldLink RX2 35 "ShelfStages$Filling" "orderedGood" "I", Cond.fieldLink RX2 38 "ShelfStages$Filling" "wanted" "I", Cond.fieldLink RX2 41 "ShelfStages$Filling" "least" "I", Cond.fieldLink RX2 44 "ShelfStages$State" "batches" "LShelfStages$Batches;", Cond.fieldLink RX2 50 "ShelfStages$Batches" "shelf" "[I", Cond.fieldLink RX2 21 "ShelfStages$Filling" "rest" "[I", Cond.fieldLink RX2 59 "ShelfStages$Batches" "size" "I", Cond.fieldLink RX2 24 "ShelfStages$Filling" "price" "[F", Cond.fieldLink RX2 68 "ShelfStages$State" "goods" "LShelfStages$Goods;", Cond.fieldLink RX2 72 "ShelfStages$Goods" "listed" "[I", Cond.fieldLink RX2 81 "ShelfStages$Filling" "replaced" "I", Cond.static yX9_copyRow, Cond.code yX9_copyRow cX9_copyRow 2 none, Cond.methodLink RX9 357 Lib.Math.min.name, Cond.static Lib.Math.min.name, Cond.initialized "java/lang/Math", Cond.code Lib.Math.min.name Lib.Math.min.code 2 (some .int), Cond.methodLink RX9 362 arraycopyName, Cond.native arraycopyName, Cond.static arraycopyName, Cond.initialized "java/lang/System"]
def wsX9_wouldGet_r3 : List Cond := [Cond.methodLink RX2 60 yX8_priceOfUnit, Cond.instanceMethod yX8_priceOfUnit, Cond.selects RX8 yX8_priceOfUnit yX8_priceOfUnit, Cond.initialized RX8, Cond.code yX8_priceOfUnit cX8_priceOfUnit 3 (some .float), Cond.fieldLink RX8 12 "ShelfStages$State" "goods" "LShelfStages$Goods;", Cond.fieldLink RX8 91 "ShelfStages$Goods" "price" "[I", Cond.fieldLink RX8 21 "ShelfStages$State" "batches" "LShelfStages$Batches;", Cond.fieldLink RX8 84 "ShelfStages$Batches" "good" "[I", Cond.fieldLink RX8 35 "ShelfStages$State" "stages" "LShelfStages$Stages;", Cond.fieldLink RX8 94 "ShelfStages$Stages" "markdown" "[F", Cond.constantFloat RX8 102 (1120403456), Cond.methodLink RX8 98 yX8_stageOf, Cond.instanceMethod yX8_stageOf, Cond.selects RX8 yX8_stageOf yX8_stageOf, Cond.code yX8_stageOf cX8_stageOf 2 (some .int), Cond.fieldLink RX8 78 "ShelfStages$Batches" "left" "[I", Cond.fieldLink RX8 81 "ShelfStages$Goods" "life" "[I", Cond.methodLink RX8 87 yX7_reached, Cond.instanceMethod yX7_reached, Cond.selects RX7 yX7_reached yX7_reached, Cond.initialized RX7, Cond.code yX7_reached cX7_reached 4 (some .int), Cond.fieldLink RX7 9 "ShelfStages$Stages" "share" "[I"]
def wsX9_wouldGet_r4 : List Cond := [Cond.methodLink RX2 64 yX2_takeFrom, Cond.instanceMethod yX2_takeFrom, Cond.selects RX2 yX2_takeFrom yX2_takeFrom, Cond.code yX2_takeFrom cX2_takeFrom 5 none, Cond.methodLink RX2 89 Lib.Math.min.name, Cond.methodLink RX2 85 yX2_nextBatch, Cond.instanceMethod yX2_nextBatch, Cond.selects RX2 yX2_nextBatch yX2_nextBatch, Cond.code yX2_nextBatch cX2_nextBatch 5 (some .int), Cond.methodLink RX2 107 yX2_isOpen, Cond.instanceMethod yX2_isOpen, Cond.selects RX2 yX2_isOpen yX2_isOpen, Cond.code yX2_isOpen cX2_isOpen 5 (some .boolean), Cond.fieldLink RX2 104 "ShelfStages$Batches" "good" "[I", Cond.fieldLink RX2 114 "ShelfStages$Batches" "left" "[I", Cond.methodLink RX2 111 yX2_isBefore, Cond.instanceMethod yX2_isBefore, Cond.selects RX2 yX2_isBefore yX2_isBefore, Cond.code yX2_isBefore cX2_isBefore 5 (some .boolean), Cond.fieldLink RX2 117 "ShelfStages$State" "settings" "[I", Cond.methodLink RX2 94 yX2_takePart, Cond.instanceMethod yX2_takePart, Cond.selects RX2 yX2_takePart yX2_takePart, Cond.code yX2_takePart cX2_takePart 4 none]
def wsX9_wouldGet_r5 : List Cond := [Cond.fieldLink RX2 9 "ShelfStages$Filling" "batch" "[I", Cond.fieldLink RX2 15 "ShelfStages$Filling" "units" "[I", Cond.fieldLink RX2 18 "ShelfStages$Filling" "cents" "[I", Cond.methodLink RX2 98 yX2_chargedPrice, Cond.instanceMethod yX2_chargedPrice, Cond.selects RX2 yX2_chargedPrice yX2_chargedPrice, Cond.code yX2_chargedPrice cX2_chargedPrice 5 (some .float), Cond.fieldLink RX2 102 "ShelfStages$Goods" "price" "[I", Cond.methodLink RX2 77 yX3_listedAt, Cond.instanceMethod yX3_listedAt, Cond.selects RX3 yX3_listedAt yX3_listedAt, Cond.initialized RX3, Cond.code yX3_listedAt cX3_listedAt 3 (some .int), Cond.fieldLink RX3 21 "ShelfStages$Goods" "list" "[I", Cond.methodLink RX9 314 yX2_due, Cond.instanceMethod yX2_due, Cond.selects RX2 yX2_due yX2_due, Cond.code yX2_due cX2_due 4 (some .int), Cond.constantFloat RX2 84 (1120403456)]
def wsX9_wouldGet : List Cond := .code yX9_wouldGet cX9_wouldGet 7 (some .int) :: ((wsX9_wouldGet_r1 ++ (wsX9_wouldGet_r2 ++ (wsX9_wouldGet_r3 ++ (wsX9_wouldGet_r4 ++ wsX9_wouldGet_r5)))) ++ wsX90 ++ wsX20 ++ wsX80 ++ wsX30 ++ wsX00 ++ wsX70)
def wsX9_wouldExpire_r1 : List Cond := [Cond.fieldLink RX9 19 "ShelfStages" "trial" "LShelfStages$State;", Cond.fieldLink RX9 12 "ShelfStages" "now" "LShelfStages$State;", Cond.fieldLink RX9 129 "ShelfStages$State" "batches" "LShelfStages$Batches;", Cond.fieldLink RX9 250 "ShelfStages$Batches" "wasted" "[[I", Cond.methodLink RX9 189 yX9_hasBatch, Cond.instanceMethod yX9_hasBatch, Cond.selects RX9 yX9_hasBatch yX9_hasBatch, Cond.initialized RX9, Cond.code yX9_hasBatch cX9_hasBatch 2 (some .boolean), Cond.fieldLink RX9 133 "ShelfStages$Batches" "size" "I", Cond.methodLink RX9 47 yX9_within, Cond.static yX9_within, Cond.code yX9_within cX9_within 3 (some .boolean), Cond.methodLink RX9 213 yX8_copyFrom, Cond.instanceMethod yX8_copyFrom, Cond.selects RX8 yX8_copyFrom yX8_copyFrom, Cond.initialized RX8, Cond.code yX8_copyFrom cX8_copyFrom 2 none, Cond.fieldLink RX8 12 "ShelfStages$State" "goods" "LShelfStages$Goods;", Cond.fieldLink RX8 21 "ShelfStages$State" "batches" "LShelfStages$Batches;", Cond.fieldLink RX8 28 "ShelfStages$State" "orders" "LShelfStages$Orders;", Cond.fieldLink RX8 35 "ShelfStages$State" "stages" "LShelfStages$Stages;", Cond.fieldLink RX8 42 "ShelfStages$State" "log" "LShelfStages$Log;", Cond.fieldLink RX8 46 "ShelfStages$State" "settings" "[I"]
def wsX9_wouldExpire_r2 : List Cond := [Cond.fieldLink RX8 70 "ShelfStages$State" "rebate" "F", Cond.fieldLink RX8 74 "ShelfStages$State" "day" "I", Cond.methodLink RX8 50 yX3_copyFrom, Cond.instanceMethod yX3_copyFrom, Cond.selects RX3 yX3_copyFrom yX3_copyFrom, Cond.initialized RX3, Cond.code yX3_copyFrom cX3_copyFrom 2 none, Cond.fieldLink RX3 24 "ShelfStages$Goods" "size" "I", Cond.fieldLink RX3 9 "ShelfStages$Goods" "price" "[I", Cond.fieldLink RX3 15 "ShelfStages$Goods" "life" "[I", Cond.fieldLink RX3 18 "ShelfStages$Goods" "listed" "[I", Cond.fieldLink RX3 21 "ShelfStages$Goods" "list" "[I", Cond.static yX9_copyRow, Cond.code yX9_copyRow cX9_copyRow 2 none, Cond.methodLink RX9 357 Lib.Math.min.name, Cond.static Lib.Math.min.name, Cond.initialized "java/lang/Math", Cond.code Lib.Math.min.name Lib.Math.min.code 2 (some .int), Cond.methodLink RX9 362 arraycopyName, Cond.native arraycopyName, Cond.static arraycopyName, Cond.initialized "java/lang/System", Cond.methodLink RX8 54 yX0_copyFrom, Cond.instanceMethod yX0_copyFrom]
def wsX9_wouldExpire_r3 : List Cond := [Cond.selects RX0 yX0_copyFrom yX0_copyFrom, Cond.initialized RX0, Cond.code yX0_copyFrom cX0_copyFrom 3 none, Cond.fieldLink RX0 38 "ShelfStages$Batches" "size" "I", Cond.fieldLink RX0 9 "ShelfStages$Batches" "good" "[I", Cond.fieldLink RX0 15 "ShelfStages$Batches" "came" "[I", Cond.fieldLink RX0 18 "ShelfStages$Batches" "left" "[I", Cond.fieldLink RX0 21 "ShelfStages$Batches" "shelf" "[I", Cond.fieldLink RX0 24 "ShelfStages$Batches" "sold" "[I", Cond.fieldLink RX0 27 "ShelfStages$Batches" "given" "[I", Cond.fieldLink RX0 30 "ShelfStages$Batches" "cents" "[I", Cond.fieldLink RX0 35 "ShelfStages$Batches" "wasted" "[[I", Cond.methodLink RX8 57 yX6_copyFrom, Cond.instanceMethod yX6_copyFrom, Cond.selects RX6 yX6_copyFrom yX6_copyFrom, Cond.initialized RX6, Cond.code yX6_copyFrom cX6_copyFrom 2 none, Cond.fieldLink RX6 48 "ShelfStages$Orders" "size" "I", Cond.fieldLink RX6 52 "ShelfStages$Orders" "takes" "I", Cond.fieldLink RX6 9 "ShelfStages$Orders" "good" "[I", Cond.fieldLink RX6 15 "ShelfStages$Orders" "wanted" "[I", Cond.fieldLink RX6 18 "ShelfStages$Orders" "got" "[I", Cond.fieldLink RX6 21 "ShelfStages$Orders" "replaced" "[I", Cond.fieldLink RX6 24 "ShelfStages$Orders" "least" "[I"]
def wsX9_wouldExpire_r4 : List Cond := [Cond.fieldLink RX6 27 "ShelfStages$Orders" "accepts" "[I", Cond.fieldLink RX6 30 "ShelfStages$Orders" "parts" "[I", Cond.fieldLink RX6 33 "ShelfStages$Orders" "due" "[I", Cond.fieldLink RX6 36 "ShelfStages$Orders" "day" "[I", Cond.fieldLink RX6 39 "ShelfStages$Orders" "firstTake" "[I", Cond.fieldLink RX6 42 "ShelfStages$Orders" "takeBatch" "[I", Cond.fieldLink RX6 45 "ShelfStages$Orders" "takeUnits" "[I", Cond.methodLink RX8 60 yX7_copyFrom, Cond.instanceMethod yX7_copyFrom, Cond.selects RX7 yX7_copyFrom yX7_copyFrom, Cond.initialized RX7, Cond.code yX7_copyFrom cX7_copyFrom 3 none, Cond.fieldLink RX7 9 "ShelfStages$Stages" "share" "[I", Cond.fieldLink RX7 18 "ShelfStages$Stages" "markdown" "[F", Cond.methodLink RX8 63 yX5_copyFrom, Cond.instanceMethod yX5_copyFrom, Cond.selects RX5 yX5_copyFrom yX5_copyFrom, Cond.initialized RX5, Cond.code yX5_copyFrom cX5_copyFrom 2 none, Cond.fieldLink RX5 24 "ShelfStages$Log" "size" "I", Cond.fieldLink RX5 28 "ShelfStages$Log" "next" "I", Cond.fieldLink RX5 9 "ShelfStages$Log" "kind" "[I", Cond.fieldLink RX5 15 "ShelfStages$Log" "batch" "[I", Cond.fieldLink RX5 18 "ShelfStages$Log" "units" "[I"]
def wsX9_wouldExpire_r5 : List Cond := [Cond.fieldLink RX5 21 "ShelfStages$Log" "day" "[I", Cond.methodLink RX9 206 yX8_passDays, Cond.instanceMethod yX8_passDays, Cond.selects RX8 yX8_passDays yX8_passDays, Cond.code yX8_passDays cX8_passDays 4 (some .int), Cond.methodLink RX8 164 yX0_age, Cond.instanceMethod yX0_age, Cond.selects RX0 yX0_age yX0_age, Cond.code yX0_age cX0_age 2 none, Cond.methodLink RX8 167 yX8_expire, Cond.instanceMethod yX8_expire, Cond.selects RX8 yX8_expire yX8_expire, Cond.code yX8_expire cX8_expire 4 (some .int), Cond.fieldLink RX8 106 "ShelfStages$Batches" "size" "I", Cond.fieldLink RX8 103 "ShelfStages$Batches" "shelf" "[I", Cond.fieldLink RX8 78 "ShelfStages$Batches" "left" "[I", Cond.methodLink RX8 161 yX8_waste, Cond.instanceMethod yX8_waste, Cond.selects RX8 yX8_waste yX8_waste, Cond.code yX8_waste cX8_waste 4 none, Cond.fieldLink RX8 157 "ShelfStages$Batches" "wasted" "[[I", Cond.methodLink RX8 117 yX5_append, Cond.instanceMethod yX5_append, Cond.selects RX5 yX5_append yX5_append]
def wsX9_wouldExpire_r6 : List Cond := [Cond.code yX5_append cX5_append 5 none, Cond.methodLink RX5 35 Lib.Math.min.name, Cond.methodLink RX8 171 yX8_donate, Cond.instanceMethod yX8_donate, Cond.selects RX8 yX8_donate yX8_donate, Cond.code yX8_donate cX8_donate 4 none, Cond.methodLink RX8 174 Lib.Math.min.name, Cond.methodLink RX8 98 yX8_stageOf, Cond.instanceMethod yX8_stageOf, Cond.selects RX8 yX8_stageOf yX8_stageOf, Cond.code yX8_stageOf cX8_stageOf 2 (some .int), Cond.fieldLink RX8 81 "ShelfStages$Goods" "life" "[I", Cond.fieldLink RX8 84 "ShelfStages$Batches" "good" "[I", Cond.methodLink RX8 87 yX7_reached, Cond.instanceMethod yX7_reached, Cond.selects RX7 yX7_reached yX7_reached, Cond.code yX7_reached cX7_reached 4 (some .int), Cond.methodLink RX8 179 yX8_give, Cond.instanceMethod yX8_give, Cond.selects RX8 yX8_give yX8_give, Cond.code yX8_give cX8_give 3 none, Cond.fieldLink RX8 154 "ShelfStages$Batches" "given" "[I"]
def wsX9_wouldExpire : List Cond := .code yX9_wouldExpire cX9_wouldExpire 3 (some .int) :: ((wsX9_wouldExpire_r1 ++ (wsX9_wouldExpire_r2 ++ (wsX9_wouldExpire_r3 ++ (wsX9_wouldExpire_r4 ++ (wsX9_wouldExpire_r5 ++ wsX9_wouldExpire_r6))))) ++ wsX90 ++ wsX80 ++ wsX00 ++ wsX30 ++ wsX60 ++ wsX70 ++ wsX50)
def wsX9_stageIn : List Cond := .code yX9_stageIn cX9_stageIn 6 (some .int) :: ([.fieldLink RX9 12 "ShelfStages" "now" "LShelfStages$State;", .fieldLink RX9 129 "ShelfStages$State" "batches" "LShelfStages$Batches;", .fieldLink RX9 192 "ShelfStages$Batches" "shelf" "[I", .fieldLink RX9 241 "ShelfStages$Batches" "left" "[I", .fieldLink RX9 51 "ShelfStages$State" "goods" "LShelfStages$Goods;", .fieldLink RX9 220 "ShelfStages$Goods" "life" "[I", .fieldLink RX9 235 "ShelfStages$Batches" "good" "[I", .fieldLink RX9 94 "ShelfStages$State" "stages" "LShelfStages$Stages;", .methodLink RX9 189 yX9_hasBatch, .instanceMethod yX9_hasBatch, .selects RX9 yX9_hasBatch yX9_hasBatch, .initialized RX9, .code yX9_hasBatch cX9_hasBatch 2 (some .boolean), .fieldLink RX9 133 "ShelfStages$Batches" "size" "I", .methodLink RX9 47 yX9_within, .static yX9_within, .code yX9_within cX9_within 3 (some .boolean), .methodLink RX9 317 yX7_reached, .instanceMethod yX7_reached, .selects RX7 yX7_reached yX7_reached, .initialized RX7, .code yX7_reached cX7_reached 4 (some .int), .fieldLink RX7 9 "ShelfStages$Stages" "share" "[I"] ++ wsX90 ++ wsX80 ++ wsX00 ++ wsX30 ++ wsX70)
def wsX9_event : List Cond := .code yX9_event cX9_event 5 (some .int) :: ([.fieldLink RX9 12 "ShelfStages" "now" "LShelfStages$State;", .fieldLink RX9 320 "ShelfStages$State" "log" "LShelfStages$Log;", .fieldLink RX9 324 "ShelfStages$Log" "size" "I", .fieldLink RX9 330 "ShelfStages$Log" "kind" "[I", .fieldLink RX9 333 "ShelfStages$Log" "batch" "[I", .fieldLink RX9 336 "ShelfStages$Log" "units" "[I", .fieldLink RX9 339 "ShelfStages$Log" "day" "[I", .methodLink RX9 47 yX9_within, .static yX9_within, .initialized RX9, .code yX9_within cX9_within 3 (some .boolean), .methodLink RX9 327 yX5_placeOf, .instanceMethod yX5_placeOf, .selects RX5 yX5_placeOf yX5_placeOf, .initialized RX5, .code yX5_placeOf cX5_placeOf 2 (some .int), .fieldLink RX5 28 "ShelfStages$Log" "next" "I", .methodLink RX5 41 yJ9_floorMod_7cf53, .static yJ9_floorMod_7cf53, .initialized RJ9, .code yJ9_floorMod_7cf53 cJ9_floorMod_7cf53 3 (some .int)] ++ wsX90 ++ wsX80 ++ wsX50)
def wsX9_takes : List Cond := .code yX9_takes cX9_takes 5 (some .int) :: ([.methodLink RX9 189 yX9_hasBatch, .instanceMethod yX9_hasBatch, .selects RX9 yX9_hasBatch yX9_hasBatch, .initialized RX9, .code yX9_hasBatch cX9_hasBatch 2 (some .boolean), .fieldLink RX9 12 "ShelfStages" "now" "LShelfStages$State;", .fieldLink RX9 129 "ShelfStages$State" "batches" "LShelfStages$Batches;", .fieldLink RX9 133 "ShelfStages$Batches" "size" "I", .methodLink RX9 47 yX9_within, .static yX9_within, .code yX9_within cX9_within 3 (some .boolean), .methodLink RX9 69 yX9_hasGood, .instanceMethod yX9_hasGood, .selects RX9 yX9_hasGood yX9_hasGood, .code yX9_hasGood cX9_hasGood 2 (some .boolean), .fieldLink RX9 51 "ShelfStages$State" "goods" "LShelfStages$Goods;", .fieldLink RX9 55 "ShelfStages$Goods" "size" "I"] ++ wsX90 ++ wsX80 ++ wsX00 ++ wsX30)
def wsX9_count_r1 : List Cond := [Cond.fieldLink RX9 12 "ShelfStages" "now" "LShelfStages$State;", Cond.fieldLink RX9 129 "ShelfStages$State" "batches" "LShelfStages$Batches;", Cond.fieldLink RX9 165 "ShelfStages$State" "orders" "LShelfStages$Orders;", Cond.fieldLink RX9 172 "ShelfStages$State" "day" "I", Cond.fieldLink RX9 51 "ShelfStages$State" "goods" "LShelfStages$Goods;", Cond.fieldLink RX9 55 "ShelfStages$Goods" "size" "I", Cond.fieldLink RX9 133 "ShelfStages$Batches" "size" "I", Cond.fieldLink RX9 169 "ShelfStages$Orders" "size" "I", Cond.fieldLink RX9 192 "ShelfStages$Batches" "shelf" "[I", Cond.fieldLink RX9 226 "ShelfStages$Batches" "sold" "[I", Cond.fieldLink RX9 244 "ShelfStages$Batches" "given" "[I", Cond.fieldLink RX9 250 "ShelfStages$Batches" "wasted" "[[I", Cond.fieldLink RX9 280 "ShelfStages$Orders" "wanted" "[I", Cond.fieldLink RX9 283 "ShelfStages$Orders" "got" "[I", Cond.fieldLink RX9 297 "ShelfStages$Orders" "due" "[I", Cond.fieldLink RX9 118 "ShelfStages$State" "settings" "[I", Cond.fieldLink RX9 25 "ShelfStages" "history" "LShelfStages$History;", Cond.fieldLink RX9 209 "ShelfStages$History" "size" "I", Cond.fieldLink RX9 140 "ShelfStages" "textLength" "I", Cond.methodLink RX9 340 yX0_sum, Cond.instanceMethod yX0_sum, Cond.selects RX0 yX0_sum yX0_sum, Cond.initialized RX0, Cond.code yX0_sum cX0_sum 4 (some .int)]
def wsX9_count_r2 : List Cond := [Cond.fieldLink RX0 38 "ShelfStages$Batches" "size" "I", Cond.methodLink RX9 344 yX0_wastedOfAll, Cond.instanceMethod yX0_wastedOfAll, Cond.selects RX0 yX0_wastedOfAll yX0_wastedOfAll, Cond.code yX0_wastedOfAll cX0_wastedOfAll 1 (some .int), Cond.fieldLink RX0 35 "ShelfStages$Batches" "wasted" "[[I", Cond.methodLink RX0 46 yX0_sum, Cond.methodLink RX9 347 yX6_sum, Cond.instanceMethod yX6_sum, Cond.selects RX6 yX6_sum yX6_sum, Cond.initialized RX6, Cond.code yX6_sum cX6_sum 4 (some .int), Cond.fieldLink RX6 48 "ShelfStages$Orders" "size" "I", Cond.methodLink RX9 348 yX6_refused, Cond.instanceMethod yX6_refused, Cond.selects RX6 yX6_refused yX6_refused, Cond.code yX6_refused cX6_refused 3 (some .int), Cond.fieldLink RX6 18 "ShelfStages$Orders" "got" "[I"]
def wsX9_count : List Cond := .code yX9_count cX9_count 4 (some .int) :: ((wsX9_count_r1 ++ wsX9_count_r2) ++ wsX90 ++ wsX80 ++ wsX30 ++ wsX00 ++ wsX60 ++ wsX40)
def wsX10_init : List Cond := .code yX10_init cX10_init 1 none :: ([.methodLink RX10 1 objectInit, .instanceMethod objectInit, .code objectInit ⟨#[0xb1]⟩ 1 none, .arrayClass .int, .fieldLink RX10 7 "ShelfStagesModel" "z" "[I", .fieldLink RX10 13 "ShelfStagesModel" "past" "[I", .fieldLink RX10 16 "ShelfStagesModel" "kept" "[I", .fieldLink RX10 19 "ShelfStagesModel" "spare" "[I", .arrayClass .char, .fieldLink RX10 22 "ShelfStagesModel" "text" "[C", .arrayClass .boolean, .fieldLink RX10 26 "ShelfStagesModel" "isUsed" "[Z", .fieldLink RX10 30 "ShelfStagesModel" "planBatch" "[I", .fieldLink RX10 33 "ShelfStagesModel" "planUnits" "[I", .fieldLink RX10 36 "ShelfStagesModel" "planCents" "[I", .fieldLink RX10 39 "ShelfStagesModel" "entry" "[I", .constant RX10 42 (1101004800), .constant RX10 43 (1109393408), .constant RX10 44 (1116471296)] ++ wsX100)
def wsX10_in : List Cond := .code yX10_in cX10_in 3 (some .boolean) :: ([])
def wsX10_record : List Cond := .code yX10_record cX10_record 2 none :: ([.fieldLink RX10 45 "ShelfStagesModel" "pastMany" "I", .fieldLink RX10 13 "ShelfStagesModel" "past" "[I", .fieldLink RX10 7 "ShelfStagesModel" "z" "[I"] ++ wsX100)
def wsX10_undo : List Cond := .code yX10_undo cX10_undo 2 (some .int) :: ([.fieldLink RX10 45 "ShelfStagesModel" "pastMany" "I", .fieldLink RX10 7 "ShelfStagesModel" "z" "[I", .fieldLink RX10 13 "ShelfStagesModel" "past" "[I"] ++ wsX100)
def wsX10_keep : List Cond := .code yX10_keep cX10_keep 2 (some .int) :: ([.fieldLink RX10 49 "ShelfStagesModel" "isKept" "Z", .fieldLink RX10 16 "ShelfStagesModel" "kept" "[I", .fieldLink RX10 7 "ShelfStagesModel" "z" "[I"] ++ wsX100)
def wsX10_restore : List Cond := .code yX10_restore cX10_restore 2 (some .int) :: ([.fieldLink RX10 49 "ShelfStagesModel" "isKept" "Z", .fieldLink RX10 7 "ShelfStagesModel" "z" "[I", .fieldLink RX10 16 "ShelfStagesModel" "kept" "[I", .methodLink RX10 53 yX10_record, .instanceMethod yX10_record, .selects RX10 yX10_record yX10_record, .initialized RX10, .code yX10_record cX10_record 2 none, .fieldLink RX10 45 "ShelfStagesModel" "pastMany" "I", .fieldLink RX10 13 "ShelfStagesModel" "past" "[I"] ++ wsX100)
def wsX10_isGood : List Cond := .code yX10_isGood cX10_isGood 2 (some .boolean) :: ([.fieldLink RX10 7 "ShelfStagesModel" "z" "[I"] ++ wsX100)
def wsX10_isBatch : List Cond := .code yX10_isBatch cX10_isBatch 2 (some .boolean) :: ([.fieldLink RX10 7 "ShelfStagesModel" "z" "[I"] ++ wsX100)
def wsX10_isOrder : List Cond := .code yX10_isOrder cX10_isOrder 2 (some .boolean) :: ([.fieldLink RX10 7 "ShelfStagesModel" "z" "[I"] ++ wsX100)
def wsX10_ofGood : List Cond := .code yX10_ofGood cX10_ofGood 3 (some .int) :: ([.fieldLink RX10 7 "ShelfStagesModel" "z" "[I"] ++ wsX100)
def wsX10_ofBatch : List Cond := .code yX10_ofBatch cX10_ofBatch 3 (some .int) :: ([.fieldLink RX10 7 "ShelfStagesModel" "z" "[I"] ++ wsX100)
def wsX10_ofOrder : List Cond := .code yX10_ofOrder cX10_ofOrder 3 (some .int) :: ([.fieldLink RX10 7 "ShelfStagesModel" "z" "[I"] ++ wsX100)
def wsX10_addTo : List Cond := .code yX10_addTo cX10_addTo 4 none :: ([.fieldLink RX10 7 "ShelfStagesModel" "z" "[I"] ++ wsX100)
def wsX10_note : List Cond := .code yX10_note cX10_note 5 none :: ([.fieldLink RX10 7 "ShelfStagesModel" "z" "[I"] ++ wsX100)
def wsX10_addGood : List Cond := .code yX10_addGood cX10_addGood 4 (some .int) :: ([.fieldLink RX10 7 "ShelfStagesModel" "z" "[I", .methodLink RX10 56 yX10_in, .static yX10_in, .initialized RX10, .code yX10_in cX10_in 3 (some .boolean), .methodLink RX10 53 yX10_record, .instanceMethod yX10_record, .selects RX10 yX10_record yX10_record, .code yX10_record cX10_record 2 none, .fieldLink RX10 45 "ShelfStagesModel" "pastMany" "I", .fieldLink RX10 13 "ShelfStagesModel" "past" "[I"] ++ wsX100)
def wsX10_setPrice : List Cond := .code yX10_setPrice cX10_setPrice 4 (some .int) :: ([.fieldLink RX10 7 "ShelfStagesModel" "z" "[I", .methodLink RX10 60 yX10_isGood, .instanceMethod yX10_isGood, .selects RX10 yX10_isGood yX10_isGood, .initialized RX10, .code yX10_isGood cX10_isGood 2 (some .boolean), .methodLink RX10 56 yX10_in, .static yX10_in, .code yX10_in cX10_in 3 (some .boolean), .methodLink RX10 64 yX10_ofGood, .instanceMethod yX10_ofGood, .selects RX10 yX10_ofGood yX10_ofGood, .code yX10_ofGood cX10_ofGood 3 (some .int), .methodLink RX10 53 yX10_record, .instanceMethod yX10_record, .selects RX10 yX10_record yX10_record, .code yX10_record cX10_record 2 none, .fieldLink RX10 45 "ShelfStagesModel" "pastMany" "I", .fieldLink RX10 13 "ShelfStagesModel" "past" "[I"] ++ wsX100)
def wsX10_addSubstitute : List Cond := .code yX10_addSubstitute cX10_addSubstitute 7 (some .int) :: ([.fieldLink RX10 7 "ShelfStagesModel" "z" "[I", .methodLink RX10 60 yX10_isGood, .instanceMethod yX10_isGood, .selects RX10 yX10_isGood yX10_isGood, .initialized RX10, .code yX10_isGood cX10_isGood 2 (some .boolean), .methodLink RX10 64 yX10_ofGood, .instanceMethod yX10_ofGood, .selects RX10 yX10_ofGood yX10_ofGood, .code yX10_ofGood cX10_ofGood 3 (some .int), .methodLink RX10 56 yX10_in, .static yX10_in, .code yX10_in cX10_in 3 (some .boolean), .methodLink RX10 53 yX10_record, .instanceMethod yX10_record, .selects RX10 yX10_record yX10_record, .code yX10_record cX10_record 2 none, .fieldLink RX10 45 "ShelfStagesModel" "pastMany" "I", .fieldLink RX10 13 "ShelfStagesModel" "past" "[I"] ++ wsX100)
def wsX10_removeSubstitute : List Cond := .code yX10_removeSubstitute cX10_removeSubstitute 7 (some .int) :: ([.fieldLink RX10 7 "ShelfStagesModel" "z" "[I", .methodLink RX10 60 yX10_isGood, .instanceMethod yX10_isGood, .selects RX10 yX10_isGood yX10_isGood, .initialized RX10, .code yX10_isGood cX10_isGood 2 (some .boolean), .methodLink RX10 64 yX10_ofGood, .instanceMethod yX10_ofGood, .selects RX10 yX10_ofGood yX10_ofGood, .code yX10_ofGood cX10_ofGood 3 (some .int), .methodLink RX10 53 yX10_record, .instanceMethod yX10_record, .selects RX10 yX10_record yX10_record, .code yX10_record cX10_record 2 none, .fieldLink RX10 45 "ShelfStagesModel" "pastMany" "I", .fieldLink RX10 13 "ShelfStagesModel" "past" "[I"] ++ wsX100)
def wsX10_setStage : List Cond := .code yX10_setStage cX10_setStage 6 (some .int) :: ([.fieldLink RX10 7 "ShelfStagesModel" "z" "[I", .constant RX10 68 (1120403456), .methodLink RX10 56 yX10_in, .static yX10_in, .initialized RX10, .code yX10_in cX10_in 3 (some .boolean), .methodLink RX10 53 yX10_record, .instanceMethod yX10_record, .selects RX10 yX10_record yX10_record, .code yX10_record cX10_record 2 none, .fieldLink RX10 45 "ShelfStagesModel" "pastMany" "I", .fieldLink RX10 13 "ShelfStagesModel" "past" "[I"] ++ wsX100)
def wsX10_set : List Cond := .code yX10_set cX10_set 5 (some .int) :: ([.fieldLink RX10 7 "ShelfStagesModel" "z" "[I", .methodLink RX10 56 yX10_in, .static yX10_in, .initialized RX10, .code yX10_in cX10_in 3 (some .boolean), .methodLink RX10 53 yX10_record, .instanceMethod yX10_record, .selects RX10 yX10_record yX10_record, .code yX10_record cX10_record 2 none, .fieldLink RX10 45 "ShelfStagesModel" "pastMany" "I", .fieldLink RX10 13 "ShelfStagesModel" "past" "[I"] ++ wsX100)
def wsX10_setRebate : List Cond := .code yX10_setRebate cX10_setRebate 2 (some .int) :: ([.constant RX10 69 (1106247680), .fieldLink RX10 7 "ShelfStagesModel" "z" "[I", .methodLink RX10 56 yX10_in, .static yX10_in, .initialized RX10, .code yX10_in cX10_in 3 (some .boolean), .methodLink RX10 53 yX10_record, .instanceMethod yX10_record, .selects RX10 yX10_record yX10_record, .code yX10_record cX10_record 2 none, .fieldLink RX10 45 "ShelfStagesModel" "pastMany" "I", .fieldLink RX10 13 "ShelfStagesModel" "past" "[I"] ++ wsX100)
def wsX10_floatOf : List Cond := .code yX10_floatOf cX10_floatOf 6 (some .float) :: ([.constant RX10 70 (8388607), .constant RX10 71 (8388608)])
def wsX10_stageOf : List Cond := .code yX10_stageOf cX10_stageOf 5 (some .int) :: ([.fieldLink RX10 7 "ShelfStagesModel" "z" "[I"] ++ wsX100)
def wsX10_stageOfBatch : List Cond := .code yX10_stageOfBatch cX10_stageOfBatch 2 (some .int) :: ([.methodLink RX10 72 yX10_ofBatch, .instanceMethod yX10_ofBatch, .selects RX10 yX10_ofBatch yX10_ofBatch, .initialized RX10, .code yX10_ofBatch cX10_ofBatch 3 (some .int), .fieldLink RX10 7 "ShelfStagesModel" "z" "[I", .methodLink RX10 64 yX10_ofGood, .instanceMethod yX10_ofGood, .selects RX10 yX10_ofGood yX10_ofGood, .code yX10_ofGood cX10_ofGood 3 (some .int), .methodLink RX10 75 yX10_stageOf, .instanceMethod yX10_stageOf, .selects RX10 yX10_stageOf yX10_stageOf, .code yX10_stageOf cX10_stageOf 5 (some .int)] ++ wsX100)
def wsX10_priceOf : List Cond := .code yX10_priceOf cX10_priceOf 6 (some .float) :: ([.fieldLink RX10 7 "ShelfStagesModel" "z" "[I", .constantFloat RX10 86 (1120403456), .methodLink RX10 78 yX10_stageOfBatch, .instanceMethod yX10_stageOfBatch, .selects RX10 yX10_stageOfBatch yX10_stageOfBatch, .initialized RX10, .code yX10_stageOfBatch cX10_stageOfBatch 2 (some .int), .methodLink RX10 72 yX10_ofBatch, .instanceMethod yX10_ofBatch, .selects RX10 yX10_ofBatch yX10_ofBatch, .code yX10_ofBatch cX10_ofBatch 3 (some .int), .methodLink RX10 64 yX10_ofGood, .instanceMethod yX10_ofGood, .selects RX10 yX10_ofGood yX10_ofGood, .code yX10_ofGood cX10_ofGood 3 (some .int), .methodLink RX10 75 yX10_stageOf, .instanceMethod yX10_stageOf, .selects RX10 yX10_stageOf yX10_stageOf, .code yX10_stageOf cX10_stageOf 5 (some .int), .methodLink RX10 82 yX10_floatOf, .static yX10_floatOf, .code yX10_floatOf cX10_floatOf 6 (some .float), .constant RX10 70 (8388607), .constant RX10 71 (8388608)] ++ wsX100)
def wsX10_isSooner_r1 : List Cond := [Cond.fieldLink RX10 7 "ShelfStagesModel" "z" "[I", Cond.methodLink RX10 87 yX10_priceOf, Cond.instanceMethod yX10_priceOf, Cond.selects RX10 yX10_priceOf yX10_priceOf, Cond.initialized RX10, Cond.code yX10_priceOf cX10_priceOf 6 (some .float), Cond.constantFloat RX10 86 (1120403456), Cond.methodLink RX10 78 yX10_stageOfBatch, Cond.instanceMethod yX10_stageOfBatch, Cond.selects RX10 yX10_stageOfBatch yX10_stageOfBatch, Cond.code yX10_stageOfBatch cX10_stageOfBatch 2 (some .int), Cond.methodLink RX10 72 yX10_ofBatch, Cond.instanceMethod yX10_ofBatch, Cond.selects RX10 yX10_ofBatch yX10_ofBatch, Cond.code yX10_ofBatch cX10_ofBatch 3 (some .int), Cond.methodLink RX10 64 yX10_ofGood, Cond.instanceMethod yX10_ofGood, Cond.selects RX10 yX10_ofGood yX10_ofGood, Cond.code yX10_ofGood cX10_ofGood 3 (some .int), Cond.methodLink RX10 75 yX10_stageOf, Cond.instanceMethod yX10_stageOf, Cond.selects RX10 yX10_stageOf yX10_stageOf, Cond.code yX10_stageOf cX10_stageOf 5 (some .int), Cond.methodLink RX10 82 yX10_floatOf]
def wsX10_isSooner_r2 : List Cond := [Cond.static yX10_floatOf, Cond.code yX10_floatOf cX10_floatOf 6 (some .float), Cond.constant RX10 70 (8388607), Cond.constant RX10 71 (8388608)]
def wsX10_isSooner : List Cond := .code yX10_isSooner cX10_isSooner 4 (some .boolean) :: ((wsX10_isSooner_r1 ++ wsX10_isSooner_r2) ++ wsX100)
def wsX10_nextBatch_r1 : List Cond := [Cond.fieldLink RX10 7 "ShelfStagesModel" "z" "[I", Cond.fieldLink RX10 26 "ShelfStagesModel" "isUsed" "[Z", Cond.methodLink RX10 72 yX10_ofBatch, Cond.instanceMethod yX10_ofBatch, Cond.selects RX10 yX10_ofBatch yX10_ofBatch, Cond.initialized RX10, Cond.code yX10_ofBatch cX10_ofBatch 3 (some .int), Cond.methodLink RX10 90 yX10_isSooner, Cond.instanceMethod yX10_isSooner, Cond.selects RX10 yX10_isSooner yX10_isSooner, Cond.code yX10_isSooner cX10_isSooner 4 (some .boolean), Cond.methodLink RX10 87 yX10_priceOf, Cond.instanceMethod yX10_priceOf, Cond.selects RX10 yX10_priceOf yX10_priceOf, Cond.code yX10_priceOf cX10_priceOf 6 (some .float), Cond.constantFloat RX10 86 (1120403456), Cond.methodLink RX10 78 yX10_stageOfBatch, Cond.instanceMethod yX10_stageOfBatch, Cond.selects RX10 yX10_stageOfBatch yX10_stageOfBatch, Cond.code yX10_stageOfBatch cX10_stageOfBatch 2 (some .int), Cond.methodLink RX10 64 yX10_ofGood, Cond.instanceMethod yX10_ofGood, Cond.selects RX10 yX10_ofGood yX10_ofGood, Cond.code yX10_ofGood cX10_ofGood 3 (some .int)]
def wsX10_nextBatch_r2 : List Cond := [Cond.methodLink RX10 75 yX10_stageOf, Cond.instanceMethod yX10_stageOf, Cond.selects RX10 yX10_stageOf yX10_stageOf, Cond.code yX10_stageOf cX10_stageOf 5 (some .int), Cond.methodLink RX10 82 yX10_floatOf, Cond.static yX10_floatOf, Cond.code yX10_floatOf cX10_floatOf 6 (some .float), Cond.constant RX10 70 (8388607), Cond.constant RX10 71 (8388608)]
def wsX10_nextBatch : List Cond := .code yX10_nextBatch cX10_nextBatch 6 (some .int) :: ((wsX10_nextBatch_r1 ++ wsX10_nextBatch_r2) ++ wsX100)
def wsX10_centsOf_r1 : List Cond := [Cond.methodLink RX10 87 yX10_priceOf, Cond.instanceMethod yX10_priceOf, Cond.selects RX10 yX10_priceOf yX10_priceOf, Cond.initialized RX10, Cond.code yX10_priceOf cX10_priceOf 6 (some .float), Cond.fieldLink RX10 7 "ShelfStagesModel" "z" "[I", Cond.constantFloat RX10 86 (1120403456), Cond.methodLink RX10 78 yX10_stageOfBatch, Cond.instanceMethod yX10_stageOfBatch, Cond.selects RX10 yX10_stageOfBatch yX10_stageOfBatch, Cond.code yX10_stageOfBatch cX10_stageOfBatch 2 (some .int), Cond.methodLink RX10 72 yX10_ofBatch, Cond.instanceMethod yX10_ofBatch, Cond.selects RX10 yX10_ofBatch yX10_ofBatch, Cond.code yX10_ofBatch cX10_ofBatch 3 (some .int), Cond.methodLink RX10 64 yX10_ofGood, Cond.instanceMethod yX10_ofGood, Cond.selects RX10 yX10_ofGood yX10_ofGood, Cond.code yX10_ofGood cX10_ofGood 3 (some .int), Cond.methodLink RX10 75 yX10_stageOf, Cond.instanceMethod yX10_stageOf, Cond.selects RX10 yX10_stageOf yX10_stageOf, Cond.code yX10_stageOf cX10_stageOf 5 (some .int), Cond.methodLink RX10 82 yX10_floatOf]
def wsX10_centsOf_r2 : List Cond := [Cond.static yX10_floatOf, Cond.code yX10_floatOf cX10_floatOf 6 (some .float), Cond.constant RX10 70 (8388607), Cond.constant RX10 71 (8388608)]
def wsX10_centsOf : List Cond := .code yX10_centsOf cX10_centsOf 10 (some .int) :: ((wsX10_centsOf_r1 ++ wsX10_centsOf_r2) ++ wsX100)
def wsX10_takeFrom_r1 : List Cond := [Cond.fieldLink RX10 97 "ShelfStagesModel" "planGot" "I", Cond.fieldLink RX10 26 "ShelfStagesModel" "isUsed" "[Z", Cond.fieldLink RX10 30 "ShelfStagesModel" "planBatch" "[I", Cond.fieldLink RX10 100 "ShelfStagesModel" "planMany" "I", Cond.fieldLink RX10 33 "ShelfStagesModel" "planUnits" "[I", Cond.fieldLink RX10 36 "ShelfStagesModel" "planCents" "[I", Cond.fieldLink RX10 107 "ShelfStagesModel" "planSubstitutes" "I", Cond.methodLink RX10 94 yX10_nextBatch, Cond.instanceMethod yX10_nextBatch, Cond.selects RX10 yX10_nextBatch yX10_nextBatch, Cond.initialized RX10, Cond.code yX10_nextBatch cX10_nextBatch 6 (some .int), Cond.fieldLink RX10 7 "ShelfStagesModel" "z" "[I", Cond.methodLink RX10 72 yX10_ofBatch, Cond.instanceMethod yX10_ofBatch, Cond.selects RX10 yX10_ofBatch yX10_ofBatch, Cond.code yX10_ofBatch cX10_ofBatch 3 (some .int), Cond.methodLink RX10 90 yX10_isSooner, Cond.instanceMethod yX10_isSooner, Cond.selects RX10 yX10_isSooner yX10_isSooner, Cond.code yX10_isSooner cX10_isSooner 4 (some .boolean), Cond.methodLink RX10 87 yX10_priceOf, Cond.instanceMethod yX10_priceOf, Cond.selects RX10 yX10_priceOf yX10_priceOf]
def wsX10_takeFrom_r2 : List Cond := [Cond.code yX10_priceOf cX10_priceOf 6 (some .float), Cond.constantFloat RX10 86 (1120403456), Cond.methodLink RX10 78 yX10_stageOfBatch, Cond.instanceMethod yX10_stageOfBatch, Cond.selects RX10 yX10_stageOfBatch yX10_stageOfBatch, Cond.code yX10_stageOfBatch cX10_stageOfBatch 2 (some .int), Cond.methodLink RX10 64 yX10_ofGood, Cond.instanceMethod yX10_ofGood, Cond.selects RX10 yX10_ofGood yX10_ofGood, Cond.code yX10_ofGood cX10_ofGood 3 (some .int), Cond.methodLink RX10 75 yX10_stageOf, Cond.instanceMethod yX10_stageOf, Cond.selects RX10 yX10_stageOf yX10_stageOf, Cond.code yX10_stageOf cX10_stageOf 5 (some .int), Cond.methodLink RX10 82 yX10_floatOf, Cond.static yX10_floatOf, Cond.code yX10_floatOf cX10_floatOf 6 (some .float), Cond.constant RX10 70 (8388607), Cond.constant RX10 71 (8388608), Cond.methodLink RX10 103 yX10_centsOf, Cond.instanceMethod yX10_centsOf, Cond.selects RX10 yX10_centsOf yX10_centsOf, Cond.code yX10_centsOf cX10_centsOf 10 (some .int)]
def wsX10_takeFrom : List Cond := .code yX10_takeFrom cX10_takeFrom 8 none :: ((wsX10_takeFrom_r1 ++ wsX10_takeFrom_r2) ++ wsX100)
def wsX10_plan_r1 : List Cond := [Cond.fieldLink RX10 100 "ShelfStagesModel" "planMany" "I", Cond.fieldLink RX10 97 "ShelfStagesModel" "planGot" "I", Cond.fieldLink RX10 107 "ShelfStagesModel" "planSubstitutes" "I", Cond.fieldLink RX10 26 "ShelfStagesModel" "isUsed" "[Z", Cond.methodLink RX10 110 yX10_takeFrom, Cond.instanceMethod yX10_takeFrom, Cond.selects RX10 yX10_takeFrom yX10_takeFrom, Cond.initialized RX10, Cond.code yX10_takeFrom cX10_takeFrom 8 none, Cond.fieldLink RX10 30 "ShelfStagesModel" "planBatch" "[I", Cond.fieldLink RX10 33 "ShelfStagesModel" "planUnits" "[I", Cond.fieldLink RX10 36 "ShelfStagesModel" "planCents" "[I", Cond.methodLink RX10 94 yX10_nextBatch, Cond.instanceMethod yX10_nextBatch, Cond.selects RX10 yX10_nextBatch yX10_nextBatch, Cond.code yX10_nextBatch cX10_nextBatch 6 (some .int), Cond.fieldLink RX10 7 "ShelfStagesModel" "z" "[I", Cond.methodLink RX10 72 yX10_ofBatch, Cond.instanceMethod yX10_ofBatch, Cond.selects RX10 yX10_ofBatch yX10_ofBatch, Cond.code yX10_ofBatch cX10_ofBatch 3 (some .int), Cond.methodLink RX10 90 yX10_isSooner, Cond.instanceMethod yX10_isSooner, Cond.selects RX10 yX10_isSooner yX10_isSooner]
def wsX10_plan_r2 : List Cond := [Cond.code yX10_isSooner cX10_isSooner 4 (some .boolean), Cond.methodLink RX10 87 yX10_priceOf, Cond.instanceMethod yX10_priceOf, Cond.selects RX10 yX10_priceOf yX10_priceOf, Cond.code yX10_priceOf cX10_priceOf 6 (some .float), Cond.constantFloat RX10 86 (1120403456), Cond.methodLink RX10 78 yX10_stageOfBatch, Cond.instanceMethod yX10_stageOfBatch, Cond.selects RX10 yX10_stageOfBatch yX10_stageOfBatch, Cond.code yX10_stageOfBatch cX10_stageOfBatch 2 (some .int), Cond.methodLink RX10 64 yX10_ofGood, Cond.instanceMethod yX10_ofGood, Cond.selects RX10 yX10_ofGood yX10_ofGood, Cond.code yX10_ofGood cX10_ofGood 3 (some .int), Cond.methodLink RX10 75 yX10_stageOf, Cond.instanceMethod yX10_stageOf, Cond.selects RX10 yX10_stageOf yX10_stageOf, Cond.code yX10_stageOf cX10_stageOf 5 (some .int), Cond.methodLink RX10 82 yX10_floatOf, Cond.static yX10_floatOf, Cond.code yX10_floatOf cX10_floatOf 6 (some .float), Cond.constant RX10 70 (8388607), Cond.constant RX10 71 (8388608), Cond.methodLink RX10 103 yX10_centsOf]
def wsX10_plan_r3 : List Cond := [Cond.instanceMethod yX10_centsOf, Cond.selects RX10 yX10_centsOf yX10_centsOf, Cond.code yX10_centsOf cX10_centsOf 10 (some .int)]
def wsX10_plan : List Cond := .code yX10_plan cX10_plan 6 none :: ((wsX10_plan_r1 ++ (wsX10_plan_r2 ++ wsX10_plan_r3)) ++ wsX100)
def wsX10_planDue : List Cond := .code yX10_planDue cX10_planDue 5 (some .int) :: ([.fieldLink RX10 100 "ShelfStagesModel" "planMany" "I", .fieldLink RX10 36 "ShelfStagesModel" "planCents" "[I", .fieldLink RX10 7 "ShelfStagesModel" "z" "[I", .constantFloat RX10 86 (1120403456), .methodLink RX10 82 yX10_floatOf, .static yX10_floatOf, .initialized RX10, .code yX10_floatOf cX10_floatOf 6 (some .float), .constant RX10 70 (8388607), .constant RX10 71 (8388608)] ++ wsX100)
def wsX10_sell : List Cond := .code yX10_sell cX10_sell 4 none :: ([.fieldLink RX10 30 "ShelfStagesModel" "planBatch" "[I", .fieldLink RX10 33 "ShelfStagesModel" "planUnits" "[I", .fieldLink RX10 36 "ShelfStagesModel" "planCents" "[I", .fieldLink RX10 7 "ShelfStagesModel" "z" "[I", .methodLink RX10 126 yX10_addTo, .instanceMethod yX10_addTo, .selects RX10 yX10_addTo yX10_addTo, .initialized RX10, .code yX10_addTo cX10_addTo 4 none, .methodLink RX10 130 yX10_note, .instanceMethod yX10_note, .selects RX10 yX10_note yX10_note, .code yX10_note cX10_note 5 none] ++ wsX100)
def wsX10_order_r1 : List Cond := [Cond.fieldLink RX10 7 "ShelfStagesModel" "z" "[I", Cond.fieldLink RX10 97 "ShelfStagesModel" "planGot" "I", Cond.fieldLink RX10 107 "ShelfStagesModel" "planSubstitutes" "I", Cond.fieldLink RX10 100 "ShelfStagesModel" "planMany" "I", Cond.methodLink RX10 60 yX10_isGood, Cond.instanceMethod yX10_isGood, Cond.selects RX10 yX10_isGood yX10_isGood, Cond.initialized RX10, Cond.code yX10_isGood cX10_isGood 2 (some .boolean), Cond.methodLink RX10 56 yX10_in, Cond.static yX10_in, Cond.code yX10_in cX10_in 3 (some .boolean), Cond.methodLink RX10 53 yX10_record, Cond.instanceMethod yX10_record, Cond.selects RX10 yX10_record yX10_record, Cond.code yX10_record cX10_record 2 none, Cond.fieldLink RX10 45 "ShelfStagesModel" "pastMany" "I", Cond.fieldLink RX10 13 "ShelfStagesModel" "past" "[I", Cond.methodLink RX10 114 yX10_plan, Cond.instanceMethod yX10_plan, Cond.selects RX10 yX10_plan yX10_plan, Cond.code yX10_plan cX10_plan 6 none, Cond.fieldLink RX10 26 "ShelfStagesModel" "isUsed" "[Z", Cond.methodLink RX10 110 yX10_takeFrom]
def wsX10_order_r2 : List Cond := [Cond.instanceMethod yX10_takeFrom, Cond.selects RX10 yX10_takeFrom yX10_takeFrom, Cond.code yX10_takeFrom cX10_takeFrom 8 none, Cond.fieldLink RX10 30 "ShelfStagesModel" "planBatch" "[I", Cond.fieldLink RX10 33 "ShelfStagesModel" "planUnits" "[I", Cond.fieldLink RX10 36 "ShelfStagesModel" "planCents" "[I", Cond.methodLink RX10 94 yX10_nextBatch, Cond.instanceMethod yX10_nextBatch, Cond.selects RX10 yX10_nextBatch yX10_nextBatch, Cond.code yX10_nextBatch cX10_nextBatch 6 (some .int), Cond.methodLink RX10 72 yX10_ofBatch, Cond.instanceMethod yX10_ofBatch, Cond.selects RX10 yX10_ofBatch yX10_ofBatch, Cond.code yX10_ofBatch cX10_ofBatch 3 (some .int), Cond.methodLink RX10 90 yX10_isSooner, Cond.instanceMethod yX10_isSooner, Cond.selects RX10 yX10_isSooner yX10_isSooner, Cond.code yX10_isSooner cX10_isSooner 4 (some .boolean), Cond.methodLink RX10 87 yX10_priceOf, Cond.instanceMethod yX10_priceOf, Cond.selects RX10 yX10_priceOf yX10_priceOf, Cond.code yX10_priceOf cX10_priceOf 6 (some .float), Cond.constantFloat RX10 86 (1120403456), Cond.methodLink RX10 78 yX10_stageOfBatch]
def wsX10_order_r3 : List Cond := [Cond.instanceMethod yX10_stageOfBatch, Cond.selects RX10 yX10_stageOfBatch yX10_stageOfBatch, Cond.code yX10_stageOfBatch cX10_stageOfBatch 2 (some .int), Cond.methodLink RX10 64 yX10_ofGood, Cond.instanceMethod yX10_ofGood, Cond.selects RX10 yX10_ofGood yX10_ofGood, Cond.code yX10_ofGood cX10_ofGood 3 (some .int), Cond.methodLink RX10 75 yX10_stageOf, Cond.instanceMethod yX10_stageOf, Cond.selects RX10 yX10_stageOf yX10_stageOf, Cond.code yX10_stageOf cX10_stageOf 5 (some .int), Cond.methodLink RX10 82 yX10_floatOf, Cond.static yX10_floatOf, Cond.code yX10_floatOf cX10_floatOf 6 (some .float), Cond.constant RX10 70 (8388607), Cond.constant RX10 71 (8388608), Cond.methodLink RX10 103 yX10_centsOf, Cond.instanceMethod yX10_centsOf, Cond.selects RX10 yX10_centsOf yX10_centsOf, Cond.code yX10_centsOf cX10_centsOf 10 (some .int), Cond.methodLink RX10 118 yX10_planDue, Cond.instanceMethod yX10_planDue, Cond.selects RX10 yX10_planDue yX10_planDue, Cond.code yX10_planDue cX10_planDue 5 (some .int)]
def wsX10_order_r4 : List Cond := [Cond.methodLink RX10 122 yX10_sell, Cond.instanceMethod yX10_sell, Cond.selects RX10 yX10_sell yX10_sell, Cond.code yX10_sell cX10_sell 4 none, Cond.methodLink RX10 126 yX10_addTo, Cond.instanceMethod yX10_addTo, Cond.selects RX10 yX10_addTo yX10_addTo, Cond.code yX10_addTo cX10_addTo 4 none, Cond.methodLink RX10 130 yX10_note, Cond.instanceMethod yX10_note, Cond.selects RX10 yX10_note yX10_note, Cond.code yX10_note cX10_note 5 none]
def wsX10_order : List Cond := .code yX10_order cX10_order 7 (some .int) :: ((wsX10_order_r1 ++ (wsX10_order_r2 ++ (wsX10_order_r3 ++ wsX10_order_r4))) ++ wsX100)
def wsX10_wouldGet_r1 : List Cond := [Cond.fieldLink RX10 97 "ShelfStagesModel" "planGot" "I", Cond.fieldLink RX10 107 "ShelfStagesModel" "planSubstitutes" "I", Cond.fieldLink RX10 100 "ShelfStagesModel" "planMany" "I", Cond.methodLink RX10 60 yX10_isGood, Cond.instanceMethod yX10_isGood, Cond.selects RX10 yX10_isGood yX10_isGood, Cond.initialized RX10, Cond.code yX10_isGood cX10_isGood 2 (some .boolean), Cond.fieldLink RX10 7 "ShelfStagesModel" "z" "[I", Cond.methodLink RX10 56 yX10_in, Cond.static yX10_in, Cond.code yX10_in cX10_in 3 (some .boolean), Cond.methodLink RX10 114 yX10_plan, Cond.instanceMethod yX10_plan, Cond.selects RX10 yX10_plan yX10_plan, Cond.code yX10_plan cX10_plan 6 none, Cond.fieldLink RX10 26 "ShelfStagesModel" "isUsed" "[Z", Cond.methodLink RX10 110 yX10_takeFrom, Cond.instanceMethod yX10_takeFrom, Cond.selects RX10 yX10_takeFrom yX10_takeFrom, Cond.code yX10_takeFrom cX10_takeFrom 8 none, Cond.fieldLink RX10 30 "ShelfStagesModel" "planBatch" "[I", Cond.fieldLink RX10 33 "ShelfStagesModel" "planUnits" "[I", Cond.fieldLink RX10 36 "ShelfStagesModel" "planCents" "[I"]
def wsX10_wouldGet_r2 : List Cond := [Cond.methodLink RX10 94 yX10_nextBatch, Cond.instanceMethod yX10_nextBatch, Cond.selects RX10 yX10_nextBatch yX10_nextBatch, Cond.code yX10_nextBatch cX10_nextBatch 6 (some .int), Cond.methodLink RX10 72 yX10_ofBatch, Cond.instanceMethod yX10_ofBatch, Cond.selects RX10 yX10_ofBatch yX10_ofBatch, Cond.code yX10_ofBatch cX10_ofBatch 3 (some .int), Cond.methodLink RX10 90 yX10_isSooner, Cond.instanceMethod yX10_isSooner, Cond.selects RX10 yX10_isSooner yX10_isSooner, Cond.code yX10_isSooner cX10_isSooner 4 (some .boolean), Cond.methodLink RX10 87 yX10_priceOf, Cond.instanceMethod yX10_priceOf, Cond.selects RX10 yX10_priceOf yX10_priceOf, Cond.code yX10_priceOf cX10_priceOf 6 (some .float), Cond.constantFloat RX10 86 (1120403456), Cond.methodLink RX10 78 yX10_stageOfBatch, Cond.instanceMethod yX10_stageOfBatch, Cond.selects RX10 yX10_stageOfBatch yX10_stageOfBatch, Cond.code yX10_stageOfBatch cX10_stageOfBatch 2 (some .int), Cond.methodLink RX10 64 yX10_ofGood, Cond.instanceMethod yX10_ofGood, Cond.selects RX10 yX10_ofGood yX10_ofGood]
def wsX10_wouldGet_r3 : List Cond := [Cond.code yX10_ofGood cX10_ofGood 3 (some .int), Cond.methodLink RX10 75 yX10_stageOf, Cond.instanceMethod yX10_stageOf, Cond.selects RX10 yX10_stageOf yX10_stageOf, Cond.code yX10_stageOf cX10_stageOf 5 (some .int), Cond.methodLink RX10 82 yX10_floatOf, Cond.static yX10_floatOf, Cond.code yX10_floatOf cX10_floatOf 6 (some .float), Cond.constant RX10 70 (8388607), Cond.constant RX10 71 (8388608), Cond.methodLink RX10 103 yX10_centsOf, Cond.instanceMethod yX10_centsOf, Cond.selects RX10 yX10_centsOf yX10_centsOf, Cond.code yX10_centsOf cX10_centsOf 10 (some .int), Cond.methodLink RX10 118 yX10_planDue, Cond.instanceMethod yX10_planDue, Cond.selects RX10 yX10_planDue yX10_planDue, Cond.code yX10_planDue cX10_planDue 5 (some .int)]
def wsX10_wouldGet : List Cond := .code yX10_wouldGet cX10_wouldGet 6 (some .int) :: ((wsX10_wouldGet_r1 ++ (wsX10_wouldGet_r2 ++ wsX10_wouldGet_r3)) ++ wsX100)
def wsX10_putBatch : List Cond := .code yX10_putBatch cX10_putBatch 6 (some .int) :: ([.fieldLink RX10 7 "ShelfStagesModel" "z" "[I", .methodLink RX10 130 yX10_note, .instanceMethod yX10_note, .selects RX10 yX10_note yX10_note, .initialized RX10, .code yX10_note cX10_note 5 none] ++ wsX100)
def wsX10_bring_r1 : List Cond := [Cond.fieldLink RX10 7 "ShelfStagesModel" "z" "[I", Cond.methodLink RX10 60 yX10_isGood, Cond.instanceMethod yX10_isGood, Cond.selects RX10 yX10_isGood yX10_isGood, Cond.initialized RX10, Cond.code yX10_isGood cX10_isGood 2 (some .boolean), Cond.methodLink RX10 56 yX10_in, Cond.static yX10_in, Cond.code yX10_in cX10_in 3 (some .boolean), Cond.methodLink RX10 64 yX10_ofGood, Cond.instanceMethod yX10_ofGood, Cond.selects RX10 yX10_ofGood yX10_ofGood, Cond.code yX10_ofGood cX10_ofGood 3 (some .int), Cond.methodLink RX10 53 yX10_record, Cond.instanceMethod yX10_record, Cond.selects RX10 yX10_record yX10_record, Cond.code yX10_record cX10_record 2 none, Cond.fieldLink RX10 45 "ShelfStagesModel" "pastMany" "I", Cond.fieldLink RX10 13 "ShelfStagesModel" "past" "[I", Cond.methodLink RX10 133 yX10_putBatch, Cond.instanceMethod yX10_putBatch, Cond.selects RX10 yX10_putBatch yX10_putBatch, Cond.code yX10_putBatch cX10_putBatch 6 (some .int), Cond.methodLink RX10 130 yX10_note]
def wsX10_bring_r2 : List Cond := [Cond.instanceMethod yX10_note, Cond.selects RX10 yX10_note yX10_note, Cond.code yX10_note cX10_note 5 none]
def wsX10_bring : List Cond := .code yX10_bring cX10_bring 4 (some .int) :: ((wsX10_bring_r1 ++ wsX10_bring_r2) ++ wsX100)
def wsX10_waste : List Cond := .code yX10_waste cX10_waste 4 none :: ([.methodLink RX10 126 yX10_addTo, .instanceMethod yX10_addTo, .selects RX10 yX10_addTo yX10_addTo, .initialized RX10, .code yX10_addTo cX10_addTo 4 none, .fieldLink RX10 7 "ShelfStagesModel" "z" "[I", .methodLink RX10 130 yX10_note, .instanceMethod yX10_note, .selects RX10 yX10_note yX10_note, .code yX10_note cX10_note 5 none] ++ wsX100)
def wsX10_breakUnits_r1 : List Cond := [Cond.methodLink RX10 136 yX10_isBatch, Cond.instanceMethod yX10_isBatch, Cond.selects RX10 yX10_isBatch yX10_isBatch, Cond.initialized RX10, Cond.code yX10_isBatch cX10_isBatch 2 (some .boolean), Cond.fieldLink RX10 7 "ShelfStagesModel" "z" "[I", Cond.methodLink RX10 56 yX10_in, Cond.static yX10_in, Cond.code yX10_in cX10_in 3 (some .boolean), Cond.methodLink RX10 72 yX10_ofBatch, Cond.instanceMethod yX10_ofBatch, Cond.selects RX10 yX10_ofBatch yX10_ofBatch, Cond.code yX10_ofBatch cX10_ofBatch 3 (some .int), Cond.methodLink RX10 53 yX10_record, Cond.instanceMethod yX10_record, Cond.selects RX10 yX10_record yX10_record, Cond.code yX10_record cX10_record 2 none, Cond.fieldLink RX10 45 "ShelfStagesModel" "pastMany" "I", Cond.fieldLink RX10 13 "ShelfStagesModel" "past" "[I", Cond.methodLink RX10 139 yX10_waste, Cond.instanceMethod yX10_waste, Cond.selects RX10 yX10_waste yX10_waste, Cond.code yX10_waste cX10_waste 4 none, Cond.methodLink RX10 126 yX10_addTo]
def wsX10_breakUnits_r2 : List Cond := [Cond.instanceMethod yX10_addTo, Cond.selects RX10 yX10_addTo yX10_addTo, Cond.code yX10_addTo cX10_addTo 4 none, Cond.methodLink RX10 130 yX10_note, Cond.instanceMethod yX10_note, Cond.selects RX10 yX10_note yX10_note, Cond.code yX10_note cX10_note 5 none]
def wsX10_breakUnits : List Cond := .code yX10_breakUnits cX10_breakUnits 3 (some .int) :: ((wsX10_breakUnits_r1 ++ wsX10_breakUnits_r2) ++ wsX100)
def wsX10_shelfOf : List Cond := .code yX10_shelfOf cX10_shelfOf 4 (some .int) :: ([.fieldLink RX10 7 "ShelfStagesModel" "z" "[I", .methodLink RX10 72 yX10_ofBatch, .instanceMethod yX10_ofBatch, .selects RX10 yX10_ofBatch yX10_ofBatch, .initialized RX10, .code yX10_ofBatch cX10_ofBatch 3 (some .int)] ++ wsX100)
def wsX10_recall_r1 : List Cond := [Cond.fieldLink RX10 7 "ShelfStagesModel" "z" "[I", Cond.methodLink RX10 60 yX10_isGood, Cond.instanceMethod yX10_isGood, Cond.selects RX10 yX10_isGood yX10_isGood, Cond.initialized RX10, Cond.code yX10_isGood cX10_isGood 2 (some .boolean), Cond.methodLink RX10 142 yX10_shelfOf, Cond.instanceMethod yX10_shelfOf, Cond.selects RX10 yX10_shelfOf yX10_shelfOf, Cond.code yX10_shelfOf cX10_shelfOf 4 (some .int), Cond.methodLink RX10 72 yX10_ofBatch, Cond.instanceMethod yX10_ofBatch, Cond.selects RX10 yX10_ofBatch yX10_ofBatch, Cond.code yX10_ofBatch cX10_ofBatch 3 (some .int), Cond.methodLink RX10 53 yX10_record, Cond.instanceMethod yX10_record, Cond.selects RX10 yX10_record yX10_record, Cond.code yX10_record cX10_record 2 none, Cond.fieldLink RX10 45 "ShelfStagesModel" "pastMany" "I", Cond.fieldLink RX10 13 "ShelfStagesModel" "past" "[I", Cond.methodLink RX10 139 yX10_waste, Cond.instanceMethod yX10_waste, Cond.selects RX10 yX10_waste yX10_waste, Cond.code yX10_waste cX10_waste 4 none]
def wsX10_recall_r2 : List Cond := [Cond.methodLink RX10 126 yX10_addTo, Cond.instanceMethod yX10_addTo, Cond.selects RX10 yX10_addTo yX10_addTo, Cond.code yX10_addTo cX10_addTo 4 none, Cond.methodLink RX10 130 yX10_note, Cond.instanceMethod yX10_note, Cond.selects RX10 yX10_note yX10_note, Cond.code yX10_note cX10_note 5 none]
def wsX10_recall : List Cond := .code yX10_recall cX10_recall 4 (some .int) :: ((wsX10_recall_r1 ++ wsX10_recall_r2) ++ wsX100)
def wsX10_expire : List Cond := .code yX10_expire cX10_expire 4 (some .int) :: ([.fieldLink RX10 7 "ShelfStagesModel" "z" "[I", .methodLink RX10 72 yX10_ofBatch, .instanceMethod yX10_ofBatch, .selects RX10 yX10_ofBatch yX10_ofBatch, .initialized RX10, .code yX10_ofBatch cX10_ofBatch 3 (some .int), .methodLink RX10 139 yX10_waste, .instanceMethod yX10_waste, .selects RX10 yX10_waste yX10_waste, .code yX10_waste cX10_waste 4 none, .methodLink RX10 126 yX10_addTo, .instanceMethod yX10_addTo, .selects RX10 yX10_addTo yX10_addTo, .code yX10_addTo cX10_addTo 4 none, .methodLink RX10 130 yX10_note, .instanceMethod yX10_note, .selects RX10 yX10_note yX10_note, .code yX10_note cX10_note 5 none] ++ wsX100)
def wsX10_donate_r1 : List Cond := [Cond.fieldLink RX10 7 "ShelfStagesModel" "z" "[I", Cond.methodLink RX10 72 yX10_ofBatch, Cond.instanceMethod yX10_ofBatch, Cond.selects RX10 yX10_ofBatch yX10_ofBatch, Cond.initialized RX10, Cond.code yX10_ofBatch cX10_ofBatch 3 (some .int), Cond.methodLink RX10 78 yX10_stageOfBatch, Cond.instanceMethod yX10_stageOfBatch, Cond.selects RX10 yX10_stageOfBatch yX10_stageOfBatch, Cond.code yX10_stageOfBatch cX10_stageOfBatch 2 (some .int), Cond.methodLink RX10 64 yX10_ofGood, Cond.instanceMethod yX10_ofGood, Cond.selects RX10 yX10_ofGood yX10_ofGood, Cond.code yX10_ofGood cX10_ofGood 3 (some .int), Cond.methodLink RX10 75 yX10_stageOf, Cond.instanceMethod yX10_stageOf, Cond.selects RX10 yX10_stageOf yX10_stageOf, Cond.code yX10_stageOf cX10_stageOf 5 (some .int), Cond.methodLink RX10 126 yX10_addTo, Cond.instanceMethod yX10_addTo, Cond.selects RX10 yX10_addTo yX10_addTo, Cond.code yX10_addTo cX10_addTo 4 none, Cond.methodLink RX10 130 yX10_note, Cond.instanceMethod yX10_note]
def wsX10_donate_r2 : List Cond := [Cond.selects RX10 yX10_note yX10_note, Cond.code yX10_note cX10_note 5 none]
def wsX10_donate : List Cond := .code yX10_donate cX10_donate 5 none :: ((wsX10_donate_r1 ++ wsX10_donate_r2) ++ wsX100)
def wsX10_passDay_r1 : List Cond := [Cond.fieldLink RX10 7 "ShelfStagesModel" "z" "[I", Cond.methodLink RX10 72 yX10_ofBatch, Cond.instanceMethod yX10_ofBatch, Cond.selects RX10 yX10_ofBatch yX10_ofBatch, Cond.initialized RX10, Cond.code yX10_ofBatch cX10_ofBatch 3 (some .int), Cond.methodLink RX10 126 yX10_addTo, Cond.instanceMethod yX10_addTo, Cond.selects RX10 yX10_addTo yX10_addTo, Cond.code yX10_addTo cX10_addTo 4 none, Cond.methodLink RX10 145 yX10_expire, Cond.instanceMethod yX10_expire, Cond.selects RX10 yX10_expire yX10_expire, Cond.code yX10_expire cX10_expire 4 (some .int), Cond.methodLink RX10 139 yX10_waste, Cond.instanceMethod yX10_waste, Cond.selects RX10 yX10_waste yX10_waste, Cond.code yX10_waste cX10_waste 4 none, Cond.methodLink RX10 130 yX10_note, Cond.instanceMethod yX10_note, Cond.selects RX10 yX10_note yX10_note, Cond.code yX10_note cX10_note 5 none, Cond.methodLink RX10 148 yX10_donate, Cond.instanceMethod yX10_donate]
def wsX10_passDay_r2 : List Cond := [Cond.selects RX10 yX10_donate yX10_donate, Cond.code yX10_donate cX10_donate 5 none, Cond.methodLink RX10 78 yX10_stageOfBatch, Cond.instanceMethod yX10_stageOfBatch, Cond.selects RX10 yX10_stageOfBatch yX10_stageOfBatch, Cond.code yX10_stageOfBatch cX10_stageOfBatch 2 (some .int), Cond.methodLink RX10 64 yX10_ofGood, Cond.instanceMethod yX10_ofGood, Cond.selects RX10 yX10_ofGood yX10_ofGood, Cond.code yX10_ofGood cX10_ofGood 3 (some .int), Cond.methodLink RX10 75 yX10_stageOf, Cond.instanceMethod yX10_stageOf, Cond.selects RX10 yX10_stageOf yX10_stageOf, Cond.code yX10_stageOf cX10_stageOf 5 (some .int)]
def wsX10_passDay : List Cond := .code yX10_passDay cX10_passDay 2 (some .int) :: ((wsX10_passDay_r1 ++ wsX10_passDay_r2) ++ wsX100)
def wsX10_pass_r1 : List Cond := [Cond.fieldLink RX10 7 "ShelfStagesModel" "z" "[I", Cond.methodLink RX10 56 yX10_in, Cond.static yX10_in, Cond.initialized RX10, Cond.code yX10_in cX10_in 3 (some .boolean), Cond.methodLink RX10 53 yX10_record, Cond.instanceMethod yX10_record, Cond.selects RX10 yX10_record yX10_record, Cond.code yX10_record cX10_record 2 none, Cond.fieldLink RX10 45 "ShelfStagesModel" "pastMany" "I", Cond.fieldLink RX10 13 "ShelfStagesModel" "past" "[I", Cond.methodLink RX10 151 yX10_passDay, Cond.instanceMethod yX10_passDay, Cond.selects RX10 yX10_passDay yX10_passDay, Cond.code yX10_passDay cX10_passDay 2 (some .int), Cond.methodLink RX10 72 yX10_ofBatch, Cond.instanceMethod yX10_ofBatch, Cond.selects RX10 yX10_ofBatch yX10_ofBatch, Cond.code yX10_ofBatch cX10_ofBatch 3 (some .int), Cond.methodLink RX10 126 yX10_addTo, Cond.instanceMethod yX10_addTo, Cond.selects RX10 yX10_addTo yX10_addTo, Cond.code yX10_addTo cX10_addTo 4 none, Cond.methodLink RX10 145 yX10_expire]
def wsX10_pass_r2 : List Cond := [Cond.instanceMethod yX10_expire, Cond.selects RX10 yX10_expire yX10_expire, Cond.code yX10_expire cX10_expire 4 (some .int), Cond.methodLink RX10 139 yX10_waste, Cond.instanceMethod yX10_waste, Cond.selects RX10 yX10_waste yX10_waste, Cond.code yX10_waste cX10_waste 4 none, Cond.methodLink RX10 130 yX10_note, Cond.instanceMethod yX10_note, Cond.selects RX10 yX10_note yX10_note, Cond.code yX10_note cX10_note 5 none, Cond.methodLink RX10 148 yX10_donate, Cond.instanceMethod yX10_donate, Cond.selects RX10 yX10_donate yX10_donate, Cond.code yX10_donate cX10_donate 5 none, Cond.methodLink RX10 78 yX10_stageOfBatch, Cond.instanceMethod yX10_stageOfBatch, Cond.selects RX10 yX10_stageOfBatch yX10_stageOfBatch, Cond.code yX10_stageOfBatch cX10_stageOfBatch 2 (some .int), Cond.methodLink RX10 64 yX10_ofGood, Cond.instanceMethod yX10_ofGood, Cond.selects RX10 yX10_ofGood yX10_ofGood, Cond.code yX10_ofGood cX10_ofGood 3 (some .int), Cond.methodLink RX10 75 yX10_stageOf]
def wsX10_pass_r3 : List Cond := [Cond.instanceMethod yX10_stageOf, Cond.selects RX10 yX10_stageOf yX10_stageOf, Cond.code yX10_stageOf cX10_stageOf 5 (some .int)]
def wsX10_pass : List Cond := .code yX10_pass cX10_pass 4 (some .int) :: ((wsX10_pass_r1 ++ (wsX10_pass_r2 ++ wsX10_pass_r3)) ++ wsX100)
def wsX10_wouldExpire_r1 : List Cond := [Cond.fieldLink RX10 19 "ShelfStagesModel" "spare" "[I", Cond.fieldLink RX10 7 "ShelfStagesModel" "z" "[I", Cond.methodLink RX10 136 yX10_isBatch, Cond.instanceMethod yX10_isBatch, Cond.selects RX10 yX10_isBatch yX10_isBatch, Cond.initialized RX10, Cond.code yX10_isBatch cX10_isBatch 2 (some .boolean), Cond.methodLink RX10 56 yX10_in, Cond.static yX10_in, Cond.code yX10_in cX10_in 3 (some .boolean), Cond.methodLink RX10 72 yX10_ofBatch, Cond.instanceMethod yX10_ofBatch, Cond.selects RX10 yX10_ofBatch yX10_ofBatch, Cond.code yX10_ofBatch cX10_ofBatch 3 (some .int), Cond.methodLink RX10 151 yX10_passDay, Cond.instanceMethod yX10_passDay, Cond.selects RX10 yX10_passDay yX10_passDay, Cond.code yX10_passDay cX10_passDay 2 (some .int), Cond.methodLink RX10 126 yX10_addTo, Cond.instanceMethod yX10_addTo, Cond.selects RX10 yX10_addTo yX10_addTo, Cond.code yX10_addTo cX10_addTo 4 none, Cond.methodLink RX10 145 yX10_expire, Cond.instanceMethod yX10_expire]
def wsX10_wouldExpire_r2 : List Cond := [Cond.selects RX10 yX10_expire yX10_expire, Cond.code yX10_expire cX10_expire 4 (some .int), Cond.methodLink RX10 139 yX10_waste, Cond.instanceMethod yX10_waste, Cond.selects RX10 yX10_waste yX10_waste, Cond.code yX10_waste cX10_waste 4 none, Cond.methodLink RX10 130 yX10_note, Cond.instanceMethod yX10_note, Cond.selects RX10 yX10_note yX10_note, Cond.code yX10_note cX10_note 5 none, Cond.methodLink RX10 148 yX10_donate, Cond.instanceMethod yX10_donate, Cond.selects RX10 yX10_donate yX10_donate, Cond.code yX10_donate cX10_donate 5 none, Cond.methodLink RX10 78 yX10_stageOfBatch, Cond.instanceMethod yX10_stageOfBatch, Cond.selects RX10 yX10_stageOfBatch yX10_stageOfBatch, Cond.code yX10_stageOfBatch cX10_stageOfBatch 2 (some .int), Cond.methodLink RX10 64 yX10_ofGood, Cond.instanceMethod yX10_ofGood, Cond.selects RX10 yX10_ofGood yX10_ofGood, Cond.code yX10_ofGood cX10_ofGood 3 (some .int), Cond.methodLink RX10 75 yX10_stageOf, Cond.instanceMethod yX10_stageOf]
def wsX10_wouldExpire_r3 : List Cond := [Cond.selects RX10 yX10_stageOf yX10_stageOf, Cond.code yX10_stageOf cX10_stageOf 5 (some .int)]
def wsX10_wouldExpire : List Cond := .code yX10_wouldExpire cX10_wouldExpire 6 (some .int) :: ((wsX10_wouldExpire_r1 ++ (wsX10_wouldExpire_r2 ++ wsX10_wouldExpire_r3)) ++ wsX100)
def wsX10_stageIn : List Cond := .code yX10_stageIn cX10_stageIn 6 (some .int) :: ([.methodLink RX10 136 yX10_isBatch, .instanceMethod yX10_isBatch, .selects RX10 yX10_isBatch yX10_isBatch, .initialized RX10, .code yX10_isBatch cX10_isBatch 2 (some .boolean), .fieldLink RX10 7 "ShelfStagesModel" "z" "[I", .methodLink RX10 56 yX10_in, .static yX10_in, .code yX10_in cX10_in 3 (some .boolean), .methodLink RX10 72 yX10_ofBatch, .instanceMethod yX10_ofBatch, .selects RX10 yX10_ofBatch yX10_ofBatch, .code yX10_ofBatch cX10_ofBatch 3 (some .int), .methodLink RX10 64 yX10_ofGood, .instanceMethod yX10_ofGood, .selects RX10 yX10_ofGood yX10_ofGood, .code yX10_ofGood cX10_ofGood 3 (some .int), .methodLink RX10 75 yX10_stageOf, .instanceMethod yX10_stageOf, .selects RX10 yX10_stageOf yX10_stageOf, .code yX10_stageOf cX10_stageOf 5 (some .int)] ++ wsX100)
def wsX10_type : List Cond := .code yX10_type cX10_type 2 (some .int) :: ([.fieldLink RX10 154 "ShelfStagesModel" "typed" "I", .fieldLink RX10 22 "ShelfStagesModel" "text" "[C"] ++ wsX100)
def wsX10_clearText : List Cond := .code yX10_clearText cX10_clearText 2 (some .int) :: ([.fieldLink RX10 154 "ShelfStagesModel" "typed" "I"] ++ wsX100)
def wsX10_letter : List Cond := .code yX10_letter cX10_letter 2 (some .int) :: ([.fieldLink RX10 154 "ShelfStagesModel" "typed" "I", .fieldLink RX10 22 "ShelfStagesModel" "text" "[C"] ++ wsX100)
def wsX10_isDigit : List Cond := .code yX10_isDigit cX10_isDigit 2 (some .boolean) :: ([.methodLink RX10 157 yX10_letter, .instanceMethod yX10_letter, .selects RX10 yX10_letter yX10_letter, .initialized RX10, .code yX10_letter cX10_letter 2 (some .int), .fieldLink RX10 154 "ShelfStagesModel" "typed" "I", .fieldLink RX10 22 "ShelfStagesModel" "text" "[C"] ++ wsX100)
def wsX10_readNumber : List Cond := .code yX10_readNumber cX10_readNumber 3 (some .int) :: ([.fieldLink RX10 160 "ShelfStagesModel" "at" "I", .fieldLink RX10 166 "ShelfStagesModel" "fault" "I", .methodLink RX10 163 yX10_isDigit, .instanceMethod yX10_isDigit, .selects RX10 yX10_isDigit yX10_isDigit, .initialized RX10, .code yX10_isDigit cX10_isDigit 2 (some .boolean), .methodLink RX10 157 yX10_letter, .instanceMethod yX10_letter, .selects RX10 yX10_letter yX10_letter, .code yX10_letter cX10_letter 2 (some .int), .fieldLink RX10 154 "ShelfStagesModel" "typed" "I", .fieldLink RX10 22 "ShelfStagesModel" "text" "[C"] ++ wsX100)
def wsX10_readEntry : List Cond := .code yX10_readEntry cX10_readEntry 2 none :: ([.fieldLink RX10 169 "ShelfStagesModel" "entries" "I", .fieldLink RX10 39 "ShelfStagesModel" "entry" "[I", .fieldLink RX10 166 "ShelfStagesModel" "fault" "I", .fieldLink RX10 160 "ShelfStagesModel" "at" "I", .methodLink RX10 172 yX10_readNumber, .instanceMethod yX10_readNumber, .selects RX10 yX10_readNumber yX10_readNumber, .initialized RX10, .code yX10_readNumber cX10_readNumber 3 (some .int), .methodLink RX10 163 yX10_isDigit, .instanceMethod yX10_isDigit, .selects RX10 yX10_isDigit yX10_isDigit, .code yX10_isDigit cX10_isDigit 2 (some .boolean), .methodLink RX10 157 yX10_letter, .instanceMethod yX10_letter, .selects RX10 yX10_letter yX10_letter, .code yX10_letter cX10_letter 2 (some .int), .fieldLink RX10 154 "ShelfStagesModel" "typed" "I", .fieldLink RX10 22 "ShelfStagesModel" "text" "[C"] ++ wsX100)
def wsX10_readText : List Cond := .code yX10_readText cX10_readText 2 none :: ([.fieldLink RX10 160 "ShelfStagesModel" "at" "I", .fieldLink RX10 166 "ShelfStagesModel" "fault" "I", .fieldLink RX10 169 "ShelfStagesModel" "entries" "I", .fieldLink RX10 154 "ShelfStagesModel" "typed" "I", .methodLink RX10 175 yX10_readEntry, .instanceMethod yX10_readEntry, .selects RX10 yX10_readEntry yX10_readEntry, .initialized RX10, .code yX10_readEntry cX10_readEntry 2 none, .fieldLink RX10 39 "ShelfStagesModel" "entry" "[I", .methodLink RX10 172 yX10_readNumber, .instanceMethod yX10_readNumber, .selects RX10 yX10_readNumber yX10_readNumber, .code yX10_readNumber cX10_readNumber 3 (some .int), .methodLink RX10 163 yX10_isDigit, .instanceMethod yX10_isDigit, .selects RX10 yX10_isDigit yX10_isDigit, .code yX10_isDigit cX10_isDigit 2 (some .boolean), .methodLink RX10 157 yX10_letter, .instanceMethod yX10_letter, .selects RX10 yX10_letter yX10_letter, .code yX10_letter cX10_letter 2 (some .int), .fieldLink RX10 22 "ShelfStagesModel" "text" "[C"] ++ wsX100)
def wsX10_whyNot : List Cond := .code yX10_whyNot cX10_whyNot 4 (some .int) :: ([.fieldLink RX10 169 "ShelfStagesModel" "entries" "I", .fieldLink RX10 39 "ShelfStagesModel" "entry" "[I", .fieldLink RX10 7 "ShelfStagesModel" "z" "[I", .methodLink RX10 60 yX10_isGood, .instanceMethod yX10_isGood, .selects RX10 yX10_isGood yX10_isGood, .initialized RX10, .code yX10_isGood cX10_isGood 2 (some .boolean), .methodLink RX10 64 yX10_ofGood, .instanceMethod yX10_ofGood, .selects RX10 yX10_ofGood yX10_ofGood, .code yX10_ofGood cX10_ofGood 3 (some .int), .methodLink RX10 56 yX10_in, .static yX10_in, .code yX10_in cX10_in 3 (some .boolean)] ++ wsX100)
def wsX10_readDelivery_r1 : List Cond := [Cond.fieldLink RX10 166 "ShelfStagesModel" "fault" "I", Cond.fieldLink RX10 169 "ShelfStagesModel" "entries" "I", Cond.fieldLink RX10 39 "ShelfStagesModel" "entry" "[I", Cond.methodLink RX10 178 yX10_readText, Cond.instanceMethod yX10_readText, Cond.selects RX10 yX10_readText yX10_readText, Cond.initialized RX10, Cond.code yX10_readText cX10_readText 2 none, Cond.fieldLink RX10 160 "ShelfStagesModel" "at" "I", Cond.fieldLink RX10 154 "ShelfStagesModel" "typed" "I", Cond.methodLink RX10 175 yX10_readEntry, Cond.instanceMethod yX10_readEntry, Cond.selects RX10 yX10_readEntry yX10_readEntry, Cond.code yX10_readEntry cX10_readEntry 2 none, Cond.methodLink RX10 172 yX10_readNumber, Cond.instanceMethod yX10_readNumber, Cond.selects RX10 yX10_readNumber yX10_readNumber, Cond.code yX10_readNumber cX10_readNumber 3 (some .int), Cond.methodLink RX10 163 yX10_isDigit, Cond.instanceMethod yX10_isDigit, Cond.selects RX10 yX10_isDigit yX10_isDigit, Cond.code yX10_isDigit cX10_isDigit 2 (some .boolean), Cond.methodLink RX10 157 yX10_letter, Cond.instanceMethod yX10_letter]
def wsX10_readDelivery_r2 : List Cond := [Cond.selects RX10 yX10_letter yX10_letter, Cond.code yX10_letter cX10_letter 2 (some .int), Cond.fieldLink RX10 22 "ShelfStagesModel" "text" "[C", Cond.methodLink RX10 181 yX10_whyNot, Cond.instanceMethod yX10_whyNot, Cond.selects RX10 yX10_whyNot yX10_whyNot, Cond.code yX10_whyNot cX10_whyNot 4 (some .int), Cond.fieldLink RX10 7 "ShelfStagesModel" "z" "[I", Cond.methodLink RX10 60 yX10_isGood, Cond.instanceMethod yX10_isGood, Cond.selects RX10 yX10_isGood yX10_isGood, Cond.code yX10_isGood cX10_isGood 2 (some .boolean), Cond.methodLink RX10 64 yX10_ofGood, Cond.instanceMethod yX10_ofGood, Cond.selects RX10 yX10_ofGood yX10_ofGood, Cond.code yX10_ofGood cX10_ofGood 3 (some .int), Cond.methodLink RX10 56 yX10_in, Cond.static yX10_in, Cond.code yX10_in cX10_in 3 (some .boolean), Cond.methodLink RX10 53 yX10_record, Cond.instanceMethod yX10_record, Cond.selects RX10 yX10_record yX10_record, Cond.code yX10_record cX10_record 2 none, Cond.fieldLink RX10 45 "ShelfStagesModel" "pastMany" "I"]
def wsX10_readDelivery_r3 : List Cond := [Cond.fieldLink RX10 13 "ShelfStagesModel" "past" "[I", Cond.methodLink RX10 133 yX10_putBatch, Cond.instanceMethod yX10_putBatch, Cond.selects RX10 yX10_putBatch yX10_putBatch, Cond.code yX10_putBatch cX10_putBatch 6 (some .int), Cond.methodLink RX10 130 yX10_note, Cond.instanceMethod yX10_note, Cond.selects RX10 yX10_note yX10_note, Cond.code yX10_note cX10_note 5 none]
def wsX10_readDelivery : List Cond := .code yX10_readDelivery cX10_readDelivery 4 (some .int) :: ((wsX10_readDelivery_r1 ++ (wsX10_readDelivery_r2 ++ wsX10_readDelivery_r3)) ++ wsX100)
def wsX10_sumOfBatches : List Cond := .code yX10_sumOfBatches cX10_sumOfBatches 5 (some .int) :: ([.fieldLink RX10 7 "ShelfStagesModel" "z" "[I", .methodLink RX10 72 yX10_ofBatch, .instanceMethod yX10_ofBatch, .selects RX10 yX10_ofBatch yX10_ofBatch, .initialized RX10, .code yX10_ofBatch cX10_ofBatch 3 (some .int)] ++ wsX100)
def wsX10_batchesOf : List Cond := .code yX10_batchesOf cX10_batchesOf 4 (some .int) :: ([.fieldLink RX10 7 "ShelfStagesModel" "z" "[I", .methodLink RX10 72 yX10_ofBatch, .instanceMethod yX10_ofBatch, .selects RX10 yX10_ofBatch yX10_ofBatch, .initialized RX10, .code yX10_ofBatch cX10_ofBatch 3 (some .int)] ++ wsX100)
def wsX10_good_r1 : List Cond := [Cond.fieldLink RX10 7 "ShelfStagesModel" "z" "[I", Cond.methodLink RX10 60 yX10_isGood, Cond.instanceMethod yX10_isGood, Cond.selects RX10 yX10_isGood yX10_isGood, Cond.initialized RX10, Cond.code yX10_isGood cX10_isGood 2 (some .boolean), Cond.methodLink RX10 56 yX10_in, Cond.static yX10_in, Cond.code yX10_in cX10_in 3 (some .boolean), Cond.methodLink RX10 64 yX10_ofGood, Cond.instanceMethod yX10_ofGood, Cond.selects RX10 yX10_ofGood yX10_ofGood, Cond.code yX10_ofGood cX10_ofGood 3 (some .int), Cond.methodLink RX10 142 yX10_shelfOf, Cond.instanceMethod yX10_shelfOf, Cond.selects RX10 yX10_shelfOf yX10_shelfOf, Cond.code yX10_shelfOf cX10_shelfOf 4 (some .int), Cond.methodLink RX10 72 yX10_ofBatch, Cond.instanceMethod yX10_ofBatch, Cond.selects RX10 yX10_ofBatch yX10_ofBatch, Cond.code yX10_ofBatch cX10_ofBatch 3 (some .int), Cond.methodLink RX10 184 yX10_batchesOf, Cond.instanceMethod yX10_batchesOf, Cond.selects RX10 yX10_batchesOf yX10_batchesOf]
def wsX10_good_r2 : List Cond := [Cond.code yX10_batchesOf cX10_batchesOf 4 (some .int), Cond.methodLink RX10 187 yX10_sumOfBatches, Cond.instanceMethod yX10_sumOfBatches, Cond.selects RX10 yX10_sumOfBatches yX10_sumOfBatches, Cond.code yX10_sumOfBatches cX10_sumOfBatches 5 (some .int), Cond.methodLink RX10 190 yX10_ofOrder, Cond.instanceMethod yX10_ofOrder, Cond.selects RX10 yX10_ofOrder yX10_ofOrder, Cond.code yX10_ofOrder cX10_ofOrder 3 (some .int)]
def wsX10_good : List Cond := .code yX10_good cX10_good 5 (some .int) :: ((wsX10_good_r1 ++ wsX10_good_r2) ++ wsX100)
def wsX10_substitute : List Cond := .code yX10_substitute cX10_substitute 3 (some .int) :: ([.methodLink RX10 60 yX10_isGood, .instanceMethod yX10_isGood, .selects RX10 yX10_isGood yX10_isGood, .initialized RX10, .code yX10_isGood cX10_isGood 2 (some .boolean), .fieldLink RX10 7 "ShelfStagesModel" "z" "[I", .methodLink RX10 64 yX10_ofGood, .instanceMethod yX10_ofGood, .selects RX10 yX10_ofGood yX10_ofGood, .code yX10_ofGood cX10_ofGood 3 (some .int)] ++ wsX100)
def wsX10_wasted : List Cond := .code yX10_wasted cX10_wasted 2 (some .int) :: ([.methodLink RX10 72 yX10_ofBatch, .instanceMethod yX10_ofBatch, .selects RX10 yX10_ofBatch yX10_ofBatch, .initialized RX10, .code yX10_ofBatch cX10_ofBatch 3 (some .int), .fieldLink RX10 7 "ShelfStagesModel" "z" "[I"] ++ wsX100)
def wsX10_batch_r1 : List Cond := [Cond.methodLink RX10 136 yX10_isBatch, Cond.instanceMethod yX10_isBatch, Cond.selects RX10 yX10_isBatch yX10_isBatch, Cond.initialized RX10, Cond.code yX10_isBatch cX10_isBatch 2 (some .boolean), Cond.fieldLink RX10 7 "ShelfStagesModel" "z" "[I", Cond.methodLink RX10 56 yX10_in, Cond.static yX10_in, Cond.code yX10_in cX10_in 3 (some .boolean), Cond.methodLink RX10 72 yX10_ofBatch, Cond.instanceMethod yX10_ofBatch, Cond.selects RX10 yX10_ofBatch yX10_ofBatch, Cond.code yX10_ofBatch cX10_ofBatch 3 (some .int), Cond.methodLink RX10 193 yX10_wasted, Cond.instanceMethod yX10_wasted, Cond.selects RX10 yX10_wasted yX10_wasted, Cond.code yX10_wasted cX10_wasted 2 (some .int), Cond.methodLink RX10 78 yX10_stageOfBatch, Cond.instanceMethod yX10_stageOfBatch, Cond.selects RX10 yX10_stageOfBatch yX10_stageOfBatch, Cond.code yX10_stageOfBatch cX10_stageOfBatch 2 (some .int), Cond.methodLink RX10 64 yX10_ofGood, Cond.instanceMethod yX10_ofGood, Cond.selects RX10 yX10_ofGood yX10_ofGood]
def wsX10_batch_r2 : List Cond := [Cond.code yX10_ofGood cX10_ofGood 3 (some .int), Cond.methodLink RX10 75 yX10_stageOf, Cond.instanceMethod yX10_stageOf, Cond.selects RX10 yX10_stageOf yX10_stageOf, Cond.code yX10_stageOf cX10_stageOf 5 (some .int)]
def wsX10_batch : List Cond := .code yX10_batch cX10_batch 3 (some .int) :: ((wsX10_batch_r1 ++ wsX10_batch_r2) ++ wsX100)
def wsX10_unitPrice_r1 : List Cond := [Cond.constantFloat RX10 196 (2143289344), Cond.methodLink RX10 136 yX10_isBatch, Cond.instanceMethod yX10_isBatch, Cond.selects RX10 yX10_isBatch yX10_isBatch, Cond.initialized RX10, Cond.code yX10_isBatch cX10_isBatch 2 (some .boolean), Cond.fieldLink RX10 7 "ShelfStagesModel" "z" "[I", Cond.methodLink RX10 87 yX10_priceOf, Cond.instanceMethod yX10_priceOf, Cond.selects RX10 yX10_priceOf yX10_priceOf, Cond.code yX10_priceOf cX10_priceOf 6 (some .float), Cond.constantFloat RX10 86 (1120403456), Cond.methodLink RX10 78 yX10_stageOfBatch, Cond.instanceMethod yX10_stageOfBatch, Cond.selects RX10 yX10_stageOfBatch yX10_stageOfBatch, Cond.code yX10_stageOfBatch cX10_stageOfBatch 2 (some .int), Cond.methodLink RX10 72 yX10_ofBatch, Cond.instanceMethod yX10_ofBatch, Cond.selects RX10 yX10_ofBatch yX10_ofBatch, Cond.code yX10_ofBatch cX10_ofBatch 3 (some .int), Cond.methodLink RX10 64 yX10_ofGood, Cond.instanceMethod yX10_ofGood, Cond.selects RX10 yX10_ofGood yX10_ofGood, Cond.code yX10_ofGood cX10_ofGood 3 (some .int)]
def wsX10_unitPrice_r2 : List Cond := [Cond.methodLink RX10 75 yX10_stageOf, Cond.instanceMethod yX10_stageOf, Cond.selects RX10 yX10_stageOf yX10_stageOf, Cond.code yX10_stageOf cX10_stageOf 5 (some .int), Cond.methodLink RX10 82 yX10_floatOf, Cond.static yX10_floatOf, Cond.code yX10_floatOf cX10_floatOf 6 (some .float), Cond.constant RX10 70 (8388607), Cond.constant RX10 71 (8388608)]
def wsX10_unitPrice : List Cond := .code yX10_unitPrice cX10_unitPrice 2 (some .float) :: ((wsX10_unitPrice_r1 ++ wsX10_unitPrice_r2) ++ wsX100)
def wsX10_markdown : List Cond := .code yX10_markdown cX10_markdown 2 (some .float) :: ([.fieldLink RX10 7 "ShelfStagesModel" "z" "[I", .constantFloat RX10 196 (2143289344), .methodLink RX10 56 yX10_in, .static yX10_in, .initialized RX10, .code yX10_in cX10_in 3 (some .boolean), .methodLink RX10 82 yX10_floatOf, .static yX10_floatOf, .code yX10_floatOf cX10_floatOf 6 (some .float), .constant RX10 70 (8388607), .constant RX10 71 (8388608)] ++ wsX100)
def wsX10_stage : List Cond := .code yX10_stage cX10_stage 7 (some .int) :: ([.fieldLink RX10 7 "ShelfStagesModel" "z" "[I", .methodLink RX10 56 yX10_in, .static yX10_in, .initialized RX10, .code yX10_in cX10_in 3 (some .boolean), .methodLink RX10 72 yX10_ofBatch, .instanceMethod yX10_ofBatch, .selects RX10 yX10_ofBatch yX10_ofBatch, .code yX10_ofBatch cX10_ofBatch 3 (some .int), .methodLink RX10 78 yX10_stageOfBatch, .instanceMethod yX10_stageOfBatch, .selects RX10 yX10_stageOfBatch yX10_stageOfBatch, .code yX10_stageOfBatch cX10_stageOfBatch 2 (some .int), .methodLink RX10 64 yX10_ofGood, .instanceMethod yX10_ofGood, .selects RX10 yX10_ofGood yX10_ofGood, .code yX10_ofGood cX10_ofGood 3 (some .int), .methodLink RX10 75 yX10_stageOf, .instanceMethod yX10_stageOf, .selects RX10 yX10_stageOf yX10_stageOf, .code yX10_stageOf cX10_stageOf 5 (some .int)] ++ wsX100)
def wsX10_orderTold : List Cond := .code yX10_orderTold cX10_orderTold 3 (some .int) :: ([.methodLink RX10 197 yX10_isOrder, .instanceMethod yX10_isOrder, .selects RX10 yX10_isOrder yX10_isOrder, .initialized RX10, .code yX10_isOrder cX10_isOrder 2 (some .boolean), .fieldLink RX10 7 "ShelfStagesModel" "z" "[I", .methodLink RX10 56 yX10_in, .static yX10_in, .code yX10_in cX10_in 3 (some .boolean), .methodLink RX10 190 yX10_ofOrder, .instanceMethod yX10_ofOrder, .selects RX10 yX10_ofOrder yX10_ofOrder, .code yX10_ofOrder cX10_ofOrder 3 (some .int)] ++ wsX100)
def wsX10_taken : List Cond := .code yX10_taken cX10_taken 4 (some .int) :: ([.fieldLink RX10 7 "ShelfStagesModel" "z" "[I", .methodLink RX10 197 yX10_isOrder, .instanceMethod yX10_isOrder, .selects RX10 yX10_isOrder yX10_isOrder, .initialized RX10, .code yX10_isOrder cX10_isOrder 2 (some .boolean), .methodLink RX10 56 yX10_in, .static yX10_in, .code yX10_in cX10_in 3 (some .boolean), .methodLink RX10 190 yX10_ofOrder, .instanceMethod yX10_ofOrder, .selects RX10 yX10_ofOrder yX10_ofOrder, .code yX10_ofOrder cX10_ofOrder 3 (some .int)] ++ wsX100)
def wsX10_event : List Cond := .code yX10_event cX10_event 3 (some .int) :: ([.fieldLink RX10 7 "ShelfStagesModel" "z" "[I", .methodLink RX10 56 yX10_in, .static yX10_in, .initialized RX10, .code yX10_in cX10_in 3 (some .boolean)] ++ wsX100)
def wsX10_takes : List Cond := .code yX10_takes cX10_takes 5 (some .int) :: ([.methodLink RX10 136 yX10_isBatch, .instanceMethod yX10_isBatch, .selects RX10 yX10_isBatch yX10_isBatch, .initialized RX10, .code yX10_isBatch cX10_isBatch 2 (some .boolean), .fieldLink RX10 7 "ShelfStagesModel" "z" "[I", .methodLink RX10 60 yX10_isGood, .instanceMethod yX10_isGood, .selects RX10 yX10_isGood yX10_isGood, .code yX10_isGood cX10_isGood 2 (some .boolean), .methodLink RX10 56 yX10_in, .static yX10_in, .code yX10_in cX10_in 3 (some .boolean)] ++ wsX100)
def wsX10_ofOrders : List Cond := .code yX10_ofOrders cX10_ofOrders 5 (some .int) :: ([.fieldLink RX10 7 "ShelfStagesModel" "z" "[I", .methodLink RX10 190 yX10_ofOrder, .instanceMethod yX10_ofOrder, .selects RX10 yX10_ofOrder yX10_ofOrder, .initialized RX10, .code yX10_ofOrder cX10_ofOrder 3 (some .int)] ++ wsX100)
def wsX10_allWasted : List Cond := .code yX10_allWasted cX10_allWasted 3 (some .int) :: ([.fieldLink RX10 7 "ShelfStagesModel" "z" "[I", .methodLink RX10 193 yX10_wasted, .instanceMethod yX10_wasted, .selects RX10 yX10_wasted yX10_wasted, .initialized RX10, .code yX10_wasted cX10_wasted 2 (some .int), .methodLink RX10 72 yX10_ofBatch, .instanceMethod yX10_ofBatch, .selects RX10 yX10_ofBatch yX10_ofBatch, .code yX10_ofBatch cX10_ofBatch 3 (some .int)] ++ wsX100)
def wsX10_count_r1 : List Cond := [Cond.fieldLink RX10 7 "ShelfStagesModel" "z" "[I", Cond.fieldLink RX10 45 "ShelfStagesModel" "pastMany" "I", Cond.fieldLink RX10 154 "ShelfStagesModel" "typed" "I", Cond.methodLink RX10 56 yX10_in, Cond.static yX10_in, Cond.initialized RX10, Cond.code yX10_in cX10_in 3 (some .boolean), Cond.methodLink RX10 187 yX10_sumOfBatches, Cond.instanceMethod yX10_sumOfBatches, Cond.selects RX10 yX10_sumOfBatches yX10_sumOfBatches, Cond.code yX10_sumOfBatches cX10_sumOfBatches 5 (some .int), Cond.methodLink RX10 72 yX10_ofBatch, Cond.instanceMethod yX10_ofBatch, Cond.selects RX10 yX10_ofBatch yX10_ofBatch, Cond.code yX10_ofBatch cX10_ofBatch 3 (some .int), Cond.methodLink RX10 200 yX10_allWasted, Cond.instanceMethod yX10_allWasted, Cond.selects RX10 yX10_allWasted yX10_allWasted, Cond.code yX10_allWasted cX10_allWasted 3 (some .int), Cond.methodLink RX10 193 yX10_wasted, Cond.instanceMethod yX10_wasted, Cond.selects RX10 yX10_wasted yX10_wasted, Cond.code yX10_wasted cX10_wasted 2 (some .int), Cond.methodLink RX10 203 yX10_ofOrders]
def wsX10_count_r2 : List Cond := [Cond.instanceMethod yX10_ofOrders, Cond.selects RX10 yX10_ofOrders yX10_ofOrders, Cond.code yX10_ofOrders cX10_ofOrders 5 (some .int), Cond.methodLink RX10 190 yX10_ofOrder, Cond.instanceMethod yX10_ofOrder, Cond.selects RX10 yX10_ofOrder yX10_ofOrder, Cond.code yX10_ofOrder cX10_ofOrder 3 (some .int)]
def wsX10_count : List Cond := .code yX10_count cX10_count 2 (some .int) :: ((wsX10_count_r1 ++ wsX10_count_r2) ++ wsX100)
def wsJ9_min_7cf53 : List Cond := .code yJ9_min_7cf53 cJ9_min_7cf53 2 (some .int) :: ([])
theorem dX0_init_0 : decode cX0_init 0 = .ok (.aload_n 0, 1) := by decide +kernel
theorem dX0_init_1 : decode cX0_init 1 = .ok (.invokespecial 3, 3) := by decide +kernel
theorem dX0_init_4 : decode cX0_init 4 = .ok (.aload_n 0, 1) := by decide +kernel
theorem dX0_init_5 : decode cX0_init 5 = .ok (.bipush 40, 2) := by decide +kernel
theorem dX0_init_7 : decode cX0_init 7 = .ok (.newarray .int, 2) := by decide +kernel
theorem dX0_init_9 : decode cX0_init 9 = .ok (.putfield 9, 3) := by decide +kernel
theorem dX0_init_12 : decode cX0_init 12 = .ok (.aload_n 0, 1) := by decide +kernel
theorem dX0_init_13 : decode cX0_init 13 = .ok (.bipush 40, 2) := by decide +kernel
theorem dX0_init_15 : decode cX0_init 15 = .ok (.newarray .int, 2) := by decide +kernel
theorem dX0_init_17 : decode cX0_init 17 = .ok (.putfield 15, 3) := by decide +kernel
theorem dX0_init_20 : decode cX0_init 20 = .ok (.aload_n 0, 1) := by decide +kernel
theorem dX0_init_21 : decode cX0_init 21 = .ok (.bipush 40, 2) := by decide +kernel
theorem dX0_init_23 : decode cX0_init 23 = .ok (.newarray .int, 2) := by decide +kernel
theorem dX0_init_25 : decode cX0_init 25 = .ok (.putfield 18, 3) := by decide +kernel
theorem dX0_init_28 : decode cX0_init 28 = .ok (.aload_n 0, 1) := by decide +kernel
theorem dX0_init_29 : decode cX0_init 29 = .ok (.bipush 40, 2) := by decide +kernel
theorem dX0_init_31 : decode cX0_init 31 = .ok (.newarray .int, 2) := by decide +kernel
theorem dX0_init_33 : decode cX0_init 33 = .ok (.putfield 21, 3) := by decide +kernel
theorem dX0_init_36 : decode cX0_init 36 = .ok (.aload_n 0, 1) := by decide +kernel
theorem dX0_init_37 : decode cX0_init 37 = .ok (.bipush 40, 2) := by decide +kernel
theorem dX0_init_39 : decode cX0_init 39 = .ok (.newarray .int, 2) := by decide +kernel
theorem dX0_init_41 : decode cX0_init 41 = .ok (.putfield 24, 3) := by decide +kernel
theorem dX0_init_44 : decode cX0_init 44 = .ok (.aload_n 0, 1) := by decide +kernel
theorem dX0_init_45 : decode cX0_init 45 = .ok (.bipush 40, 2) := by decide +kernel
theorem dX0_init_47 : decode cX0_init 47 = .ok (.newarray .int, 2) := by decide +kernel
theorem dX0_init_49 : decode cX0_init 49 = .ok (.putfield 27, 3) := by decide +kernel
theorem dX0_init_52 : decode cX0_init 52 = .ok (.aload_n 0, 1) := by decide +kernel
theorem dX0_init_53 : decode cX0_init 53 = .ok (.bipush 40, 2) := by decide +kernel
theorem dX0_init_55 : decode cX0_init 55 = .ok (.newarray .int, 2) := by decide +kernel
theorem dX0_init_57 : decode cX0_init 57 = .ok (.putfield 30, 3) := by decide +kernel
theorem dX0_init_60 : decode cX0_init 60 = .ok (.aload_n 0, 1) := by decide +kernel
theorem dX0_init_61 : decode cX0_init 61 = .ok (.iconst 3, 1) := by decide +kernel
theorem dX0_init_62 : decode cX0_init 62 = .ok (.bipush 40, 2) := by decide +kernel
theorem dX0_init_64 : decode cX0_init 64 = .ok (.multianewarray 33 2, 4) := by decide +kernel
theorem dX0_init_68 : decode cX0_init 68 = .ok (.putfield 35, 3) := by decide +kernel
theorem dX0_init_71 : decode cX0_init 71 = .ok (.return_, 1) := by decide +kernel
theorem dX1_init_0 : decode cX1_init 0 = .ok (.aload_n 0, 1) := by decide +kernel
theorem dX1_init_1 : decode cX1_init 1 = .ok (.invokespecial 3, 3) := by decide +kernel
theorem dX1_init_4 : decode cX1_init 4 = .ok (.aload_n 0, 1) := by decide +kernel
theorem dX1_init_5 : decode cX1_init 5 = .ok (.iconst 3, 1) := by decide +kernel
theorem dX1_init_6 : decode cX1_init 6 = .ok (.bipush 16, 2) := by decide +kernel
theorem dX1_init_8 : decode cX1_init 8 = .ok (.multianewarray 11 2, 4) := by decide +kernel
theorem dX1_init_12 : decode cX1_init 12 = .ok (.putfield 13, 3) := by decide +kernel
theorem dX1_init_15 : decode cX1_init 15 = .ok (.return_, 1) := by decide +kernel
theorem dX2_init_0 : decode cX2_init 0 = .ok (.aload_n 0, 1) := by decide +kernel
theorem dX2_init_1 : decode cX2_init 1 = .ok (.invokespecial 3, 3) := by decide +kernel
theorem dX2_init_4 : decode cX2_init 4 = .ok (.aload_n 0, 1) := by decide +kernel
theorem dX2_init_5 : decode cX2_init 5 = .ok (.bipush 40, 2) := by decide +kernel
theorem dX2_init_7 : decode cX2_init 7 = .ok (.newarray .int, 2) := by decide +kernel
theorem dX2_init_9 : decode cX2_init 9 = .ok (.putfield 9, 3) := by decide +kernel
theorem dX2_init_12 : decode cX2_init 12 = .ok (.aload_n 0, 1) := by decide +kernel
theorem dX2_init_13 : decode cX2_init 13 = .ok (.bipush 40, 2) := by decide +kernel
theorem dX2_init_15 : decode cX2_init 15 = .ok (.newarray .int, 2) := by decide +kernel
theorem dX2_init_17 : decode cX2_init 17 = .ok (.putfield 15, 3) := by decide +kernel
theorem dX2_init_20 : decode cX2_init 20 = .ok (.aload_n 0, 1) := by decide +kernel
theorem dX2_init_21 : decode cX2_init 21 = .ok (.bipush 40, 2) := by decide +kernel
theorem dX2_init_23 : decode cX2_init 23 = .ok (.newarray .int, 2) := by decide +kernel
theorem dX2_init_25 : decode cX2_init 25 = .ok (.putfield 18, 3) := by decide +kernel
theorem dX2_init_28 : decode cX2_init 28 = .ok (.aload_n 0, 1) := by decide +kernel
theorem dX2_init_29 : decode cX2_init 29 = .ok (.bipush 40, 2) := by decide +kernel
theorem dX2_init_31 : decode cX2_init 31 = .ok (.newarray .int, 2) := by decide +kernel
theorem dX2_init_33 : decode cX2_init 33 = .ok (.putfield 21, 3) := by decide +kernel
theorem dX2_init_36 : decode cX2_init 36 = .ok (.aload_n 0, 1) := by decide +kernel
theorem dX2_init_37 : decode cX2_init 37 = .ok (.bipush 40, 2) := by decide +kernel
theorem dX2_init_39 : decode cX2_init 39 = .ok (.newarray .float, 2) := by decide +kernel
theorem dX2_init_41 : decode cX2_init 41 = .ok (.putfield 24, 3) := by decide +kernel
theorem dX2_init_44 : decode cX2_init 44 = .ok (.return_, 1) := by decide +kernel
theorem dX3_init_0 : decode cX3_init 0 = .ok (.aload_n 0, 1) := by decide +kernel
theorem dX3_init_1 : decode cX3_init 1 = .ok (.invokespecial 3, 3) := by decide +kernel
theorem dX3_init_4 : decode cX3_init 4 = .ok (.aload_n 0, 1) := by decide +kernel
theorem dX3_init_5 : decode cX3_init 5 = .ok (.bipush 12, 2) := by decide +kernel
theorem dX3_init_7 : decode cX3_init 7 = .ok (.newarray .int, 2) := by decide +kernel
theorem dX3_init_9 : decode cX3_init 9 = .ok (.putfield 9, 3) := by decide +kernel
theorem dX3_init_12 : decode cX3_init 12 = .ok (.aload_n 0, 1) := by decide +kernel
theorem dX3_init_13 : decode cX3_init 13 = .ok (.bipush 12, 2) := by decide +kernel
theorem dX3_init_15 : decode cX3_init 15 = .ok (.newarray .int, 2) := by decide +kernel
theorem dX3_init_17 : decode cX3_init 17 = .ok (.putfield 15, 3) := by decide +kernel
theorem dX3_init_20 : decode cX3_init 20 = .ok (.aload_n 0, 1) := by decide +kernel
theorem dX3_init_21 : decode cX3_init 21 = .ok (.bipush 12, 2) := by decide +kernel
theorem dX3_init_23 : decode cX3_init 23 = .ok (.newarray .int, 2) := by decide +kernel
theorem dX3_init_25 : decode cX3_init 25 = .ok (.putfield 18, 3) := by decide +kernel
theorem dX3_init_28 : decode cX3_init 28 = .ok (.aload_n 0, 1) := by decide +kernel
theorem dX3_init_29 : decode cX3_init 29 = .ok (.bipush 48, 2) := by decide +kernel
theorem dX3_init_31 : decode cX3_init 31 = .ok (.newarray .int, 2) := by decide +kernel
theorem dX3_init_33 : decode cX3_init 33 = .ok (.putfield 21, 3) := by decide +kernel
theorem dX3_init_36 : decode cX3_init 36 = .ok (.return_, 1) := by decide +kernel
theorem ggX4_init_X8_init : GoodIn wsX4_init wsX8_init := goodIn_r _ [9, 10, 2, 3, 11, 12, 13, 14, 15, 16, 17, 18, 19, 20, 21, 22, 23, 24, 25, 26, 27, 28, 29, 30, 31, 32, 33, 34, 35, 36, 37, 38, 39, 40, 41, 42, 43, 44, 45, 46, 47, 48, 49, 50, 51, 52, 53, 54, 55, 56, 57, 58, 59, 60, 61, 62, 63, 64, 65, 66, 67, 68, 69, 70, 71, 72, 73, 74, 75, 76, 77, 78, 79, 80, 81, 82, 94, 95, 96, 97, 98, 86, 87, 88, 89, 90, 91, 92, 93, 99, 100, 101, 102, 103, 104, 105, 106, 107, 108, 109, 110, 111, 112, 113, 114, 115, 116, 117, 118, 119, 120, 121, 122, 123, 124, 125, 126, 127, 128, 129] (by decide +kernel) (by decide +kernel)
theorem gX4_init_X8_init_n17 : GoodIn wsX4_init (wsX8_init) := ggX4_init_X8_init
theorem dX4_init_0 : decode cX4_init 0 = .ok (.aload_n 0, 1) := by decide +kernel
theorem dX4_init_1 : decode cX4_init 1 = .ok (.invokespecial 3, 3) := by decide +kernel
theorem dX4_init_4 : decode cX4_init 4 = .ok (.aload_n 0, 1) := by decide +kernel
theorem dX4_init_5 : decode cX4_init 5 = .ok (.iconst 4, 1) := by decide +kernel
theorem dX4_init_6 : decode cX4_init 6 = .ok (.anewarray 9, 3) := by decide +kernel
theorem dX4_init_9 : decode cX4_init 9 = .ok (.putfield 11, 3) := by decide +kernel
theorem dX4_init_12 : decode cX4_init 12 = .ok (.iconst 0, 1) := by decide +kernel
theorem dX4_init_13 : decode cX4_init 13 = .ok (.istore_n 1, 1) := by decide +kernel
theorem dX4_init_14 : decode cX4_init 14 = .ok (.iload_n 1, 1) := by decide +kernel
theorem dX4_init_15 : decode cX4_init 15 = .ok (.iconst 4, 1) := by decide +kernel
theorem dX4_init_16 : decode cX4_init 16 = .ok (.if_icmp .ge 22, 3) := by decide +kernel
theorem dX4_init_19 : decode cX4_init 19 = .ok (.aload_n 0, 1) := by decide +kernel
theorem dX4_init_20 : decode cX4_init 20 = .ok (.getfield 11, 3) := by decide +kernel
theorem dX4_init_23 : decode cX4_init 23 = .ok (.iload_n 1, 1) := by decide +kernel
theorem dX4_init_24 : decode cX4_init 24 = .ok (.new 9, 3) := by decide +kernel
theorem dX4_init_27 : decode cX4_init 27 = .ok (.dup, 1) := by decide +kernel
theorem dX4_init_28 : decode cX4_init 28 = .ok (.invokespecial 17, 3) := by decide +kernel
theorem dX4_init_31 : decode cX4_init 31 = .ok (.aastore, 1) := by decide +kernel
theorem dX4_init_32 : decode cX4_init 32 = .ok (.iinc 1 1, 3) := by decide +kernel
theorem dX4_init_35 : decode cX4_init 35 = .ok (.goto (-21), 3) := by decide +kernel
theorem dX4_init_38 : decode cX4_init 38 = .ok (.return_, 1) := by decide +kernel
theorem dX5_init_0 : decode cX5_init 0 = .ok (.aload_n 0, 1) := by decide +kernel
theorem dX5_init_1 : decode cX5_init 1 = .ok (.invokespecial 3, 3) := by decide +kernel
theorem dX5_init_4 : decode cX5_init 4 = .ok (.aload_n 0, 1) := by decide +kernel
theorem dX5_init_5 : decode cX5_init 5 = .ok (.bipush 10, 2) := by decide +kernel
theorem dX5_init_7 : decode cX5_init 7 = .ok (.newarray .int, 2) := by decide +kernel
theorem dX5_init_9 : decode cX5_init 9 = .ok (.putfield 9, 3) := by decide +kernel
theorem dX5_init_12 : decode cX5_init 12 = .ok (.aload_n 0, 1) := by decide +kernel
theorem dX5_init_13 : decode cX5_init 13 = .ok (.bipush 10, 2) := by decide +kernel
theorem dX5_init_15 : decode cX5_init 15 = .ok (.newarray .int, 2) := by decide +kernel
theorem dX5_init_17 : decode cX5_init 17 = .ok (.putfield 15, 3) := by decide +kernel
theorem dX5_init_20 : decode cX5_init 20 = .ok (.aload_n 0, 1) := by decide +kernel
theorem dX5_init_21 : decode cX5_init 21 = .ok (.bipush 10, 2) := by decide +kernel
theorem dX5_init_23 : decode cX5_init 23 = .ok (.newarray .int, 2) := by decide +kernel
theorem dX5_init_25 : decode cX5_init 25 = .ok (.putfield 18, 3) := by decide +kernel
theorem dX5_init_28 : decode cX5_init 28 = .ok (.aload_n 0, 1) := by decide +kernel
theorem dX5_init_29 : decode cX5_init 29 = .ok (.bipush 10, 2) := by decide +kernel
theorem dX5_init_31 : decode cX5_init 31 = .ok (.newarray .int, 2) := by decide +kernel
theorem dX5_init_33 : decode cX5_init 33 = .ok (.putfield 21, 3) := by decide +kernel
theorem dX5_init_36 : decode cX5_init 36 = .ok (.return_, 1) := by decide +kernel
theorem dX6_init_0 : decode cX6_init 0 = .ok (.aload_n 0, 1) := by decide +kernel
theorem dX6_init_1 : decode cX6_init 1 = .ok (.invokespecial 3, 3) := by decide +kernel
theorem dX6_init_4 : decode cX6_init 4 = .ok (.aload_n 0, 1) := by decide +kernel
theorem dX6_init_5 : decode cX6_init 5 = .ok (.bipush 30, 2) := by decide +kernel
theorem dX6_init_7 : decode cX6_init 7 = .ok (.newarray .int, 2) := by decide +kernel
theorem dX6_init_9 : decode cX6_init 9 = .ok (.putfield 9, 3) := by decide +kernel
theorem dX6_init_12 : decode cX6_init 12 = .ok (.aload_n 0, 1) := by decide +kernel
theorem dX6_init_13 : decode cX6_init 13 = .ok (.bipush 30, 2) := by decide +kernel
theorem dX6_init_15 : decode cX6_init 15 = .ok (.newarray .int, 2) := by decide +kernel
theorem dX6_init_17 : decode cX6_init 17 = .ok (.putfield 15, 3) := by decide +kernel
theorem dX6_init_20 : decode cX6_init 20 = .ok (.aload_n 0, 1) := by decide +kernel
theorem dX6_init_21 : decode cX6_init 21 = .ok (.bipush 30, 2) := by decide +kernel
theorem dX6_init_23 : decode cX6_init 23 = .ok (.newarray .int, 2) := by decide +kernel
theorem dX6_init_25 : decode cX6_init 25 = .ok (.putfield 18, 3) := by decide +kernel
theorem dX6_init_28 : decode cX6_init 28 = .ok (.aload_n 0, 1) := by decide +kernel
theorem dX6_init_29 : decode cX6_init 29 = .ok (.bipush 30, 2) := by decide +kernel
theorem dX6_init_31 : decode cX6_init 31 = .ok (.newarray .int, 2) := by decide +kernel
theorem dX6_init_33 : decode cX6_init 33 = .ok (.putfield 21, 3) := by decide +kernel
theorem dX6_init_36 : decode cX6_init 36 = .ok (.aload_n 0, 1) := by decide +kernel
theorem dX6_init_37 : decode cX6_init 37 = .ok (.bipush 30, 2) := by decide +kernel
theorem dX6_init_39 : decode cX6_init 39 = .ok (.newarray .int, 2) := by decide +kernel
theorem dX6_init_41 : decode cX6_init 41 = .ok (.putfield 24, 3) := by decide +kernel
theorem dX6_init_44 : decode cX6_init 44 = .ok (.aload_n 0, 1) := by decide +kernel
theorem dX6_init_45 : decode cX6_init 45 = .ok (.bipush 30, 2) := by decide +kernel
theorem dX6_init_47 : decode cX6_init 47 = .ok (.newarray .int, 2) := by decide +kernel
theorem dX6_init_49 : decode cX6_init 49 = .ok (.putfield 27, 3) := by decide +kernel
theorem dX6_init_52 : decode cX6_init 52 = .ok (.aload_n 0, 1) := by decide +kernel
theorem dX6_init_53 : decode cX6_init 53 = .ok (.bipush 30, 2) := by decide +kernel
theorem dX6_init_55 : decode cX6_init 55 = .ok (.newarray .int, 2) := by decide +kernel
theorem dX6_init_57 : decode cX6_init 57 = .ok (.putfield 30, 3) := by decide +kernel
theorem dX6_init_60 : decode cX6_init 60 = .ok (.aload_n 0, 1) := by decide +kernel
theorem dX6_init_61 : decode cX6_init 61 = .ok (.bipush 30, 2) := by decide +kernel
theorem dX6_init_63 : decode cX6_init 63 = .ok (.newarray .int, 2) := by decide +kernel
theorem dX6_init_65 : decode cX6_init 65 = .ok (.putfield 33, 3) := by decide +kernel
theorem dX6_init_68 : decode cX6_init 68 = .ok (.aload_n 0, 1) := by decide +kernel
theorem dX6_init_69 : decode cX6_init 69 = .ok (.bipush 30, 2) := by decide +kernel
theorem dX6_init_71 : decode cX6_init 71 = .ok (.newarray .int, 2) := by decide +kernel
theorem dX6_init_73 : decode cX6_init 73 = .ok (.putfield 36, 3) := by decide +kernel
theorem dX6_init_76 : decode cX6_init 76 = .ok (.aload_n 0, 1) := by decide +kernel
theorem dX6_init_77 : decode cX6_init 77 = .ok (.bipush 30, 2) := by decide +kernel
theorem dX6_init_79 : decode cX6_init 79 = .ok (.newarray .int, 2) := by decide +kernel
theorem dX6_init_81 : decode cX6_init 81 = .ok (.putfield 39, 3) := by decide +kernel
theorem dX6_init_84 : decode cX6_init 84 = .ok (.aload_n 0, 1) := by decide +kernel
theorem dX6_init_85 : decode cX6_init 85 = .ok (.bipush 70, 2) := by decide +kernel
theorem dX6_init_87 : decode cX6_init 87 = .ok (.newarray .int, 2) := by decide +kernel
theorem dX6_init_89 : decode cX6_init 89 = .ok (.putfield 42, 3) := by decide +kernel
theorem dX6_init_92 : decode cX6_init 92 = .ok (.aload_n 0, 1) := by decide +kernel
theorem dX6_init_93 : decode cX6_init 93 = .ok (.bipush 70, 2) := by decide +kernel
theorem dX6_init_95 : decode cX6_init 95 = .ok (.newarray .int, 2) := by decide +kernel
theorem dX6_init_97 : decode cX6_init 97 = .ok (.putfield 45, 3) := by decide +kernel
theorem dX6_init_100 : decode cX6_init 100 = .ok (.return_, 1) := by decide +kernel
theorem dX7_init_0 : decode cX7_init 0 = .ok (.aload_n 0, 1) := by decide +kernel
theorem dX7_init_1 : decode cX7_init 1 = .ok (.invokespecial 3, 3) := by decide +kernel
theorem dX7_init_4 : decode cX7_init 4 = .ok (.aload_n 0, 1) := by decide +kernel
theorem dX7_init_5 : decode cX7_init 5 = .ok (.iconst 4, 1) := by decide +kernel
theorem dX7_init_6 : decode cX7_init 6 = .ok (.newarray .int, 2) := by decide +kernel
theorem dX7_init_8 : decode cX7_init 8 = .ok (.dup, 1) := by decide +kernel
theorem dX7_init_9 : decode cX7_init 9 = .ok (.iconst 0, 1) := by decide +kernel
theorem dX7_init_10 : decode cX7_init 10 = .ok (.bipush 100, 2) := by decide +kernel
theorem dX7_init_12 : decode cX7_init 12 = .ok (.iastore, 1) := by decide +kernel
theorem dX7_init_13 : decode cX7_init 13 = .ok (.dup, 1) := by decide +kernel
theorem dX7_init_14 : decode cX7_init 14 = .ok (.iconst 1, 1) := by decide +kernel
theorem dX7_init_15 : decode cX7_init 15 = .ok (.bipush 50, 2) := by decide +kernel
theorem dX7_init_17 : decode cX7_init 17 = .ok (.iastore, 1) := by decide +kernel
theorem dX7_init_18 : decode cX7_init 18 = .ok (.dup, 1) := by decide +kernel
theorem dX7_init_19 : decode cX7_init 19 = .ok (.iconst 2, 1) := by decide +kernel
theorem dX7_init_20 : decode cX7_init 20 = .ok (.bipush 25, 2) := by decide +kernel
theorem dX7_init_22 : decode cX7_init 22 = .ok (.iastore, 1) := by decide +kernel
theorem dX7_init_23 : decode cX7_init 23 = .ok (.dup, 1) := by decide +kernel
theorem dX7_init_24 : decode cX7_init 24 = .ok (.iconst 3, 1) := by decide +kernel
theorem dX7_init_25 : decode cX7_init 25 = .ok (.bipush 10, 2) := by decide +kernel
theorem dX7_init_27 : decode cX7_init 27 = .ok (.iastore, 1) := by decide +kernel
theorem dX7_init_28 : decode cX7_init 28 = .ok (.putfield 9, 3) := by decide +kernel
theorem dX7_init_31 : decode cX7_init 31 = .ok (.aload_n 0, 1) := by decide +kernel
theorem dX7_init_32 : decode cX7_init 32 = .ok (.iconst 4, 1) := by decide +kernel
theorem dX7_init_33 : decode cX7_init 33 = .ok (.newarray .float, 2) := by decide +kernel
theorem dX7_init_35 : decode cX7_init 35 = .ok (.dup, 1) := by decide +kernel
theorem dX7_init_36 : decode cX7_init 36 = .ok (.iconst 0, 1) := by decide +kernel
theorem dX7_init_37 : decode cX7_init 37 = .ok (.fconst 0, 1) := by decide +kernel
theorem dX7_init_38 : decode cX7_init 38 = .ok (.fastore, 1) := by decide +kernel
theorem dX7_init_39 : decode cX7_init 39 = .ok (.dup, 1) := by decide +kernel
theorem dX7_init_40 : decode cX7_init 40 = .ok (.iconst 1, 1) := by decide +kernel
theorem dX7_init_41 : decode cX7_init 41 = .ok (.ldc 15, 2) := by decide +kernel
theorem dX7_init_43 : decode cX7_init 43 = .ok (.fastore, 1) := by decide +kernel
theorem dX7_init_44 : decode cX7_init 44 = .ok (.dup, 1) := by decide +kernel
theorem dX7_init_45 : decode cX7_init 45 = .ok (.iconst 2, 1) := by decide +kernel
theorem dX7_init_46 : decode cX7_init 46 = .ok (.ldc 16, 2) := by decide +kernel
theorem dX7_init_48 : decode cX7_init 48 = .ok (.fastore, 1) := by decide +kernel
theorem dX7_init_49 : decode cX7_init 49 = .ok (.dup, 1) := by decide +kernel
theorem dX7_init_50 : decode cX7_init 50 = .ok (.iconst 3, 1) := by decide +kernel
theorem dX7_init_51 : decode cX7_init 51 = .ok (.ldc 17, 2) := by decide +kernel
theorem dX7_init_53 : decode cX7_init 53 = .ok (.fastore, 1) := by decide +kernel
theorem dX7_init_54 : decode cX7_init 54 = .ok (.putfield 18, 3) := by decide +kernel
theorem dX7_init_57 : decode cX7_init 57 = .ok (.return_, 1) := by decide +kernel
theorem ggX8_init_X3_init : GoodIn wsX8_init wsX3_init := goodIn_r _ [27, 28, 2, 3, 24, 29, 30, 31, 32, 76, 77, 78, 79, 80] (by decide +kernel) (by decide +kernel)
theorem gX8_init_X3_init_n11 : GoodIn wsX8_init (wsX3_init) := ggX8_init_X3_init
theorem ggX8_init_X0_init : GoodIn wsX8_init wsX0_init := goodIn_r _ [34, 35, 2, 3, 24, 36, 37, 38, 39, 40, 41, 42, 43, 44, 89, 90, 91, 92, 93, 94, 95, 96, 97] (by decide +kernel) (by decide +kernel)
theorem gX8_init_X0_init_n20 : GoodIn wsX8_init (wsX0_init) := ggX8_init_X0_init
theorem ggX8_init_X6_init : GoodIn wsX8_init wsX6_init := goodIn_r _ [46, 47, 2, 3, 24, 48, 49, 50, 51, 52, 53, 54, 55, 56, 57, 58, 59, 98, 99, 100, 101, 102, 103, 104, 105, 106, 107, 108, 109, 110, 111] (by decide +kernel) (by decide +kernel)
theorem gX8_init_X6_init_n27 : GoodIn wsX8_init (wsX6_init) := ggX8_init_X6_init
theorem ggX8_init_X7_init : GoodIn wsX8_init wsX7_init := goodIn_r _ [61, 62, 2, 3, 24, 63, 64, 65, 66, 67, 68, 112, 113] (by decide +kernel) (by decide +kernel)
theorem gX8_init_X7_init_n34 : GoodIn wsX8_init (wsX7_init) := ggX8_init_X7_init
theorem ggX8_init_X5_init : GoodIn wsX8_init wsX5_init := goodIn_r _ [70, 71, 2, 3, 24, 72, 73, 74, 75, 114, 115, 116, 117, 118, 119] (by decide +kernel) (by decide +kernel)
theorem gX8_init_X5_init_n41 : GoodIn wsX8_init (wsX5_init) := ggX8_init_X5_init
theorem dX8_init_0 : decode cX8_init 0 = .ok (.aload_n 0, 1) := by decide +kernel
theorem dX8_init_1 : decode cX8_init 1 = .ok (.invokespecial 3, 3) := by decide +kernel
theorem dX8_init_4 : decode cX8_init 4 = .ok (.aload_n 0, 1) := by decide +kernel
theorem dX8_init_5 : decode cX8_init 5 = .ok (.new 9, 3) := by decide +kernel
theorem dX8_init_8 : decode cX8_init 8 = .ok (.dup, 1) := by decide +kernel
theorem dX8_init_9 : decode cX8_init 9 = .ok (.invokespecial 11, 3) := by decide +kernel
theorem dX8_init_12 : decode cX8_init 12 = .ok (.putfield 12, 3) := by decide +kernel
theorem dX8_init_15 : decode cX8_init 15 = .ok (.aload_n 0, 1) := by decide +kernel
theorem dX8_init_16 : decode cX8_init 16 = .ok (.new 18, 3) := by decide +kernel
theorem dX8_init_19 : decode cX8_init 19 = .ok (.dup, 1) := by decide +kernel
theorem dX8_init_20 : decode cX8_init 20 = .ok (.invokespecial 20, 3) := by decide +kernel
theorem dX8_init_23 : decode cX8_init 23 = .ok (.putfield 21, 3) := by decide +kernel
theorem dX8_init_26 : decode cX8_init 26 = .ok (.aload_n 0, 1) := by decide +kernel
theorem dX8_init_27 : decode cX8_init 27 = .ok (.new 25, 3) := by decide +kernel
theorem dX8_init_30 : decode cX8_init 30 = .ok (.dup, 1) := by decide +kernel
theorem dX8_init_31 : decode cX8_init 31 = .ok (.invokespecial 27, 3) := by decide +kernel
theorem dX8_init_34 : decode cX8_init 34 = .ok (.putfield 28, 3) := by decide +kernel
theorem dX8_init_37 : decode cX8_init 37 = .ok (.aload_n 0, 1) := by decide +kernel
theorem dX8_init_38 : decode cX8_init 38 = .ok (.new 32, 3) := by decide +kernel
theorem dX8_init_41 : decode cX8_init 41 = .ok (.dup, 1) := by decide +kernel
theorem dX8_init_42 : decode cX8_init 42 = .ok (.invokespecial 34, 3) := by decide +kernel
theorem dX8_init_45 : decode cX8_init 45 = .ok (.putfield 35, 3) := by decide +kernel
theorem dX8_init_48 : decode cX8_init 48 = .ok (.aload_n 0, 1) := by decide +kernel
theorem dX8_init_49 : decode cX8_init 49 = .ok (.new 39, 3) := by decide +kernel
theorem dX8_init_52 : decode cX8_init 52 = .ok (.dup, 1) := by decide +kernel
theorem dX8_init_53 : decode cX8_init 53 = .ok (.invokespecial 41, 3) := by decide +kernel
theorem dX8_init_56 : decode cX8_init 56 = .ok (.putfield 42, 3) := by decide +kernel
theorem dX8_init_59 : decode cX8_init 59 = .ok (.aload_n 0, 1) := by decide +kernel
theorem dX8_init_60 : decode cX8_init 60 = .ok (.iconst 3, 1) := by decide +kernel
theorem dX8_init_61 : decode cX8_init 61 = .ok (.newarray .int, 2) := by decide +kernel
theorem dX8_init_63 : decode cX8_init 63 = .ok (.dup, 1) := by decide +kernel
theorem dX8_init_64 : decode cX8_init 64 = .ok (.iconst 0, 1) := by decide +kernel
theorem dX8_init_65 : decode cX8_init 65 = .ok (.iconst 0, 1) := by decide +kernel
theorem dX8_init_66 : decode cX8_init 66 = .ok (.iastore, 1) := by decide +kernel
theorem dX8_init_67 : decode cX8_init 67 = .ok (.dup, 1) := by decide +kernel
theorem dX8_init_68 : decode cX8_init 68 = .ok (.iconst 1, 1) := by decide +kernel
theorem dX8_init_69 : decode cX8_init 69 = .ok (.iconst 4, 1) := by decide +kernel
theorem dX8_init_70 : decode cX8_init 70 = .ok (.iastore, 1) := by decide +kernel
theorem dX8_init_71 : decode cX8_init 71 = .ok (.dup, 1) := by decide +kernel
theorem dX8_init_72 : decode cX8_init 72 = .ok (.iconst 2, 1) := by decide +kernel
theorem dX8_init_73 : decode cX8_init 73 = .ok (.bipush 50, 2) := by decide +kernel
theorem dX8_init_75 : decode cX8_init 75 = .ok (.iastore, 1) := by decide +kernel
theorem dX8_init_76 : decode cX8_init 76 = .ok (.putfield 46, 3) := by decide +kernel
theorem dX8_init_79 : decode cX8_init 79 = .ok (.return_, 1) := by decide +kernel
theorem ggX9_init_X8_init : GoodIn wsX9_init wsX8_init := goodIn_r _ [25, 26, 2, 3, 27, 28, 29, 30, 31, 32, 33, 34, 35, 36, 37, 38, 39, 40, 41, 42, 43, 44, 45, 46, 47, 48, 49, 50, 51, 52, 53, 54, 55, 56, 57, 58, 59, 60, 61, 62, 63, 64, 65, 66, 67, 68, 69, 70, 71, 72, 73, 74, 75, 76, 77, 78, 79, 80, 81, 82, 83, 84, 85, 86, 87, 88, 89, 90, 91, 92, 93, 94, 95, 96, 97, 98, 153, 154, 155, 156, 157, 118, 119, 120, 121, 122, 123, 124, 125, 158, 159, 160, 161, 162, 163, 164, 165, 166, 167, 168, 169, 170, 171, 172, 173, 174, 175, 176, 177, 178, 179, 180, 181, 182, 183, 184, 185, 186, 187, 188] (by decide +kernel) (by decide +kernel)
theorem gX9_init_X8_init_n11 : GoodIn wsX9_init (wsX8_init) := ggX9_init_X8_init
theorem ggX9_init_X4_init : GoodIn wsX9_init wsX4_init := goodIn_r _ [101, 102, 2, 3, 103, 104, 5, 6, 24, 25, 26, 27, 28, 29, 30, 31, 32, 33, 34, 35, 36, 37, 38, 39, 40, 41, 42, 43, 44, 45, 46, 47, 48, 49, 50, 51, 52, 53, 54, 55, 56, 57, 58, 59, 60, 61, 62, 63, 64, 65, 66, 67, 68, 69, 70, 71, 72, 73, 74, 75, 76, 77, 78, 79, 80, 81, 82, 83, 84, 85, 86, 87, 88, 89, 90, 91, 92, 93, 94, 95, 96, 97, 98, 135, 136, 137, 118, 119, 120, 121, 122, 123, 124, 125, 153, 154, 155, 156, 157, 158, 159, 160, 161, 162, 163, 164, 165, 166, 167, 168, 169, 170, 171, 172, 173, 174, 175, 176, 177, 178, 179, 180, 181, 182, 183, 184, 185, 186, 187, 188] (by decide +kernel) (by decide +kernel)
theorem gX9_init_X4_init : GoodIn wsX9_init (wsX4_init) := ggX9_init_X4_init
theorem ggX9_init_X2_init : GoodIn wsX9_init wsX2_init := goodIn_r _ [106, 107, 2, 3, 47, 108, 109, 110, 111, 87, 112, 138, 139, 140, 141, 142, 143, 144, 145, 146, 147, 148] (by decide +kernel) (by decide +kernel)
theorem gX9_init_X2_init_n31 : GoodIn wsX9_init (wsX2_init) := ggX9_init_X2_init
theorem ggX9_init_X1_init : GoodIn wsX9_init wsX1_init := goodIn_r _ [114, 115, 2, 3, 116, 47, 117, 149, 150, 151, 152] (by decide +kernel) (by decide +kernel)
theorem gX9_init_X1_init_n38 : GoodIn wsX9_init (wsX1_init) := ggX9_init_X1_init
theorem dX9_init_0 : decode cX9_init 0 = .ok (.aload_n 0, 1) := by decide +kernel
theorem dX9_init_1 : decode cX9_init 1 = .ok (.invokespecial 3, 3) := by decide +kernel
theorem dX9_init_4 : decode cX9_init 4 = .ok (.aload_n 0, 1) := by decide +kernel
theorem dX9_init_5 : decode cX9_init 5 = .ok (.new 9, 3) := by decide +kernel
theorem dX9_init_8 : decode cX9_init 8 = .ok (.dup, 1) := by decide +kernel
theorem dX9_init_9 : decode cX9_init 9 = .ok (.invokespecial 11, 3) := by decide +kernel
theorem dX9_init_12 : decode cX9_init 12 = .ok (.putfield 12, 3) := by decide +kernel
theorem dX9_init_15 : decode cX9_init 15 = .ok (.aload_n 0, 1) := by decide +kernel
theorem dX9_init_16 : decode cX9_init 16 = .ok (.new 9, 3) := by decide +kernel
theorem dX9_init_19 : decode cX9_init 19 = .ok (.dup, 1) := by decide +kernel
theorem dX9_init_20 : decode cX9_init 20 = .ok (.invokespecial 11, 3) := by decide +kernel
theorem dX9_init_23 : decode cX9_init 23 = .ok (.putfield 16, 3) := by decide +kernel
theorem dX9_init_26 : decode cX9_init 26 = .ok (.aload_n 0, 1) := by decide +kernel
theorem dX9_init_27 : decode cX9_init 27 = .ok (.new 9, 3) := by decide +kernel
theorem dX9_init_30 : decode cX9_init 30 = .ok (.dup, 1) := by decide +kernel
theorem dX9_init_31 : decode cX9_init 31 = .ok (.invokespecial 11, 3) := by decide +kernel
theorem dX9_init_34 : decode cX9_init 34 = .ok (.putfield 19, 3) := by decide +kernel
theorem dX9_init_37 : decode cX9_init 37 = .ok (.aload_n 0, 1) := by decide +kernel
theorem dX9_init_38 : decode cX9_init 38 = .ok (.new 22, 3) := by decide +kernel
theorem dX9_init_41 : decode cX9_init 41 = .ok (.dup, 1) := by decide +kernel
theorem dX9_init_42 : decode cX9_init 42 = .ok (.invokespecial 24, 3) := by decide +kernel
theorem dX9_init_45 : decode cX9_init 45 = .ok (.putfield 25, 3) := by decide +kernel
theorem dX9_init_48 : decode cX9_init 48 = .ok (.aload_n 0, 1) := by decide +kernel
theorem dX9_init_49 : decode cX9_init 49 = .ok (.new 29, 3) := by decide +kernel
theorem dX9_init_52 : decode cX9_init 52 = .ok (.dup, 1) := by decide +kernel
theorem dX9_init_53 : decode cX9_init 53 = .ok (.invokespecial 31, 3) := by decide +kernel
theorem dX9_init_56 : decode cX9_init 56 = .ok (.putfield 32, 3) := by decide +kernel
theorem dX9_init_59 : decode cX9_init 59 = .ok (.aload_n 0, 1) := by decide +kernel
theorem dX9_init_60 : decode cX9_init 60 = .ok (.new 36, 3) := by decide +kernel
theorem dX9_init_63 : decode cX9_init 63 = .ok (.dup, 1) := by decide +kernel
theorem dX9_init_64 : decode cX9_init 64 = .ok (.invokespecial 38, 3) := by decide +kernel
theorem dX9_init_67 : decode cX9_init 67 = .ok (.putfield 39, 3) := by decide +kernel
theorem dX9_init_70 : decode cX9_init 70 = .ok (.aload_n 0, 1) := by decide +kernel
theorem dX9_init_71 : decode cX9_init 71 = .ok (.bipush 60, 2) := by decide +kernel
theorem dX9_init_73 : decode cX9_init 73 = .ok (.newarray .char, 2) := by decide +kernel
theorem dX9_init_75 : decode cX9_init 75 = .ok (.putfield 43, 3) := by decide +kernel
theorem dX9_init_78 : decode cX9_init 78 = .ok (.return_, 1) := by decide +kernel
theorem dX10_init_0 : decode cX10_init 0 = .ok (.aload_n 0, 1) := by decide +kernel
theorem dX10_init_1 : decode cX10_init 1 = .ok (.invokespecial 1, 3) := by decide +kernel
theorem dX10_init_4 : decode cX10_init 4 = .ok (.aload_n 0, 1) := by decide +kernel
theorem dX10_init_5 : decode cX10_init 5 = .ok (.sipush 1002, 3) := by decide +kernel
theorem dX10_init_8 : decode cX10_init 8 = .ok (.newarray .int, 2) := by decide +kernel
theorem dX10_init_10 : decode cX10_init 10 = .ok (.putfield 7, 3) := by decide +kernel
theorem dX10_init_13 : decode cX10_init 13 = .ok (.aload_n 0, 1) := by decide +kernel
theorem dX10_init_14 : decode cX10_init 14 = .ok (.sipush 4008, 3) := by decide +kernel
theorem dX10_init_17 : decode cX10_init 17 = .ok (.newarray .int, 2) := by decide +kernel
theorem dX10_init_19 : decode cX10_init 19 = .ok (.putfield 13, 3) := by decide +kernel
theorem dX10_init_22 : decode cX10_init 22 = .ok (.aload_n 0, 1) := by decide +kernel
theorem dX10_init_23 : decode cX10_init 23 = .ok (.sipush 1002, 3) := by decide +kernel
theorem dX10_init_26 : decode cX10_init 26 = .ok (.newarray .int, 2) := by decide +kernel
theorem dX10_init_28 : decode cX10_init 28 = .ok (.putfield 16, 3) := by decide +kernel
theorem dX10_init_31 : decode cX10_init 31 = .ok (.aload_n 0, 1) := by decide +kernel
theorem dX10_init_32 : decode cX10_init 32 = .ok (.sipush 1002, 3) := by decide +kernel
theorem dX10_init_35 : decode cX10_init 35 = .ok (.newarray .int, 2) := by decide +kernel
theorem dX10_init_37 : decode cX10_init 37 = .ok (.putfield 19, 3) := by decide +kernel
theorem dX10_init_40 : decode cX10_init 40 = .ok (.aload_n 0, 1) := by decide +kernel
theorem dX10_init_41 : decode cX10_init 41 = .ok (.bipush 60, 2) := by decide +kernel
theorem dX10_init_43 : decode cX10_init 43 = .ok (.newarray .char, 2) := by decide +kernel
theorem dX10_init_45 : decode cX10_init 45 = .ok (.putfield 22, 3) := by decide +kernel
theorem dX10_init_48 : decode cX10_init 48 = .ok (.aload_n 0, 1) := by decide +kernel
theorem dX10_init_49 : decode cX10_init 49 = .ok (.bipush 40, 2) := by decide +kernel
theorem dX10_init_51 : decode cX10_init 51 = .ok (.newarray .boolean, 2) := by decide +kernel
theorem dX10_init_53 : decode cX10_init 53 = .ok (.putfield 26, 3) := by decide +kernel
theorem dX10_init_56 : decode cX10_init 56 = .ok (.aload_n 0, 1) := by decide +kernel
theorem dX10_init_57 : decode cX10_init 57 = .ok (.bipush 40, 2) := by decide +kernel
theorem dX10_init_59 : decode cX10_init 59 = .ok (.newarray .int, 2) := by decide +kernel
theorem dX10_init_61 : decode cX10_init 61 = .ok (.putfield 30, 3) := by decide +kernel
theorem dX10_init_64 : decode cX10_init 64 = .ok (.aload_n 0, 1) := by decide +kernel
theorem dX10_init_65 : decode cX10_init 65 = .ok (.bipush 40, 2) := by decide +kernel
theorem dX10_init_67 : decode cX10_init 67 = .ok (.newarray .int, 2) := by decide +kernel
theorem dX10_init_69 : decode cX10_init 69 = .ok (.putfield 33, 3) := by decide +kernel
theorem dX10_init_72 : decode cX10_init 72 = .ok (.aload_n 0, 1) := by decide +kernel
theorem dX10_init_73 : decode cX10_init 73 = .ok (.bipush 40, 2) := by decide +kernel
theorem dX10_init_75 : decode cX10_init 75 = .ok (.newarray .int, 2) := by decide +kernel
theorem dX10_init_77 : decode cX10_init 77 = .ok (.putfield 36, 3) := by decide +kernel
theorem dX10_init_80 : decode cX10_init 80 = .ok (.aload_n 0, 1) := by decide +kernel
theorem dX10_init_81 : decode cX10_init 81 = .ok (.bipush 60, 2) := by decide +kernel
theorem dX10_init_83 : decode cX10_init 83 = .ok (.newarray .int, 2) := by decide +kernel
theorem dX10_init_85 : decode cX10_init 85 = .ok (.putfield 39, 3) := by decide +kernel
theorem dX10_init_88 : decode cX10_init 88 = .ok (.aload_n 0, 1) := by decide +kernel
theorem dX10_init_89 : decode cX10_init 89 = .ok (.getfield 7, 3) := by decide +kernel
theorem dX10_init_92 : decode cX10_init 92 = .ok (.iconst 5, 1) := by decide +kernel
theorem dX10_init_93 : decode cX10_init 93 = .ok (.iconst 4, 1) := by decide +kernel
theorem dX10_init_94 : decode cX10_init 94 = .ok (.iastore, 1) := by decide +kernel
theorem dX10_init_95 : decode cX10_init 95 = .ok (.aload_n 0, 1) := by decide +kernel
theorem dX10_init_96 : decode cX10_init 96 = .ok (.getfield 7, 3) := by decide +kernel
theorem dX10_init_99 : decode cX10_init 99 = .ok (.bipush 6, 2) := by decide +kernel
theorem dX10_init_101 : decode cX10_init 101 = .ok (.bipush 50, 2) := by decide +kernel
theorem dX10_init_103 : decode cX10_init 103 = .ok (.iastore, 1) := by decide +kernel
theorem dX10_init_104 : decode cX10_init 104 = .ok (.aload_n 0, 1) := by decide +kernel
theorem dX10_init_105 : decode cX10_init 105 = .ok (.getfield 7, 3) := by decide +kernel
theorem dX10_init_108 : decode cX10_init 108 = .ok (.sipush 954, 3) := by decide +kernel
theorem dX10_init_111 : decode cX10_init 111 = .ok (.bipush 100, 2) := by decide +kernel
theorem dX10_init_113 : decode cX10_init 113 = .ok (.iastore, 1) := by decide +kernel
theorem dX10_init_114 : decode cX10_init 114 = .ok (.aload_n 0, 1) := by decide +kernel
theorem dX10_init_115 : decode cX10_init 115 = .ok (.getfield 7, 3) := by decide +kernel
theorem dX10_init_118 : decode cX10_init 118 = .ok (.sipush 955, 3) := by decide +kernel
theorem dX10_init_121 : decode cX10_init 121 = .ok (.bipush 50, 2) := by decide +kernel
theorem dX10_init_123 : decode cX10_init 123 = .ok (.iastore, 1) := by decide +kernel
theorem dX10_init_124 : decode cX10_init 124 = .ok (.aload_n 0, 1) := by decide +kernel
theorem dX10_init_125 : decode cX10_init 125 = .ok (.getfield 7, 3) := by decide +kernel
theorem dX10_init_128 : decode cX10_init 128 = .ok (.sipush 956, 3) := by decide +kernel
theorem dX10_init_131 : decode cX10_init 131 = .ok (.bipush 25, 2) := by decide +kernel
theorem dX10_init_133 : decode cX10_init 133 = .ok (.iastore, 1) := by decide +kernel
theorem dX10_init_134 : decode cX10_init 134 = .ok (.aload_n 0, 1) := by decide +kernel
theorem dX10_init_135 : decode cX10_init 135 = .ok (.getfield 7, 3) := by decide +kernel
theorem dX10_init_138 : decode cX10_init 138 = .ok (.sipush 957, 3) := by decide +kernel
theorem dX10_init_141 : decode cX10_init 141 = .ok (.bipush 10, 2) := by decide +kernel
theorem dX10_init_143 : decode cX10_init 143 = .ok (.iastore, 1) := by decide +kernel
theorem dX10_init_144 : decode cX10_init 144 = .ok (.aload_n 0, 1) := by decide +kernel
theorem dX10_init_145 : decode cX10_init 145 = .ok (.getfield 7, 3) := by decide +kernel
theorem dX10_init_148 : decode cX10_init 148 = .ok (.sipush 959, 3) := by decide +kernel
theorem dX10_init_151 : decode cX10_init 151 = .ok (.ldc 42, 2) := by decide +kernel
theorem dX10_init_153 : decode cX10_init 153 = .ok (.iastore, 1) := by decide +kernel
theorem dX10_init_154 : decode cX10_init 154 = .ok (.aload_n 0, 1) := by decide +kernel
theorem dX10_init_155 : decode cX10_init 155 = .ok (.getfield 7, 3) := by decide +kernel
theorem dX10_init_158 : decode cX10_init 158 = .ok (.sipush 960, 3) := by decide +kernel
theorem dX10_init_161 : decode cX10_init 161 = .ok (.ldc 43, 2) := by decide +kernel
theorem dX10_init_163 : decode cX10_init 163 = .ok (.iastore, 1) := by decide +kernel
theorem dX10_init_164 : decode cX10_init 164 = .ok (.aload_n 0, 1) := by decide +kernel
theorem dX10_init_165 : decode cX10_init 165 = .ok (.getfield 7, 3) := by decide +kernel
theorem dX10_init_168 : decode cX10_init 168 = .ok (.sipush 961, 3) := by decide +kernel
theorem dX10_init_171 : decode cX10_init 171 = .ok (.ldc 44, 2) := by decide +kernel
theorem dX10_init_173 : decode cX10_init 173 = .ok (.iastore, 1) := by decide +kernel
theorem dX10_init_174 : decode cX10_init 174 = .ok (.return_, 1) := by decide +kernel
end
section
/-! test -/
def xmd (md : UInt32) : Prop := vf_n32 (FP.fdiv md 1120403456) ∧ vf_n32 (FP.fsub FP.fconst1 (FP.fdiv md 1120403456)) ∧ ∀ p : Int32, vf_n32 (FP.fmul (FP.i2f p) (FP.fsub FP.fconst1 (FP.fdiv md 1120403456)))
def xprice (p : Int32) (md : UInt32) : UInt32 := FP.fmul (FP.i2f p) (FP.fsub FP.fconst1 (FP.fdiv md 1120403456))
def xf1 (x : Int32) : UInt32 := x.toUInt32
def xcharge (most its : Int32) (pr : UInt32) : UInt32 := if most < its ∧ 0 < Op.cmpValue (FP.fcmp pr (FP.i2f most)) .l then FP.i2f most else pr
def xrb (rb : UInt32) : Prop := ∀ x : Int32, vf_n32 (FP.fmul (FP.i2f x) rb) ∧ vf_n32 (FP.fdiv (FP.fmul (FP.i2f x) rb) 1120403456)
end
section
/-! Floats: a number by halving, and what is a number. (These rows use the library's laws of floats.) -/
theorem xn32 (r : UInt32) : vf_n32 r ↔ r.toNat % 2 ^ 31 ≤ 2139095040 := by
  unfold vf_n32
  rw [UInt32.le_iff_toNat_le, UInt32.toNat_and, show (0x7fffffff : UInt32).toNat = 2 ^ 31 - 1 from rfl, Nat.and_two_pow_sub_one_eq_mod]
  exact Iff.rfl
theorem xn32_val {r : UInt32} (h : FP.Core.val32 r ≠ .nan) : vf_n32 r := (xn32 r).mpr ((FP.Core.ne_nan32 r).mp h)
theorem xn32_no {r : UInt32} (h : FP.Core.fIsNaN r = false) : vf_n32 r := xn32_val ((FP.Core.notNaN_iff32 r).mp h)
theorem xn32_mag {r : UInt32} {K : Nat} (h : r.toNat % 2 ^ 31 < K * 2 ^ 23) (hK : K ≤ 255) : vf_n32 r := (xn32 r).mpr (by omega)
/-- m halved k times, by products and by quotients -/
def xhm (m : Nat) : Nat → UInt32
  | 0 => FP.i2f (nI m)
  | k + 1 => FP.fmul (xhm m k) 1056964608
def xhd (m : Nat) : Nat → UInt32
  | 0 => FP.i2f (nI m)
  | k + 1 => FP.fdiv (xhd m k) FP.fconst2
theorem xhalf_fit {m k : Nat} (hm : m < 2 ^ 24) (h0 : 0 < m) (hk : k ≤ 149) : ∃ d : Nat, d ≤ 23 ∧ FP.Core.fits FP.Core.b32 (.fin false (m * 2 ^ d) (-(k : Int) - d)) := by
  have hl : 2 ^ m.log2 ≤ m := Nat.log2_self_le (by omega)
  have hu : m < 2 ^ (m.log2 + 1) := Nat.lt_log2_self
  have hl23 : m.log2 ≤ 23 := by
    have := (Nat.log2_lt (n := m) (k := 24) (by omega)).mpr hm
    omega
  refine ⟨min (149 - k) (23 - m.log2), by omega, ?_⟩
  have e24 : FP.Core.b32.p = 24 := rfl
  have eqn : FP.Core.b32.qmin = -149 := by decide
  have eqx : FP.Core.b32.qmax = 104 := by decide
  have etl : FP.Core.b32.tails = 2 ^ 23 := rfl
  refine ⟨?_, ?_, ?_, ?_⟩
  · rw [e24]
    calc m * 2 ^ min (149 - k) (23 - m.log2) < 2 ^ (m.log2 + 1) * 2 ^ min (149 - k) (23 - m.log2) := Nat.mul_lt_mul_of_pos_right hu (Nat.two_pow_pos _)
      _ = 2 ^ (m.log2 + 1 + min (149 - k) (23 - m.log2)) := (Nat.pow_add _ _ _).symm
      _ ≤ 2 ^ 24 := Nat.pow_le_pow_right (by decide) (by omega)
  · rw [eqn]; omega
  · rw [eqx]; omega
  · rw [eqn, etl]
    by_cases h : 149 - k ≤ 23 - m.log2
    · left; omega
    · right
      rw [show min (149 - k) (23 - m.log2) = 23 - m.log2 by omega]
      calc 2 ^ 23 = 2 ^ m.log2 * 2 ^ (23 - m.log2) := by rw [← Nat.pow_add]; congr 1; omega
        _ ≤ m * 2 ^ (23 - m.log2) := Nat.mul_le_mul_right _ hl
theorem xround {m k : Nat} (hm : m < 2 ^ 24) (h0 : 0 < m) (hk : k ≤ 149) : ∃ d : Nat, d ≤ 23 ∧ FP.Core.roundRatio FP.Core.b32 false m 1 (-(k : Int)) = .fin false (m * 2 ^ d) (-(k : Int) - d) := by
  obtain ⟨d, hd, hf⟩ := xhalf_fit hm h0 hk
  refine ⟨d, hd, FP.Core.roundRatio_exact FP.Core.good_b32 (by decide) hf ?_⟩
  rw [show (-(k : Int) - (-(k : Int) - d)).toNat = d by omega, show (-(k : Int) - d - -(k : Int)).toNat = 0 by omega, Nat.pow_zero, Nat.mul_one, Nat.mul_one]
theorem xround0 (k : Int) : FP.Core.roundRatio FP.Core.b32 false 0 1 k = .fin false 0 FP.Core.b32.qmin := if_pos rfl
theorem xhm_val {m : Nat} (hm : m < 2 ^ 24) : ∀ {k : Nat}, k ≤ 149 → FP.Core.val32 (xhm m k) = FP.Core.roundRatio FP.Core.b32 false m 1 (-(k : Int))
  | 0, _ => by
    show FP.Core.val32 (FP.Core.i2f (nI m)) = _
    rw [FP.Core.val32_i2f, nI_toInt (by omega)]
    show FP.Core.roundRatio FP.Core.b32 (decide ((m : Int) < 0)) (m : Int).natAbs 1 0 = _
    rw [decide_eq_false (by omega), Int.natAbs_natCast]
    rfl
  | k + 1, hk => by
    have ih := xhm_val hm (k := k) (by omega)
    show FP.Core.val32 (FP.Core.fmul (xhm m k) 1056964608) = _
    rw [FP.Core.val32_fmul, ih, show FP.Core.val32 1056964608 = .fin false (2 ^ 23) (-24) by decide +kernel]
    by_cases h0 : m = 0
    · subst h0
      rw [xround0, xround0]
      show FP.Core.roundRatio FP.Core.b32 false (0 * 2 ^ 23) 1 _ = _
      rw [Nat.zero_mul, xround0]
    · obtain ⟨d, hd, e⟩ := xround hm (by omega) (k := k) (by omega)
      rw [e]
      show FP.Core.roundRatio FP.Core.b32 false (m * 2 ^ d * 2 ^ 23) 1 (-(k : Int) - d + -24) = _
      refine FP.Core.roundRatio_congr (by decide) (by decide) ?_
      rw [show (-(k : Int) - d + -24 - -((k + 1 : Nat) : Int)).toNat = 0 by omega, show (-((k + 1 : Nat) : Int) - (-(k : Int) - d + -24)).toNat = d + 23 by omega, Nat.pow_zero, Nat.mul_one, Nat.mul_one, Nat.mul_one, Nat.pow_add, Nat.mul_assoc]
theorem xhd_val {m : Nat} (hm : m < 2 ^ 24) : ∀ {k : Nat}, k ≤ 149 → FP.Core.val32 (xhd m k) = FP.Core.roundRatio FP.Core.b32 false m 1 (-(k : Int))
  | 0, _ => xhm_val hm (k := 0) (by decide)
  | k + 1, hk => by
    have ih := xhd_val hm (k := k) (by omega)
    show FP.Core.val32 (FP.Core.fdiv (xhd m k) FP.fconst2) = _
    rw [FP.Core.val32_fdiv, ih, show FP.Core.val32 FP.fconst2 = .fin false (2 ^ 23) (-22) by decide +kernel]
    by_cases h0 : m = 0
    · subst h0
      rw [xround0, xround0]
      rfl
    · obtain ⟨d, hd, e⟩ := xround hm (by omega) (k := k) (by omega)
      rw [e]
      show FP.Core.roundRatio FP.Core.b32 false (m * 2 ^ d) (2 ^ 23) (-(k : Int) - d - -22) = _
      refine FP.Core.roundRatio_congr (by decide) (by decide) ?_
      rw [show (-(k : Int) - d - -22 - -((k + 1 : Nat) : Int)).toNat = 23 - d by omega, show (-((k + 1 : Nat) : Int) - (-(k : Int) - d - -22)).toNat = 0 by omega, Nat.pow_zero, Nat.mul_one, Nat.mul_one, Nat.mul_assoc, ← Nat.pow_add, show d + (23 - d) = 23 by omega]
theorem xhm_n {m k : Nat} (hm : m < 2 ^ 24) (hk : k ≤ 149) : vf_n32 (xhm m k) := xn32_val (by rw [xhm_val hm hk]; exact FP.Core.roundRatio_ne_nan _ _ _ _ _)
theorem xhd_n {m k : Nat} (hm : m < 2 ^ 24) (hk : k ≤ 149) : vf_n32 (xhd m k) := xn32_val (by rw [xhd_val hm hk]; exact FP.Core.roundRatio_ne_nan _ _ _ _ _)
/-- a number's digits and halvings, by its bits -/
def xman (b : Nat) : Nat := if b / 2 ^ 23 = 0 then b % 2 ^ 23 else b % 2 ^ 23 + 2 ^ 23
def xpow (b : Nat) : Nat := if b / 2 ^ 23 = 0 then 1 else b / 2 ^ 23
theorem xman_lt (b : Nat) : xman b < 2 ^ 24 := by
  unfold xman
  have := Nat.mod_lt b (y := 2 ^ 23) (by decide)
  split <;> omega
theorem xf1_nat {b : Nat} (h : b < 2 ^ 31) : (xf1 (nI b)).toNat = b := by
  show (UInt32.ofNat b).toNat = b
  rw [UInt32.toNat_ofNat_of_lt' (by show b < 2 ^ 32; omega)]
theorem xbits_val {b : Nat} (h : b ≤ 1120403456) : FP.Core.roundRatio FP.Core.b32 false (xman b) 1 (-((150 - xpow b : Nat) : Int)) = FP.Core.val32 (xf1 (nI b)) := by
  have ht : b % 2 ^ 23 < 2 ^ 23 := Nat.mod_lt _ (by decide)
  have he : b / 2 ^ 23 ≤ 133 := by omega
  have eqn : FP.Core.b32.qmin = -149 := by decide
  have eqx : FP.Core.b32.qmax = 104 := by decide
  have etl : FP.Core.b32.tails = 2 ^ 23 := rfl
  have hv : FP.Core.val32 (xf1 (nI b)) = if b / 2 ^ 23 = 0 then .fin false (b % 2 ^ 23) (-149) else .fin false (2 ^ 23 + b % 2 ^ 23) (-149 + ((b / 2 ^ 23 : Nat) - 1 : Int)) := by
    show FP.Core.decode FP.Core.b32 (xf1 (nI b)).toNat = _
    rw [xf1_nat (by omega)]
    have hE : FP.Core.fieldE FP.Core.b32 b = b / 2 ^ 23 := by
      show b / 2 ^ 23 % 2 ^ 8 = _
      exact Nat.mod_eq_of_lt (by omega)
    have hS : FP.Core.fieldS FP.Core.b32 b = false := by
      show (b / 2 ^ 23 / 2 ^ 8 % 2 == 1) = false
      rw [show b / 2 ^ 23 / 2 ^ 8 = 0 by omega]
      rfl
    unfold FP.Core.decode
    rw [hE, hS, if_neg (by show ¬ b / 2 ^ 23 = 2 ^ 8 - 1; omega), eqn]
    rfl
  rw [hv]
  unfold xman xpow
  by_cases h0 : b / 2 ^ 23 = 0
  · rw [if_pos h0, if_pos h0, if_pos h0]
    refine FP.Core.roundRatio_exact FP.Core.good_b32 (by decide) ⟨?_, ?_, ?_, ?_⟩ ?_
    · show b % 2 ^ 23 < 2 ^ 24; omega
    · rw [eqn]; decide
    · rw [eqx]; decide
    · left; rw [eqn]
    · have e1 : (-((150 - 1 : Nat) : Int) - -149).toNat = 0 := by decide
      have e2 : (-149 - -((150 - 1 : Nat) : Int)).toNat = 0 := by decide
      rw [e1, e2, Nat.mul_one, Nat.pow_zero, Nat.mul_one]
  · rw [if_neg h0, if_neg h0, if_neg h0, Nat.add_comm (b % 2 ^ 23)]
    refine FP.Core.roundRatio_exact FP.Core.good_b32 (by decide) ⟨?_, ?_, ?_, ?_⟩ ?_
    · show 2 ^ 23 + b % 2 ^ 23 < 2 ^ 24; omega
    · rw [eqn]; omega
    · rw [eqx]; omega
    · right; rw [etl]; omega
    · rw [show (-((150 - b / 2 ^ 23 : Nat) : Int) - (-149 + ((b / 2 ^ 23 : Nat) - 1 : Int))).toNat = 0 by omega, show (-149 + ((b / 2 ^ 23 : Nat) - 1 : Int) - -((150 - b / 2 ^ 23 : Nat) : Int)).toNat = 0 by omega, Nat.mul_one, Nat.pow_zero, Nat.mul_one]
theorem xpow_pos (b : Nat) : 1 ≤ xpow b := by unfold xpow; split <;> omega
/-- both roads give the number of the bits -/
theorem xhm_bits {b : Nat} (h : b ≤ 1120403456) : xhm (xman b) (150 - xpow b) = xf1 (nI b) := by
  have := xpow_pos b
  have e := (xhm_val (xman_lt b) (k := 150 - xpow b) (by omega)).trans (xbits_val h)
  exact FP.Core.val32_inj (by rw [xhm_val (xman_lt b) (by omega)]; exact FP.Core.roundRatio_ne_nan _ _ _ _ _) e
theorem xhd_bits {b : Nat} (h : b ≤ 1120403456) : xhd (xman b) (150 - xpow b) = xf1 (nI b) := by
  have := xpow_pos b
  have e := (xhd_val (xman_lt b) (k := 150 - xpow b) (by omega)).trans (xbits_val h)
  exact FP.Core.val32_inj (by rw [xhd_val (xman_lt b) (by omega)]; exact FP.Core.roundRatio_ne_nan _ _ _ _ _) e
theorem xf1_mag {b : Nat} (h : b ≤ 1120403456) : (xf1 (nI b)).toNat % 2 ^ 31 < 134 * 2 ^ 23 := by
  rw [xf1_nat (by omega)]
  omega
theorem xf1_ne {b : Nat} (h : b ≤ 1120403456) : FP.Core.val32 (xf1 (nI b)) ≠ .nan := (FP.Core.ne_nan32 _).mpr (by have := xf1_mag h; omega)
/-- two numbers are equal if their bits are -/
theorem xfcmp_eq {a b : Nat} (ha : a ≤ 1120403456) (hb : b ≤ 1120403456) : Op.cmpValue (FP.fcmp (xf1 (nI a)) (xf1 (nI b))) .l = 0 ↔ a = b := by
  have e : FP.fcmp (xf1 (nI a)) (xf1 (nI b)) = some (compare (a : Int) (b : Int)) := by
    show FP.Core.fcmp _ _ = _
    rw [FP.Core.fcmp_key (xf1_ne ha) (xf1_ne hb)]
    unfold FP.Core.fkey
    rw [xf1_nat (by omega), xf1_nat (by omega), if_neg (by omega), if_neg (by omega)]
  rw [e]
  rcases Nat.lt_trichotomy a b with h | h | h
  · rw [show compare (a : Int) (b : Int) = .lt from (FP.Core.compare_lt_iff _ _).mpr (by omega)]
    exact ⟨fun q => absurd q (by decide), fun q => by omega⟩
  · subst h
    rw [show compare (a : Int) (a : Int) = .eq from (FP.Core.compare_eq_iff _ _).mpr rfl]
    exact ⟨fun _ => rfl, fun _ => rfl⟩
  · rw [show compare (a : Int) (b : Int) = .gt from (FP.Core.compare_gt_iff _ _).mpr (by omega)]
    exact ⟨fun q => absurd q (by decide), fun q => by omega⟩
theorem xrest_mag {b : Nat} (h : b ≤ 1120403456) : (FP.fsub FP.fconst1 (FP.fdiv (xf1 (nI b)) 1120403456)).toNat % 2 ^ 31 < 136 * 2 ^ 23 := by
  have h1 := FP.Core.fdiv_mag (a := xf1 (nI b)) (b := 1120403456) (K := 134) (L := 133) (xf1_mag h) (by decide) (by decide) (by decide) (by decide)
  have h2 : (FP.Core.fdiv (xf1 (nI b)) 1120403456).toNat % 2 ^ 31 < 134 * 2 ^ 23 := by omega
  have h3 : (FP.fconst1).toNat % 2 ^ 31 < 134 * 2 ^ 23 := by decide
  exact FP.Core.fsub_mag (K := 134) h3 h2 (by decide)
theorem xdiv_mag {b : Nat} (h : b ≤ 1120403456) : (FP.fdiv (xf1 (nI b)) 1120403456).toNat % 2 ^ 31 < 134 * 2 ^ 23 := by
  have h1 := FP.Core.fdiv_mag (a := xf1 (nI b)) (b := 1120403456) (K := 134) (L := 133) (xf1_mag h) (by decide) (by decide) (by decide) (by decide)
  show (FP.Core.fdiv (xf1 (nI b)) 1120403456).toNat % 2 ^ 31 < _
  omega
theorem xprice_mag {b : Nat} (h : b ≤ 1120403456) (p : Int32) : (xprice p (xf1 (nI b))).toNat % 2 ^ 31 < 170 * 2 ^ 23 := by
  have h1 := FP.Core.fmul_mag (Ka := 160) (Kb := 136) (FP.Core.i2f_mag p) (xrest_mag h) (by decide) (by decide)
  exact h1
theorem xmd_bits {b : Nat} (h : b ≤ 1120403456) : xmd (xf1 (nI b)) :=
  ⟨xn32_mag (xdiv_mag h) (by decide), xn32_mag (xrest_mag h) (by decide), fun p => xn32_mag (xprice_mag h p) (by decide)⟩
theorem xfmul_n {t : Int32} {r : UInt32} (h : r.toNat % 2 ^ 31 < 170 * 2 ^ 23) : vf_n32 (FP.fmul (FP.i2f t) r) := by
  have h1 := FP.Core.fmul_mag (Ka := 160) (Kb := 170) (FP.Core.i2f_mag t) h (by decide) (by decide)
  exact xn32_mag h1 (by decide)
theorem xcharge_mag {a c : Int32} {r : UInt32} (h : r.toNat % 2 ^ 31 < 170 * 2 ^ 23) : (xcharge a c r).toNat % 2 ^ 31 < 170 * 2 ^ 23 := by
  unfold xcharge
  split
  · have := FP.Core.i2f_mag a
    show (FP.Core.i2f a).toNat % 2 ^ 31 < _
    omega
  · exact h
theorem xrb_bits {b : Nat} (h : b ≤ 1120403456) : xrb (xf1 (nI b)) := fun s => by
  have h1 := FP.Core.fmul_mag (Ka := 160) (Kb := 134) (FP.Core.i2f_mag s) (xf1_mag h) (by decide) (by decide)
  have h2 := FP.Core.fdiv_mag (a := FP.Core.fmul (FP.Core.i2f s) (xf1 (nI b))) (b := 1120403456) (K := 168) (L := 133) h1 (by decide) (by decide) (by decide) (by decide)
  exact ⟨xn32_mag h1 (by decide), xn32_mag h2 (by decide)⟩
end
section
/-! Constructors: what a method that makes cells leaves, and the rows of making. (The row of multianewarray stands on the library's word.) -/
def xAA (U : State) : Prop := (Cond.arrayOver (.array .int)).before #[] U = true
theorem xAA.use {A : Array Value} {U : State} (h : xAA U) : (Cond.arrayOver (.array .int)).before A U = true := h
theorem xAA.of {A : Array Value} {U : State} (h : (Cond.arrayOver (.array .int)).before A U = true) : xAA U := h
theorem xAA.moved {u U : State} (hvm : u.vm.Alike U.vm) (h : xAA u) : xAA U := by
  obtain ⟨comp, c, k, h1, h2, h3, h4, h5⟩ : ∃ comp c k, u.vm.findClass (FieldType.array .int).toString = some comp ∧ (u.vm.classes.findIdx? fun x => match x.kind with | .array component _ => component == comp | _ => false) = some c ∧ u.vm.classes[c]? = some k ∧ k.kind = .array comp (.array .int) ∧ u.vm.findClass ("[" ++ (FieldType.array .int).toString) = some c := by
    unfold xAA Cond.before at h
    simp only [Cond.holds, Cond.value, beq_iff_eq] at h
    cases hc : u.vm.findClass (FieldType.array .int).toString with
    | none => simp [hc] at h
    | some comp =>
      simp only [hc, Option.bind_some, Option.bind_eq_some_iff, Option.map_eq_some_iff] at h
      obtain ⟨c, hi, k, hk, hb⟩ := h
      obtain ⟨hlt, hp, -⟩ := Array.findIdx?_eq_some_iff_getElem.mp hi
      have hkk : u.vm.classes[c] = k := (Array.getElem?_eq_some_iff.mp hk).2
      rw [hkk] at hp
      cases hkind : k.kind with
      | array component ty =>
        rw [hkind] at hb hp
        simp at hb hp
        exact ⟨comp, c, k, rfl, hi, hk, by rw [hkind, hp, hb.1], hb.2⟩
      | _ => rw [hkind] at hb; simp at hb
  obtain ⟨k', hk', he⟩ := hvm.2.2 _ _ h3
  have hi : (U.vm.classes.findIdx? fun (x : Class) => match x.kind with | .array component _ => component == comp | _ => false) = some c := by
    have e1 := va_idx_bare U.vm comp
    have e2 := va_idx_bare u.vm comp
    have e3 : U.vm.bare = u.vm.bare := by first | exact hvm.bare_eq | exact hvm.bare_eq.symm
    rw [e3] at e1
    exact e1.symm.trans (e2.trans h2)
  have hkind : k'.kind = .array comp (.array .int) := by rw [he]; exact h4
  have f1 : U.vm.findClass (FieldType.array .int).toString = some comp := by rw [hvm.findClass]; exact h1
  have f2 : U.vm.findClass ("[" ++ (FieldType.array .int).toString) = some c := by rw [hvm.findClass]; exact h5
  unfold xAA Cond.before Cond.holds
  simp only [Cond.value]
  rw [f1, Option.bind_some]
  refine (congrArg (fun o : Option Nat => (o.bind (fun c => (U.vm.classes[c]?).map fun (k : Class) => match k.kind with | .array _ ty => decide (ty = FieldType.array .int) && decide (U.vm.findClass ("[" ++ (FieldType.array .int).toString) = some c) | _ => false) == some true)) hi).trans ?_
  simp [hk', hkind, f2]
/-- what the tables say of the arrays of arrays -/
def xAR (U : State) : Prop := xAA U ∧ va_AO "ShelfStages$State" U
theorem xAR.moved {u U : State} (hvm : u.vm.Alike U.vm) (h : xAR u) : xAR U := ⟨h.1.moved hvm, h.2.moved hvm⟩
/-- a constructor's start and end -/
def xCre (D : va_G) (cl : List vw_C) (as : List Value) (tys : List (ClassId × FieldType)) (wc : va_W) : Array Value → State → Prop := va_Pc as (fun U => va_P D cl wc U.heap ∧ va_K D cl tys U ∧ va_D (fun _ => True) wc ∧ xN U ∧ xAR U)
theorem xCre_blind {D : va_G} {cl : List vw_C} {as : List Value} {tys : List (ClassId × FieldType)} {wc : va_W} : FrameBlind (xCre D cl as tys wc) := by
  intro a U g mk h
  exact ⟨h.1, h.2.1, va_K.moved (u := U) (U := U.calling g mk a) (Vm.Alike.refl U.vm) h.2.2.1, h.2.2.2.1, xN.same (u := U) (U := U.calling g mk a) rfl h.2.2.2.2.1, xAR.moved (u := U) (U := U.calling g mk a) (Vm.Alike.refl U.vm) h.2.2.2.2.2⟩
def xCq (D : va_G) (cl : List vw_C) (wc : va_W) (post : va_W → Prop) : Array Value → State → Outcome → State → Prop := fun _ st oc t => (∃ w1 : va_W, oc = .returned none ∧ post w1 ∧ va_P D cl w1 t.heap ∧ va_D (va_A wc st.heap.size) w1) ∧ xFr wc st t
theorem xRA_inj {s : State} {c c' : ClassId} {ty : FieldType} (h1 : va_RA s c ty) (h2 : va_RA s c' ty) : c = c' := by
  cases ty with
  | object C =>
    obtain ⟨_, _, _, _, _, e1⟩ := h1
    obtain ⟨_, _, _, _, _, e2⟩ := h2
    exact Option.some.inj (e1.symm.trans e2)
  | _ => exact Option.some.inj (h1.symm.trans h2)
theorem xouter (c : ClassId) (N h0 : Nat) : ∀ i : Nat, Jvm.Free.Multi.outerC c N h0 i = arrV c N (fun j => va_rf (if j < i then some (h0 + 1 + j) else none))
  | 0 => by
    show ({ cls := c, slots := Array.replicate N .null, vm := .none } : Cell) = _
    rw [arrV_new]
    refine congrArg (arrV c N) (funext fun j => ?_)
    simp [va_rf]
  | i + 1 => by
    show (Jvm.Free.Multi.outerC c N h0 i).setSlot i (.ref (h0 + 1 + i)) = _
    rw [xouter c N h0 i, arrV_store]
    refine congrArg (arrV c N) (funext fun j => ?_)
    by_cases e : j = i
    · subst e
      simp [updV, va_rf]
    · by_cases h : j < i
      · simp [updV, e, h, Nat.lt_succ_of_lt h]
      · simp [updV, e, h, show ¬ j < i + 1 by omega]
theorem xarrV_congr {c : ClassId} {N : Nat} {f g : Nat → Value} (h : ∀ j, j < N → f j = g j) : arrV c N f = arrV c N g := by
  unfold arrV
  congr 1
  apply Array.ext
  · simp
  · intro j h1 h2
    simp only [Array.getElem_ofFn]
    rw [h j (by simpa using h1)]
section XC
variable {p : Program} {l : Launch} {e : Env} {R : Room} {s : State} {m : MethodId} {args : Array Value} {below : List Frame} {meth : Method} {c : Code} {H : Heap} {locs : List Loc} {cells slots : Nat} {Q : State → Prop}
variable {cc : ByteArray} {pc : Nat} {ls : Array Slot} {rest : List Value} {D : va_G} {cl : List vw_C} {A : Nat → Prop} {a : Nat} {tys : List (ClassId × FieldType)} {ws : va_W} {H0 : Heap}
/-- the places of made cells are forgotten -/
theorem xr_old {wc : va_W} {g : JFrame} (hS : va_S (va_A wc s.heap.size) s.heap H locs) (kk : ∀ locs1 : List Loc, (∀ q ∈ locs1, va_B wc q.base) → W p l e R s m args below meth c H locs1 cells slots Q g) : W p l e R s m args below meth c H locs cells slots Q g := by
  intro T hT X
  refine kk (locs.filter (fun y => decide (y.base < s.heap.size))) (fun q hq => ?_) T hT { X with same := X.same.weaken (fun y hy hlt => List.mem_filter.mpr ⟨hy, decide_eq_true hlt⟩) (Nat.le_refl _) (Nat.le_refl _) }
  obtain ⟨h1, h2⟩ := List.mem_filter.mp hq
  have h3 : q.base < s.heap.size := of_decide_eq_true h2
  rcases hS.2.2 q h1 with h | h
  · exact h
  · exact absurd h (Nat.not_le.mpr h3)
theorem xS_fr {wc : va_W} {t : State} (h : va_S (va_A wc s.heap.size) s.heap H locs) (ht : t.heap = H) : xFr wc s t := by
  refine ⟨by rw [ht]; exact h.1, fun q h1 h2 => ?_⟩
  rw [ht]
  refine h.2.1 q h1 (fun h3 => ?_)
  rcases h3 with h4 | h4
  · exact h2 h4
  · omega
theorem xr_newa (hexec : p.tables.exec = Jvm.exec) (hb : c.code = cc) {atype : ArrayType} (harr : (Cond.arrayClass (newarray.typeOf atype)).before args s = true) {ty : FieldType} (hty : newarray.typeOf atype = ty) (hK : va_K D cl tys s) (hP : va_P D cl ws H) (hD : va_D A ws) (hS : va_S A H0 H locs) (hA : ∀ q, H0.size ≤ q → A q)
    (t0 : Nat) {cA : ClassId} (ht : tys[t0]? = some (cA, ty)) {n : Int32} {N' : Nat} {a0 : vp_A} (ha : ∀ cA : ClassId, vp_cell cA a0 = arrV cA N' (fun _ => defaultValue ty)) (hn : ¬ n < 0) (hN : n.toNatClampNeg = N') (hbytes : N' * componentBytes ty ≤ 536870912) (hcells : cells + 1 ≤ R.cells) (hslots : slots + N' ≤ R.slots) (hdg : decode cc pc = .ok (.newarray atype, 2))
    (kk : ∀ (q : Nat) (H1 : Heap), va_P D cl (ws ++ [(q, .inl (cA, a0))]) H1 → va_D A (ws ++ [(q, .inl (cA, a0))]) → va_S A H0 H1 locs →
      W p l e R s m args below meth c H1 locs (cells + 1) (slots + N') Q (F0 m (pc + 2) ls (.ref q :: rest))) : W p l e R s m args below meth c H locs cells slots Q (F0 m pc ls (.int n :: rest)) := by
  refine va_newa hexec hb harr hty hK hP hD hS hA ha hn hN hbytes hcells hslots hdg fun q cB H1 hK1 hP1 hD1 hS1 => ?_
  have e1 := (hK1.2 tys.length (cB, ty) (by rw [List.getElem?_append_right (Nat.le_refl _), Nat.sub_self]; rfl)).2
  have e2 := (hK.2 t0 _ ht).2
  have e3 : cB = cA := xRA_inj e1 e2
  subst e3
  exact kk q H1 hP1 hD1 hS1
theorem xr_newq (hexec : p.tables.exec = Jvm.exec) (hb : c.code = cc) {own C : String} {index : Nat} (hown : s.vm.findClass own = some m.cls) (hclink : (Cond.classLink own index C).before args s = true) (hover : va_AO C s) (hK : va_K D cl tys s) (hP : va_P D cl ws H) (hD : va_D A ws) (hS : va_S A H0 H locs) (hA : ∀ q, H0.size ≤ q → A q)
    (t0 : Nat) {cA : ClassId} (ht : tys[t0]? = some (cA, .object C)) {n : Int32} {N' : Nat} (hn : ¬ n < 0) (hN : n.toNatClampNeg = N') (hbytes : N' * 4 ≤ 536870912) (hcells : cells + 1 ≤ R.cells) (hslots : slots + N' ≤ R.slots) (hdg : decode cc pc = .ok (.anewarray index, 3))
    (kk : ∀ (q : Nat) (H1 : Heap), va_P D cl (ws ++ [(q, .inl (cA, N', .inr (.inr (.inr (.inr (fun _ => none))))))]) H1 → va_D A (ws ++ [(q, .inl (cA, N', .inr (.inr (.inr (.inr (fun _ => none))))))]) → va_S A H0 H1 locs →
      W p l e R s m args below meth c H1 locs (cells + 1) (slots + N') Q (F0 m (pc + 3) ls (.ref q :: rest))) : W p l e R s m args below meth c H locs cells slots Q (F0 m pc ls (.int n :: rest)) := by
  refine va_newq hexec hb hown hclink hover hK hP hD hS hA hn hN hbytes hcells hslots hdg fun q cB H1 hK1 hP1 hD1 hS1 => ?_
  have e1 := (hK1.2 tys.length (cB, .object C) (by rw [List.getElem?_append_right (Nat.le_refl _), Nat.sub_self]; rfl)).2
  have e2 := (hK.2 t0 _ ht).2
  have e3 : cB = cA := xRA_inj e1 e2
  subst e3
  exact kk q H1 hP1 hD1 hS1
/-- cells made one behind another -/
def xmade (b : Nat) (f : Nat → va_E) (k : Nat) : va_W := (List.range k).map (fun j => (b + j, f j))
theorem xmade_get {b k i : Nat} {f : Nat → va_E} {x : Nat × va_E} (h : (xmade b f k)[i]? = some x) : i < k ∧ x = (b + i, f i) := by
  unfold xmade at h
  rw [List.getElem?_map] at h
  by_cases hi : i < k
  · rw [List.getElem?_range hi] at h
    exact ⟨hi, (Option.some.inj h).symm⟩
  · rw [List.getElem?_eq_none (by rw [List.length_range]; omega)] at h
    cases h
theorem xmade_P {H1 : Heap} {f : Nat → va_E} {k : Nat} (hP : va_P D cl ws H) (hold : ∀ q : Nat, q < H.size → H1[q]? = H[q]?) (hf : ∀ j, j < k → va_at D cl (H.size + j, f j) H1) : va_P D cl (ws ++ xmade H.size f k) H1 := by
  refine va_P.app (hP.kept fun j x hx => hold x.1 ((hP j x hx).lt)) (fun i x hx => ?_)
  obtain ⟨hi, rfl⟩ := xmade_get hx
  exact hf i hi
theorem xmade_D {f : Nat → va_E} {k : Nat} (hP : va_P D cl ws H) (hD : va_D A ws) (hA : ∀ q, H.size ≤ q → A q) : va_D A (ws ++ xmade H.size f k) := by
  refine va_D.app hD ⟨fun i j x y hx hy hxy => ?_, fun i x hx => ?_⟩ (fun i j x y hx hy hxy => ?_)
  · obtain ⟨_, rfl⟩ := xmade_get hx
    obtain ⟨_, rfl⟩ := xmade_get hy
    have : H.size + i = H.size + j := hxy
    omega
  · obtain ⟨_, rfl⟩ := xmade_get hx
    exact hA _ (Nat.le_add_right _ _)
  · obtain ⟨_, rfl⟩ := xmade_get hy
    have h1 := (hP i x hx).lt
    have h2 : x.1 = H.size + j := hxy
    omega
/-- new int[3][k] -/
theorem xr_mna (hexec : p.tables.exec = Jvm.exec) (hb : c.code = cc) {own : String} {index : Nat} (hown : s.vm.findClass own = some m.cls) (hclink : (Cond.classLink own index "[[I").before args s = true) (hover : xAA s) (harr : (Cond.arrayClass .int).before args s = true) (hK : va_K D cl tys s) (hP : va_P D cl ws H) (hD : va_D A ws) (hS : va_S A H0 H locs) (hA : ∀ q, H0.size ≤ q → A q)
    (t0 t1 : Nat) {cI cQ : ClassId} (ht0 : tys[t0]? = some (cQ, .array .int)) (ht1 : tys[t1]? = some (cI, .int)) {k : Int32} {K : Nat} (hk : ¬ k < 0) (hN : k.toNatClampNeg = K) (hb2 : K * 4 ≤ 536870912) (hcells : cells + 4 ≤ R.cells) (hslots : slots + (3 + 3 * K) ≤ R.slots) (hdg : decode cc pc = .ok (.multianewarray index 2, 4))
    (kk : ∀ (q q0 q1 q2 : Nat) (H1 : Heap), va_P D cl (ws ++ [(q, .inl (cQ, 3, .inr (.inr (.inr (.inr (xrow [q0, q1, q2])))))), (q0, .inl (cI, K, .inl (fun _ => 0))), (q1, .inl (cI, K, .inl (fun _ => 0))), (q2, .inl (cI, K, .inl (fun _ => 0)))]) H1 →
      va_D A (ws ++ [(q, .inl (cQ, 3, .inr (.inr (.inr (.inr (xrow [q0, q1, q2])))))), (q0, .inl (cI, K, .inl (fun _ => 0))), (q1, .inl (cI, K, .inl (fun _ => 0))), (q2, .inl (cI, K, .inl (fun _ => 0)))]) → va_S A H0 H1 locs →
      W p l e R s m args below meth c H1 locs (cells + 4) (slots + (3 + 3 * K)) Q (F0 m (pc + 4) ls (.ref q :: rest))) : W p l e R s m args below meth c H locs cells slots Q (F0 m pc ls (.int k :: .int (nI 3) :: rest)) := by
  subst hN
  intro T hT X
  have h3 : (nI 3).toNatClampNeg = 3 := by decide +kernel
  obtain ⟨vm₁, cA, comp, -, fA, fC, hO, -, X', step⟩ := X.multianewarray2F (ty := .int) (n := nI 3) (k := k) (rest := rest) hexec hown hclink hover.use harr (g := F0 m pc ls (.int k :: .int (nI 3) :: rest)) rfl (by rw [hb]; exact hdg) rfl (by decide +kernel) hk (by rw [h3]; decide) hb2 (by omega) rfl rfl (by rw [h3]; omega) (by rw [h3]; omega)
  have ec : comp = cI := Option.some.inj (fC.symm.trans (hK.2 t1 _ ht1).2)
  have eA : cA = cQ := Option.some.inj (fA.symm.trans (hK.2 t0 _ ht0).2)
  subst ec; subst eA
  rw [h3] at X' step
  rw [Nat.add_assoc slots 3 (3 * k.toNatClampNeg)] at X'
  generalize hF : Jvm.Free.Multi.fill (T.setVm vm₁) cA comp 3 k.toNatClampNeg (defaultValue .int) 3 = F at X' step
  have hTh : (T.setVm vm₁).heap = H := hT
  obtain ⟨f1, f2, -, -⟩ := Jvm.Free.Multi.fill_facts (T.setVm vm₁) cA comp 3 k.toNatClampNeg (defaultValue .int) 3
  rw [hF, hTh] at f1 f2
  have hold : ∀ x : Nat, x < H.size → F.heap[x]? = H[x]? := fun x hx => by
    have := Jvm.Free.Multi.fill_old (T.setVm vm₁) cA comp 3 k.toNatClampNeg (defaultValue .int) (a := x) (by rw [hTh]; exact hx) 3
    rw [hF, hTh] at this
    exact this
  have hrow : ∀ j : Nat, j < 3 → F.heap[H.size + 1 + j]? = some (vp_cell comp (k.toNatClampNeg, .inl (fun _ => 0))) := fun j hj => by
    have := Jvm.Free.Multi.fill_inner (T.setVm vm₁) cA comp 3 k.toNatClampNeg (defaultValue .int) 3 j hj
    rw [hF, hTh] at this
    rw [this, vp_cell_i, ← arrV_new]
    rfl
  have hout : Jvm.Free.Multi.outerC cA 3 H.size 3 = vp_cell cA (3, .inr (.inr (.inr (.inr (xrow [H.size + 1, H.size + 2, H.size + 3]))))) := by
    rw [vp_cell_q, xouter]
    refine xarrV_congr fun j hj => ?_
    rw [if_pos hj]
    have : j = 0 ∨ j = 1 ∨ j = 2 := by omega
    rcases this with rfl | rfl | rfl <;> rfl
  rw [hout] at f2
  let f : Nat → va_E := fun j => match j with
    | 0 => .inl (cA, 3, .inr (.inr (.inr (.inr (xrow [H.size + 1, H.size + 2, H.size + 3])))))
    | _ => .inl (comp, k.toNatClampNeg, .inl (fun _ => 0))
  have hP1 := xmade_P (k := 4) (f := f) hP hold (fun j hj => by
    have : j = 0 ∨ j = 1 ∨ j = 2 ∨ j = 3 := by omega
    rcases this with rfl | rfl | rfl | rfl
    · exact f2
    · exact hrow 0 (by decide)
    · exact hrow 1 (by decide)
    · exact hrow 2 (by decide))
  have hD1 := xmade_D (k := 4) (f := f) hP hD (fun q hq => hA q (Nat.le_trans hS.1 hq))
  obtain ⟨t, a1, b1⟩ := kk H.size (H.size + 1) (H.size + 2) (H.size + 3) F.heap hP1 hD1 ⟨by rw [f1]; have := hS.1; omega, fun x h1 h2 => (hold x (Nat.lt_of_lt_of_le h1 hS.1)).trans (hS.2.1 x h1 h2), hS.2.2⟩ F rfl X'
  refine ⟨t, step t ?_, b1⟩
  have e : T.heap.size = H.size := by rw [hT]
  rw [e]
  exact a1
/-- a constructor's call: the object stands last -/
theorem xkC {mc ms : Nat} {st0 : List Value} {av : Array Value} {wr wc : va_W} {x : Nat × va_E} {post : va_W → Prop} (hr : va_Run p l e R s m args below meth c H locs cells slots mc ms (F0 m pc ls st0) rest (xCq D cl wc post av) (va_B wc)) (hw : wc = [x]) (hP : va_P D cl (wr ++ wc) H) (hD : va_D A (wr ++ wc)) (hS : va_S A H0 H locs) (hA : ∀ q, H0.size ≤ q → A q)
    (kk : ∀ (w1 : va_W) (H1 : Heap) (locs1 : List Loc), post w1 → va_P D cl (wr ++ w1) H1 → va_D A (wr ++ w1) → va_S A H0 H1 locs1 → W p l e R s m args below meth c H1 locs1 (cells + mc) (slots + ms) Q (F0 m (pc + 3) ls rest)) : W p l e R s m args below meth c H locs cells slots Q (F0 m pc ls st0) := by
  subst hw
  have hx : (wr ++ [x])[wr.length]? = some x := by rw [List.getElem?_append_right (Nat.le_refl _), Nat.sub_self]; rfl
  have hB : ∀ q, va_B [x] q → q = x.1 := by
    rintro q ⟨k, e, hk⟩
    have h0 : k < 1 := (List.getElem?_eq_some_iff.mp hk).1
    rw [show k = 0 by omega] at hk
    cases hk
    rfl
  have hBA : ∀ q, va_B [x] q → A q := fun q h => by rw [hB q h]; exact hD.2 _ x hx
  intro T hT X
  obtain ⟨v, st₀, t, T', L, h0, X', hL, e1, e2, ⟨⟨w, hv, hp, hP1, hD1⟩, hz, hk⟩, st⟩ := hr T hT X
  cases hv
  rw [h0] at hz hk hD1
  rw [← e1] at hz hk hP1
  have hwr : ∀ (i : Nat) (y : Nat × va_E), wr[i]? = some y → y.1 < H.size ∧ y.1 ≠ x.1 := fun i y hy => by
    have hy' : (wr ++ [x])[i]? = some y := by rw [List.getElem?_append_left (List.getElem?_eq_some_iff.mp hy).1]; exact hy
    refine ⟨(hP i y hy').lt, fun h => ?_⟩
    have := hD.1 i wr.length y x hy' hx h
    have := (List.getElem?_eq_some_iff.mp hy).1
    omega
  have hA1 : ∀ q, va_A [x] H.size q → q = x.1 ∨ H.size ≤ q := fun q h => h.elim (fun h => Or.inl (hB q h)) Or.inr
  have hP2 : va_P D cl (wr ++ w) T'.heap := by
    refine va_P.app (fun i y hy => ?_) hP1
    have hy' : (wr ++ [x])[i]? = some y := by rw [List.getElem?_append_left (List.getElem?_eq_some_iff.mp hy).1]; exact hy
    obtain ⟨g1, g2⟩ := hwr i y hy
    exact (hP i y hy').kept (hk y.1 g1 (fun h => g2 (hB _ h)))
  have hD2 : va_D A (wr ++ w) := by
    refine va_D.app ⟨fun i j y z hy hz hyz => ?_, fun i y hy => ?_⟩ (hD1.weaken (fun i y _ h => (hA1 _ h).elim (fun h => by rw [h]; exact hD.2 _ x hx) (fun h => hA _ (Nat.le_trans hS.1 h)))) (fun i j y z hy hz hyz => ?_)
    · refine hD.1 i j y z ?_ ?_ hyz
      · rw [List.getElem?_append_left (List.getElem?_eq_some_iff.mp hy).1]; exact hy
      · rw [List.getElem?_append_left (List.getElem?_eq_some_iff.mp hz).1]; exact hz
    · exact hD.2 i y (by rw [List.getElem?_append_left (List.getElem?_eq_some_iff.mp hy).1]; exact hy)
    · obtain ⟨g1, g2⟩ := hwr i y hy
      have h3 := hD1.2 j z hz
      rw [← hyz] at h3
      rcases hA1 _ h3 with h | h
      · exact g2 h
      · omega
  obtain ⟨t2, a1, b1⟩ := kk w T'.heap (locs ++ L) hp hP2 hD2
    ⟨Nat.le_trans hS.1 hz, fun q h1 h2 => by rw [hk q (Nat.lt_of_lt_of_le h1 hS.1) (fun z => h2 (hBA q z))]; exact hS.2.1 q h1 h2, fun q hq => by
      rcases List.mem_append.mp hq with h | h
      · exact hS.2.2 q h
      · exact hBA _ (hL q h)⟩ T' rfl X'
  exact ⟨t2, st t2 a1, b1⟩
end XC
end
section
/-! Constructors of the small classes. -/
set_option maxHeartbeats 4000000 in
set_option maxRecDepth 100000 in
theorem c_X0_init (l : Launch) (dC : Nat → ClassId) (dI : Nat → Nat → Nat) (cI cF cC cZ cQ cS : ClassId) (h0 : Nat) : Met l yX0_init wsX0_init ({ frames := 1, cells := 11, slots := 403, locals := 12 }) (xCre (dC, dI) vwCl [.ref h0] (xtys cI cF cC cZ cQ cS) [(h0, .inr (0, [.int (nI 0), .null, .null, .null, .null, .null, .null, .null, .null]))]) (xCq (dC, dI) vwCl [(h0, .inr (0, [.int (nI 0), .null, .null, .null, .null, .null, .null, .null, .null]))] (fun w => ∃ q1 q2 q3 q4 q5 q6 q7 q8 q8a q8b q8c : Nat, w = [(h0, .inr (0, [.int (nI 0), .ref q1, .ref q2, .ref q3, .ref q4, .ref q5, .ref q6, .ref q7, .ref q8])), (q1, .inl (cI, 40, .inl (fun _ => nI 0))), (q2, .inl (cI, 40, .inl (fun _ => nI 0))), (q3, .inl (cI, 40, .inl (fun _ => nI 0))), (q4, .inl (cI, 40, .inl (fun _ => nI 0))), (q5, .inl (cI, 40, .inl (fun _ => nI 0))), (q6, .inl (cI, 40, .inl (fun _ => nI 0))), (q7, .inl (cI, 40, .inl (fun _ => nI 0))), (q8, .inl (cQ, 3, .inr (.inr (.inr (.inr (xrow [q8a, q8b, q8c])))))), (q8a, .inl (cI, 40, .inl (fun _ => nI 0))), (q8b, .inl (cI, 40, .inl (fun _ => nI 0))), (q8c, .inl (cI, 40, .inl (fun _ => nI 0)))])) 11 403 (va_B [(h0, .inr (0, [.int (nI 0), .null, .null, .null, .null, .null, .null, .null, .null]))]) := by
  refine Met.ofW (cc := cX0_init) (maxL := 1) (ret := none) (by decide) rfl ?_
  intro p e s m args below meth c s₁ B hml hv
  obtain ⟨rfl, hP, hK, hD0, hN, hAR⟩ := hv
  have hx := B.exec
  have hb := B.bytes
  have hr := B.returns
  have hts := atoms_spec (ws := wsX0_init) B.pre
  have hown : s.vm.findClass RX0 = some m.cls := findClass_of_methodNamed B.named
  have hin2 : meth.name = "<init>" := (name_of_methodNamed B.named B.method).1
  have hlocks := B.notSynchronized
  have kA_int := hts (Cond.arrayClass .int) (by decide +kernel)
  have k_9 := hts (Cond.fieldLink RX0 9 "ShelfStages$Batches" "good" "[I") (by decide +kernel)
  have k_15 := hts (Cond.fieldLink RX0 15 "ShelfStages$Batches" "came" "[I") (by decide +kernel)
  have k_18 := hts (Cond.fieldLink RX0 18 "ShelfStages$Batches" "left" "[I") (by decide +kernel)
  have k_21 := hts (Cond.fieldLink RX0 21 "ShelfStages$Batches" "shelf" "[I") (by decide +kernel)
  have k_24 := hts (Cond.fieldLink RX0 24 "ShelfStages$Batches" "sold" "[I") (by decide +kernel)
  have k_27 := hts (Cond.fieldLink RX0 27 "ShelfStages$Batches" "given" "[I") (by decide +kernel)
  have k_30 := hts (Cond.fieldLink RX0 30 "ShelfStages$Batches" "cents" "[I") (by decide +kernel)
  have kl_33 := hts (Cond.classLink RX0 33 "[[I") (by decide +kernel)
  have k_35 := hts (Cond.fieldLink RX0 35 "ShelfStages$Batches" "wasted" "[[I") (by decide +kernel)
  have i_X0 : ∀ w ∈ wsX00, w ∈ wsX0_init := by decide +kernel
  obtain ⟨A, hA⟩ : ∃ A, A = va_A [(h0, .inr (0, [.int (nI 0), .null, .null, .null, .null, .null, .null, .null, .null]))] s.heap.size := ⟨_, rfl⟩
  have hA1 : ∀ q, s.heap.size ≤ q → A q := fun q h => by rw [hA]; exact Or.inr h
  have hD : va_D A [(h0, .inr (0, [.int (nI 0), .null, .null, .null, .null, .null, .null, .null, .null]))] := by rw [hA]; exact hD0.self
  have hS : va_S A s.heap s.heap [] := va_S.rf
  have hl := lv_entry ([.ref h0]) (n := 1) (Nat.le_of_ble_eq_true rfl)
  rw [lg_entry_eq]
  generalize (lg_sl ([.ref h0]) ++ List.replicate (1 - (lg_sl ([.ref h0])).length) Slot.unset).toArray = ls at hl ⊢
  have hl : lv_has ls 1 [(0, .ref h0)] := hl
  refine lv_aload_n hx hb dX0_init_0 rfl (lv_at hl 0 rfl) ?_
  refine W.objInit hx hb hown (hts (.methodLink RX0 3 objectInit) (by decide +kernel)) (hts (.instanceMethod objectInit) (by decide +kernel)) (hts (.code objectInit ⟨#[0xb1]⟩ 1 none) (List.mem_of_getElem? (i := 3) rfl)) rfl (by rw [hml]; exact hl.1) rfl dX0_init_1 (Nat.le_of_ble_eq_true rfl) (Nat.le_of_ble_eq_true rfl) ?_
  refine lv_aload_n hx hb dX0_init_4 rfl (lv_at hl 0 rfl) ?_
  refine lv_bipush (v := nI 40) hx hb dX0_init_5 (by decide) ?_
  refine xr_newa (a0 := (40, .inl (fun _ => nI 0))) (N' := 40) (ty := .int) hx hb kA_int rfl hK hP hD hS hA1 0 rfl (fun _ => rfl) (nI_pos (by decide)) (nI_clamp (by decide)) (by decide) (Nat.le_of_ble_eq_true rfl) (Nat.le_of_ble_eq_true rfl) dX0_init_7 (fun q1 H hP hD hS => ?_)
  have hP : va_P (dC, dI) vwCl [(h0, .inr (0, [.int (nI 0), .null, .null, .null, .null, .null, .null, .null, .null])), (q1, .inl (cI, 40, .inl (fun _ => nI 0)))] H := hP
  have hD : va_D A [(h0, .inr (0, [.int (nI 0), .null, .null, .null, .null, .null, .null, .null, .null])), (q1, .inl (cI, 40, .inl (fun _ => nI 0)))] := hD
  refine va_putF (D := (dC, dI)) (ci := 0) (v := .ref q1) (ty := .array .int) (C := RX0) (T := TX0) (N := 9) hx hb hts i_X0 tyX0 tyX0_ok nmX0 hown hK hP hD hS 0 rfl rfl 1 (by decide) k_9 (fun _ h9 => h9) rfl hin2 rfl (by decide +kernel) rfl rfl (Nat.le_of_ble_eq_true rfl) dX0_init_9 (fun H locs hP hD hS => ?_)
  have hP : va_P (dC, dI) vwCl [(h0, .inr (0, [.int (nI 0), .ref q1, .null, .null, .null, .null, .null, .null, .null])), (q1, .inl (cI, 40, .inl (fun _ => nI 0)))] H := hP
  have hD : va_D A [(h0, .inr (0, [.int (nI 0), .ref q1, .null, .null, .null, .null, .null, .null, .null])), (q1, .inl (cI, 40, .inl (fun _ => nI 0)))] := hD
  refine lv_aload_n hx hb dX0_init_12 rfl (lv_at hl 0 rfl) ?_
  refine lv_bipush (v := nI 40) hx hb dX0_init_13 (by decide) ?_
  refine xr_newa (a0 := (40, .inl (fun _ => nI 0))) (N' := 40) (ty := .int) hx hb kA_int rfl hK hP hD hS hA1 0 rfl (fun _ => rfl) (nI_pos (by decide)) (nI_clamp (by decide)) (by decide) (Nat.le_of_ble_eq_true rfl) (Nat.le_of_ble_eq_true rfl) dX0_init_15 (fun q2 H hP hD hS => ?_)
  have hP : va_P (dC, dI) vwCl [(h0, .inr (0, [.int (nI 0), .ref q1, .null, .null, .null, .null, .null, .null, .null])), (q1, .inl (cI, 40, .inl (fun _ => nI 0))), (q2, .inl (cI, 40, .inl (fun _ => nI 0)))] H := hP
  have hD : va_D A [(h0, .inr (0, [.int (nI 0), .ref q1, .null, .null, .null, .null, .null, .null, .null])), (q1, .inl (cI, 40, .inl (fun _ => nI 0))), (q2, .inl (cI, 40, .inl (fun _ => nI 0)))] := hD
  refine va_putF (D := (dC, dI)) (ci := 0) (v := .ref q2) (ty := .array .int) (C := RX0) (T := TX0) (N := 9) hx hb hts i_X0 tyX0 tyX0_ok nmX0 hown hK hP hD hS 0 rfl rfl 2 (by decide) k_15 (fun _ h9 => h9) rfl hin2 rfl (by decide +kernel) rfl rfl (Nat.le_of_ble_eq_true rfl) dX0_init_17 (fun H locs hP hD hS => ?_)
  have hP : va_P (dC, dI) vwCl [(h0, .inr (0, [.int (nI 0), .ref q1, .ref q2, .null, .null, .null, .null, .null, .null])), (q1, .inl (cI, 40, .inl (fun _ => nI 0))), (q2, .inl (cI, 40, .inl (fun _ => nI 0)))] H := hP
  have hD : va_D A [(h0, .inr (0, [.int (nI 0), .ref q1, .ref q2, .null, .null, .null, .null, .null, .null])), (q1, .inl (cI, 40, .inl (fun _ => nI 0))), (q2, .inl (cI, 40, .inl (fun _ => nI 0)))] := hD
  refine lv_aload_n hx hb dX0_init_20 rfl (lv_at hl 0 rfl) ?_
  refine lv_bipush (v := nI 40) hx hb dX0_init_21 (by decide) ?_
  refine xr_newa (a0 := (40, .inl (fun _ => nI 0))) (N' := 40) (ty := .int) hx hb kA_int rfl hK hP hD hS hA1 0 rfl (fun _ => rfl) (nI_pos (by decide)) (nI_clamp (by decide)) (by decide) (Nat.le_of_ble_eq_true rfl) (Nat.le_of_ble_eq_true rfl) dX0_init_23 (fun q3 H hP hD hS => ?_)
  have hP : va_P (dC, dI) vwCl [(h0, .inr (0, [.int (nI 0), .ref q1, .ref q2, .null, .null, .null, .null, .null, .null])), (q1, .inl (cI, 40, .inl (fun _ => nI 0))), (q2, .inl (cI, 40, .inl (fun _ => nI 0))), (q3, .inl (cI, 40, .inl (fun _ => nI 0)))] H := hP
  have hD : va_D A [(h0, .inr (0, [.int (nI 0), .ref q1, .ref q2, .null, .null, .null, .null, .null, .null])), (q1, .inl (cI, 40, .inl (fun _ => nI 0))), (q2, .inl (cI, 40, .inl (fun _ => nI 0))), (q3, .inl (cI, 40, .inl (fun _ => nI 0)))] := hD
  refine va_putF (D := (dC, dI)) (ci := 0) (v := .ref q3) (ty := .array .int) (C := RX0) (T := TX0) (N := 9) hx hb hts i_X0 tyX0 tyX0_ok nmX0 hown hK hP hD hS 0 rfl rfl 3 (by decide) k_18 (fun _ h9 => h9) rfl hin2 rfl (by decide +kernel) rfl rfl (Nat.le_of_ble_eq_true rfl) dX0_init_25 (fun H locs hP hD hS => ?_)
  have hP : va_P (dC, dI) vwCl [(h0, .inr (0, [.int (nI 0), .ref q1, .ref q2, .ref q3, .null, .null, .null, .null, .null])), (q1, .inl (cI, 40, .inl (fun _ => nI 0))), (q2, .inl (cI, 40, .inl (fun _ => nI 0))), (q3, .inl (cI, 40, .inl (fun _ => nI 0)))] H := hP
  have hD : va_D A [(h0, .inr (0, [.int (nI 0), .ref q1, .ref q2, .ref q3, .null, .null, .null, .null, .null])), (q1, .inl (cI, 40, .inl (fun _ => nI 0))), (q2, .inl (cI, 40, .inl (fun _ => nI 0))), (q3, .inl (cI, 40, .inl (fun _ => nI 0)))] := hD
  refine lv_aload_n hx hb dX0_init_28 rfl (lv_at hl 0 rfl) ?_
  refine lv_bipush (v := nI 40) hx hb dX0_init_29 (by decide) ?_
  refine xr_newa (a0 := (40, .inl (fun _ => nI 0))) (N' := 40) (ty := .int) hx hb kA_int rfl hK hP hD hS hA1 0 rfl (fun _ => rfl) (nI_pos (by decide)) (nI_clamp (by decide)) (by decide) (Nat.le_of_ble_eq_true rfl) (Nat.le_of_ble_eq_true rfl) dX0_init_31 (fun q4 H hP hD hS => ?_)
  have hP : va_P (dC, dI) vwCl [(h0, .inr (0, [.int (nI 0), .ref q1, .ref q2, .ref q3, .null, .null, .null, .null, .null])), (q1, .inl (cI, 40, .inl (fun _ => nI 0))), (q2, .inl (cI, 40, .inl (fun _ => nI 0))), (q3, .inl (cI, 40, .inl (fun _ => nI 0))), (q4, .inl (cI, 40, .inl (fun _ => nI 0)))] H := hP
  have hD : va_D A [(h0, .inr (0, [.int (nI 0), .ref q1, .ref q2, .ref q3, .null, .null, .null, .null, .null])), (q1, .inl (cI, 40, .inl (fun _ => nI 0))), (q2, .inl (cI, 40, .inl (fun _ => nI 0))), (q3, .inl (cI, 40, .inl (fun _ => nI 0))), (q4, .inl (cI, 40, .inl (fun _ => nI 0)))] := hD
  refine va_putF (D := (dC, dI)) (ci := 0) (v := .ref q4) (ty := .array .int) (C := RX0) (T := TX0) (N := 9) hx hb hts i_X0 tyX0 tyX0_ok nmX0 hown hK hP hD hS 0 rfl rfl 4 (by decide) k_21 (fun _ h9 => h9) rfl hin2 rfl (by decide +kernel) rfl rfl (Nat.le_of_ble_eq_true rfl) dX0_init_33 (fun H locs hP hD hS => ?_)
  have hP : va_P (dC, dI) vwCl [(h0, .inr (0, [.int (nI 0), .ref q1, .ref q2, .ref q3, .ref q4, .null, .null, .null, .null])), (q1, .inl (cI, 40, .inl (fun _ => nI 0))), (q2, .inl (cI, 40, .inl (fun _ => nI 0))), (q3, .inl (cI, 40, .inl (fun _ => nI 0))), (q4, .inl (cI, 40, .inl (fun _ => nI 0)))] H := hP
  have hD : va_D A [(h0, .inr (0, [.int (nI 0), .ref q1, .ref q2, .ref q3, .ref q4, .null, .null, .null, .null])), (q1, .inl (cI, 40, .inl (fun _ => nI 0))), (q2, .inl (cI, 40, .inl (fun _ => nI 0))), (q3, .inl (cI, 40, .inl (fun _ => nI 0))), (q4, .inl (cI, 40, .inl (fun _ => nI 0)))] := hD
  refine lv_aload_n hx hb dX0_init_36 rfl (lv_at hl 0 rfl) ?_
  refine lv_bipush (v := nI 40) hx hb dX0_init_37 (by decide) ?_
  refine xr_newa (a0 := (40, .inl (fun _ => nI 0))) (N' := 40) (ty := .int) hx hb kA_int rfl hK hP hD hS hA1 0 rfl (fun _ => rfl) (nI_pos (by decide)) (nI_clamp (by decide)) (by decide) (Nat.le_of_ble_eq_true rfl) (Nat.le_of_ble_eq_true rfl) dX0_init_39 (fun q5 H hP hD hS => ?_)
  have hP : va_P (dC, dI) vwCl [(h0, .inr (0, [.int (nI 0), .ref q1, .ref q2, .ref q3, .ref q4, .null, .null, .null, .null])), (q1, .inl (cI, 40, .inl (fun _ => nI 0))), (q2, .inl (cI, 40, .inl (fun _ => nI 0))), (q3, .inl (cI, 40, .inl (fun _ => nI 0))), (q4, .inl (cI, 40, .inl (fun _ => nI 0))), (q5, .inl (cI, 40, .inl (fun _ => nI 0)))] H := hP
  have hD : va_D A [(h0, .inr (0, [.int (nI 0), .ref q1, .ref q2, .ref q3, .ref q4, .null, .null, .null, .null])), (q1, .inl (cI, 40, .inl (fun _ => nI 0))), (q2, .inl (cI, 40, .inl (fun _ => nI 0))), (q3, .inl (cI, 40, .inl (fun _ => nI 0))), (q4, .inl (cI, 40, .inl (fun _ => nI 0))), (q5, .inl (cI, 40, .inl (fun _ => nI 0)))] := hD
  refine va_putF (D := (dC, dI)) (ci := 0) (v := .ref q5) (ty := .array .int) (C := RX0) (T := TX0) (N := 9) hx hb hts i_X0 tyX0 tyX0_ok nmX0 hown hK hP hD hS 0 rfl rfl 5 (by decide) k_24 (fun _ h9 => h9) rfl hin2 rfl (by decide +kernel) rfl rfl (Nat.le_of_ble_eq_true rfl) dX0_init_41 (fun H locs hP hD hS => ?_)
  have hP : va_P (dC, dI) vwCl [(h0, .inr (0, [.int (nI 0), .ref q1, .ref q2, .ref q3, .ref q4, .ref q5, .null, .null, .null])), (q1, .inl (cI, 40, .inl (fun _ => nI 0))), (q2, .inl (cI, 40, .inl (fun _ => nI 0))), (q3, .inl (cI, 40, .inl (fun _ => nI 0))), (q4, .inl (cI, 40, .inl (fun _ => nI 0))), (q5, .inl (cI, 40, .inl (fun _ => nI 0)))] H := hP
  have hD : va_D A [(h0, .inr (0, [.int (nI 0), .ref q1, .ref q2, .ref q3, .ref q4, .ref q5, .null, .null, .null])), (q1, .inl (cI, 40, .inl (fun _ => nI 0))), (q2, .inl (cI, 40, .inl (fun _ => nI 0))), (q3, .inl (cI, 40, .inl (fun _ => nI 0))), (q4, .inl (cI, 40, .inl (fun _ => nI 0))), (q5, .inl (cI, 40, .inl (fun _ => nI 0)))] := hD
  refine lv_aload_n hx hb dX0_init_44 rfl (lv_at hl 0 rfl) ?_
  refine lv_bipush (v := nI 40) hx hb dX0_init_45 (by decide) ?_
  refine xr_newa (a0 := (40, .inl (fun _ => nI 0))) (N' := 40) (ty := .int) hx hb kA_int rfl hK hP hD hS hA1 0 rfl (fun _ => rfl) (nI_pos (by decide)) (nI_clamp (by decide)) (by decide) (Nat.le_of_ble_eq_true rfl) (Nat.le_of_ble_eq_true rfl) dX0_init_47 (fun q6 H hP hD hS => ?_)
  have hP : va_P (dC, dI) vwCl [(h0, .inr (0, [.int (nI 0), .ref q1, .ref q2, .ref q3, .ref q4, .ref q5, .null, .null, .null])), (q1, .inl (cI, 40, .inl (fun _ => nI 0))), (q2, .inl (cI, 40, .inl (fun _ => nI 0))), (q3, .inl (cI, 40, .inl (fun _ => nI 0))), (q4, .inl (cI, 40, .inl (fun _ => nI 0))), (q5, .inl (cI, 40, .inl (fun _ => nI 0))), (q6, .inl (cI, 40, .inl (fun _ => nI 0)))] H := hP
  have hD : va_D A [(h0, .inr (0, [.int (nI 0), .ref q1, .ref q2, .ref q3, .ref q4, .ref q5, .null, .null, .null])), (q1, .inl (cI, 40, .inl (fun _ => nI 0))), (q2, .inl (cI, 40, .inl (fun _ => nI 0))), (q3, .inl (cI, 40, .inl (fun _ => nI 0))), (q4, .inl (cI, 40, .inl (fun _ => nI 0))), (q5, .inl (cI, 40, .inl (fun _ => nI 0))), (q6, .inl (cI, 40, .inl (fun _ => nI 0)))] := hD
  refine va_putF (D := (dC, dI)) (ci := 0) (v := .ref q6) (ty := .array .int) (C := RX0) (T := TX0) (N := 9) hx hb hts i_X0 tyX0 tyX0_ok nmX0 hown hK hP hD hS 0 rfl rfl 6 (by decide) k_27 (fun _ h9 => h9) rfl hin2 rfl (by decide +kernel) rfl rfl (Nat.le_of_ble_eq_true rfl) dX0_init_49 (fun H locs hP hD hS => ?_)
  have hP : va_P (dC, dI) vwCl [(h0, .inr (0, [.int (nI 0), .ref q1, .ref q2, .ref q3, .ref q4, .ref q5, .ref q6, .null, .null])), (q1, .inl (cI, 40, .inl (fun _ => nI 0))), (q2, .inl (cI, 40, .inl (fun _ => nI 0))), (q3, .inl (cI, 40, .inl (fun _ => nI 0))), (q4, .inl (cI, 40, .inl (fun _ => nI 0))), (q5, .inl (cI, 40, .inl (fun _ => nI 0))), (q6, .inl (cI, 40, .inl (fun _ => nI 0)))] H := hP
  have hD : va_D A [(h0, .inr (0, [.int (nI 0), .ref q1, .ref q2, .ref q3, .ref q4, .ref q5, .ref q6, .null, .null])), (q1, .inl (cI, 40, .inl (fun _ => nI 0))), (q2, .inl (cI, 40, .inl (fun _ => nI 0))), (q3, .inl (cI, 40, .inl (fun _ => nI 0))), (q4, .inl (cI, 40, .inl (fun _ => nI 0))), (q5, .inl (cI, 40, .inl (fun _ => nI 0))), (q6, .inl (cI, 40, .inl (fun _ => nI 0)))] := hD
  refine lv_aload_n hx hb dX0_init_52 rfl (lv_at hl 0 rfl) ?_
  refine lv_bipush (v := nI 40) hx hb dX0_init_53 (by decide) ?_
  refine xr_newa (a0 := (40, .inl (fun _ => nI 0))) (N' := 40) (ty := .int) hx hb kA_int rfl hK hP hD hS hA1 0 rfl (fun _ => rfl) (nI_pos (by decide)) (nI_clamp (by decide)) (by decide) (Nat.le_of_ble_eq_true rfl) (Nat.le_of_ble_eq_true rfl) dX0_init_55 (fun q7 H hP hD hS => ?_)
  have hP : va_P (dC, dI) vwCl [(h0, .inr (0, [.int (nI 0), .ref q1, .ref q2, .ref q3, .ref q4, .ref q5, .ref q6, .null, .null])), (q1, .inl (cI, 40, .inl (fun _ => nI 0))), (q2, .inl (cI, 40, .inl (fun _ => nI 0))), (q3, .inl (cI, 40, .inl (fun _ => nI 0))), (q4, .inl (cI, 40, .inl (fun _ => nI 0))), (q5, .inl (cI, 40, .inl (fun _ => nI 0))), (q6, .inl (cI, 40, .inl (fun _ => nI 0))), (q7, .inl (cI, 40, .inl (fun _ => nI 0)))] H := hP
  have hD : va_D A [(h0, .inr (0, [.int (nI 0), .ref q1, .ref q2, .ref q3, .ref q4, .ref q5, .ref q6, .null, .null])), (q1, .inl (cI, 40, .inl (fun _ => nI 0))), (q2, .inl (cI, 40, .inl (fun _ => nI 0))), (q3, .inl (cI, 40, .inl (fun _ => nI 0))), (q4, .inl (cI, 40, .inl (fun _ => nI 0))), (q5, .inl (cI, 40, .inl (fun _ => nI 0))), (q6, .inl (cI, 40, .inl (fun _ => nI 0))), (q7, .inl (cI, 40, .inl (fun _ => nI 0)))] := hD
  refine va_putF (D := (dC, dI)) (ci := 0) (v := .ref q7) (ty := .array .int) (C := RX0) (T := TX0) (N := 9) hx hb hts i_X0 tyX0 tyX0_ok nmX0 hown hK hP hD hS 0 rfl rfl 7 (by decide) k_30 (fun _ h9 => h9) rfl hin2 rfl (by decide +kernel) rfl rfl (Nat.le_of_ble_eq_true rfl) dX0_init_57 (fun H locs hP hD hS => ?_)
  have hP : va_P (dC, dI) vwCl [(h0, .inr (0, [.int (nI 0), .ref q1, .ref q2, .ref q3, .ref q4, .ref q5, .ref q6, .ref q7, .null])), (q1, .inl (cI, 40, .inl (fun _ => nI 0))), (q2, .inl (cI, 40, .inl (fun _ => nI 0))), (q3, .inl (cI, 40, .inl (fun _ => nI 0))), (q4, .inl (cI, 40, .inl (fun _ => nI 0))), (q5, .inl (cI, 40, .inl (fun _ => nI 0))), (q6, .inl (cI, 40, .inl (fun _ => nI 0))), (q7, .inl (cI, 40, .inl (fun _ => nI 0)))] H := hP
  have hD : va_D A [(h0, .inr (0, [.int (nI 0), .ref q1, .ref q2, .ref q3, .ref q4, .ref q5, .ref q6, .ref q7, .null])), (q1, .inl (cI, 40, .inl (fun _ => nI 0))), (q2, .inl (cI, 40, .inl (fun _ => nI 0))), (q3, .inl (cI, 40, .inl (fun _ => nI 0))), (q4, .inl (cI, 40, .inl (fun _ => nI 0))), (q5, .inl (cI, 40, .inl (fun _ => nI 0))), (q6, .inl (cI, 40, .inl (fun _ => nI 0))), (q7, .inl (cI, 40, .inl (fun _ => nI 0)))] := hD
  refine lv_aload_n hx hb dX0_init_60 rfl (lv_at hl 0 rfl) ?_
  refine lv_iconst (v := nI 3) hx hb dX0_init_61 (by decide) ?_
  refine lv_bipush (v := nI 40) hx hb dX0_init_62 (by decide) ?_
  refine xr_mna (K := 40) hx hb hown kl_33 hAR.1 kA_int hK hP hD hS hA1 4 0 rfl rfl (nI_pos (by decide)) (nI_clamp (by decide)) (by decide) (Nat.le_of_ble_eq_true rfl) (Nat.le_of_ble_eq_true rfl) dX0_init_64 (fun q8 q8a q8b q8c H hP hD hS => ?_)
  have hP : va_P (dC, dI) vwCl [(h0, .inr (0, [.int (nI 0), .ref q1, .ref q2, .ref q3, .ref q4, .ref q5, .ref q6, .ref q7, .null])), (q1, .inl (cI, 40, .inl (fun _ => nI 0))), (q2, .inl (cI, 40, .inl (fun _ => nI 0))), (q3, .inl (cI, 40, .inl (fun _ => nI 0))), (q4, .inl (cI, 40, .inl (fun _ => nI 0))), (q5, .inl (cI, 40, .inl (fun _ => nI 0))), (q6, .inl (cI, 40, .inl (fun _ => nI 0))), (q7, .inl (cI, 40, .inl (fun _ => nI 0))), (q8, .inl (cQ, 3, .inr (.inr (.inr (.inr (xrow [q8a, q8b, q8c])))))), (q8a, .inl (cI, 40, .inl (fun _ => nI 0))), (q8b, .inl (cI, 40, .inl (fun _ => nI 0))), (q8c, .inl (cI, 40, .inl (fun _ => nI 0)))] H := hP
  have hD : va_D A [(h0, .inr (0, [.int (nI 0), .ref q1, .ref q2, .ref q3, .ref q4, .ref q5, .ref q6, .ref q7, .null])), (q1, .inl (cI, 40, .inl (fun _ => nI 0))), (q2, .inl (cI, 40, .inl (fun _ => nI 0))), (q3, .inl (cI, 40, .inl (fun _ => nI 0))), (q4, .inl (cI, 40, .inl (fun _ => nI 0))), (q5, .inl (cI, 40, .inl (fun _ => nI 0))), (q6, .inl (cI, 40, .inl (fun _ => nI 0))), (q7, .inl (cI, 40, .inl (fun _ => nI 0))), (q8, .inl (cQ, 3, .inr (.inr (.inr (.inr (xrow [q8a, q8b, q8c])))))), (q8a, .inl (cI, 40, .inl (fun _ => nI 0))), (q8b, .inl (cI, 40, .inl (fun _ => nI 0))), (q8c, .inl (cI, 40, .inl (fun _ => nI 0)))] := hD
  refine va_putF (D := (dC, dI)) (ci := 0) (v := .ref q8) (ty := .array (.array .int)) (C := RX0) (T := TX0) (N := 9) hx hb hts i_X0 tyX0 tyX0_ok nmX0 hown hK hP hD hS 0 rfl rfl 8 (by decide) k_35 (fun _ h9 => h9) rfl hin2 rfl (by decide +kernel) rfl rfl (Nat.le_of_ble_eq_true rfl) dX0_init_68 (fun H locs hP hD hS => ?_)
  have hP : va_P (dC, dI) vwCl [(h0, .inr (0, [.int (nI 0), .ref q1, .ref q2, .ref q3, .ref q4, .ref q5, .ref q6, .ref q7, .ref q8])), (q1, .inl (cI, 40, .inl (fun _ => nI 0))), (q2, .inl (cI, 40, .inl (fun _ => nI 0))), (q3, .inl (cI, 40, .inl (fun _ => nI 0))), (q4, .inl (cI, 40, .inl (fun _ => nI 0))), (q5, .inl (cI, 40, .inl (fun _ => nI 0))), (q6, .inl (cI, 40, .inl (fun _ => nI 0))), (q7, .inl (cI, 40, .inl (fun _ => nI 0))), (q8, .inl (cQ, 3, .inr (.inr (.inr (.inr (xrow [q8a, q8b, q8c])))))), (q8a, .inl (cI, 40, .inl (fun _ => nI 0))), (q8b, .inl (cI, 40, .inl (fun _ => nI 0))), (q8c, .inl (cI, 40, .inl (fun _ => nI 0)))] H := hP
  have hD : va_D A [(h0, .inr (0, [.int (nI 0), .ref q1, .ref q2, .ref q3, .ref q4, .ref q5, .ref q6, .ref q7, .ref q8])), (q1, .inl (cI, 40, .inl (fun _ => nI 0))), (q2, .inl (cI, 40, .inl (fun _ => nI 0))), (q3, .inl (cI, 40, .inl (fun _ => nI 0))), (q4, .inl (cI, 40, .inl (fun _ => nI 0))), (q5, .inl (cI, 40, .inl (fun _ => nI 0))), (q6, .inl (cI, 40, .inl (fun _ => nI 0))), (q7, .inl (cI, 40, .inl (fun _ => nI 0))), (q8, .inl (cQ, 3, .inr (.inr (.inr (.inr (xrow [q8a, q8b, q8c])))))), (q8a, .inl (cI, 40, .inl (fun _ => nI 0))), (q8b, .inl (cI, 40, .inl (fun _ => nI 0))), (q8c, .inl (cI, 40, .inl (fun _ => nI 0)))] := hD
  refine xr_old (wc := [(h0, .inr (0, [.int (nI 0), .null, .null, .null, .null, .null, .null, .null, .null]))]) (by rw [← hA]; exact hS) (fun locs1 hl1 => ?_)
  exact W.vret hx hb hr (fun t ht hW => ⟨⟨_, rfl, ⟨q1, q2, q3, q4, q5, q6, q7, q8, q8a, q8b, q8c, rfl⟩, by rw [ht]; exact hP, by rw [← hA]; exact hD⟩, xS_fr (by rw [← hA]; exact hS) ht⟩) hl1 dX0_init_71
set_option maxHeartbeats 4000000 in
set_option maxRecDepth 100000 in
theorem c_X1_init (l : Launch) (dC : Nat → ClassId) (dI : Nat → Nat → Nat) (cI cF cC cZ cQ cS : ClassId) (h0 : Nat) : Met l yX1_init wsX1_init ({ frames := 1, cells := 4, slots := 51, locals := 12 }) (xCre (dC, dI) vwCl [.ref h0] (xtys cI cF cC cZ cQ cS) [(h0, .inr (1, [.int (nI 0), .int (nI 0), .int (nI 0), .null]))]) (xCq (dC, dI) vwCl [(h0, .inr (1, [.int (nI 0), .int (nI 0), .int (nI 0), .null]))] (fun w => ∃ q1 q1a q1b q1c : Nat, w = [(h0, .inr (1, [.int (nI 0), .int (nI 0), .int (nI 0), .ref q1])), (q1, .inl (cQ, 3, .inr (.inr (.inr (.inr (xrow [q1a, q1b, q1c])))))), (q1a, .inl (cI, 16, .inl (fun _ => nI 0))), (q1b, .inl (cI, 16, .inl (fun _ => nI 0))), (q1c, .inl (cI, 16, .inl (fun _ => nI 0)))])) 4 51 (va_B [(h0, .inr (1, [.int (nI 0), .int (nI 0), .int (nI 0), .null]))]) := by
  refine Met.ofW (cc := cX1_init) (maxL := 1) (ret := none) (by decide) rfl ?_
  intro p e s m args below meth c s₁ B hml hv
  obtain ⟨rfl, hP, hK, hD0, hN, hAR⟩ := hv
  have hx := B.exec
  have hb := B.bytes
  have hr := B.returns
  have hts := atoms_spec (ws := wsX1_init) B.pre
  have hown : s.vm.findClass RX1 = some m.cls := findClass_of_methodNamed B.named
  have hin2 : meth.name = "<init>" := (name_of_methodNamed B.named B.method).1
  have hlocks := B.notSynchronized
  have kl_11 := hts (Cond.classLink RX1 11 "[[I") (by decide +kernel)
  have kA_int := hts (Cond.arrayClass .int) (by decide +kernel)
  have k_13 := hts (Cond.fieldLink RX1 13 "ShelfStages$Delivery" "numbers" "[[I") (by decide +kernel)
  have i_X1 : ∀ w ∈ wsX10, w ∈ wsX1_init := by decide +kernel
  obtain ⟨A, hA⟩ : ∃ A, A = va_A [(h0, .inr (1, [.int (nI 0), .int (nI 0), .int (nI 0), .null]))] s.heap.size := ⟨_, rfl⟩
  have hA1 : ∀ q, s.heap.size ≤ q → A q := fun q h => by rw [hA]; exact Or.inr h
  have hD : va_D A [(h0, .inr (1, [.int (nI 0), .int (nI 0), .int (nI 0), .null]))] := by rw [hA]; exact hD0.self
  have hS : va_S A s.heap s.heap [] := va_S.rf
  have hl := lv_entry ([.ref h0]) (n := 1) (Nat.le_of_ble_eq_true rfl)
  rw [lg_entry_eq]
  generalize (lg_sl ([.ref h0]) ++ List.replicate (1 - (lg_sl ([.ref h0])).length) Slot.unset).toArray = ls at hl ⊢
  have hl : lv_has ls 1 [(0, .ref h0)] := hl
  refine lv_aload_n hx hb dX1_init_0 rfl (lv_at hl 0 rfl) ?_
  refine W.objInit hx hb hown (hts (.methodLink RX1 3 objectInit) (by decide +kernel)) (hts (.instanceMethod objectInit) (by decide +kernel)) (hts (.code objectInit ⟨#[0xb1]⟩ 1 none) (List.mem_of_getElem? (i := 3) rfl)) rfl (by rw [hml]; exact hl.1) rfl dX1_init_1 (Nat.le_of_ble_eq_true rfl) (Nat.le_of_ble_eq_true rfl) ?_
  refine lv_aload_n hx hb dX1_init_4 rfl (lv_at hl 0 rfl) ?_
  refine lv_iconst (v := nI 3) hx hb dX1_init_5 (by decide) ?_
  refine lv_bipush (v := nI 16) hx hb dX1_init_6 (by decide) ?_
  refine xr_mna (K := 16) hx hb hown kl_11 hAR.1 kA_int hK hP hD hS hA1 4 0 rfl rfl (nI_pos (by decide)) (nI_clamp (by decide)) (by decide) (Nat.le_of_ble_eq_true rfl) (Nat.le_of_ble_eq_true rfl) dX1_init_8 (fun q1 q1a q1b q1c H hP hD hS => ?_)
  have hP : va_P (dC, dI) vwCl [(h0, .inr (1, [.int (nI 0), .int (nI 0), .int (nI 0), .null])), (q1, .inl (cQ, 3, .inr (.inr (.inr (.inr (xrow [q1a, q1b, q1c])))))), (q1a, .inl (cI, 16, .inl (fun _ => nI 0))), (q1b, .inl (cI, 16, .inl (fun _ => nI 0))), (q1c, .inl (cI, 16, .inl (fun _ => nI 0)))] H := hP
  have hD : va_D A [(h0, .inr (1, [.int (nI 0), .int (nI 0), .int (nI 0), .null])), (q1, .inl (cQ, 3, .inr (.inr (.inr (.inr (xrow [q1a, q1b, q1c])))))), (q1a, .inl (cI, 16, .inl (fun _ => nI 0))), (q1b, .inl (cI, 16, .inl (fun _ => nI 0))), (q1c, .inl (cI, 16, .inl (fun _ => nI 0)))] := hD
  refine va_putF (D := (dC, dI)) (ci := 1) (v := .ref q1) (ty := .array (.array .int)) (C := RX1) (T := TX1) (N := 4) hx hb hts i_X1 tyX1 tyX1_ok nmX1 hown hK hP hD hS 0 rfl rfl 3 (by decide) k_13 (fun _ h9 => h9) rfl hin2 rfl (by decide +kernel) rfl rfl (Nat.le_of_ble_eq_true rfl) dX1_init_12 (fun H locs hP hD hS => ?_)
  have hP : va_P (dC, dI) vwCl [(h0, .inr (1, [.int (nI 0), .int (nI 0), .int (nI 0), .ref q1])), (q1, .inl (cQ, 3, .inr (.inr (.inr (.inr (xrow [q1a, q1b, q1c])))))), (q1a, .inl (cI, 16, .inl (fun _ => nI 0))), (q1b, .inl (cI, 16, .inl (fun _ => nI 0))), (q1c, .inl (cI, 16, .inl (fun _ => nI 0)))] H := hP
  have hD : va_D A [(h0, .inr (1, [.int (nI 0), .int (nI 0), .int (nI 0), .ref q1])), (q1, .inl (cQ, 3, .inr (.inr (.inr (.inr (xrow [q1a, q1b, q1c])))))), (q1a, .inl (cI, 16, .inl (fun _ => nI 0))), (q1b, .inl (cI, 16, .inl (fun _ => nI 0))), (q1c, .inl (cI, 16, .inl (fun _ => nI 0)))] := hD
  refine xr_old (wc := [(h0, .inr (1, [.int (nI 0), .int (nI 0), .int (nI 0), .null]))]) (by rw [← hA]; exact hS) (fun locs1 hl1 => ?_)
  exact W.vret hx hb hr (fun t ht hW => ⟨⟨_, rfl, ⟨q1, q1a, q1b, q1c, rfl⟩, by rw [ht]; exact hP, by rw [← hA]; exact hD⟩, xS_fr (by rw [← hA]; exact hS) ht⟩) hl1 dX1_init_15
set_option maxHeartbeats 4000000 in
set_option maxRecDepth 100000 in
theorem c_X2_init (l : Launch) (dC : Nat → ClassId) (dI : Nat → Nat → Nat) (cI cF cC cZ cQ cS : ClassId) (h0 : Nat) : Met l yX2_init wsX2_init ({ frames := 1, cells := 5, slots := 200, locals := 12 }) (xCre (dC, dI) vwCl [.ref h0] (xtys cI cF cC cZ cQ cS) [(h0, .inr (2, [.int (nI 0), .int (nI 0), .int (nI 0), .null, .null, .null, .null, .null, .int (nI 0), .int (nI 0), .int (nI 0)]))]) (xCq (dC, dI) vwCl [(h0, .inr (2, [.int (nI 0), .int (nI 0), .int (nI 0), .null, .null, .null, .null, .null, .int (nI 0), .int (nI 0), .int (nI 0)]))] (fun w => ∃ q1 q2 q3 q4 q5 : Nat, w = [(h0, .inr (2, [.int (nI 0), .int (nI 0), .int (nI 0), .ref q1, .ref q2, .ref q3, .ref q4, .ref q5, .int (nI 0), .int (nI 0), .int (nI 0)])), (q1, .inl (cI, 40, .inl (fun _ => nI 0))), (q2, .inl (cI, 40, .inl (fun _ => nI 0))), (q3, .inl (cI, 40, .inl (fun _ => nI 0))), (q4, .inl (cI, 40, .inl (fun _ => nI 0))), (q5, .inl (cF, 40, .inr (.inr (.inl (fun _ => 0)))))])) 5 200 (va_B [(h0, .inr (2, [.int (nI 0), .int (nI 0), .int (nI 0), .null, .null, .null, .null, .null, .int (nI 0), .int (nI 0), .int (nI 0)]))]) := by
  refine Met.ofW (cc := cX2_init) (maxL := 1) (ret := none) (by decide) rfl ?_
  intro p e s m args below meth c s₁ B hml hv
  obtain ⟨rfl, hP, hK, hD0, hN, hAR⟩ := hv
  have hx := B.exec
  have hb := B.bytes
  have hr := B.returns
  have hts := atoms_spec (ws := wsX2_init) B.pre
  have hown : s.vm.findClass RX2 = some m.cls := findClass_of_methodNamed B.named
  have hin2 : meth.name = "<init>" := (name_of_methodNamed B.named B.method).1
  have hlocks := B.notSynchronized
  have kA_int := hts (Cond.arrayClass .int) (by decide +kernel)
  have k_9 := hts (Cond.fieldLink RX2 9 "ShelfStages$Filling" "batch" "[I") (by decide +kernel)
  have k_15 := hts (Cond.fieldLink RX2 15 "ShelfStages$Filling" "units" "[I") (by decide +kernel)
  have k_18 := hts (Cond.fieldLink RX2 18 "ShelfStages$Filling" "cents" "[I") (by decide +kernel)
  have k_21 := hts (Cond.fieldLink RX2 21 "ShelfStages$Filling" "rest" "[I") (by decide +kernel)
  have kA_float := hts (Cond.arrayClass .float) (by decide +kernel)
  have k_24 := hts (Cond.fieldLink RX2 24 "ShelfStages$Filling" "price" "[F") (by decide +kernel)
  have i_X2 : ∀ w ∈ wsX20, w ∈ wsX2_init := by decide +kernel
  obtain ⟨A, hA⟩ : ∃ A, A = va_A [(h0, .inr (2, [.int (nI 0), .int (nI 0), .int (nI 0), .null, .null, .null, .null, .null, .int (nI 0), .int (nI 0), .int (nI 0)]))] s.heap.size := ⟨_, rfl⟩
  have hA1 : ∀ q, s.heap.size ≤ q → A q := fun q h => by rw [hA]; exact Or.inr h
  have hD : va_D A [(h0, .inr (2, [.int (nI 0), .int (nI 0), .int (nI 0), .null, .null, .null, .null, .null, .int (nI 0), .int (nI 0), .int (nI 0)]))] := by rw [hA]; exact hD0.self
  have hS : va_S A s.heap s.heap [] := va_S.rf
  have hl := lv_entry ([.ref h0]) (n := 1) (Nat.le_of_ble_eq_true rfl)
  rw [lg_entry_eq]
  generalize (lg_sl ([.ref h0]) ++ List.replicate (1 - (lg_sl ([.ref h0])).length) Slot.unset).toArray = ls at hl ⊢
  have hl : lv_has ls 1 [(0, .ref h0)] := hl
  refine lv_aload_n hx hb dX2_init_0 rfl (lv_at hl 0 rfl) ?_
  refine W.objInit hx hb hown (hts (.methodLink RX2 3 objectInit) (by decide +kernel)) (hts (.instanceMethod objectInit) (by decide +kernel)) (hts (.code objectInit ⟨#[0xb1]⟩ 1 none) (List.mem_of_getElem? (i := 3) rfl)) rfl (by rw [hml]; exact hl.1) rfl dX2_init_1 (Nat.le_of_ble_eq_true rfl) (Nat.le_of_ble_eq_true rfl) ?_
  refine lv_aload_n hx hb dX2_init_4 rfl (lv_at hl 0 rfl) ?_
  refine lv_bipush (v := nI 40) hx hb dX2_init_5 (by decide) ?_
  refine xr_newa (a0 := (40, .inl (fun _ => nI 0))) (N' := 40) (ty := .int) hx hb kA_int rfl hK hP hD hS hA1 0 rfl (fun _ => rfl) (nI_pos (by decide)) (nI_clamp (by decide)) (by decide) (Nat.le_of_ble_eq_true rfl) (Nat.le_of_ble_eq_true rfl) dX2_init_7 (fun q1 H hP hD hS => ?_)
  have hP : va_P (dC, dI) vwCl [(h0, .inr (2, [.int (nI 0), .int (nI 0), .int (nI 0), .null, .null, .null, .null, .null, .int (nI 0), .int (nI 0), .int (nI 0)])), (q1, .inl (cI, 40, .inl (fun _ => nI 0)))] H := hP
  have hD : va_D A [(h0, .inr (2, [.int (nI 0), .int (nI 0), .int (nI 0), .null, .null, .null, .null, .null, .int (nI 0), .int (nI 0), .int (nI 0)])), (q1, .inl (cI, 40, .inl (fun _ => nI 0)))] := hD
  refine va_putF (D := (dC, dI)) (ci := 2) (v := .ref q1) (ty := .array .int) (C := RX2) (T := TX2) (N := 11) hx hb hts i_X2 tyX2 tyX2_ok nmX2 hown hK hP hD hS 0 rfl rfl 3 (by decide) k_9 (fun _ h9 => h9) rfl hin2 rfl (by decide +kernel) rfl rfl (Nat.le_of_ble_eq_true rfl) dX2_init_9 (fun H locs hP hD hS => ?_)
  have hP : va_P (dC, dI) vwCl [(h0, .inr (2, [.int (nI 0), .int (nI 0), .int (nI 0), .ref q1, .null, .null, .null, .null, .int (nI 0), .int (nI 0), .int (nI 0)])), (q1, .inl (cI, 40, .inl (fun _ => nI 0)))] H := hP
  have hD : va_D A [(h0, .inr (2, [.int (nI 0), .int (nI 0), .int (nI 0), .ref q1, .null, .null, .null, .null, .int (nI 0), .int (nI 0), .int (nI 0)])), (q1, .inl (cI, 40, .inl (fun _ => nI 0)))] := hD
  refine lv_aload_n hx hb dX2_init_12 rfl (lv_at hl 0 rfl) ?_
  refine lv_bipush (v := nI 40) hx hb dX2_init_13 (by decide) ?_
  refine xr_newa (a0 := (40, .inl (fun _ => nI 0))) (N' := 40) (ty := .int) hx hb kA_int rfl hK hP hD hS hA1 0 rfl (fun _ => rfl) (nI_pos (by decide)) (nI_clamp (by decide)) (by decide) (Nat.le_of_ble_eq_true rfl) (Nat.le_of_ble_eq_true rfl) dX2_init_15 (fun q2 H hP hD hS => ?_)
  have hP : va_P (dC, dI) vwCl [(h0, .inr (2, [.int (nI 0), .int (nI 0), .int (nI 0), .ref q1, .null, .null, .null, .null, .int (nI 0), .int (nI 0), .int (nI 0)])), (q1, .inl (cI, 40, .inl (fun _ => nI 0))), (q2, .inl (cI, 40, .inl (fun _ => nI 0)))] H := hP
  have hD : va_D A [(h0, .inr (2, [.int (nI 0), .int (nI 0), .int (nI 0), .ref q1, .null, .null, .null, .null, .int (nI 0), .int (nI 0), .int (nI 0)])), (q1, .inl (cI, 40, .inl (fun _ => nI 0))), (q2, .inl (cI, 40, .inl (fun _ => nI 0)))] := hD
  refine va_putF (D := (dC, dI)) (ci := 2) (v := .ref q2) (ty := .array .int) (C := RX2) (T := TX2) (N := 11) hx hb hts i_X2 tyX2 tyX2_ok nmX2 hown hK hP hD hS 0 rfl rfl 4 (by decide) k_15 (fun _ h9 => h9) rfl hin2 rfl (by decide +kernel) rfl rfl (Nat.le_of_ble_eq_true rfl) dX2_init_17 (fun H locs hP hD hS => ?_)
  have hP : va_P (dC, dI) vwCl [(h0, .inr (2, [.int (nI 0), .int (nI 0), .int (nI 0), .ref q1, .ref q2, .null, .null, .null, .int (nI 0), .int (nI 0), .int (nI 0)])), (q1, .inl (cI, 40, .inl (fun _ => nI 0))), (q2, .inl (cI, 40, .inl (fun _ => nI 0)))] H := hP
  have hD : va_D A [(h0, .inr (2, [.int (nI 0), .int (nI 0), .int (nI 0), .ref q1, .ref q2, .null, .null, .null, .int (nI 0), .int (nI 0), .int (nI 0)])), (q1, .inl (cI, 40, .inl (fun _ => nI 0))), (q2, .inl (cI, 40, .inl (fun _ => nI 0)))] := hD
  refine lv_aload_n hx hb dX2_init_20 rfl (lv_at hl 0 rfl) ?_
  refine lv_bipush (v := nI 40) hx hb dX2_init_21 (by decide) ?_
  refine xr_newa (a0 := (40, .inl (fun _ => nI 0))) (N' := 40) (ty := .int) hx hb kA_int rfl hK hP hD hS hA1 0 rfl (fun _ => rfl) (nI_pos (by decide)) (nI_clamp (by decide)) (by decide) (Nat.le_of_ble_eq_true rfl) (Nat.le_of_ble_eq_true rfl) dX2_init_23 (fun q3 H hP hD hS => ?_)
  have hP : va_P (dC, dI) vwCl [(h0, .inr (2, [.int (nI 0), .int (nI 0), .int (nI 0), .ref q1, .ref q2, .null, .null, .null, .int (nI 0), .int (nI 0), .int (nI 0)])), (q1, .inl (cI, 40, .inl (fun _ => nI 0))), (q2, .inl (cI, 40, .inl (fun _ => nI 0))), (q3, .inl (cI, 40, .inl (fun _ => nI 0)))] H := hP
  have hD : va_D A [(h0, .inr (2, [.int (nI 0), .int (nI 0), .int (nI 0), .ref q1, .ref q2, .null, .null, .null, .int (nI 0), .int (nI 0), .int (nI 0)])), (q1, .inl (cI, 40, .inl (fun _ => nI 0))), (q2, .inl (cI, 40, .inl (fun _ => nI 0))), (q3, .inl (cI, 40, .inl (fun _ => nI 0)))] := hD
  refine va_putF (D := (dC, dI)) (ci := 2) (v := .ref q3) (ty := .array .int) (C := RX2) (T := TX2) (N := 11) hx hb hts i_X2 tyX2 tyX2_ok nmX2 hown hK hP hD hS 0 rfl rfl 5 (by decide) k_18 (fun _ h9 => h9) rfl hin2 rfl (by decide +kernel) rfl rfl (Nat.le_of_ble_eq_true rfl) dX2_init_25 (fun H locs hP hD hS => ?_)
  have hP : va_P (dC, dI) vwCl [(h0, .inr (2, [.int (nI 0), .int (nI 0), .int (nI 0), .ref q1, .ref q2, .ref q3, .null, .null, .int (nI 0), .int (nI 0), .int (nI 0)])), (q1, .inl (cI, 40, .inl (fun _ => nI 0))), (q2, .inl (cI, 40, .inl (fun _ => nI 0))), (q3, .inl (cI, 40, .inl (fun _ => nI 0)))] H := hP
  have hD : va_D A [(h0, .inr (2, [.int (nI 0), .int (nI 0), .int (nI 0), .ref q1, .ref q2, .ref q3, .null, .null, .int (nI 0), .int (nI 0), .int (nI 0)])), (q1, .inl (cI, 40, .inl (fun _ => nI 0))), (q2, .inl (cI, 40, .inl (fun _ => nI 0))), (q3, .inl (cI, 40, .inl (fun _ => nI 0)))] := hD
  refine lv_aload_n hx hb dX2_init_28 rfl (lv_at hl 0 rfl) ?_
  refine lv_bipush (v := nI 40) hx hb dX2_init_29 (by decide) ?_
  refine xr_newa (a0 := (40, .inl (fun _ => nI 0))) (N' := 40) (ty := .int) hx hb kA_int rfl hK hP hD hS hA1 0 rfl (fun _ => rfl) (nI_pos (by decide)) (nI_clamp (by decide)) (by decide) (Nat.le_of_ble_eq_true rfl) (Nat.le_of_ble_eq_true rfl) dX2_init_31 (fun q4 H hP hD hS => ?_)
  have hP : va_P (dC, dI) vwCl [(h0, .inr (2, [.int (nI 0), .int (nI 0), .int (nI 0), .ref q1, .ref q2, .ref q3, .null, .null, .int (nI 0), .int (nI 0), .int (nI 0)])), (q1, .inl (cI, 40, .inl (fun _ => nI 0))), (q2, .inl (cI, 40, .inl (fun _ => nI 0))), (q3, .inl (cI, 40, .inl (fun _ => nI 0))), (q4, .inl (cI, 40, .inl (fun _ => nI 0)))] H := hP
  have hD : va_D A [(h0, .inr (2, [.int (nI 0), .int (nI 0), .int (nI 0), .ref q1, .ref q2, .ref q3, .null, .null, .int (nI 0), .int (nI 0), .int (nI 0)])), (q1, .inl (cI, 40, .inl (fun _ => nI 0))), (q2, .inl (cI, 40, .inl (fun _ => nI 0))), (q3, .inl (cI, 40, .inl (fun _ => nI 0))), (q4, .inl (cI, 40, .inl (fun _ => nI 0)))] := hD
  refine va_putF (D := (dC, dI)) (ci := 2) (v := .ref q4) (ty := .array .int) (C := RX2) (T := TX2) (N := 11) hx hb hts i_X2 tyX2 tyX2_ok nmX2 hown hK hP hD hS 0 rfl rfl 6 (by decide) k_21 (fun _ h9 => h9) rfl hin2 rfl (by decide +kernel) rfl rfl (Nat.le_of_ble_eq_true rfl) dX2_init_33 (fun H locs hP hD hS => ?_)
  have hP : va_P (dC, dI) vwCl [(h0, .inr (2, [.int (nI 0), .int (nI 0), .int (nI 0), .ref q1, .ref q2, .ref q3, .ref q4, .null, .int (nI 0), .int (nI 0), .int (nI 0)])), (q1, .inl (cI, 40, .inl (fun _ => nI 0))), (q2, .inl (cI, 40, .inl (fun _ => nI 0))), (q3, .inl (cI, 40, .inl (fun _ => nI 0))), (q4, .inl (cI, 40, .inl (fun _ => nI 0)))] H := hP
  have hD : va_D A [(h0, .inr (2, [.int (nI 0), .int (nI 0), .int (nI 0), .ref q1, .ref q2, .ref q3, .ref q4, .null, .int (nI 0), .int (nI 0), .int (nI 0)])), (q1, .inl (cI, 40, .inl (fun _ => nI 0))), (q2, .inl (cI, 40, .inl (fun _ => nI 0))), (q3, .inl (cI, 40, .inl (fun _ => nI 0))), (q4, .inl (cI, 40, .inl (fun _ => nI 0)))] := hD
  refine lv_aload_n hx hb dX2_init_36 rfl (lv_at hl 0 rfl) ?_
  refine lv_bipush (v := nI 40) hx hb dX2_init_37 (by decide) ?_
  refine xr_newa (a0 := (40, .inr (.inr (.inl (fun _ => 0))))) (N' := 40) (ty := .float) hx hb kA_float rfl hK hP hD hS hA1 1 rfl (fun _ => rfl) (nI_pos (by decide)) (nI_clamp (by decide)) (by decide) (Nat.le_of_ble_eq_true rfl) (Nat.le_of_ble_eq_true rfl) dX2_init_39 (fun q5 H hP hD hS => ?_)
  have hP : va_P (dC, dI) vwCl [(h0, .inr (2, [.int (nI 0), .int (nI 0), .int (nI 0), .ref q1, .ref q2, .ref q3, .ref q4, .null, .int (nI 0), .int (nI 0), .int (nI 0)])), (q1, .inl (cI, 40, .inl (fun _ => nI 0))), (q2, .inl (cI, 40, .inl (fun _ => nI 0))), (q3, .inl (cI, 40, .inl (fun _ => nI 0))), (q4, .inl (cI, 40, .inl (fun _ => nI 0))), (q5, .inl (cF, 40, .inr (.inr (.inl (fun _ => 0)))))] H := hP
  have hD : va_D A [(h0, .inr (2, [.int (nI 0), .int (nI 0), .int (nI 0), .ref q1, .ref q2, .ref q3, .ref q4, .null, .int (nI 0), .int (nI 0), .int (nI 0)])), (q1, .inl (cI, 40, .inl (fun _ => nI 0))), (q2, .inl (cI, 40, .inl (fun _ => nI 0))), (q3, .inl (cI, 40, .inl (fun _ => nI 0))), (q4, .inl (cI, 40, .inl (fun _ => nI 0))), (q5, .inl (cF, 40, .inr (.inr (.inl (fun _ => 0)))))] := hD
  refine va_putF (D := (dC, dI)) (ci := 2) (v := .ref q5) (ty := .array .float) (C := RX2) (T := TX2) (N := 11) hx hb hts i_X2 tyX2 tyX2_ok nmX2 hown hK hP hD hS 0 rfl rfl 7 (by decide) k_24 (fun _ h9 => h9) rfl hin2 rfl (by decide +kernel) rfl rfl (Nat.le_of_ble_eq_true rfl) dX2_init_41 (fun H locs hP hD hS => ?_)
  have hP : va_P (dC, dI) vwCl [(h0, .inr (2, [.int (nI 0), .int (nI 0), .int (nI 0), .ref q1, .ref q2, .ref q3, .ref q4, .ref q5, .int (nI 0), .int (nI 0), .int (nI 0)])), (q1, .inl (cI, 40, .inl (fun _ => nI 0))), (q2, .inl (cI, 40, .inl (fun _ => nI 0))), (q3, .inl (cI, 40, .inl (fun _ => nI 0))), (q4, .inl (cI, 40, .inl (fun _ => nI 0))), (q5, .inl (cF, 40, .inr (.inr (.inl (fun _ => 0)))))] H := hP
  have hD : va_D A [(h0, .inr (2, [.int (nI 0), .int (nI 0), .int (nI 0), .ref q1, .ref q2, .ref q3, .ref q4, .ref q5, .int (nI 0), .int (nI 0), .int (nI 0)])), (q1, .inl (cI, 40, .inl (fun _ => nI 0))), (q2, .inl (cI, 40, .inl (fun _ => nI 0))), (q3, .inl (cI, 40, .inl (fun _ => nI 0))), (q4, .inl (cI, 40, .inl (fun _ => nI 0))), (q5, .inl (cF, 40, .inr (.inr (.inl (fun _ => 0)))))] := hD
  refine xr_old (wc := [(h0, .inr (2, [.int (nI 0), .int (nI 0), .int (nI 0), .null, .null, .null, .null, .null, .int (nI 0), .int (nI 0), .int (nI 0)]))]) (by rw [← hA]; exact hS) (fun locs1 hl1 => ?_)
  exact W.vret hx hb hr (fun t ht hW => ⟨⟨_, rfl, ⟨q1, q2, q3, q4, q5, rfl⟩, by rw [ht]; exact hP, by rw [← hA]; exact hD⟩, xS_fr (by rw [← hA]; exact hS) ht⟩) hl1 dX2_init_44
set_option maxHeartbeats 4000000 in
set_option maxRecDepth 100000 in
theorem c_X3_init (l : Launch) (dC : Nat → ClassId) (dI : Nat → Nat → Nat) (cI cF cC cZ cQ cS : ClassId) (h0 : Nat) : Met l yX3_init wsX3_init ({ frames := 1, cells := 4, slots := 84, locals := 12 }) (xCre (dC, dI) vwCl [.ref h0] (xtys cI cF cC cZ cQ cS) [(h0, .inr (3, [.int (nI 0), .null, .null, .null, .null]))]) (xCq (dC, dI) vwCl [(h0, .inr (3, [.int (nI 0), .null, .null, .null, .null]))] (fun w => ∃ q1 q2 q3 q4 : Nat, w = [(h0, .inr (3, [.int (nI 0), .ref q1, .ref q2, .ref q3, .ref q4])), (q1, .inl (cI, 12, .inl (fun _ => nI 0))), (q2, .inl (cI, 12, .inl (fun _ => nI 0))), (q3, .inl (cI, 12, .inl (fun _ => nI 0))), (q4, .inl (cI, 48, .inl (fun _ => nI 0)))])) 4 84 (va_B [(h0, .inr (3, [.int (nI 0), .null, .null, .null, .null]))]) := by
  refine Met.ofW (cc := cX3_init) (maxL := 1) (ret := none) (by decide) rfl ?_
  intro p e s m args below meth c s₁ B hml hv
  obtain ⟨rfl, hP, hK, hD0, hN, hAR⟩ := hv
  have hx := B.exec
  have hb := B.bytes
  have hr := B.returns
  have hts := atoms_spec (ws := wsX3_init) B.pre
  have hown : s.vm.findClass RX3 = some m.cls := findClass_of_methodNamed B.named
  have hin2 : meth.name = "<init>" := (name_of_methodNamed B.named B.method).1
  have hlocks := B.notSynchronized
  have kA_int := hts (Cond.arrayClass .int) (by decide +kernel)
  have k_9 := hts (Cond.fieldLink RX3 9 "ShelfStages$Goods" "price" "[I") (by decide +kernel)
  have k_15 := hts (Cond.fieldLink RX3 15 "ShelfStages$Goods" "life" "[I") (by decide +kernel)
  have k_18 := hts (Cond.fieldLink RX3 18 "ShelfStages$Goods" "listed" "[I") (by decide +kernel)
  have k_21 := hts (Cond.fieldLink RX3 21 "ShelfStages$Goods" "list" "[I") (by decide +kernel)
  have i_X3 : ∀ w ∈ wsX30, w ∈ wsX3_init := by decide +kernel
  obtain ⟨A, hA⟩ : ∃ A, A = va_A [(h0, .inr (3, [.int (nI 0), .null, .null, .null, .null]))] s.heap.size := ⟨_, rfl⟩
  have hA1 : ∀ q, s.heap.size ≤ q → A q := fun q h => by rw [hA]; exact Or.inr h
  have hD : va_D A [(h0, .inr (3, [.int (nI 0), .null, .null, .null, .null]))] := by rw [hA]; exact hD0.self
  have hS : va_S A s.heap s.heap [] := va_S.rf
  have hl := lv_entry ([.ref h0]) (n := 1) (Nat.le_of_ble_eq_true rfl)
  rw [lg_entry_eq]
  generalize (lg_sl ([.ref h0]) ++ List.replicate (1 - (lg_sl ([.ref h0])).length) Slot.unset).toArray = ls at hl ⊢
  have hl : lv_has ls 1 [(0, .ref h0)] := hl
  refine lv_aload_n hx hb dX3_init_0 rfl (lv_at hl 0 rfl) ?_
  refine W.objInit hx hb hown (hts (.methodLink RX3 3 objectInit) (by decide +kernel)) (hts (.instanceMethod objectInit) (by decide +kernel)) (hts (.code objectInit ⟨#[0xb1]⟩ 1 none) (List.mem_of_getElem? (i := 3) rfl)) rfl (by rw [hml]; exact hl.1) rfl dX3_init_1 (Nat.le_of_ble_eq_true rfl) (Nat.le_of_ble_eq_true rfl) ?_
  refine lv_aload_n hx hb dX3_init_4 rfl (lv_at hl 0 rfl) ?_
  refine lv_bipush (v := nI 12) hx hb dX3_init_5 (by decide) ?_
  refine xr_newa (a0 := (12, .inl (fun _ => nI 0))) (N' := 12) (ty := .int) hx hb kA_int rfl hK hP hD hS hA1 0 rfl (fun _ => rfl) (nI_pos (by decide)) (nI_clamp (by decide)) (by decide) (Nat.le_of_ble_eq_true rfl) (Nat.le_of_ble_eq_true rfl) dX3_init_7 (fun q1 H hP hD hS => ?_)
  have hP : va_P (dC, dI) vwCl [(h0, .inr (3, [.int (nI 0), .null, .null, .null, .null])), (q1, .inl (cI, 12, .inl (fun _ => nI 0)))] H := hP
  have hD : va_D A [(h0, .inr (3, [.int (nI 0), .null, .null, .null, .null])), (q1, .inl (cI, 12, .inl (fun _ => nI 0)))] := hD
  refine va_putF (D := (dC, dI)) (ci := 3) (v := .ref q1) (ty := .array .int) (C := RX3) (T := TX3) (N := 5) hx hb hts i_X3 tyX3 tyX3_ok nmX3 hown hK hP hD hS 0 rfl rfl 1 (by decide) k_9 (fun _ h9 => h9) rfl hin2 rfl (by decide +kernel) rfl rfl (Nat.le_of_ble_eq_true rfl) dX3_init_9 (fun H locs hP hD hS => ?_)
  have hP : va_P (dC, dI) vwCl [(h0, .inr (3, [.int (nI 0), .ref q1, .null, .null, .null])), (q1, .inl (cI, 12, .inl (fun _ => nI 0)))] H := hP
  have hD : va_D A [(h0, .inr (3, [.int (nI 0), .ref q1, .null, .null, .null])), (q1, .inl (cI, 12, .inl (fun _ => nI 0)))] := hD
  refine lv_aload_n hx hb dX3_init_12 rfl (lv_at hl 0 rfl) ?_
  refine lv_bipush (v := nI 12) hx hb dX3_init_13 (by decide) ?_
  refine xr_newa (a0 := (12, .inl (fun _ => nI 0))) (N' := 12) (ty := .int) hx hb kA_int rfl hK hP hD hS hA1 0 rfl (fun _ => rfl) (nI_pos (by decide)) (nI_clamp (by decide)) (by decide) (Nat.le_of_ble_eq_true rfl) (Nat.le_of_ble_eq_true rfl) dX3_init_15 (fun q2 H hP hD hS => ?_)
  have hP : va_P (dC, dI) vwCl [(h0, .inr (3, [.int (nI 0), .ref q1, .null, .null, .null])), (q1, .inl (cI, 12, .inl (fun _ => nI 0))), (q2, .inl (cI, 12, .inl (fun _ => nI 0)))] H := hP
  have hD : va_D A [(h0, .inr (3, [.int (nI 0), .ref q1, .null, .null, .null])), (q1, .inl (cI, 12, .inl (fun _ => nI 0))), (q2, .inl (cI, 12, .inl (fun _ => nI 0)))] := hD
  refine va_putF (D := (dC, dI)) (ci := 3) (v := .ref q2) (ty := .array .int) (C := RX3) (T := TX3) (N := 5) hx hb hts i_X3 tyX3 tyX3_ok nmX3 hown hK hP hD hS 0 rfl rfl 2 (by decide) k_15 (fun _ h9 => h9) rfl hin2 rfl (by decide +kernel) rfl rfl (Nat.le_of_ble_eq_true rfl) dX3_init_17 (fun H locs hP hD hS => ?_)
  have hP : va_P (dC, dI) vwCl [(h0, .inr (3, [.int (nI 0), .ref q1, .ref q2, .null, .null])), (q1, .inl (cI, 12, .inl (fun _ => nI 0))), (q2, .inl (cI, 12, .inl (fun _ => nI 0)))] H := hP
  have hD : va_D A [(h0, .inr (3, [.int (nI 0), .ref q1, .ref q2, .null, .null])), (q1, .inl (cI, 12, .inl (fun _ => nI 0))), (q2, .inl (cI, 12, .inl (fun _ => nI 0)))] := hD
  refine lv_aload_n hx hb dX3_init_20 rfl (lv_at hl 0 rfl) ?_
  refine lv_bipush (v := nI 12) hx hb dX3_init_21 (by decide) ?_
  refine xr_newa (a0 := (12, .inl (fun _ => nI 0))) (N' := 12) (ty := .int) hx hb kA_int rfl hK hP hD hS hA1 0 rfl (fun _ => rfl) (nI_pos (by decide)) (nI_clamp (by decide)) (by decide) (Nat.le_of_ble_eq_true rfl) (Nat.le_of_ble_eq_true rfl) dX3_init_23 (fun q3 H hP hD hS => ?_)
  have hP : va_P (dC, dI) vwCl [(h0, .inr (3, [.int (nI 0), .ref q1, .ref q2, .null, .null])), (q1, .inl (cI, 12, .inl (fun _ => nI 0))), (q2, .inl (cI, 12, .inl (fun _ => nI 0))), (q3, .inl (cI, 12, .inl (fun _ => nI 0)))] H := hP
  have hD : va_D A [(h0, .inr (3, [.int (nI 0), .ref q1, .ref q2, .null, .null])), (q1, .inl (cI, 12, .inl (fun _ => nI 0))), (q2, .inl (cI, 12, .inl (fun _ => nI 0))), (q3, .inl (cI, 12, .inl (fun _ => nI 0)))] := hD
  refine va_putF (D := (dC, dI)) (ci := 3) (v := .ref q3) (ty := .array .int) (C := RX3) (T := TX3) (N := 5) hx hb hts i_X3 tyX3 tyX3_ok nmX3 hown hK hP hD hS 0 rfl rfl 3 (by decide) k_18 (fun _ h9 => h9) rfl hin2 rfl (by decide +kernel) rfl rfl (Nat.le_of_ble_eq_true rfl) dX3_init_25 (fun H locs hP hD hS => ?_)
  have hP : va_P (dC, dI) vwCl [(h0, .inr (3, [.int (nI 0), .ref q1, .ref q2, .ref q3, .null])), (q1, .inl (cI, 12, .inl (fun _ => nI 0))), (q2, .inl (cI, 12, .inl (fun _ => nI 0))), (q3, .inl (cI, 12, .inl (fun _ => nI 0)))] H := hP
  have hD : va_D A [(h0, .inr (3, [.int (nI 0), .ref q1, .ref q2, .ref q3, .null])), (q1, .inl (cI, 12, .inl (fun _ => nI 0))), (q2, .inl (cI, 12, .inl (fun _ => nI 0))), (q3, .inl (cI, 12, .inl (fun _ => nI 0)))] := hD
  refine lv_aload_n hx hb dX3_init_28 rfl (lv_at hl 0 rfl) ?_
  refine lv_bipush (v := nI 48) hx hb dX3_init_29 (by decide) ?_
  refine xr_newa (a0 := (48, .inl (fun _ => nI 0))) (N' := 48) (ty := .int) hx hb kA_int rfl hK hP hD hS hA1 0 rfl (fun _ => rfl) (nI_pos (by decide)) (nI_clamp (by decide)) (by decide) (Nat.le_of_ble_eq_true rfl) (Nat.le_of_ble_eq_true rfl) dX3_init_31 (fun q4 H hP hD hS => ?_)
  have hP : va_P (dC, dI) vwCl [(h0, .inr (3, [.int (nI 0), .ref q1, .ref q2, .ref q3, .null])), (q1, .inl (cI, 12, .inl (fun _ => nI 0))), (q2, .inl (cI, 12, .inl (fun _ => nI 0))), (q3, .inl (cI, 12, .inl (fun _ => nI 0))), (q4, .inl (cI, 48, .inl (fun _ => nI 0)))] H := hP
  have hD : va_D A [(h0, .inr (3, [.int (nI 0), .ref q1, .ref q2, .ref q3, .null])), (q1, .inl (cI, 12, .inl (fun _ => nI 0))), (q2, .inl (cI, 12, .inl (fun _ => nI 0))), (q3, .inl (cI, 12, .inl (fun _ => nI 0))), (q4, .inl (cI, 48, .inl (fun _ => nI 0)))] := hD
  refine va_putF (D := (dC, dI)) (ci := 3) (v := .ref q4) (ty := .array .int) (C := RX3) (T := TX3) (N := 5) hx hb hts i_X3 tyX3 tyX3_ok nmX3 hown hK hP hD hS 0 rfl rfl 4 (by decide) k_21 (fun _ h9 => h9) rfl hin2 rfl (by decide +kernel) rfl rfl (Nat.le_of_ble_eq_true rfl) dX3_init_33 (fun H locs hP hD hS => ?_)
  have hP : va_P (dC, dI) vwCl [(h0, .inr (3, [.int (nI 0), .ref q1, .ref q2, .ref q3, .ref q4])), (q1, .inl (cI, 12, .inl (fun _ => nI 0))), (q2, .inl (cI, 12, .inl (fun _ => nI 0))), (q3, .inl (cI, 12, .inl (fun _ => nI 0))), (q4, .inl (cI, 48, .inl (fun _ => nI 0)))] H := hP
  have hD : va_D A [(h0, .inr (3, [.int (nI 0), .ref q1, .ref q2, .ref q3, .ref q4])), (q1, .inl (cI, 12, .inl (fun _ => nI 0))), (q2, .inl (cI, 12, .inl (fun _ => nI 0))), (q3, .inl (cI, 12, .inl (fun _ => nI 0))), (q4, .inl (cI, 48, .inl (fun _ => nI 0)))] := hD
  refine xr_old (wc := [(h0, .inr (3, [.int (nI 0), .null, .null, .null, .null]))]) (by rw [← hA]; exact hS) (fun locs1 hl1 => ?_)
  exact W.vret hx hb hr (fun t ht hW => ⟨⟨_, rfl, ⟨q1, q2, q3, q4, rfl⟩, by rw [ht]; exact hP, by rw [← hA]; exact hD⟩, xS_fr (by rw [← hA]; exact hS) ht⟩) hl1 dX3_init_36
set_option maxHeartbeats 4000000 in
set_option maxRecDepth 100000 in
theorem c_X5_init (l : Launch) (dC : Nat → ClassId) (dI : Nat → Nat → Nat) (cI cF cC cZ cQ cS : ClassId) (h0 : Nat) : Met l yX5_init wsX5_init ({ frames := 1, cells := 4, slots := 40, locals := 12 }) (xCre (dC, dI) vwCl [.ref h0] (xtys cI cF cC cZ cQ cS) [(h0, .inr (5, [.int (nI 0), .int (nI 0), .null, .null, .null, .null]))]) (xCq (dC, dI) vwCl [(h0, .inr (5, [.int (nI 0), .int (nI 0), .null, .null, .null, .null]))] (fun w => ∃ q1 q2 q3 q4 : Nat, w = [(h0, .inr (5, [.int (nI 0), .int (nI 0), .ref q1, .ref q2, .ref q3, .ref q4])), (q1, .inl (cI, 10, .inl (fun _ => nI 0))), (q2, .inl (cI, 10, .inl (fun _ => nI 0))), (q3, .inl (cI, 10, .inl (fun _ => nI 0))), (q4, .inl (cI, 10, .inl (fun _ => nI 0)))])) 4 40 (va_B [(h0, .inr (5, [.int (nI 0), .int (nI 0), .null, .null, .null, .null]))]) := by
  refine Met.ofW (cc := cX5_init) (maxL := 1) (ret := none) (by decide) rfl ?_
  intro p e s m args below meth c s₁ B hml hv
  obtain ⟨rfl, hP, hK, hD0, hN, hAR⟩ := hv
  have hx := B.exec
  have hb := B.bytes
  have hr := B.returns
  have hts := atoms_spec (ws := wsX5_init) B.pre
  have hown : s.vm.findClass RX5 = some m.cls := findClass_of_methodNamed B.named
  have hin2 : meth.name = "<init>" := (name_of_methodNamed B.named B.method).1
  have hlocks := B.notSynchronized
  have kA_int := hts (Cond.arrayClass .int) (by decide +kernel)
  have k_9 := hts (Cond.fieldLink RX5 9 "ShelfStages$Log" "kind" "[I") (by decide +kernel)
  have k_15 := hts (Cond.fieldLink RX5 15 "ShelfStages$Log" "batch" "[I") (by decide +kernel)
  have k_18 := hts (Cond.fieldLink RX5 18 "ShelfStages$Log" "units" "[I") (by decide +kernel)
  have k_21 := hts (Cond.fieldLink RX5 21 "ShelfStages$Log" "day" "[I") (by decide +kernel)
  have i_X5 : ∀ w ∈ wsX50, w ∈ wsX5_init := by decide +kernel
  obtain ⟨A, hA⟩ : ∃ A, A = va_A [(h0, .inr (5, [.int (nI 0), .int (nI 0), .null, .null, .null, .null]))] s.heap.size := ⟨_, rfl⟩
  have hA1 : ∀ q, s.heap.size ≤ q → A q := fun q h => by rw [hA]; exact Or.inr h
  have hD : va_D A [(h0, .inr (5, [.int (nI 0), .int (nI 0), .null, .null, .null, .null]))] := by rw [hA]; exact hD0.self
  have hS : va_S A s.heap s.heap [] := va_S.rf
  have hl := lv_entry ([.ref h0]) (n := 1) (Nat.le_of_ble_eq_true rfl)
  rw [lg_entry_eq]
  generalize (lg_sl ([.ref h0]) ++ List.replicate (1 - (lg_sl ([.ref h0])).length) Slot.unset).toArray = ls at hl ⊢
  have hl : lv_has ls 1 [(0, .ref h0)] := hl
  refine lv_aload_n hx hb dX5_init_0 rfl (lv_at hl 0 rfl) ?_
  refine W.objInit hx hb hown (hts (.methodLink RX5 3 objectInit) (by decide +kernel)) (hts (.instanceMethod objectInit) (by decide +kernel)) (hts (.code objectInit ⟨#[0xb1]⟩ 1 none) (List.mem_of_getElem? (i := 3) rfl)) rfl (by rw [hml]; exact hl.1) rfl dX5_init_1 (Nat.le_of_ble_eq_true rfl) (Nat.le_of_ble_eq_true rfl) ?_
  refine lv_aload_n hx hb dX5_init_4 rfl (lv_at hl 0 rfl) ?_
  refine lv_bipush (v := nI 10) hx hb dX5_init_5 (by decide) ?_
  refine xr_newa (a0 := (10, .inl (fun _ => nI 0))) (N' := 10) (ty := .int) hx hb kA_int rfl hK hP hD hS hA1 0 rfl (fun _ => rfl) (nI_pos (by decide)) (nI_clamp (by decide)) (by decide) (Nat.le_of_ble_eq_true rfl) (Nat.le_of_ble_eq_true rfl) dX5_init_7 (fun q1 H hP hD hS => ?_)
  have hP : va_P (dC, dI) vwCl [(h0, .inr (5, [.int (nI 0), .int (nI 0), .null, .null, .null, .null])), (q1, .inl (cI, 10, .inl (fun _ => nI 0)))] H := hP
  have hD : va_D A [(h0, .inr (5, [.int (nI 0), .int (nI 0), .null, .null, .null, .null])), (q1, .inl (cI, 10, .inl (fun _ => nI 0)))] := hD
  refine va_putF (D := (dC, dI)) (ci := 5) (v := .ref q1) (ty := .array .int) (C := RX5) (T := TX5) (N := 6) hx hb hts i_X5 tyX5 tyX5_ok nmX5 hown hK hP hD hS 0 rfl rfl 2 (by decide) k_9 (fun _ h9 => h9) rfl hin2 rfl (by decide +kernel) rfl rfl (Nat.le_of_ble_eq_true rfl) dX5_init_9 (fun H locs hP hD hS => ?_)
  have hP : va_P (dC, dI) vwCl [(h0, .inr (5, [.int (nI 0), .int (nI 0), .ref q1, .null, .null, .null])), (q1, .inl (cI, 10, .inl (fun _ => nI 0)))] H := hP
  have hD : va_D A [(h0, .inr (5, [.int (nI 0), .int (nI 0), .ref q1, .null, .null, .null])), (q1, .inl (cI, 10, .inl (fun _ => nI 0)))] := hD
  refine lv_aload_n hx hb dX5_init_12 rfl (lv_at hl 0 rfl) ?_
  refine lv_bipush (v := nI 10) hx hb dX5_init_13 (by decide) ?_
  refine xr_newa (a0 := (10, .inl (fun _ => nI 0))) (N' := 10) (ty := .int) hx hb kA_int rfl hK hP hD hS hA1 0 rfl (fun _ => rfl) (nI_pos (by decide)) (nI_clamp (by decide)) (by decide) (Nat.le_of_ble_eq_true rfl) (Nat.le_of_ble_eq_true rfl) dX5_init_15 (fun q2 H hP hD hS => ?_)
  have hP : va_P (dC, dI) vwCl [(h0, .inr (5, [.int (nI 0), .int (nI 0), .ref q1, .null, .null, .null])), (q1, .inl (cI, 10, .inl (fun _ => nI 0))), (q2, .inl (cI, 10, .inl (fun _ => nI 0)))] H := hP
  have hD : va_D A [(h0, .inr (5, [.int (nI 0), .int (nI 0), .ref q1, .null, .null, .null])), (q1, .inl (cI, 10, .inl (fun _ => nI 0))), (q2, .inl (cI, 10, .inl (fun _ => nI 0)))] := hD
  refine va_putF (D := (dC, dI)) (ci := 5) (v := .ref q2) (ty := .array .int) (C := RX5) (T := TX5) (N := 6) hx hb hts i_X5 tyX5 tyX5_ok nmX5 hown hK hP hD hS 0 rfl rfl 3 (by decide) k_15 (fun _ h9 => h9) rfl hin2 rfl (by decide +kernel) rfl rfl (Nat.le_of_ble_eq_true rfl) dX5_init_17 (fun H locs hP hD hS => ?_)
  have hP : va_P (dC, dI) vwCl [(h0, .inr (5, [.int (nI 0), .int (nI 0), .ref q1, .ref q2, .null, .null])), (q1, .inl (cI, 10, .inl (fun _ => nI 0))), (q2, .inl (cI, 10, .inl (fun _ => nI 0)))] H := hP
  have hD : va_D A [(h0, .inr (5, [.int (nI 0), .int (nI 0), .ref q1, .ref q2, .null, .null])), (q1, .inl (cI, 10, .inl (fun _ => nI 0))), (q2, .inl (cI, 10, .inl (fun _ => nI 0)))] := hD
  refine lv_aload_n hx hb dX5_init_20 rfl (lv_at hl 0 rfl) ?_
  refine lv_bipush (v := nI 10) hx hb dX5_init_21 (by decide) ?_
  refine xr_newa (a0 := (10, .inl (fun _ => nI 0))) (N' := 10) (ty := .int) hx hb kA_int rfl hK hP hD hS hA1 0 rfl (fun _ => rfl) (nI_pos (by decide)) (nI_clamp (by decide)) (by decide) (Nat.le_of_ble_eq_true rfl) (Nat.le_of_ble_eq_true rfl) dX5_init_23 (fun q3 H hP hD hS => ?_)
  have hP : va_P (dC, dI) vwCl [(h0, .inr (5, [.int (nI 0), .int (nI 0), .ref q1, .ref q2, .null, .null])), (q1, .inl (cI, 10, .inl (fun _ => nI 0))), (q2, .inl (cI, 10, .inl (fun _ => nI 0))), (q3, .inl (cI, 10, .inl (fun _ => nI 0)))] H := hP
  have hD : va_D A [(h0, .inr (5, [.int (nI 0), .int (nI 0), .ref q1, .ref q2, .null, .null])), (q1, .inl (cI, 10, .inl (fun _ => nI 0))), (q2, .inl (cI, 10, .inl (fun _ => nI 0))), (q3, .inl (cI, 10, .inl (fun _ => nI 0)))] := hD
  refine va_putF (D := (dC, dI)) (ci := 5) (v := .ref q3) (ty := .array .int) (C := RX5) (T := TX5) (N := 6) hx hb hts i_X5 tyX5 tyX5_ok nmX5 hown hK hP hD hS 0 rfl rfl 4 (by decide) k_18 (fun _ h9 => h9) rfl hin2 rfl (by decide +kernel) rfl rfl (Nat.le_of_ble_eq_true rfl) dX5_init_25 (fun H locs hP hD hS => ?_)
  have hP : va_P (dC, dI) vwCl [(h0, .inr (5, [.int (nI 0), .int (nI 0), .ref q1, .ref q2, .ref q3, .null])), (q1, .inl (cI, 10, .inl (fun _ => nI 0))), (q2, .inl (cI, 10, .inl (fun _ => nI 0))), (q3, .inl (cI, 10, .inl (fun _ => nI 0)))] H := hP
  have hD : va_D A [(h0, .inr (5, [.int (nI 0), .int (nI 0), .ref q1, .ref q2, .ref q3, .null])), (q1, .inl (cI, 10, .inl (fun _ => nI 0))), (q2, .inl (cI, 10, .inl (fun _ => nI 0))), (q3, .inl (cI, 10, .inl (fun _ => nI 0)))] := hD
  refine lv_aload_n hx hb dX5_init_28 rfl (lv_at hl 0 rfl) ?_
  refine lv_bipush (v := nI 10) hx hb dX5_init_29 (by decide) ?_
  refine xr_newa (a0 := (10, .inl (fun _ => nI 0))) (N' := 10) (ty := .int) hx hb kA_int rfl hK hP hD hS hA1 0 rfl (fun _ => rfl) (nI_pos (by decide)) (nI_clamp (by decide)) (by decide) (Nat.le_of_ble_eq_true rfl) (Nat.le_of_ble_eq_true rfl) dX5_init_31 (fun q4 H hP hD hS => ?_)
  have hP : va_P (dC, dI) vwCl [(h0, .inr (5, [.int (nI 0), .int (nI 0), .ref q1, .ref q2, .ref q3, .null])), (q1, .inl (cI, 10, .inl (fun _ => nI 0))), (q2, .inl (cI, 10, .inl (fun _ => nI 0))), (q3, .inl (cI, 10, .inl (fun _ => nI 0))), (q4, .inl (cI, 10, .inl (fun _ => nI 0)))] H := hP
  have hD : va_D A [(h0, .inr (5, [.int (nI 0), .int (nI 0), .ref q1, .ref q2, .ref q3, .null])), (q1, .inl (cI, 10, .inl (fun _ => nI 0))), (q2, .inl (cI, 10, .inl (fun _ => nI 0))), (q3, .inl (cI, 10, .inl (fun _ => nI 0))), (q4, .inl (cI, 10, .inl (fun _ => nI 0)))] := hD
  refine va_putF (D := (dC, dI)) (ci := 5) (v := .ref q4) (ty := .array .int) (C := RX5) (T := TX5) (N := 6) hx hb hts i_X5 tyX5 tyX5_ok nmX5 hown hK hP hD hS 0 rfl rfl 5 (by decide) k_21 (fun _ h9 => h9) rfl hin2 rfl (by decide +kernel) rfl rfl (Nat.le_of_ble_eq_true rfl) dX5_init_33 (fun H locs hP hD hS => ?_)
  have hP : va_P (dC, dI) vwCl [(h0, .inr (5, [.int (nI 0), .int (nI 0), .ref q1, .ref q2, .ref q3, .ref q4])), (q1, .inl (cI, 10, .inl (fun _ => nI 0))), (q2, .inl (cI, 10, .inl (fun _ => nI 0))), (q3, .inl (cI, 10, .inl (fun _ => nI 0))), (q4, .inl (cI, 10, .inl (fun _ => nI 0)))] H := hP
  have hD : va_D A [(h0, .inr (5, [.int (nI 0), .int (nI 0), .ref q1, .ref q2, .ref q3, .ref q4])), (q1, .inl (cI, 10, .inl (fun _ => nI 0))), (q2, .inl (cI, 10, .inl (fun _ => nI 0))), (q3, .inl (cI, 10, .inl (fun _ => nI 0))), (q4, .inl (cI, 10, .inl (fun _ => nI 0)))] := hD
  refine xr_old (wc := [(h0, .inr (5, [.int (nI 0), .int (nI 0), .null, .null, .null, .null]))]) (by rw [← hA]; exact hS) (fun locs1 hl1 => ?_)
  exact W.vret hx hb hr (fun t ht hW => ⟨⟨_, rfl, ⟨q1, q2, q3, q4, rfl⟩, by rw [ht]; exact hP, by rw [← hA]; exact hD⟩, xS_fr (by rw [← hA]; exact hS) ht⟩) hl1 dX5_init_36
set_option maxHeartbeats 4000000 in
set_option maxRecDepth 100000 in
theorem c_X6_init (l : Launch) (dC : Nat → ClassId) (dI : Nat → Nat → Nat) (cI cF cC cZ cQ cS : ClassId) (h0 : Nat) : Met l yX6_init wsX6_init ({ frames := 1, cells := 12, slots := 440, locals := 12 }) (xCre (dC, dI) vwCl [.ref h0] (xtys cI cF cC cZ cQ cS) [(h0, .inr (6, [.int (nI 0), .int (nI 0), .null, .null, .null, .null, .null, .null, .null, .null, .null, .null, .null, .null]))]) (xCq (dC, dI) vwCl [(h0, .inr (6, [.int (nI 0), .int (nI 0), .null, .null, .null, .null, .null, .null, .null, .null, .null, .null, .null, .null]))] (fun w => ∃ q1 q2 q3 q4 q5 q6 q7 q8 q9 q10 q11 q12 : Nat, w = [(h0, .inr (6, [.int (nI 0), .int (nI 0), .ref q1, .ref q2, .ref q3, .ref q4, .ref q5, .ref q6, .ref q7, .ref q8, .ref q9, .ref q10, .ref q11, .ref q12])), (q1, .inl (cI, 30, .inl (fun _ => nI 0))), (q2, .inl (cI, 30, .inl (fun _ => nI 0))), (q3, .inl (cI, 30, .inl (fun _ => nI 0))), (q4, .inl (cI, 30, .inl (fun _ => nI 0))), (q5, .inl (cI, 30, .inl (fun _ => nI 0))), (q6, .inl (cI, 30, .inl (fun _ => nI 0))), (q7, .inl (cI, 30, .inl (fun _ => nI 0))), (q8, .inl (cI, 30, .inl (fun _ => nI 0))), (q9, .inl (cI, 30, .inl (fun _ => nI 0))), (q10, .inl (cI, 30, .inl (fun _ => nI 0))), (q11, .inl (cI, 70, .inl (fun _ => nI 0))), (q12, .inl (cI, 70, .inl (fun _ => nI 0)))])) 12 440 (va_B [(h0, .inr (6, [.int (nI 0), .int (nI 0), .null, .null, .null, .null, .null, .null, .null, .null, .null, .null, .null, .null]))]) := by
  refine Met.ofW (cc := cX6_init) (maxL := 1) (ret := none) (by decide) rfl ?_
  intro p e s m args below meth c s₁ B hml hv
  obtain ⟨rfl, hP, hK, hD0, hN, hAR⟩ := hv
  have hx := B.exec
  have hb := B.bytes
  have hr := B.returns
  have hts := atoms_spec (ws := wsX6_init) B.pre
  have hown : s.vm.findClass RX6 = some m.cls := findClass_of_methodNamed B.named
  have hin2 : meth.name = "<init>" := (name_of_methodNamed B.named B.method).1
  have hlocks := B.notSynchronized
  have kA_int := hts (Cond.arrayClass .int) (by decide +kernel)
  have k_9 := hts (Cond.fieldLink RX6 9 "ShelfStages$Orders" "good" "[I") (by decide +kernel)
  have k_15 := hts (Cond.fieldLink RX6 15 "ShelfStages$Orders" "wanted" "[I") (by decide +kernel)
  have k_18 := hts (Cond.fieldLink RX6 18 "ShelfStages$Orders" "got" "[I") (by decide +kernel)
  have k_21 := hts (Cond.fieldLink RX6 21 "ShelfStages$Orders" "replaced" "[I") (by decide +kernel)
  have k_24 := hts (Cond.fieldLink RX6 24 "ShelfStages$Orders" "least" "[I") (by decide +kernel)
  have k_27 := hts (Cond.fieldLink RX6 27 "ShelfStages$Orders" "accepts" "[I") (by decide +kernel)
  have k_30 := hts (Cond.fieldLink RX6 30 "ShelfStages$Orders" "parts" "[I") (by decide +kernel)
  have k_33 := hts (Cond.fieldLink RX6 33 "ShelfStages$Orders" "due" "[I") (by decide +kernel)
  have k_36 := hts (Cond.fieldLink RX6 36 "ShelfStages$Orders" "day" "[I") (by decide +kernel)
  have k_39 := hts (Cond.fieldLink RX6 39 "ShelfStages$Orders" "firstTake" "[I") (by decide +kernel)
  have k_42 := hts (Cond.fieldLink RX6 42 "ShelfStages$Orders" "takeBatch" "[I") (by decide +kernel)
  have k_45 := hts (Cond.fieldLink RX6 45 "ShelfStages$Orders" "takeUnits" "[I") (by decide +kernel)
  have i_X6 : ∀ w ∈ wsX60, w ∈ wsX6_init := by decide +kernel
  obtain ⟨A, hA⟩ : ∃ A, A = va_A [(h0, .inr (6, [.int (nI 0), .int (nI 0), .null, .null, .null, .null, .null, .null, .null, .null, .null, .null, .null, .null]))] s.heap.size := ⟨_, rfl⟩
  have hA1 : ∀ q, s.heap.size ≤ q → A q := fun q h => by rw [hA]; exact Or.inr h
  have hD : va_D A [(h0, .inr (6, [.int (nI 0), .int (nI 0), .null, .null, .null, .null, .null, .null, .null, .null, .null, .null, .null, .null]))] := by rw [hA]; exact hD0.self
  have hS : va_S A s.heap s.heap [] := va_S.rf
  have hl := lv_entry ([.ref h0]) (n := 1) (Nat.le_of_ble_eq_true rfl)
  rw [lg_entry_eq]
  generalize (lg_sl ([.ref h0]) ++ List.replicate (1 - (lg_sl ([.ref h0])).length) Slot.unset).toArray = ls at hl ⊢
  have hl : lv_has ls 1 [(0, .ref h0)] := hl
  refine lv_aload_n hx hb dX6_init_0 rfl (lv_at hl 0 rfl) ?_
  refine W.objInit hx hb hown (hts (.methodLink RX6 3 objectInit) (by decide +kernel)) (hts (.instanceMethod objectInit) (by decide +kernel)) (hts (.code objectInit ⟨#[0xb1]⟩ 1 none) (List.mem_of_getElem? (i := 3) rfl)) rfl (by rw [hml]; exact hl.1) rfl dX6_init_1 (Nat.le_of_ble_eq_true rfl) (Nat.le_of_ble_eq_true rfl) ?_
  refine lv_aload_n hx hb dX6_init_4 rfl (lv_at hl 0 rfl) ?_
  refine lv_bipush (v := nI 30) hx hb dX6_init_5 (by decide) ?_
  refine xr_newa (a0 := (30, .inl (fun _ => nI 0))) (N' := 30) (ty := .int) hx hb kA_int rfl hK hP hD hS hA1 0 rfl (fun _ => rfl) (nI_pos (by decide)) (nI_clamp (by decide)) (by decide) (Nat.le_of_ble_eq_true rfl) (Nat.le_of_ble_eq_true rfl) dX6_init_7 (fun q1 H hP hD hS => ?_)
  have hP : va_P (dC, dI) vwCl [(h0, .inr (6, [.int (nI 0), .int (nI 0), .null, .null, .null, .null, .null, .null, .null, .null, .null, .null, .null, .null])), (q1, .inl (cI, 30, .inl (fun _ => nI 0)))] H := hP
  have hD : va_D A [(h0, .inr (6, [.int (nI 0), .int (nI 0), .null, .null, .null, .null, .null, .null, .null, .null, .null, .null, .null, .null])), (q1, .inl (cI, 30, .inl (fun _ => nI 0)))] := hD
  refine va_putF (D := (dC, dI)) (ci := 6) (v := .ref q1) (ty := .array .int) (C := RX6) (T := TX6) (N := 14) hx hb hts i_X6 tyX6 tyX6_ok nmX6 hown hK hP hD hS 0 rfl rfl 2 (by decide) k_9 (fun _ h9 => h9) rfl hin2 rfl (by decide +kernel) rfl rfl (Nat.le_of_ble_eq_true rfl) dX6_init_9 (fun H locs hP hD hS => ?_)
  have hP : va_P (dC, dI) vwCl [(h0, .inr (6, [.int (nI 0), .int (nI 0), .ref q1, .null, .null, .null, .null, .null, .null, .null, .null, .null, .null, .null])), (q1, .inl (cI, 30, .inl (fun _ => nI 0)))] H := hP
  have hD : va_D A [(h0, .inr (6, [.int (nI 0), .int (nI 0), .ref q1, .null, .null, .null, .null, .null, .null, .null, .null, .null, .null, .null])), (q1, .inl (cI, 30, .inl (fun _ => nI 0)))] := hD
  refine lv_aload_n hx hb dX6_init_12 rfl (lv_at hl 0 rfl) ?_
  refine lv_bipush (v := nI 30) hx hb dX6_init_13 (by decide) ?_
  refine xr_newa (a0 := (30, .inl (fun _ => nI 0))) (N' := 30) (ty := .int) hx hb kA_int rfl hK hP hD hS hA1 0 rfl (fun _ => rfl) (nI_pos (by decide)) (nI_clamp (by decide)) (by decide) (Nat.le_of_ble_eq_true rfl) (Nat.le_of_ble_eq_true rfl) dX6_init_15 (fun q2 H hP hD hS => ?_)
  have hP : va_P (dC, dI) vwCl [(h0, .inr (6, [.int (nI 0), .int (nI 0), .ref q1, .null, .null, .null, .null, .null, .null, .null, .null, .null, .null, .null])), (q1, .inl (cI, 30, .inl (fun _ => nI 0))), (q2, .inl (cI, 30, .inl (fun _ => nI 0)))] H := hP
  have hD : va_D A [(h0, .inr (6, [.int (nI 0), .int (nI 0), .ref q1, .null, .null, .null, .null, .null, .null, .null, .null, .null, .null, .null])), (q1, .inl (cI, 30, .inl (fun _ => nI 0))), (q2, .inl (cI, 30, .inl (fun _ => nI 0)))] := hD
  refine va_putF (D := (dC, dI)) (ci := 6) (v := .ref q2) (ty := .array .int) (C := RX6) (T := TX6) (N := 14) hx hb hts i_X6 tyX6 tyX6_ok nmX6 hown hK hP hD hS 0 rfl rfl 3 (by decide) k_15 (fun _ h9 => h9) rfl hin2 rfl (by decide +kernel) rfl rfl (Nat.le_of_ble_eq_true rfl) dX6_init_17 (fun H locs hP hD hS => ?_)
  have hP : va_P (dC, dI) vwCl [(h0, .inr (6, [.int (nI 0), .int (nI 0), .ref q1, .ref q2, .null, .null, .null, .null, .null, .null, .null, .null, .null, .null])), (q1, .inl (cI, 30, .inl (fun _ => nI 0))), (q2, .inl (cI, 30, .inl (fun _ => nI 0)))] H := hP
  have hD : va_D A [(h0, .inr (6, [.int (nI 0), .int (nI 0), .ref q1, .ref q2, .null, .null, .null, .null, .null, .null, .null, .null, .null, .null])), (q1, .inl (cI, 30, .inl (fun _ => nI 0))), (q2, .inl (cI, 30, .inl (fun _ => nI 0)))] := hD
  refine lv_aload_n hx hb dX6_init_20 rfl (lv_at hl 0 rfl) ?_
  refine lv_bipush (v := nI 30) hx hb dX6_init_21 (by decide) ?_
  refine xr_newa (a0 := (30, .inl (fun _ => nI 0))) (N' := 30) (ty := .int) hx hb kA_int rfl hK hP hD hS hA1 0 rfl (fun _ => rfl) (nI_pos (by decide)) (nI_clamp (by decide)) (by decide) (Nat.le_of_ble_eq_true rfl) (Nat.le_of_ble_eq_true rfl) dX6_init_23 (fun q3 H hP hD hS => ?_)
  have hP : va_P (dC, dI) vwCl [(h0, .inr (6, [.int (nI 0), .int (nI 0), .ref q1, .ref q2, .null, .null, .null, .null, .null, .null, .null, .null, .null, .null])), (q1, .inl (cI, 30, .inl (fun _ => nI 0))), (q2, .inl (cI, 30, .inl (fun _ => nI 0))), (q3, .inl (cI, 30, .inl (fun _ => nI 0)))] H := hP
  have hD : va_D A [(h0, .inr (6, [.int (nI 0), .int (nI 0), .ref q1, .ref q2, .null, .null, .null, .null, .null, .null, .null, .null, .null, .null])), (q1, .inl (cI, 30, .inl (fun _ => nI 0))), (q2, .inl (cI, 30, .inl (fun _ => nI 0))), (q3, .inl (cI, 30, .inl (fun _ => nI 0)))] := hD
  refine va_putF (D := (dC, dI)) (ci := 6) (v := .ref q3) (ty := .array .int) (C := RX6) (T := TX6) (N := 14) hx hb hts i_X6 tyX6 tyX6_ok nmX6 hown hK hP hD hS 0 rfl rfl 4 (by decide) k_18 (fun _ h9 => h9) rfl hin2 rfl (by decide +kernel) rfl rfl (Nat.le_of_ble_eq_true rfl) dX6_init_25 (fun H locs hP hD hS => ?_)
  have hP : va_P (dC, dI) vwCl [(h0, .inr (6, [.int (nI 0), .int (nI 0), .ref q1, .ref q2, .ref q3, .null, .null, .null, .null, .null, .null, .null, .null, .null])), (q1, .inl (cI, 30, .inl (fun _ => nI 0))), (q2, .inl (cI, 30, .inl (fun _ => nI 0))), (q3, .inl (cI, 30, .inl (fun _ => nI 0)))] H := hP
  have hD : va_D A [(h0, .inr (6, [.int (nI 0), .int (nI 0), .ref q1, .ref q2, .ref q3, .null, .null, .null, .null, .null, .null, .null, .null, .null])), (q1, .inl (cI, 30, .inl (fun _ => nI 0))), (q2, .inl (cI, 30, .inl (fun _ => nI 0))), (q3, .inl (cI, 30, .inl (fun _ => nI 0)))] := hD
  refine lv_aload_n hx hb dX6_init_28 rfl (lv_at hl 0 rfl) ?_
  refine lv_bipush (v := nI 30) hx hb dX6_init_29 (by decide) ?_
  refine xr_newa (a0 := (30, .inl (fun _ => nI 0))) (N' := 30) (ty := .int) hx hb kA_int rfl hK hP hD hS hA1 0 rfl (fun _ => rfl) (nI_pos (by decide)) (nI_clamp (by decide)) (by decide) (Nat.le_of_ble_eq_true rfl) (Nat.le_of_ble_eq_true rfl) dX6_init_31 (fun q4 H hP hD hS => ?_)
  have hP : va_P (dC, dI) vwCl [(h0, .inr (6, [.int (nI 0), .int (nI 0), .ref q1, .ref q2, .ref q3, .null, .null, .null, .null, .null, .null, .null, .null, .null])), (q1, .inl (cI, 30, .inl (fun _ => nI 0))), (q2, .inl (cI, 30, .inl (fun _ => nI 0))), (q3, .inl (cI, 30, .inl (fun _ => nI 0))), (q4, .inl (cI, 30, .inl (fun _ => nI 0)))] H := hP
  have hD : va_D A [(h0, .inr (6, [.int (nI 0), .int (nI 0), .ref q1, .ref q2, .ref q3, .null, .null, .null, .null, .null, .null, .null, .null, .null])), (q1, .inl (cI, 30, .inl (fun _ => nI 0))), (q2, .inl (cI, 30, .inl (fun _ => nI 0))), (q3, .inl (cI, 30, .inl (fun _ => nI 0))), (q4, .inl (cI, 30, .inl (fun _ => nI 0)))] := hD
  refine va_putF (D := (dC, dI)) (ci := 6) (v := .ref q4) (ty := .array .int) (C := RX6) (T := TX6) (N := 14) hx hb hts i_X6 tyX6 tyX6_ok nmX6 hown hK hP hD hS 0 rfl rfl 5 (by decide) k_21 (fun _ h9 => h9) rfl hin2 rfl (by decide +kernel) rfl rfl (Nat.le_of_ble_eq_true rfl) dX6_init_33 (fun H locs hP hD hS => ?_)
  have hP : va_P (dC, dI) vwCl [(h0, .inr (6, [.int (nI 0), .int (nI 0), .ref q1, .ref q2, .ref q3, .ref q4, .null, .null, .null, .null, .null, .null, .null, .null])), (q1, .inl (cI, 30, .inl (fun _ => nI 0))), (q2, .inl (cI, 30, .inl (fun _ => nI 0))), (q3, .inl (cI, 30, .inl (fun _ => nI 0))), (q4, .inl (cI, 30, .inl (fun _ => nI 0)))] H := hP
  have hD : va_D A [(h0, .inr (6, [.int (nI 0), .int (nI 0), .ref q1, .ref q2, .ref q3, .ref q4, .null, .null, .null, .null, .null, .null, .null, .null])), (q1, .inl (cI, 30, .inl (fun _ => nI 0))), (q2, .inl (cI, 30, .inl (fun _ => nI 0))), (q3, .inl (cI, 30, .inl (fun _ => nI 0))), (q4, .inl (cI, 30, .inl (fun _ => nI 0)))] := hD
  refine lv_aload_n hx hb dX6_init_36 rfl (lv_at hl 0 rfl) ?_
  refine lv_bipush (v := nI 30) hx hb dX6_init_37 (by decide) ?_
  refine xr_newa (a0 := (30, .inl (fun _ => nI 0))) (N' := 30) (ty := .int) hx hb kA_int rfl hK hP hD hS hA1 0 rfl (fun _ => rfl) (nI_pos (by decide)) (nI_clamp (by decide)) (by decide) (Nat.le_of_ble_eq_true rfl) (Nat.le_of_ble_eq_true rfl) dX6_init_39 (fun q5 H hP hD hS => ?_)
  have hP : va_P (dC, dI) vwCl [(h0, .inr (6, [.int (nI 0), .int (nI 0), .ref q1, .ref q2, .ref q3, .ref q4, .null, .null, .null, .null, .null, .null, .null, .null])), (q1, .inl (cI, 30, .inl (fun _ => nI 0))), (q2, .inl (cI, 30, .inl (fun _ => nI 0))), (q3, .inl (cI, 30, .inl (fun _ => nI 0))), (q4, .inl (cI, 30, .inl (fun _ => nI 0))), (q5, .inl (cI, 30, .inl (fun _ => nI 0)))] H := hP
  have hD : va_D A [(h0, .inr (6, [.int (nI 0), .int (nI 0), .ref q1, .ref q2, .ref q3, .ref q4, .null, .null, .null, .null, .null, .null, .null, .null])), (q1, .inl (cI, 30, .inl (fun _ => nI 0))), (q2, .inl (cI, 30, .inl (fun _ => nI 0))), (q3, .inl (cI, 30, .inl (fun _ => nI 0))), (q4, .inl (cI, 30, .inl (fun _ => nI 0))), (q5, .inl (cI, 30, .inl (fun _ => nI 0)))] := hD
  refine va_putF (D := (dC, dI)) (ci := 6) (v := .ref q5) (ty := .array .int) (C := RX6) (T := TX6) (N := 14) hx hb hts i_X6 tyX6 tyX6_ok nmX6 hown hK hP hD hS 0 rfl rfl 6 (by decide) k_24 (fun _ h9 => h9) rfl hin2 rfl (by decide +kernel) rfl rfl (Nat.le_of_ble_eq_true rfl) dX6_init_41 (fun H locs hP hD hS => ?_)
  have hP : va_P (dC, dI) vwCl [(h0, .inr (6, [.int (nI 0), .int (nI 0), .ref q1, .ref q2, .ref q3, .ref q4, .ref q5, .null, .null, .null, .null, .null, .null, .null])), (q1, .inl (cI, 30, .inl (fun _ => nI 0))), (q2, .inl (cI, 30, .inl (fun _ => nI 0))), (q3, .inl (cI, 30, .inl (fun _ => nI 0))), (q4, .inl (cI, 30, .inl (fun _ => nI 0))), (q5, .inl (cI, 30, .inl (fun _ => nI 0)))] H := hP
  have hD : va_D A [(h0, .inr (6, [.int (nI 0), .int (nI 0), .ref q1, .ref q2, .ref q3, .ref q4, .ref q5, .null, .null, .null, .null, .null, .null, .null])), (q1, .inl (cI, 30, .inl (fun _ => nI 0))), (q2, .inl (cI, 30, .inl (fun _ => nI 0))), (q3, .inl (cI, 30, .inl (fun _ => nI 0))), (q4, .inl (cI, 30, .inl (fun _ => nI 0))), (q5, .inl (cI, 30, .inl (fun _ => nI 0)))] := hD
  refine lv_aload_n hx hb dX6_init_44 rfl (lv_at hl 0 rfl) ?_
  refine lv_bipush (v := nI 30) hx hb dX6_init_45 (by decide) ?_
  refine xr_newa (a0 := (30, .inl (fun _ => nI 0))) (N' := 30) (ty := .int) hx hb kA_int rfl hK hP hD hS hA1 0 rfl (fun _ => rfl) (nI_pos (by decide)) (nI_clamp (by decide)) (by decide) (Nat.le_of_ble_eq_true rfl) (Nat.le_of_ble_eq_true rfl) dX6_init_47 (fun q6 H hP hD hS => ?_)
  have hP : va_P (dC, dI) vwCl [(h0, .inr (6, [.int (nI 0), .int (nI 0), .ref q1, .ref q2, .ref q3, .ref q4, .ref q5, .null, .null, .null, .null, .null, .null, .null])), (q1, .inl (cI, 30, .inl (fun _ => nI 0))), (q2, .inl (cI, 30, .inl (fun _ => nI 0))), (q3, .inl (cI, 30, .inl (fun _ => nI 0))), (q4, .inl (cI, 30, .inl (fun _ => nI 0))), (q5, .inl (cI, 30, .inl (fun _ => nI 0))), (q6, .inl (cI, 30, .inl (fun _ => nI 0)))] H := hP
  have hD : va_D A [(h0, .inr (6, [.int (nI 0), .int (nI 0), .ref q1, .ref q2, .ref q3, .ref q4, .ref q5, .null, .null, .null, .null, .null, .null, .null])), (q1, .inl (cI, 30, .inl (fun _ => nI 0))), (q2, .inl (cI, 30, .inl (fun _ => nI 0))), (q3, .inl (cI, 30, .inl (fun _ => nI 0))), (q4, .inl (cI, 30, .inl (fun _ => nI 0))), (q5, .inl (cI, 30, .inl (fun _ => nI 0))), (q6, .inl (cI, 30, .inl (fun _ => nI 0)))] := hD
  refine va_putF (D := (dC, dI)) (ci := 6) (v := .ref q6) (ty := .array .int) (C := RX6) (T := TX6) (N := 14) hx hb hts i_X6 tyX6 tyX6_ok nmX6 hown hK hP hD hS 0 rfl rfl 7 (by decide) k_27 (fun _ h9 => h9) rfl hin2 rfl (by decide +kernel) rfl rfl (Nat.le_of_ble_eq_true rfl) dX6_init_49 (fun H locs hP hD hS => ?_)
  have hP : va_P (dC, dI) vwCl [(h0, .inr (6, [.int (nI 0), .int (nI 0), .ref q1, .ref q2, .ref q3, .ref q4, .ref q5, .ref q6, .null, .null, .null, .null, .null, .null])), (q1, .inl (cI, 30, .inl (fun _ => nI 0))), (q2, .inl (cI, 30, .inl (fun _ => nI 0))), (q3, .inl (cI, 30, .inl (fun _ => nI 0))), (q4, .inl (cI, 30, .inl (fun _ => nI 0))), (q5, .inl (cI, 30, .inl (fun _ => nI 0))), (q6, .inl (cI, 30, .inl (fun _ => nI 0)))] H := hP
  have hD : va_D A [(h0, .inr (6, [.int (nI 0), .int (nI 0), .ref q1, .ref q2, .ref q3, .ref q4, .ref q5, .ref q6, .null, .null, .null, .null, .null, .null])), (q1, .inl (cI, 30, .inl (fun _ => nI 0))), (q2, .inl (cI, 30, .inl (fun _ => nI 0))), (q3, .inl (cI, 30, .inl (fun _ => nI 0))), (q4, .inl (cI, 30, .inl (fun _ => nI 0))), (q5, .inl (cI, 30, .inl (fun _ => nI 0))), (q6, .inl (cI, 30, .inl (fun _ => nI 0)))] := hD
  refine lv_aload_n hx hb dX6_init_52 rfl (lv_at hl 0 rfl) ?_
  refine lv_bipush (v := nI 30) hx hb dX6_init_53 (by decide) ?_
  refine xr_newa (a0 := (30, .inl (fun _ => nI 0))) (N' := 30) (ty := .int) hx hb kA_int rfl hK hP hD hS hA1 0 rfl (fun _ => rfl) (nI_pos (by decide)) (nI_clamp (by decide)) (by decide) (Nat.le_of_ble_eq_true rfl) (Nat.le_of_ble_eq_true rfl) dX6_init_55 (fun q7 H hP hD hS => ?_)
  have hP : va_P (dC, dI) vwCl [(h0, .inr (6, [.int (nI 0), .int (nI 0), .ref q1, .ref q2, .ref q3, .ref q4, .ref q5, .ref q6, .null, .null, .null, .null, .null, .null])), (q1, .inl (cI, 30, .inl (fun _ => nI 0))), (q2, .inl (cI, 30, .inl (fun _ => nI 0))), (q3, .inl (cI, 30, .inl (fun _ => nI 0))), (q4, .inl (cI, 30, .inl (fun _ => nI 0))), (q5, .inl (cI, 30, .inl (fun _ => nI 0))), (q6, .inl (cI, 30, .inl (fun _ => nI 0))), (q7, .inl (cI, 30, .inl (fun _ => nI 0)))] H := hP
  have hD : va_D A [(h0, .inr (6, [.int (nI 0), .int (nI 0), .ref q1, .ref q2, .ref q3, .ref q4, .ref q5, .ref q6, .null, .null, .null, .null, .null, .null])), (q1, .inl (cI, 30, .inl (fun _ => nI 0))), (q2, .inl (cI, 30, .inl (fun _ => nI 0))), (q3, .inl (cI, 30, .inl (fun _ => nI 0))), (q4, .inl (cI, 30, .inl (fun _ => nI 0))), (q5, .inl (cI, 30, .inl (fun _ => nI 0))), (q6, .inl (cI, 30, .inl (fun _ => nI 0))), (q7, .inl (cI, 30, .inl (fun _ => nI 0)))] := hD
  refine va_putF (D := (dC, dI)) (ci := 6) (v := .ref q7) (ty := .array .int) (C := RX6) (T := TX6) (N := 14) hx hb hts i_X6 tyX6 tyX6_ok nmX6 hown hK hP hD hS 0 rfl rfl 8 (by decide) k_30 (fun _ h9 => h9) rfl hin2 rfl (by decide +kernel) rfl rfl (Nat.le_of_ble_eq_true rfl) dX6_init_57 (fun H locs hP hD hS => ?_)
  have hP : va_P (dC, dI) vwCl [(h0, .inr (6, [.int (nI 0), .int (nI 0), .ref q1, .ref q2, .ref q3, .ref q4, .ref q5, .ref q6, .ref q7, .null, .null, .null, .null, .null])), (q1, .inl (cI, 30, .inl (fun _ => nI 0))), (q2, .inl (cI, 30, .inl (fun _ => nI 0))), (q3, .inl (cI, 30, .inl (fun _ => nI 0))), (q4, .inl (cI, 30, .inl (fun _ => nI 0))), (q5, .inl (cI, 30, .inl (fun _ => nI 0))), (q6, .inl (cI, 30, .inl (fun _ => nI 0))), (q7, .inl (cI, 30, .inl (fun _ => nI 0)))] H := hP
  have hD : va_D A [(h0, .inr (6, [.int (nI 0), .int (nI 0), .ref q1, .ref q2, .ref q3, .ref q4, .ref q5, .ref q6, .ref q7, .null, .null, .null, .null, .null])), (q1, .inl (cI, 30, .inl (fun _ => nI 0))), (q2, .inl (cI, 30, .inl (fun _ => nI 0))), (q3, .inl (cI, 30, .inl (fun _ => nI 0))), (q4, .inl (cI, 30, .inl (fun _ => nI 0))), (q5, .inl (cI, 30, .inl (fun _ => nI 0))), (q6, .inl (cI, 30, .inl (fun _ => nI 0))), (q7, .inl (cI, 30, .inl (fun _ => nI 0)))] := hD
  refine lv_aload_n hx hb dX6_init_60 rfl (lv_at hl 0 rfl) ?_
  refine lv_bipush (v := nI 30) hx hb dX6_init_61 (by decide) ?_
  refine xr_newa (a0 := (30, .inl (fun _ => nI 0))) (N' := 30) (ty := .int) hx hb kA_int rfl hK hP hD hS hA1 0 rfl (fun _ => rfl) (nI_pos (by decide)) (nI_clamp (by decide)) (by decide) (Nat.le_of_ble_eq_true rfl) (Nat.le_of_ble_eq_true rfl) dX6_init_63 (fun q8 H hP hD hS => ?_)
  have hP : va_P (dC, dI) vwCl [(h0, .inr (6, [.int (nI 0), .int (nI 0), .ref q1, .ref q2, .ref q3, .ref q4, .ref q5, .ref q6, .ref q7, .null, .null, .null, .null, .null])), (q1, .inl (cI, 30, .inl (fun _ => nI 0))), (q2, .inl (cI, 30, .inl (fun _ => nI 0))), (q3, .inl (cI, 30, .inl (fun _ => nI 0))), (q4, .inl (cI, 30, .inl (fun _ => nI 0))), (q5, .inl (cI, 30, .inl (fun _ => nI 0))), (q6, .inl (cI, 30, .inl (fun _ => nI 0))), (q7, .inl (cI, 30, .inl (fun _ => nI 0))), (q8, .inl (cI, 30, .inl (fun _ => nI 0)))] H := hP
  have hD : va_D A [(h0, .inr (6, [.int (nI 0), .int (nI 0), .ref q1, .ref q2, .ref q3, .ref q4, .ref q5, .ref q6, .ref q7, .null, .null, .null, .null, .null])), (q1, .inl (cI, 30, .inl (fun _ => nI 0))), (q2, .inl (cI, 30, .inl (fun _ => nI 0))), (q3, .inl (cI, 30, .inl (fun _ => nI 0))), (q4, .inl (cI, 30, .inl (fun _ => nI 0))), (q5, .inl (cI, 30, .inl (fun _ => nI 0))), (q6, .inl (cI, 30, .inl (fun _ => nI 0))), (q7, .inl (cI, 30, .inl (fun _ => nI 0))), (q8, .inl (cI, 30, .inl (fun _ => nI 0)))] := hD
  refine va_putF (D := (dC, dI)) (ci := 6) (v := .ref q8) (ty := .array .int) (C := RX6) (T := TX6) (N := 14) hx hb hts i_X6 tyX6 tyX6_ok nmX6 hown hK hP hD hS 0 rfl rfl 9 (by decide) k_33 (fun _ h9 => h9) rfl hin2 rfl (by decide +kernel) rfl rfl (Nat.le_of_ble_eq_true rfl) dX6_init_65 (fun H locs hP hD hS => ?_)
  have hP : va_P (dC, dI) vwCl [(h0, .inr (6, [.int (nI 0), .int (nI 0), .ref q1, .ref q2, .ref q3, .ref q4, .ref q5, .ref q6, .ref q7, .ref q8, .null, .null, .null, .null])), (q1, .inl (cI, 30, .inl (fun _ => nI 0))), (q2, .inl (cI, 30, .inl (fun _ => nI 0))), (q3, .inl (cI, 30, .inl (fun _ => nI 0))), (q4, .inl (cI, 30, .inl (fun _ => nI 0))), (q5, .inl (cI, 30, .inl (fun _ => nI 0))), (q6, .inl (cI, 30, .inl (fun _ => nI 0))), (q7, .inl (cI, 30, .inl (fun _ => nI 0))), (q8, .inl (cI, 30, .inl (fun _ => nI 0)))] H := hP
  have hD : va_D A [(h0, .inr (6, [.int (nI 0), .int (nI 0), .ref q1, .ref q2, .ref q3, .ref q4, .ref q5, .ref q6, .ref q7, .ref q8, .null, .null, .null, .null])), (q1, .inl (cI, 30, .inl (fun _ => nI 0))), (q2, .inl (cI, 30, .inl (fun _ => nI 0))), (q3, .inl (cI, 30, .inl (fun _ => nI 0))), (q4, .inl (cI, 30, .inl (fun _ => nI 0))), (q5, .inl (cI, 30, .inl (fun _ => nI 0))), (q6, .inl (cI, 30, .inl (fun _ => nI 0))), (q7, .inl (cI, 30, .inl (fun _ => nI 0))), (q8, .inl (cI, 30, .inl (fun _ => nI 0)))] := hD
  refine lv_aload_n hx hb dX6_init_68 rfl (lv_at hl 0 rfl) ?_
  refine lv_bipush (v := nI 30) hx hb dX6_init_69 (by decide) ?_
  refine xr_newa (a0 := (30, .inl (fun _ => nI 0))) (N' := 30) (ty := .int) hx hb kA_int rfl hK hP hD hS hA1 0 rfl (fun _ => rfl) (nI_pos (by decide)) (nI_clamp (by decide)) (by decide) (Nat.le_of_ble_eq_true rfl) (Nat.le_of_ble_eq_true rfl) dX6_init_71 (fun q9 H hP hD hS => ?_)
  have hP : va_P (dC, dI) vwCl [(h0, .inr (6, [.int (nI 0), .int (nI 0), .ref q1, .ref q2, .ref q3, .ref q4, .ref q5, .ref q6, .ref q7, .ref q8, .null, .null, .null, .null])), (q1, .inl (cI, 30, .inl (fun _ => nI 0))), (q2, .inl (cI, 30, .inl (fun _ => nI 0))), (q3, .inl (cI, 30, .inl (fun _ => nI 0))), (q4, .inl (cI, 30, .inl (fun _ => nI 0))), (q5, .inl (cI, 30, .inl (fun _ => nI 0))), (q6, .inl (cI, 30, .inl (fun _ => nI 0))), (q7, .inl (cI, 30, .inl (fun _ => nI 0))), (q8, .inl (cI, 30, .inl (fun _ => nI 0))), (q9, .inl (cI, 30, .inl (fun _ => nI 0)))] H := hP
  have hD : va_D A [(h0, .inr (6, [.int (nI 0), .int (nI 0), .ref q1, .ref q2, .ref q3, .ref q4, .ref q5, .ref q6, .ref q7, .ref q8, .null, .null, .null, .null])), (q1, .inl (cI, 30, .inl (fun _ => nI 0))), (q2, .inl (cI, 30, .inl (fun _ => nI 0))), (q3, .inl (cI, 30, .inl (fun _ => nI 0))), (q4, .inl (cI, 30, .inl (fun _ => nI 0))), (q5, .inl (cI, 30, .inl (fun _ => nI 0))), (q6, .inl (cI, 30, .inl (fun _ => nI 0))), (q7, .inl (cI, 30, .inl (fun _ => nI 0))), (q8, .inl (cI, 30, .inl (fun _ => nI 0))), (q9, .inl (cI, 30, .inl (fun _ => nI 0)))] := hD
  refine va_putF (D := (dC, dI)) (ci := 6) (v := .ref q9) (ty := .array .int) (C := RX6) (T := TX6) (N := 14) hx hb hts i_X6 tyX6 tyX6_ok nmX6 hown hK hP hD hS 0 rfl rfl 10 (by decide) k_36 (fun _ h9 => h9) rfl hin2 rfl (by decide +kernel) rfl rfl (Nat.le_of_ble_eq_true rfl) dX6_init_73 (fun H locs hP hD hS => ?_)
  have hP : va_P (dC, dI) vwCl [(h0, .inr (6, [.int (nI 0), .int (nI 0), .ref q1, .ref q2, .ref q3, .ref q4, .ref q5, .ref q6, .ref q7, .ref q8, .ref q9, .null, .null, .null])), (q1, .inl (cI, 30, .inl (fun _ => nI 0))), (q2, .inl (cI, 30, .inl (fun _ => nI 0))), (q3, .inl (cI, 30, .inl (fun _ => nI 0))), (q4, .inl (cI, 30, .inl (fun _ => nI 0))), (q5, .inl (cI, 30, .inl (fun _ => nI 0))), (q6, .inl (cI, 30, .inl (fun _ => nI 0))), (q7, .inl (cI, 30, .inl (fun _ => nI 0))), (q8, .inl (cI, 30, .inl (fun _ => nI 0))), (q9, .inl (cI, 30, .inl (fun _ => nI 0)))] H := hP
  have hD : va_D A [(h0, .inr (6, [.int (nI 0), .int (nI 0), .ref q1, .ref q2, .ref q3, .ref q4, .ref q5, .ref q6, .ref q7, .ref q8, .ref q9, .null, .null, .null])), (q1, .inl (cI, 30, .inl (fun _ => nI 0))), (q2, .inl (cI, 30, .inl (fun _ => nI 0))), (q3, .inl (cI, 30, .inl (fun _ => nI 0))), (q4, .inl (cI, 30, .inl (fun _ => nI 0))), (q5, .inl (cI, 30, .inl (fun _ => nI 0))), (q6, .inl (cI, 30, .inl (fun _ => nI 0))), (q7, .inl (cI, 30, .inl (fun _ => nI 0))), (q8, .inl (cI, 30, .inl (fun _ => nI 0))), (q9, .inl (cI, 30, .inl (fun _ => nI 0)))] := hD
  refine lv_aload_n hx hb dX6_init_76 rfl (lv_at hl 0 rfl) ?_
  refine lv_bipush (v := nI 30) hx hb dX6_init_77 (by decide) ?_
  refine xr_newa (a0 := (30, .inl (fun _ => nI 0))) (N' := 30) (ty := .int) hx hb kA_int rfl hK hP hD hS hA1 0 rfl (fun _ => rfl) (nI_pos (by decide)) (nI_clamp (by decide)) (by decide) (Nat.le_of_ble_eq_true rfl) (Nat.le_of_ble_eq_true rfl) dX6_init_79 (fun q10 H hP hD hS => ?_)
  have hP : va_P (dC, dI) vwCl [(h0, .inr (6, [.int (nI 0), .int (nI 0), .ref q1, .ref q2, .ref q3, .ref q4, .ref q5, .ref q6, .ref q7, .ref q8, .ref q9, .null, .null, .null])), (q1, .inl (cI, 30, .inl (fun _ => nI 0))), (q2, .inl (cI, 30, .inl (fun _ => nI 0))), (q3, .inl (cI, 30, .inl (fun _ => nI 0))), (q4, .inl (cI, 30, .inl (fun _ => nI 0))), (q5, .inl (cI, 30, .inl (fun _ => nI 0))), (q6, .inl (cI, 30, .inl (fun _ => nI 0))), (q7, .inl (cI, 30, .inl (fun _ => nI 0))), (q8, .inl (cI, 30, .inl (fun _ => nI 0))), (q9, .inl (cI, 30, .inl (fun _ => nI 0))), (q10, .inl (cI, 30, .inl (fun _ => nI 0)))] H := hP
  have hD : va_D A [(h0, .inr (6, [.int (nI 0), .int (nI 0), .ref q1, .ref q2, .ref q3, .ref q4, .ref q5, .ref q6, .ref q7, .ref q8, .ref q9, .null, .null, .null])), (q1, .inl (cI, 30, .inl (fun _ => nI 0))), (q2, .inl (cI, 30, .inl (fun _ => nI 0))), (q3, .inl (cI, 30, .inl (fun _ => nI 0))), (q4, .inl (cI, 30, .inl (fun _ => nI 0))), (q5, .inl (cI, 30, .inl (fun _ => nI 0))), (q6, .inl (cI, 30, .inl (fun _ => nI 0))), (q7, .inl (cI, 30, .inl (fun _ => nI 0))), (q8, .inl (cI, 30, .inl (fun _ => nI 0))), (q9, .inl (cI, 30, .inl (fun _ => nI 0))), (q10, .inl (cI, 30, .inl (fun _ => nI 0)))] := hD
  refine va_putF (D := (dC, dI)) (ci := 6) (v := .ref q10) (ty := .array .int) (C := RX6) (T := TX6) (N := 14) hx hb hts i_X6 tyX6 tyX6_ok nmX6 hown hK hP hD hS 0 rfl rfl 11 (by decide) k_39 (fun _ h9 => h9) rfl hin2 rfl (by decide +kernel) rfl rfl (Nat.le_of_ble_eq_true rfl) dX6_init_81 (fun H locs hP hD hS => ?_)
  have hP : va_P (dC, dI) vwCl [(h0, .inr (6, [.int (nI 0), .int (nI 0), .ref q1, .ref q2, .ref q3, .ref q4, .ref q5, .ref q6, .ref q7, .ref q8, .ref q9, .ref q10, .null, .null])), (q1, .inl (cI, 30, .inl (fun _ => nI 0))), (q2, .inl (cI, 30, .inl (fun _ => nI 0))), (q3, .inl (cI, 30, .inl (fun _ => nI 0))), (q4, .inl (cI, 30, .inl (fun _ => nI 0))), (q5, .inl (cI, 30, .inl (fun _ => nI 0))), (q6, .inl (cI, 30, .inl (fun _ => nI 0))), (q7, .inl (cI, 30, .inl (fun _ => nI 0))), (q8, .inl (cI, 30, .inl (fun _ => nI 0))), (q9, .inl (cI, 30, .inl (fun _ => nI 0))), (q10, .inl (cI, 30, .inl (fun _ => nI 0)))] H := hP
  have hD : va_D A [(h0, .inr (6, [.int (nI 0), .int (nI 0), .ref q1, .ref q2, .ref q3, .ref q4, .ref q5, .ref q6, .ref q7, .ref q8, .ref q9, .ref q10, .null, .null])), (q1, .inl (cI, 30, .inl (fun _ => nI 0))), (q2, .inl (cI, 30, .inl (fun _ => nI 0))), (q3, .inl (cI, 30, .inl (fun _ => nI 0))), (q4, .inl (cI, 30, .inl (fun _ => nI 0))), (q5, .inl (cI, 30, .inl (fun _ => nI 0))), (q6, .inl (cI, 30, .inl (fun _ => nI 0))), (q7, .inl (cI, 30, .inl (fun _ => nI 0))), (q8, .inl (cI, 30, .inl (fun _ => nI 0))), (q9, .inl (cI, 30, .inl (fun _ => nI 0))), (q10, .inl (cI, 30, .inl (fun _ => nI 0)))] := hD
  refine lv_aload_n hx hb dX6_init_84 rfl (lv_at hl 0 rfl) ?_
  refine lv_bipush (v := nI 70) hx hb dX6_init_85 (by decide) ?_
  refine xr_newa (a0 := (70, .inl (fun _ => nI 0))) (N' := 70) (ty := .int) hx hb kA_int rfl hK hP hD hS hA1 0 rfl (fun _ => rfl) (nI_pos (by decide)) (nI_clamp (by decide)) (by decide) (Nat.le_of_ble_eq_true rfl) (Nat.le_of_ble_eq_true rfl) dX6_init_87 (fun q11 H hP hD hS => ?_)
  have hP : va_P (dC, dI) vwCl [(h0, .inr (6, [.int (nI 0), .int (nI 0), .ref q1, .ref q2, .ref q3, .ref q4, .ref q5, .ref q6, .ref q7, .ref q8, .ref q9, .ref q10, .null, .null])), (q1, .inl (cI, 30, .inl (fun _ => nI 0))), (q2, .inl (cI, 30, .inl (fun _ => nI 0))), (q3, .inl (cI, 30, .inl (fun _ => nI 0))), (q4, .inl (cI, 30, .inl (fun _ => nI 0))), (q5, .inl (cI, 30, .inl (fun _ => nI 0))), (q6, .inl (cI, 30, .inl (fun _ => nI 0))), (q7, .inl (cI, 30, .inl (fun _ => nI 0))), (q8, .inl (cI, 30, .inl (fun _ => nI 0))), (q9, .inl (cI, 30, .inl (fun _ => nI 0))), (q10, .inl (cI, 30, .inl (fun _ => nI 0))), (q11, .inl (cI, 70, .inl (fun _ => nI 0)))] H := hP
  have hD : va_D A [(h0, .inr (6, [.int (nI 0), .int (nI 0), .ref q1, .ref q2, .ref q3, .ref q4, .ref q5, .ref q6, .ref q7, .ref q8, .ref q9, .ref q10, .null, .null])), (q1, .inl (cI, 30, .inl (fun _ => nI 0))), (q2, .inl (cI, 30, .inl (fun _ => nI 0))), (q3, .inl (cI, 30, .inl (fun _ => nI 0))), (q4, .inl (cI, 30, .inl (fun _ => nI 0))), (q5, .inl (cI, 30, .inl (fun _ => nI 0))), (q6, .inl (cI, 30, .inl (fun _ => nI 0))), (q7, .inl (cI, 30, .inl (fun _ => nI 0))), (q8, .inl (cI, 30, .inl (fun _ => nI 0))), (q9, .inl (cI, 30, .inl (fun _ => nI 0))), (q10, .inl (cI, 30, .inl (fun _ => nI 0))), (q11, .inl (cI, 70, .inl (fun _ => nI 0)))] := hD
  refine va_putF (D := (dC, dI)) (ci := 6) (v := .ref q11) (ty := .array .int) (C := RX6) (T := TX6) (N := 14) hx hb hts i_X6 tyX6 tyX6_ok nmX6 hown hK hP hD hS 0 rfl rfl 12 (by decide) k_42 (fun _ h9 => h9) rfl hin2 rfl (by decide +kernel) rfl rfl (Nat.le_of_ble_eq_true rfl) dX6_init_89 (fun H locs hP hD hS => ?_)
  have hP : va_P (dC, dI) vwCl [(h0, .inr (6, [.int (nI 0), .int (nI 0), .ref q1, .ref q2, .ref q3, .ref q4, .ref q5, .ref q6, .ref q7, .ref q8, .ref q9, .ref q10, .ref q11, .null])), (q1, .inl (cI, 30, .inl (fun _ => nI 0))), (q2, .inl (cI, 30, .inl (fun _ => nI 0))), (q3, .inl (cI, 30, .inl (fun _ => nI 0))), (q4, .inl (cI, 30, .inl (fun _ => nI 0))), (q5, .inl (cI, 30, .inl (fun _ => nI 0))), (q6, .inl (cI, 30, .inl (fun _ => nI 0))), (q7, .inl (cI, 30, .inl (fun _ => nI 0))), (q8, .inl (cI, 30, .inl (fun _ => nI 0))), (q9, .inl (cI, 30, .inl (fun _ => nI 0))), (q10, .inl (cI, 30, .inl (fun _ => nI 0))), (q11, .inl (cI, 70, .inl (fun _ => nI 0)))] H := hP
  have hD : va_D A [(h0, .inr (6, [.int (nI 0), .int (nI 0), .ref q1, .ref q2, .ref q3, .ref q4, .ref q5, .ref q6, .ref q7, .ref q8, .ref q9, .ref q10, .ref q11, .null])), (q1, .inl (cI, 30, .inl (fun _ => nI 0))), (q2, .inl (cI, 30, .inl (fun _ => nI 0))), (q3, .inl (cI, 30, .inl (fun _ => nI 0))), (q4, .inl (cI, 30, .inl (fun _ => nI 0))), (q5, .inl (cI, 30, .inl (fun _ => nI 0))), (q6, .inl (cI, 30, .inl (fun _ => nI 0))), (q7, .inl (cI, 30, .inl (fun _ => nI 0))), (q8, .inl (cI, 30, .inl (fun _ => nI 0))), (q9, .inl (cI, 30, .inl (fun _ => nI 0))), (q10, .inl (cI, 30, .inl (fun _ => nI 0))), (q11, .inl (cI, 70, .inl (fun _ => nI 0)))] := hD
  refine lv_aload_n hx hb dX6_init_92 rfl (lv_at hl 0 rfl) ?_
  refine lv_bipush (v := nI 70) hx hb dX6_init_93 (by decide) ?_
  refine xr_newa (a0 := (70, .inl (fun _ => nI 0))) (N' := 70) (ty := .int) hx hb kA_int rfl hK hP hD hS hA1 0 rfl (fun _ => rfl) (nI_pos (by decide)) (nI_clamp (by decide)) (by decide) (Nat.le_of_ble_eq_true rfl) (Nat.le_of_ble_eq_true rfl) dX6_init_95 (fun q12 H hP hD hS => ?_)
  have hP : va_P (dC, dI) vwCl [(h0, .inr (6, [.int (nI 0), .int (nI 0), .ref q1, .ref q2, .ref q3, .ref q4, .ref q5, .ref q6, .ref q7, .ref q8, .ref q9, .ref q10, .ref q11, .null])), (q1, .inl (cI, 30, .inl (fun _ => nI 0))), (q2, .inl (cI, 30, .inl (fun _ => nI 0))), (q3, .inl (cI, 30, .inl (fun _ => nI 0))), (q4, .inl (cI, 30, .inl (fun _ => nI 0))), (q5, .inl (cI, 30, .inl (fun _ => nI 0))), (q6, .inl (cI, 30, .inl (fun _ => nI 0))), (q7, .inl (cI, 30, .inl (fun _ => nI 0))), (q8, .inl (cI, 30, .inl (fun _ => nI 0))), (q9, .inl (cI, 30, .inl (fun _ => nI 0))), (q10, .inl (cI, 30, .inl (fun _ => nI 0))), (q11, .inl (cI, 70, .inl (fun _ => nI 0))), (q12, .inl (cI, 70, .inl (fun _ => nI 0)))] H := hP
  have hD : va_D A [(h0, .inr (6, [.int (nI 0), .int (nI 0), .ref q1, .ref q2, .ref q3, .ref q4, .ref q5, .ref q6, .ref q7, .ref q8, .ref q9, .ref q10, .ref q11, .null])), (q1, .inl (cI, 30, .inl (fun _ => nI 0))), (q2, .inl (cI, 30, .inl (fun _ => nI 0))), (q3, .inl (cI, 30, .inl (fun _ => nI 0))), (q4, .inl (cI, 30, .inl (fun _ => nI 0))), (q5, .inl (cI, 30, .inl (fun _ => nI 0))), (q6, .inl (cI, 30, .inl (fun _ => nI 0))), (q7, .inl (cI, 30, .inl (fun _ => nI 0))), (q8, .inl (cI, 30, .inl (fun _ => nI 0))), (q9, .inl (cI, 30, .inl (fun _ => nI 0))), (q10, .inl (cI, 30, .inl (fun _ => nI 0))), (q11, .inl (cI, 70, .inl (fun _ => nI 0))), (q12, .inl (cI, 70, .inl (fun _ => nI 0)))] := hD
  refine va_putF (D := (dC, dI)) (ci := 6) (v := .ref q12) (ty := .array .int) (C := RX6) (T := TX6) (N := 14) hx hb hts i_X6 tyX6 tyX6_ok nmX6 hown hK hP hD hS 0 rfl rfl 13 (by decide) k_45 (fun _ h9 => h9) rfl hin2 rfl (by decide +kernel) rfl rfl (Nat.le_of_ble_eq_true rfl) dX6_init_97 (fun H locs hP hD hS => ?_)
  have hP : va_P (dC, dI) vwCl [(h0, .inr (6, [.int (nI 0), .int (nI 0), .ref q1, .ref q2, .ref q3, .ref q4, .ref q5, .ref q6, .ref q7, .ref q8, .ref q9, .ref q10, .ref q11, .ref q12])), (q1, .inl (cI, 30, .inl (fun _ => nI 0))), (q2, .inl (cI, 30, .inl (fun _ => nI 0))), (q3, .inl (cI, 30, .inl (fun _ => nI 0))), (q4, .inl (cI, 30, .inl (fun _ => nI 0))), (q5, .inl (cI, 30, .inl (fun _ => nI 0))), (q6, .inl (cI, 30, .inl (fun _ => nI 0))), (q7, .inl (cI, 30, .inl (fun _ => nI 0))), (q8, .inl (cI, 30, .inl (fun _ => nI 0))), (q9, .inl (cI, 30, .inl (fun _ => nI 0))), (q10, .inl (cI, 30, .inl (fun _ => nI 0))), (q11, .inl (cI, 70, .inl (fun _ => nI 0))), (q12, .inl (cI, 70, .inl (fun _ => nI 0)))] H := hP
  have hD : va_D A [(h0, .inr (6, [.int (nI 0), .int (nI 0), .ref q1, .ref q2, .ref q3, .ref q4, .ref q5, .ref q6, .ref q7, .ref q8, .ref q9, .ref q10, .ref q11, .ref q12])), (q1, .inl (cI, 30, .inl (fun _ => nI 0))), (q2, .inl (cI, 30, .inl (fun _ => nI 0))), (q3, .inl (cI, 30, .inl (fun _ => nI 0))), (q4, .inl (cI, 30, .inl (fun _ => nI 0))), (q5, .inl (cI, 30, .inl (fun _ => nI 0))), (q6, .inl (cI, 30, .inl (fun _ => nI 0))), (q7, .inl (cI, 30, .inl (fun _ => nI 0))), (q8, .inl (cI, 30, .inl (fun _ => nI 0))), (q9, .inl (cI, 30, .inl (fun _ => nI 0))), (q10, .inl (cI, 30, .inl (fun _ => nI 0))), (q11, .inl (cI, 70, .inl (fun _ => nI 0))), (q12, .inl (cI, 70, .inl (fun _ => nI 0)))] := hD
  refine xr_old (wc := [(h0, .inr (6, [.int (nI 0), .int (nI 0), .null, .null, .null, .null, .null, .null, .null, .null, .null, .null, .null, .null]))]) (by rw [← hA]; exact hS) (fun locs1 hl1 => ?_)
  exact W.vret hx hb hr (fun t ht hW => ⟨⟨_, rfl, ⟨q1, q2, q3, q4, q5, q6, q7, q8, q9, q10, q11, q12, rfl⟩, by rw [ht]; exact hP, by rw [← hA]; exact hD⟩, xS_fr (by rw [← hA]; exact hS) ht⟩) hl1 dX6_init_100
end
