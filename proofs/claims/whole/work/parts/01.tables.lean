-- ===== PART A: goes FIRST, ahead of the names: the tables' words, and 'selects' of the private methods out of them =====
/-- a private method of a class that the tables say can be made, by its rows of tables_1 -/
def lw_okq (q : MethodName × Nat) : Prop := (q.1.cls ≠ "java/lang/invoke/MethodHandle" ∧ q.1.cls ≠ "java/lang/invoke/VarHandle") ∧ Cond.instantiable q.1.cls q.2 ∈ tables_1 ∧ Cond.privateMethod q.1 ∈ tables_1 ∧ Cond.instanceMethod q.1 ∈ tables_1
theorem lw_p0 : lw_okq (⟨"DarkStreet$Town", "sortOthers", "(I)V"⟩, 20) := ⟨⟨by decide +kernel, by decide +kernel⟩, List.mem_of_getElem? (i := 26) (by decide +kernel), List.mem_of_getElem? (i := 328) (by decide +kernel), List.mem_of_getElem? (i := 329) (by decide +kernel)⟩
theorem lw_p1 : lw_okq (⟨"DarkStreet", "addBytes", "(I)V"⟩, 12) := ⟨⟨by decide +kernel, by decide +kernel⟩, List.mem_of_getElem? (i := 18) (by decide +kernel), List.mem_of_getElem? (i := 396) (by decide +kernel), List.mem_of_getElem? (i := 397) (by decide +kernel)⟩
theorem lw_p2 : lw_okq (⟨"DarkStreet$Reader", "next", "()V"⟩, 9) := ⟨⟨by decide +kernel, by decide +kernel⟩, List.mem_of_getElem? (i := 138) (by decide +kernel), List.mem_of_getElem? (i := 420) (by decide +kernel), List.mem_of_getElem? (i := 421) (by decide +kernel)⟩
theorem lw_p3 : lw_okq (⟨"DarkStreet$Reader", "wordFrom", "(II)I"⟩, 9) := ⟨⟨by decide +kernel, by decide +kernel⟩, List.mem_of_getElem? (i := 138) (by decide +kernel), List.mem_of_getElem? (i := 427) (by decide +kernel), List.mem_of_getElem? (i := 428) (by decide +kernel)⟩
theorem lw_p4 : lw_okq (⟨"DarkStreet$Reader", "refuse", "(I)Z"⟩, 9) := ⟨⟨by decide +kernel, by decide +kernel⟩, List.mem_of_getElem? (i := 138) (by decide +kernel), List.mem_of_getElem? (i := 483) (by decide +kernel), List.mem_of_getElem? (i := 484) (by decide +kernel)⟩
theorem lw_p5 : lw_okq (⟨"DarkStreet$Reader", "readHold", "()V"⟩, 9) := ⟨⟨by decide +kernel, by decide +kernel⟩, List.mem_of_getElem? (i := 138) (by decide +kernel), List.mem_of_getElem? (i := 487) (by decide +kernel), List.mem_of_getElem? (i := 488) (by decide +kernel)⟩
theorem lw_p6 : lw_okq (⟨"DarkStreet$Reader", "readClause", "()V"⟩, 9) := ⟨⟨by decide +kernel, by decide +kernel⟩, List.mem_of_getElem? (i := 138) (by decide +kernel), List.mem_of_getElem? (i := 491) (by decide +kernel), List.mem_of_getElem? (i := 492) (by decide +kernel)⟩
theorem lw_p7 : lw_okq (⟨"DarkStreet$Reader", "readSum", "()Z"⟩, 9) := ⟨⟨by decide +kernel, by decide +kernel⟩, List.mem_of_getElem? (i := 138) (by decide +kernel), List.mem_of_getElem? (i := 499) (by decide +kernel), List.mem_of_getElem? (i := 500) (by decide +kernel)⟩
theorem lw_p8 : lw_okq (⟨"DarkStreet$Reader", "faultOfValue", "()I"⟩, 9) := ⟨⟨by decide +kernel, by decide +kernel⟩, List.mem_of_getElem? (i := 138) (by decide +kernel), List.mem_of_getElem? (i := 503) (by decide +kernel), List.mem_of_getElem? (i := 504) (by decide +kernel)⟩
theorem lw_p9 : lw_okq (⟨"DarkStreet$Reader", "readTest", "(I)Z"⟩, 9) := ⟨⟨by decide +kernel, by decide +kernel⟩, List.mem_of_getElem? (i := 138) (by decide +kernel), List.mem_of_getElem? (i := 515) (by decide +kernel), List.mem_of_getElem? (i := 516) (by decide +kernel)⟩
theorem lw_p10 : lw_okq (⟨"DarkStreet$Reader", "readFact", "(I)Z"⟩, 9) := ⟨⟨by decide +kernel, by decide +kernel⟩, List.mem_of_getElem? (i := 138) (by decide +kernel), List.mem_of_getElem? (i := 519) (by decide +kernel), List.mem_of_getElem? (i := 520) (by decide +kernel)⟩
theorem lw_p11 : lw_okq (⟨"DarkStreet$Reader", "goesOn", "()Z"⟩, 9) := ⟨⟨by decide +kernel, by decide +kernel⟩, List.mem_of_getElem? (i := 138) (by decide +kernel), List.mem_of_getElem? (i := 530) (by decide +kernel), List.mem_of_getElem? (i := 531) (by decide +kernel)⟩
theorem lw_p12 : lw_okq (⟨"DarkStreet", "ruleOf", "(I)LDarkStreet$Rule;"⟩, 12) := ⟨⟨by decide +kernel, by decide +kernel⟩, List.mem_of_getElem? (i := 18) (by decide +kernel), List.mem_of_getElem? (i := 539) (by decide +kernel), List.mem_of_getElem? (i := 540) (by decide +kernel)⟩
theorem lw_p13 : lw_okq (⟨"DarkStreet", "harmOf", "(LDarkStreet$Town;LDarkStreet$Rule;II)J"⟩, 12) := ⟨⟨by decide +kernel, by decide +kernel⟩, List.mem_of_getElem? (i := 18) (by decide +kernel), List.mem_of_getElem? (i := 544) (by decide +kernel), List.mem_of_getElem? (i := 545) (by decide +kernel)⟩
theorem lw_p14 : lw_okq (⟨"DarkStreet$Quarters", "bringCurrent", "(LDarkStreet$Town;)V"⟩, 3) := ⟨⟨by decide +kernel, by decide +kernel⟩, List.mem_of_getElem? (i := 208) (by decide +kernel), List.mem_of_getElem? (i := 552) (by decide +kernel), List.mem_of_getElem? (i := 553) (by decide +kernel)⟩
theorem lw_p15 : lw_okq (⟨"DarkStreet$Quarters", "makeAll", "(LDarkStreet$Town;)V"⟩, 3) := ⟨⟨by decide +kernel, by decide +kernel⟩, List.mem_of_getElem? (i := 208) (by decide +kernel), List.mem_of_getElem? (i := 559) (by decide +kernel), List.mem_of_getElem? (i := 560) (by decide +kernel)⟩
def lw_privs_1 : List (MethodName × Nat) := [(⟨"DarkStreet$Town", "sortOthers", "(I)V"⟩, 20), (⟨"DarkStreet", "addBytes", "(I)V"⟩, 12), (⟨"DarkStreet$Reader", "next", "()V"⟩, 9), (⟨"DarkStreet$Reader", "wordFrom", "(II)I"⟩, 9), (⟨"DarkStreet$Reader", "refuse", "(I)Z"⟩, 9), (⟨"DarkStreet$Reader", "readHold", "()V"⟩, 9), (⟨"DarkStreet$Reader", "readClause", "()V"⟩, 9), (⟨"DarkStreet$Reader", "readSum", "()Z"⟩, 9), (⟨"DarkStreet$Reader", "faultOfValue", "()I"⟩, 9), (⟨"DarkStreet$Reader", "readTest", "(I)Z"⟩, 9), (⟨"DarkStreet$Reader", "readFact", "(I)Z"⟩, 9), (⟨"DarkStreet$Reader", "goesOn", "()Z"⟩, 9), (⟨"DarkStreet", "ruleOf", "(I)LDarkStreet$Rule;"⟩, 12), (⟨"DarkStreet", "harmOf", "(LDarkStreet$Town;LDarkStreet$Rule;II)J"⟩, 12), (⟨"DarkStreet$Quarters", "bringCurrent", "(LDarkStreet$Town;)V"⟩, 3), (⟨"DarkStreet$Quarters", "makeAll", "(LDarkStreet$Town;)V"⟩, 3)]
theorem lw_r1 : ∀ q ∈ lw_privs_1, lw_okq q := List.forall_mem_cons.mpr ⟨lw_p0, List.forall_mem_cons.mpr ⟨lw_p1, List.forall_mem_cons.mpr ⟨lw_p2, List.forall_mem_cons.mpr ⟨lw_p3, List.forall_mem_cons.mpr ⟨lw_p4, List.forall_mem_cons.mpr ⟨lw_p5, List.forall_mem_cons.mpr ⟨lw_p6, List.forall_mem_cons.mpr ⟨lw_p7, List.forall_mem_cons.mpr ⟨lw_p8, List.forall_mem_cons.mpr ⟨lw_p9, List.forall_mem_cons.mpr ⟨lw_p10, List.forall_mem_cons.mpr ⟨lw_p11, List.forall_mem_cons.mpr ⟨lw_p12, List.forall_mem_cons.mpr ⟨lw_p13, List.forall_mem_cons.mpr ⟨lw_p14, List.forall_mem_cons.mpr ⟨lw_p15, fun _ h => absurd h List.not_mem_nil⟩⟩⟩⟩⟩⟩⟩⟩⟩⟩⟩⟩⟩⟩⟩⟩
theorem lw_p16 : lw_okq (⟨"DarkStreet$Quarters", "tellHouse", "(LDarkStreet$Town;I)V"⟩, 3) := ⟨⟨by decide +kernel, by decide +kernel⟩, List.mem_of_getElem? (i := 208) (by decide +kernel), List.mem_of_getElem? (i := 569) (by decide +kernel), List.mem_of_getElem? (i := 570) (by decide +kernel)⟩
theorem lw_p17 : lw_okq (⟨"DarkStreet$Rule", "worth", "(II[J)J"⟩, 9) := ⟨⟨by decide +kernel, by decide +kernel⟩, List.mem_of_getElem? (i := 144) (by decide +kernel), List.mem_of_getElem? (i := 585) (by decide +kernel), List.mem_of_getElem? (i := 586) (by decide +kernel)⟩
theorem lw_p18 : lw_okq (⟨"DarkStreet$Quarters", "lineUp", "(LDarkStreet$Town;LDarkStreet$Rule;)I"⟩, 3) := ⟨⟨by decide +kernel, by decide +kernel⟩, List.mem_of_getElem? (i := 208) (by decide +kernel), List.mem_of_getElem? (i := 598) (by decide +kernel), List.mem_of_getElem? (i := 599) (by decide +kernel)⟩
theorem lw_p19 : lw_okq (⟨"DarkStreet$Quarters", "tellNeed", "(LDarkStreet$Town;[I)V"⟩, 3) := ⟨⟨by decide +kernel, by decide +kernel⟩, List.mem_of_getElem? (i := 208) (by decide +kernel), List.mem_of_getElem? (i := 610) (by decide +kernel), List.mem_of_getElem? (i := 611) (by decide +kernel)⟩
theorem lw_p20 : lw_okq (⟨"DarkStreet$Quarters", "serve", "(LDarkStreet$Town;LDarkStreet$Rule;I[I)J"⟩, 3) := ⟨⟨by decide +kernel, by decide +kernel⟩, List.mem_of_getElem? (i := 208) (by decide +kernel), List.mem_of_getElem? (i := 614) (by decide +kernel), List.mem_of_getElem? (i := 615) (by decide +kernel)⟩
theorem lw_p21 : lw_okq (⟨"DarkStreet$Quarters", "takeAll", "(LDarkStreet$Town;[III)I"⟩, 3) := ⟨⟨by decide +kernel, by decide +kernel⟩, List.mem_of_getElem? (i := 208) (by decide +kernel), List.mem_of_getElem? (i := 618) (by decide +kernel), List.mem_of_getElem? (i := 619) (by decide +kernel)⟩
theorem lw_p22 : lw_okq (⟨"DarkStreet$Quarters", "take", "(LDarkStreet$Town;LDarkStreet$Rule;[III)I"⟩, 3) := ⟨⟨by decide +kernel, by decide +kernel⟩, List.mem_of_getElem? (i := 208) (by decide +kernel), List.mem_of_getElem? (i := 622) (by decide +kernel), List.mem_of_getElem? (i := 623) (by decide +kernel)⟩
theorem lw_p23 : lw_okq (⟨"DarkStreet$Quarters", "tellGiver", "(LDarkStreet$Town;III)V"⟩, 3) := ⟨⟨by decide +kernel, by decide +kernel⟩, List.mem_of_getElem? (i := 208) (by decide +kernel), List.mem_of_getElem? (i := 626) (by decide +kernel), List.mem_of_getElem? (i := 627) (by decide +kernel)⟩
theorem lw_p24 : lw_okq (⟨"DarkStreet", "sumIfSaid", "(LDarkStreet$Rule;I)J"⟩, 12) := ⟨⟨by decide +kernel, by decide +kernel⟩, List.mem_of_getElem? (i := 18) (by decide +kernel), List.mem_of_getElem? (i := 722) (by decide +kernel), List.mem_of_getElem? (i := 723) (by decide +kernel)⟩
theorem lw_p25 : lw_okq (⟨"DarkStreet$Walks", "lengthOf", "(LDarkStreet$Town;I)I"⟩, 3) := ⟨⟨by decide +kernel, by decide +kernel⟩, List.mem_of_getElem? (i := 224) (by decide +kernel), List.mem_of_getElem? (i := 753) (by decide +kernel), List.mem_of_getElem? (i := 754) (by decide +kernel)⟩
theorem lw_p26 : lw_okq (⟨"DarkStreet$Walks", "sumOfOrder", "(LDarkStreet$Town;II)I"⟩, 3) := ⟨⟨by decide +kernel, by decide +kernel⟩, List.mem_of_getElem? (i := 224) (by decide +kernel), List.mem_of_getElem? (i := 772) (by decide +kernel), List.mem_of_getElem? (i := 773) (by decide +kernel)⟩
theorem lw_p27 : lw_okq (⟨"DarkStreet$Walks", "nextOrder", "(I)Z"⟩, 3) := ⟨⟨by decide +kernel, by decide +kernel⟩, List.mem_of_getElem? (i := 224) (by decide +kernel), List.mem_of_getElem? (i := 777) (by decide +kernel), List.mem_of_getElem? (i := 778) (by decide +kernel)⟩
theorem lw_p28 : lw_okq (⟨"DarkStreet$Walks", "swap", "(II)V"⟩, 3) := ⟨⟨by decide +kernel, by decide +kernel⟩, List.mem_of_getElem? (i := 224) (by decide +kernel), List.mem_of_getElem? (i := 781) (by decide +kernel), List.mem_of_getElem? (i := 782) (by decide +kernel)⟩
theorem lw_p29 : lw_okq (⟨"DarkStreet$Turns", "harmAfter", "(LDarkStreet$Town;II)I"⟩, 4) := ⟨⟨by decide +kernel, by decide +kernel⟩, List.mem_of_getElem? (i := 240) (by decide +kernel), List.mem_of_getElem? (i := 806) (by decide +kernel), List.mem_of_getElem? (i := 807) (by decide +kernel)⟩
theorem lw_p30 : lw_okq (⟨"DarkStreet$Hearsay", "spreadOn", "(LDarkStreet$Town;I)I"⟩, 4) := ⟨⟨by decide +kernel, by decide +kernel⟩, List.mem_of_getElem? (i := 260) (by decide +kernel), List.mem_of_getElem? (i := 848) (by decide +kernel), List.mem_of_getElem? (i := 849) (by decide +kernel)⟩
theorem lw_p31 : lw_okq (⟨"DarkStreetModel", "isHouse", "(I)Z"⟩, 78) := ⟨⟨by decide +kernel, by decide +kernel⟩, List.mem_of_getElem? (i := 882) (by decide +kernel), List.mem_of_getElem? (i := 1136) (by decide +kernel), List.mem_of_getElem? (i := 1137) (by decide +kernel)⟩
def lw_privs_2 : List (MethodName × Nat) := [(⟨"DarkStreet$Quarters", "tellHouse", "(LDarkStreet$Town;I)V"⟩, 3), (⟨"DarkStreet$Rule", "worth", "(II[J)J"⟩, 9), (⟨"DarkStreet$Quarters", "lineUp", "(LDarkStreet$Town;LDarkStreet$Rule;)I"⟩, 3), (⟨"DarkStreet$Quarters", "tellNeed", "(LDarkStreet$Town;[I)V"⟩, 3), (⟨"DarkStreet$Quarters", "serve", "(LDarkStreet$Town;LDarkStreet$Rule;I[I)J"⟩, 3), (⟨"DarkStreet$Quarters", "takeAll", "(LDarkStreet$Town;[III)I"⟩, 3), (⟨"DarkStreet$Quarters", "take", "(LDarkStreet$Town;LDarkStreet$Rule;[III)I"⟩, 3), (⟨"DarkStreet$Quarters", "tellGiver", "(LDarkStreet$Town;III)V"⟩, 3), (⟨"DarkStreet", "sumIfSaid", "(LDarkStreet$Rule;I)J"⟩, 12), (⟨"DarkStreet$Walks", "lengthOf", "(LDarkStreet$Town;I)I"⟩, 3), (⟨"DarkStreet$Walks", "sumOfOrder", "(LDarkStreet$Town;II)I"⟩, 3), (⟨"DarkStreet$Walks", "nextOrder", "(I)Z"⟩, 3), (⟨"DarkStreet$Walks", "swap", "(II)V"⟩, 3), (⟨"DarkStreet$Turns", "harmAfter", "(LDarkStreet$Town;II)I"⟩, 4), (⟨"DarkStreet$Hearsay", "spreadOn", "(LDarkStreet$Town;I)I"⟩, 4), (⟨"DarkStreetModel", "isHouse", "(I)Z"⟩, 78)]
theorem lw_r2 : ∀ q ∈ lw_privs_2, lw_okq q := List.forall_mem_cons.mpr ⟨lw_p16, List.forall_mem_cons.mpr ⟨lw_p17, List.forall_mem_cons.mpr ⟨lw_p18, List.forall_mem_cons.mpr ⟨lw_p19, List.forall_mem_cons.mpr ⟨lw_p20, List.forall_mem_cons.mpr ⟨lw_p21, List.forall_mem_cons.mpr ⟨lw_p22, List.forall_mem_cons.mpr ⟨lw_p23, List.forall_mem_cons.mpr ⟨lw_p24, List.forall_mem_cons.mpr ⟨lw_p25, List.forall_mem_cons.mpr ⟨lw_p26, List.forall_mem_cons.mpr ⟨lw_p27, List.forall_mem_cons.mpr ⟨lw_p28, List.forall_mem_cons.mpr ⟨lw_p29, List.forall_mem_cons.mpr ⟨lw_p30, List.forall_mem_cons.mpr ⟨lw_p31, fun _ h => absurd h List.not_mem_nil⟩⟩⟩⟩⟩⟩⟩⟩⟩⟩⟩⟩⟩⟩⟩⟩
theorem lw_p32 : lw_okq (⟨"DarkStreetModel", "isMaker", "(I)Z"⟩, 78) := ⟨⟨by decide +kernel, by decide +kernel⟩, List.mem_of_getElem? (i := 882) (by decide +kernel), List.mem_of_getElem? (i := 1159) (by decide +kernel), List.mem_of_getElem? (i := 1160) (by decide +kernel)⟩
theorem lw_p33 : lw_okq (⟨"DarkStreetModel", "areUnlike", "(II)Z"⟩, 78) := ⟨⟨by decide +kernel, by decide +kernel⟩, List.mem_of_getElem? (i := 882) (by decide +kernel), List.mem_of_getElem? (i := 1167) (by decide +kernel), List.mem_of_getElem? (i := 1168) (by decide +kernel)⟩
theorem lw_p34 : lw_okq (⟨"DarkStreetModel", "cableOf", "(II)I"⟩, 78) := ⟨⟨by decide +kernel, by decide +kernel⟩, List.mem_of_getElem? (i := 882) (by decide +kernel), List.mem_of_getElem? (i := 1172) (by decide +kernel), List.mem_of_getElem? (i := 1173) (by decide +kernel)⟩
theorem lw_p35 : lw_okq (⟨"DarkStreetModel", "put", "(I)V"⟩, 78) := ⟨⟨by decide +kernel, by decide +kernel⟩, List.mem_of_getElem? (i := 882) (by decide +kernel), List.mem_of_getElem? (i := 1197) (by decide +kernel), List.mem_of_getElem? (i := 1198) (by decide +kernel)⟩
theorem lw_p36 : lw_okq (⟨"DarkStreetModel", "clause", "(I)V"⟩, 78) := ⟨⟨by decide +kernel, by decide +kernel⟩, List.mem_of_getElem? (i := 882) (by decide +kernel), List.mem_of_getElem? (i := 1209) (by decide +kernel), List.mem_of_getElem? (i := 1210) (by decide +kernel)⟩
theorem lw_p37 : lw_okq (⟨"DarkStreetModel", "blanks", "()V"⟩, 78) := ⟨⟨by decide +kernel, by decide +kernel⟩, List.mem_of_getElem? (i := 882) (by decide +kernel), List.mem_of_getElem? (i := 1213) (by decide +kernel), List.mem_of_getElem? (i := 1214) (by decide +kernel)⟩
theorem lw_p38 : lw_okq (⟨"DarkStreetModel", "sign", "()I"⟩, 78) := ⟨⟨by decide +kernel, by decide +kernel⟩, List.mem_of_getElem? (i := 882) (by decide +kernel), List.mem_of_getElem? (i := 1217) (by decide +kernel), List.mem_of_getElem? (i := 1218) (by decide +kernel)⟩
theorem lw_p39 : lw_okq (⟨"DarkStreetModel", "stands", "(Ljava/lang/String;)Z"⟩, 78) := ⟨⟨by decide +kernel, by decide +kernel⟩, List.mem_of_getElem? (i := 882) (by decide +kernel), List.mem_of_getElem? (i := 1228) (by decide +kernel), List.mem_of_getElem? (i := 1229) (by decide +kernel)⟩
theorem lw_p40 : lw_okq (⟨"DarkStreetModel", "fails", "(II)V"⟩, 78) := ⟨⟨by decide +kernel, by decide +kernel⟩, List.mem_of_getElem? (i := 882) (by decide +kernel), List.mem_of_getElem? (i := 1234) (by decide +kernel), List.mem_of_getElem? (i := 1235) (by decide +kernel)⟩
theorem lw_p41 : lw_okq (⟨"DarkStreetModel", "wasTold", "(II)Z"⟩, 78) := ⟨⟨by decide +kernel, by decide +kernel⟩, List.mem_of_getElem? (i := 882) (by decide +kernel), List.mem_of_getElem? (i := 1238) (by decide +kernel), List.mem_of_getElem? (i := 1239) (by decide +kernel)⟩
theorem lw_p42 : lw_okq (⟨"DarkStreetModel", "amount", "(II)I"⟩, 78) := ⟨⟨by decide +kernel, by decide +kernel⟩, List.mem_of_getElem? (i := 882) (by decide +kernel), List.mem_of_getElem? (i := 1242) (by decide +kernel), List.mem_of_getElem? (i := 1243) (by decide +kernel)⟩
theorem lw_p43 : lw_okq (⟨"DarkStreetModel", "digits", "(I)I"⟩, 78) := ⟨⟨by decide +kernel, by decide +kernel⟩, List.mem_of_getElem? (i := 882) (by decide +kernel), List.mem_of_getElem? (i := 1246) (by decide +kernel), List.mem_of_getElem? (i := 1247) (by decide +kernel)⟩
theorem lw_p44 : lw_okq (⟨"DarkStreetModel", "isDigit", "()Z"⟩, 78) := ⟨⟨by decide +kernel, by decide +kernel⟩, List.mem_of_getElem? (i := 882) (by decide +kernel), List.mem_of_getElem? (i := 1250) (by decide +kernel), List.mem_of_getElem? (i := 1251) (by decide +kernel)⟩
theorem lw_p45 : lw_okq (⟨"DarkStreetModel", "sum", "()V"⟩, 78) := ⟨⟨by decide +kernel, by decide +kernel⟩, List.mem_of_getElem? (i := 882) (by decide +kernel), List.mem_of_getElem? (i := 1256) (by decide +kernel), List.mem_of_getElem? (i := 1257) (by decide +kernel)⟩
theorem lw_p46 : lw_okq (⟨"DarkStreetModel", "term", "()V"⟩, 78) := ⟨⟨by decide +kernel, by decide +kernel⟩, List.mem_of_getElem? (i := 882) (by decide +kernel), List.mem_of_getElem? (i := 1260) (by decide +kernel), List.mem_of_getElem? (i := 1261) (by decide +kernel)⟩
theorem lw_p47 : lw_okq (⟨"DarkStreetModel", "value", "()V"⟩, 78) := ⟨⟨by decide +kernel, by decide +kernel⟩, List.mem_of_getElem? (i := 882) (by decide +kernel), List.mem_of_getElem? (i := 1264) (by decide +kernel), List.mem_of_getElem? (i := 1265) (by decide +kernel)⟩
def lw_privs_3 : List (MethodName × Nat) := [(⟨"DarkStreetModel", "isMaker", "(I)Z"⟩, 78), (⟨"DarkStreetModel", "areUnlike", "(II)Z"⟩, 78), (⟨"DarkStreetModel", "cableOf", "(II)I"⟩, 78), (⟨"DarkStreetModel", "put", "(I)V"⟩, 78), (⟨"DarkStreetModel", "clause", "(I)V"⟩, 78), (⟨"DarkStreetModel", "blanks", "()V"⟩, 78), (⟨"DarkStreetModel", "sign", "()I"⟩, 78), (⟨"DarkStreetModel", "stands", "(Ljava/lang/String;)Z"⟩, 78), (⟨"DarkStreetModel", "fails", "(II)V"⟩, 78), (⟨"DarkStreetModel", "wasTold", "(II)Z"⟩, 78), (⟨"DarkStreetModel", "amount", "(II)I"⟩, 78), (⟨"DarkStreetModel", "digits", "(I)I"⟩, 78), (⟨"DarkStreetModel", "isDigit", "()Z"⟩, 78), (⟨"DarkStreetModel", "sum", "()V"⟩, 78), (⟨"DarkStreetModel", "term", "()V"⟩, 78), (⟨"DarkStreetModel", "value", "()V"⟩, 78)]
theorem lw_r3 : ∀ q ∈ lw_privs_3, lw_okq q := List.forall_mem_cons.mpr ⟨lw_p32, List.forall_mem_cons.mpr ⟨lw_p33, List.forall_mem_cons.mpr ⟨lw_p34, List.forall_mem_cons.mpr ⟨lw_p35, List.forall_mem_cons.mpr ⟨lw_p36, List.forall_mem_cons.mpr ⟨lw_p37, List.forall_mem_cons.mpr ⟨lw_p38, List.forall_mem_cons.mpr ⟨lw_p39, List.forall_mem_cons.mpr ⟨lw_p40, List.forall_mem_cons.mpr ⟨lw_p41, List.forall_mem_cons.mpr ⟨lw_p42, List.forall_mem_cons.mpr ⟨lw_p43, List.forall_mem_cons.mpr ⟨lw_p44, List.forall_mem_cons.mpr ⟨lw_p45, List.forall_mem_cons.mpr ⟨lw_p46, List.forall_mem_cons.mpr ⟨lw_p47, fun _ h => absurd h List.not_mem_nil⟩⟩⟩⟩⟩⟩⟩⟩⟩⟩⟩⟩⟩⟩⟩⟩
theorem lw_p48 : lw_okq (⟨"DarkStreetModel", "isCounted", "(I)V"⟩, 78) := ⟨⟨by decide +kernel, by decide +kernel⟩, List.mem_of_getElem? (i := 882) (by decide +kernel), List.mem_of_getElem? (i := 1269) (by decide +kernel), List.mem_of_getElem? (i := 1270) (by decide +kernel)⟩
theorem lw_p49 : lw_okq (⟨"DarkStreetModel", "entry", "(II)V"⟩, 78) := ⟨⟨by decide +kernel, by decide +kernel⟩, List.mem_of_getElem? (i := 882) (by decide +kernel), List.mem_of_getElem? (i := 1273) (by decide +kernel), List.mem_of_getElem? (i := 1274) (by decide +kernel)⟩
theorem lw_p50 : lw_okq (⟨"DarkStreetModel", "takes", "(Ljava/lang/String;)Z"⟩, 78) := ⟨⟨by decide +kernel, by decide +kernel⟩, List.mem_of_getElem? (i := 882) (by decide +kernel), List.mem_of_getElem? (i := 1296) (by decide +kernel), List.mem_of_getElem? (i := 1297) (by decide +kernel)⟩
theorem lw_p51 : lw_okq (⟨"DarkStreetModel", "test", "()V"⟩, 78) := ⟨⟨by decide +kernel, by decide +kernel⟩, List.mem_of_getElem? (i := 882) (by decide +kernel), List.mem_of_getElem? (i := 1300) (by decide +kernel), List.mem_of_getElem? (i := 1301) (by decide +kernel)⟩
theorem lw_p52 : lw_okq (⟨"DarkStreetModel", "fact", "()Z"⟩, 78) := ⟨⟨by decide +kernel, by decide +kernel⟩, List.mem_of_getElem? (i := 882) (by decide +kernel), List.mem_of_getElem? (i := 1304) (by decide +kernel), List.mem_of_getElem? (i := 1305) (by decide +kernel)⟩
theorem lw_p53 : lw_okq (⟨"DarkStreetModel", "opens", "(I)V"⟩, 78) := ⟨⟨by decide +kernel, by decide +kernel⟩, List.mem_of_getElem? (i := 882) (by decide +kernel), List.mem_of_getElem? (i := 1309) (by decide +kernel), List.mem_of_getElem? (i := 1310) (by decide +kernel)⟩
theorem lw_p54 : lw_okq (⟨"DarkStreetModel", "compared", "()V"⟩, 78) := ⟨⟨by decide +kernel, by decide +kernel⟩, List.mem_of_getElem? (i := 882) (by decide +kernel), List.mem_of_getElem? (i := 1313) (by decide +kernel), List.mem_of_getElem? (i := 1314) (by decide +kernel)⟩
theorem lw_p55 : lw_okq (⟨"DarkStreetModel", "answers", "(I)V"⟩, 78) := ⟨⟨by decide +kernel, by decide +kernel⟩, List.mem_of_getElem? (i := 882) (by decide +kernel), List.mem_of_getElem? (i := 1317) (by decide +kernel), List.mem_of_getElem? (i := 1318) (by decide +kernel)⟩
theorem lw_p56 : lw_okq (⟨"DarkStreetModel", "top", "()I"⟩, 78) := ⟨⟨by decide +kernel, by decide +kernel⟩, List.mem_of_getElem? (i := 882) (by decide +kernel), List.mem_of_getElem? (i := 1321) (by decide +kernel), List.mem_of_getElem? (i := 1322) (by decide +kernel)⟩
theorem lw_p57 : lw_okq (⟨"DarkStreetModel", "isRule", "(I)Z"⟩, 78) := ⟨⟨by decide +kernel, by decide +kernel⟩, List.mem_of_getElem? (i := 882) (by decide +kernel), List.mem_of_getElem? (i := 1331) (by decide +kernel), List.mem_of_getElem? (i := 1332) (by decide +kernel)⟩
theorem lw_p58 : lw_okq (⟨"DarkStreetModel", "allHarms", "()J"⟩, 78) := ⟨⟨by decide +kernel, by decide +kernel⟩, List.mem_of_getElem? (i := 882) (by decide +kernel), List.mem_of_getElem? (i := 1336) (by decide +kernel), List.mem_of_getElem? (i := 1337) (by decide +kernel)⟩
theorem lw_p59 : lw_okq (⟨"DarkStreetModel", "quarter", "(II)V"⟩, 78) := ⟨⟨by decide +kernel, by decide +kernel⟩, List.mem_of_getElem? (i := 882) (by decide +kernel), List.mem_of_getElem? (i := 1340) (by decide +kernel), List.mem_of_getElem? (i := 1341) (by decide +kernel)⟩
theorem lw_p60 : lw_okq (⟨"DarkStreetModel", "begins", "(I)V"⟩, 78) := ⟨⟨by decide +kernel, by decide +kernel⟩, List.mem_of_getElem? (i := 882) (by decide +kernel), List.mem_of_getElem? (i := 1344) (by decide +kernel), List.mem_of_getElem? (i := 1345) (by decide +kernel)⟩
theorem lw_p61 : lw_okq (⟨"DarkStreetModel", "spoils", "(II)I"⟩, 78) := ⟨⟨by decide +kernel, by decide +kernel⟩, List.mem_of_getElem? (i := 882) (by decide +kernel), List.mem_of_getElem? (i := 1348) (by decide +kernel), List.mem_of_getElem? (i := 1349) (by decide +kernel)⟩
theorem lw_p62 : lw_okq (⟨"DarkStreetModel", "asksOfHouse", "(I)V"⟩, 78) := ⟨⟨by decide +kernel, by decide +kernel⟩, List.mem_of_getElem? (i := 882) (by decide +kernel), List.mem_of_getElem? (i := 1352) (by decide +kernel), List.mem_of_getElem? (i := 1353) (by decide +kernel)⟩
theorem lw_p63 : lw_okq (⟨"DarkStreetModel", "until", "()I"⟩, 78) := ⟨⟨by decide +kernel, by decide +kernel⟩, List.mem_of_getElem? (i := 882) (by decide +kernel), List.mem_of_getElem? (i := 1356) (by decide +kernel), List.mem_of_getElem? (i := 1357) (by decide +kernel)⟩
def lw_privs_4 : List (MethodName × Nat) := [(⟨"DarkStreetModel", "isCounted", "(I)V"⟩, 78), (⟨"DarkStreetModel", "entry", "(II)V"⟩, 78), (⟨"DarkStreetModel", "takes", "(Ljava/lang/String;)Z"⟩, 78), (⟨"DarkStreetModel", "test", "()V"⟩, 78), (⟨"DarkStreetModel", "fact", "()Z"⟩, 78), (⟨"DarkStreetModel", "opens", "(I)V"⟩, 78), (⟨"DarkStreetModel", "compared", "()V"⟩, 78), (⟨"DarkStreetModel", "answers", "(I)V"⟩, 78), (⟨"DarkStreetModel", "top", "()I"⟩, 78), (⟨"DarkStreetModel", "isRule", "(I)Z"⟩, 78), (⟨"DarkStreetModel", "allHarms", "()J"⟩, 78), (⟨"DarkStreetModel", "quarter", "(II)V"⟩, 78), (⟨"DarkStreetModel", "begins", "(I)V"⟩, 78), (⟨"DarkStreetModel", "spoils", "(II)I"⟩, 78), (⟨"DarkStreetModel", "asksOfHouse", "(I)V"⟩, 78), (⟨"DarkStreetModel", "until", "()I"⟩, 78)]
theorem lw_r4 : ∀ q ∈ lw_privs_4, lw_okq q := List.forall_mem_cons.mpr ⟨lw_p48, List.forall_mem_cons.mpr ⟨lw_p49, List.forall_mem_cons.mpr ⟨lw_p50, List.forall_mem_cons.mpr ⟨lw_p51, List.forall_mem_cons.mpr ⟨lw_p52, List.forall_mem_cons.mpr ⟨lw_p53, List.forall_mem_cons.mpr ⟨lw_p54, List.forall_mem_cons.mpr ⟨lw_p55, List.forall_mem_cons.mpr ⟨lw_p56, List.forall_mem_cons.mpr ⟨lw_p57, List.forall_mem_cons.mpr ⟨lw_p58, List.forall_mem_cons.mpr ⟨lw_p59, List.forall_mem_cons.mpr ⟨lw_p60, List.forall_mem_cons.mpr ⟨lw_p61, List.forall_mem_cons.mpr ⟨lw_p62, List.forall_mem_cons.mpr ⟨lw_p63, fun _ h => absurd h List.not_mem_nil⟩⟩⟩⟩⟩⟩⟩⟩⟩⟩⟩⟩⟩⟩⟩⟩
theorem lw_p64 : lw_okq (⟨"DarkStreetModel", "sumOf", "(II)J"⟩, 78) := ⟨⟨by decide +kernel, by decide +kernel⟩, List.mem_of_getElem? (i := 882) (by decide +kernel), List.mem_of_getElem? (i := 1360) (by decide +kernel), List.mem_of_getElem? (i := 1361) (by decide +kernel)⟩
theorem lw_p65 : lw_okq (⟨"DarkStreetModel", "answer", "(III)J"⟩, 78) := ⟨⟨by decide +kernel, by decide +kernel⟩, List.mem_of_getElem? (i := 882) (by decide +kernel), List.mem_of_getElem? (i := 1364) (by decide +kernel), List.mem_of_getElem? (i := 1365) (by decide +kernel)⟩
theorem lw_p66 : lw_okq (⟨"DarkStreetModel", "sorts", "(I)I"⟩, 78) := ⟨⟨by decide +kernel, by decide +kernel⟩, List.mem_of_getElem? (i := 882) (by decide +kernel), List.mem_of_getElem? (i := 1377) (by decide +kernel), List.mem_of_getElem? (i := 1378) (by decide +kernel)⟩
theorem lw_p67 : lw_okq (⟨"DarkStreetModel", "isDue", "(I)Z"⟩, 78) := ⟨⟨by decide +kernel, by decide +kernel⟩, List.mem_of_getElem? (i := 882) (by decide +kernel), List.mem_of_getElem? (i := 1381) (by decide +kernel), List.mem_of_getElem? (i := 1382) (by decide +kernel)⟩
theorem lw_p68 : lw_okq (⟨"DarkStreetModel", "firstOf", "(II)J"⟩, 78) := ⟨⟨by decide +kernel, by decide +kernel⟩, List.mem_of_getElem? (i := 882) (by decide +kernel), List.mem_of_getElem? (i := 1385) (by decide +kernel), List.mem_of_getElem? (i := 1386) (by decide +kernel)⟩
theorem lw_p69 : lw_okq (⟨"DarkStreetModel", "asksOfNeed", "(II)V"⟩, 78) := ⟨⟨by decide +kernel, by decide +kernel⟩, List.mem_of_getElem? (i := 882) (by decide +kernel), List.mem_of_getElem? (i := 1389) (by decide +kernel), List.mem_of_getElem? (i := 1390) (by decide +kernel)⟩
theorem lw_p70 : lw_okq (⟨"DarkStreetModel", "has", "(III)I"⟩, 78) := ⟨⟨by decide +kernel, by decide +kernel⟩, List.mem_of_getElem? (i := 882) (by decide +kernel), List.mem_of_getElem? (i := 1393) (by decide +kernel), List.mem_of_getElem? (i := 1394) (by decide +kernel)⟩
theorem lw_p71 : lw_okq (⟨"DarkStreetModel", "nearest", "(I)I"⟩, 78) := ⟨⟨by decide +kernel, by decide +kernel⟩, List.mem_of_getElem? (i := 882) (by decide +kernel), List.mem_of_getElem? (i := 1397) (by decide +kernel), List.mem_of_getElem? (i := 1398) (by decide +kernel)⟩
theorem lw_p72 : lw_okq (⟨"DarkStreetModel", "far", "(II)I"⟩, 78) := ⟨⟨by decide +kernel, by decide +kernel⟩, List.mem_of_getElem? (i := 882) (by decide +kernel), List.mem_of_getElem? (i := 1401) (by decide +kernel), List.mem_of_getElem? (i := 1402) (by decide +kernel)⟩
theorem lw_p73 : lw_okq (⟨"DarkStreetModel", "gives", "(IIIII)I"⟩, 78) := ⟨⟨by decide +kernel, by decide +kernel⟩, List.mem_of_getElem? (i := 882) (by decide +kernel), List.mem_of_getElem? (i := 1408) (by decide +kernel), List.mem_of_getElem? (i := 1409) (by decide +kernel)⟩
theorem lw_p74 : lw_okq (⟨"DarkStreetModel", "asksOfGiver", "(III)V"⟩, 78) := ⟨⟨by decide +kernel, by decide +kernel⟩, List.mem_of_getElem? (i := 882) (by decide +kernel), List.mem_of_getElem? (i := 1412) (by decide +kernel), List.mem_of_getElem? (i := 1413) (by decide +kernel)⟩
theorem lw_p75 : lw_okq (⟨"DarkStreetModel", "holdOf", "(I)I"⟩, 78) := ⟨⟨by decide +kernel, by decide +kernel⟩, List.mem_of_getElem? (i := 882) (by decide +kernel), List.mem_of_getElem? (i := 1416) (by decide +kernel), List.mem_of_getElem? (i := 1417) (by decide +kernel)⟩
theorem lw_p76 : lw_okq (⟨"DarkStreetModel", "aheadOf", "(III)J"⟩, 78) := ⟨⟨by decide +kernel, by decide +kernel⟩, List.mem_of_getElem? (i := 882) (by decide +kernel), List.mem_of_getElem? (i := 1449) (by decide +kernel), List.mem_of_getElem? (i := 1450) (by decide +kernel)⟩
theorem lw_p77 : lw_okq (⟨"DarkStreetModel", "keeps", "()V"⟩, 78) := ⟨⟨by decide +kernel, by decide +kernel⟩, List.mem_of_getElem? (i := 882) (by decide +kernel), List.mem_of_getElem? (i := 1453) (by decide +kernel), List.mem_of_getElem? (i := 1454) (by decide +kernel)⟩
theorem lw_p78 : lw_okq (⟨"DarkStreetModel", "goesOn", "(III)J"⟩, 78) := ⟨⟨by decide +kernel, by decide +kernel⟩, List.mem_of_getElem? (i := 882) (by decide +kernel), List.mem_of_getElem? (i := 1463) (by decide +kernel), List.mem_of_getElem? (i := 1464) (by decide +kernel)⟩
theorem lw_p79 : lw_okq (⟨"DarkStreetModel", "putsBack", "()V"⟩, 78) := ⟨⟨by decide +kernel, by decide +kernel⟩, List.mem_of_getElem? (i := 882) (by decide +kernel), List.mem_of_getElem? (i := 1467) (by decide +kernel), List.mem_of_getElem? (i := 1468) (by decide +kernel)⟩
def lw_privs_5 : List (MethodName × Nat) := [(⟨"DarkStreetModel", "sumOf", "(II)J"⟩, 78), (⟨"DarkStreetModel", "answer", "(III)J"⟩, 78), (⟨"DarkStreetModel", "sorts", "(I)I"⟩, 78), (⟨"DarkStreetModel", "isDue", "(I)Z"⟩, 78), (⟨"DarkStreetModel", "firstOf", "(II)J"⟩, 78), (⟨"DarkStreetModel", "asksOfNeed", "(II)V"⟩, 78), (⟨"DarkStreetModel", "has", "(III)I"⟩, 78), (⟨"DarkStreetModel", "nearest", "(I)I"⟩, 78), (⟨"DarkStreetModel", "far", "(II)I"⟩, 78), (⟨"DarkStreetModel", "gives", "(IIIII)I"⟩, 78), (⟨"DarkStreetModel", "asksOfGiver", "(III)V"⟩, 78), (⟨"DarkStreetModel", "holdOf", "(I)I"⟩, 78), (⟨"DarkStreetModel", "aheadOf", "(III)J"⟩, 78), (⟨"DarkStreetModel", "keeps", "()V"⟩, 78), (⟨"DarkStreetModel", "goesOn", "(III)J"⟩, 78), (⟨"DarkStreetModel", "putsBack", "()V"⟩, 78)]
theorem lw_r5 : ∀ q ∈ lw_privs_5, lw_okq q := List.forall_mem_cons.mpr ⟨lw_p64, List.forall_mem_cons.mpr ⟨lw_p65, List.forall_mem_cons.mpr ⟨lw_p66, List.forall_mem_cons.mpr ⟨lw_p67, List.forall_mem_cons.mpr ⟨lw_p68, List.forall_mem_cons.mpr ⟨lw_p69, List.forall_mem_cons.mpr ⟨lw_p70, List.forall_mem_cons.mpr ⟨lw_p71, List.forall_mem_cons.mpr ⟨lw_p72, List.forall_mem_cons.mpr ⟨lw_p73, List.forall_mem_cons.mpr ⟨lw_p74, List.forall_mem_cons.mpr ⟨lw_p75, List.forall_mem_cons.mpr ⟨lw_p76, List.forall_mem_cons.mpr ⟨lw_p77, List.forall_mem_cons.mpr ⟨lw_p78, List.forall_mem_cons.mpr ⟨lw_p79, fun _ h => absurd h List.not_mem_nil⟩⟩⟩⟩⟩⟩⟩⟩⟩⟩⟩⟩⟩⟩⟩⟩
theorem lw_p80 : lw_okq (⟨"DarkStreetModel", "priceOf", "(I)I"⟩, 78) := ⟨⟨by decide +kernel, by decide +kernel⟩, List.mem_of_getElem? (i := 882) (by decide +kernel), List.mem_of_getElem? (i := 1501) (by decide +kernel), List.mem_of_getElem? (i := 1502) (by decide +kernel)⟩
theorem lw_p81 : lw_okq (⟨"DarkStreetModel", "harmWith", "(III)J"⟩, 78) := ⟨⟨by decide +kernel, by decide +kernel⟩, List.mem_of_getElem? (i := 882) (by decide +kernel), List.mem_of_getElem? (i := 1505) (by decide +kernel), List.mem_of_getElem? (i := 1506) (by decide +kernel)⟩
theorem lw_p82 : lw_okq (⟨"DarkStreetModel", "sumSaid", "(II)J"⟩, 78) := ⟨⟨by decide +kernel, by decide +kernel⟩, List.mem_of_getElem? (i := 882) (by decide +kernel), List.mem_of_getElem? (i := 1517) (by decide +kernel), List.mem_of_getElem? (i := 1518) (by decide +kernel)⟩
theorem lw_p83 : lw_okq (⟨"DarkStreetModel", "goesBy", "(II)V"⟩, 78) := ⟨⟨by decide +kernel, by decide +kernel⟩, List.mem_of_getElem? (i := 882) (by decide +kernel), List.mem_of_getElem? (i := 1525) (by decide +kernel), List.mem_of_getElem? (i := 1526) (by decide +kernel)⟩
theorem lw_p84 : lw_okq (⟨"DarkStreetModel", "walked", "(II)I"⟩, 78) := ⟨⟨by decide +kernel, by decide +kernel⟩, List.mem_of_getElem? (i := 882) (by decide +kernel), List.mem_of_getElem? (i := 1541) (by decide +kernel), List.mem_of_getElem? (i := 1542) (by decide +kernel)⟩
theorem lw_p85 : lw_okq (⟨"DarkStreetModel", "isNext", "(I)Z"⟩, 78) := ⟨⟨by decide +kernel, by decide +kernel⟩, List.mem_of_getElem? (i := 882) (by decide +kernel), List.mem_of_getElem? (i := 1545) (by decide +kernel), List.mem_of_getElem? (i := 1546) (by decide +kernel)⟩
theorem lw_p86 : lw_okq (⟨"DarkStreetModel", "swaps", "(II)V"⟩, 78) := ⟨⟨by decide +kernel, by decide +kernel⟩, List.mem_of_getElem? (i := 882) (by decide +kernel), List.mem_of_getElem? (i := 1549) (by decide +kernel), List.mem_of_getElem? (i := 1550) (by decide +kernel)⟩
theorem lw_p87 : lw_okq (⟨"DarkStreetModel", "harmOfRow", "(I)I"⟩, 78) := ⟨⟨by decide +kernel, by decide +kernel⟩, List.mem_of_getElem? (i := 882) (by decide +kernel), List.mem_of_getElem? (i := 1563) (by decide +kernel), List.mem_of_getElem? (i := 1564) (by decide +kernel)⟩
theorem lw_p88 : lw_okq (⟨"DarkStreetModel", "goesUp", "(II)Z"⟩, 78) := ⟨⟨by decide +kernel, by decide +kernel⟩, List.mem_of_getElem? (i := 882) (by decide +kernel), List.mem_of_getElem? (i := 1567) (by decide +kernel), List.mem_of_getElem? (i := 1568) (by decide +kernel)⟩
theorem lw_p89 : lw_okq (⟨"DarkStreetModel", "heard", "(II)I"⟩, 78) := ⟨⟨by decide +kernel, by decide +kernel⟩, List.mem_of_getElem? (i := 882) (by decide +kernel), List.mem_of_getElem? (i := 1583) (by decide +kernel), List.mem_of_getElem? (i := 1584) (by decide +kernel)⟩
theorem lw_p90 : lw_okq (⟨"DarkStreetModel", "forgets", "()V"⟩, 78) := ⟨⟨by decide +kernel, by decide +kernel⟩, List.mem_of_getElem? (i := 882) (by decide +kernel), List.mem_of_getElem? (i := 1595) (by decide +kernel), List.mem_of_getElem? (i := 1596) (by decide +kernel)⟩
theorem lw_p91 : lw_okq (⟨"DarkStreetModel", "hear", "(II)I"⟩, 78) := ⟨⟨by decide +kernel, by decide +kernel⟩, List.mem_of_getElem? (i := 882) (by decide +kernel), List.mem_of_getElem? (i := 1599) (by decide +kernel), List.mem_of_getElem? (i := 1600) (by decide +kernel)⟩
theorem lw_p92 : lw_okq (⟨"DarkStreetModel", "groups", "(I)I"⟩, 78) := ⟨⟨by decide +kernel, by decide +kernel⟩, List.mem_of_getElem? (i := 882) (by decide +kernel), List.mem_of_getElem? (i := 1607) (by decide +kernel), List.mem_of_getElem? (i := 1608) (by decide +kernel)⟩
theorem lw_p93 : lw_okq (⟨"DarkStreetModel", "carriesAll", "(IZ)V"⟩, 78) := ⟨⟨by decide +kernel, by decide +kernel⟩, List.mem_of_getElem? (i := 882) (by decide +kernel), List.mem_of_getElem? (i := 1620) (by decide +kernel), List.mem_of_getElem? (i := 1621) (by decide +kernel)⟩
theorem lw_p94 : lw_okq (⟨"DarkStreetModel", "carry", "([I)V"⟩, 78) := ⟨⟨by decide +kernel, by decide +kernel⟩, List.mem_of_getElem? (i := 882) (by decide +kernel), List.mem_of_getElem? (i := 1624) (by decide +kernel), List.mem_of_getElem? (i := 1625) (by decide +kernel)⟩
theorem lw_p95 : lw_okq (⟨"DarkStreetModel", "carryLongs", "([J)V"⟩, 78) := ⟨⟨by decide +kernel, by decide +kernel⟩, List.mem_of_getElem? (i := 882) (by decide +kernel), List.mem_of_getElem? (i := 1628) (by decide +kernel), List.mem_of_getElem? (i := 1629) (by decide +kernel)⟩
def lw_privs_6 : List (MethodName × Nat) := [(⟨"DarkStreetModel", "priceOf", "(I)I"⟩, 78), (⟨"DarkStreetModel", "harmWith", "(III)J"⟩, 78), (⟨"DarkStreetModel", "sumSaid", "(II)J"⟩, 78), (⟨"DarkStreetModel", "goesBy", "(II)V"⟩, 78), (⟨"DarkStreetModel", "walked", "(II)I"⟩, 78), (⟨"DarkStreetModel", "isNext", "(I)Z"⟩, 78), (⟨"DarkStreetModel", "swaps", "(II)V"⟩, 78), (⟨"DarkStreetModel", "harmOfRow", "(I)I"⟩, 78), (⟨"DarkStreetModel", "goesUp", "(II)Z"⟩, 78), (⟨"DarkStreetModel", "heard", "(II)I"⟩, 78), (⟨"DarkStreetModel", "forgets", "()V"⟩, 78), (⟨"DarkStreetModel", "hear", "(II)I"⟩, 78), (⟨"DarkStreetModel", "groups", "(I)I"⟩, 78), (⟨"DarkStreetModel", "carriesAll", "(IZ)V"⟩, 78), (⟨"DarkStreetModel", "carry", "([I)V"⟩, 78), (⟨"DarkStreetModel", "carryLongs", "([J)V"⟩, 78)]
theorem lw_r6 : ∀ q ∈ lw_privs_6, lw_okq q := List.forall_mem_cons.mpr ⟨lw_p80, List.forall_mem_cons.mpr ⟨lw_p81, List.forall_mem_cons.mpr ⟨lw_p82, List.forall_mem_cons.mpr ⟨lw_p83, List.forall_mem_cons.mpr ⟨lw_p84, List.forall_mem_cons.mpr ⟨lw_p85, List.forall_mem_cons.mpr ⟨lw_p86, List.forall_mem_cons.mpr ⟨lw_p87, List.forall_mem_cons.mpr ⟨lw_p88, List.forall_mem_cons.mpr ⟨lw_p89, List.forall_mem_cons.mpr ⟨lw_p90, List.forall_mem_cons.mpr ⟨lw_p91, List.forall_mem_cons.mpr ⟨lw_p92, List.forall_mem_cons.mpr ⟨lw_p93, List.forall_mem_cons.mpr ⟨lw_p94, List.forall_mem_cons.mpr ⟨lw_p95, fun _ h => absurd h List.not_mem_nil⟩⟩⟩⟩⟩⟩⟩⟩⟩⟩⟩⟩⟩⟩⟩⟩
def lw_privs : List (MethodName × Nat) := lw_privs_1 ++ (lw_privs_2 ++ (lw_privs_3 ++ (lw_privs_4 ++ (lw_privs_5 ++ (lw_privs_6)))))
def lw_tbl : List Cond := k2_sels lw_privs ++ tables_1
theorem lw_privs_ok : ∀ q ∈ lw_privs, lw_okq q := by
  show ∀ q ∈ lw_privs_1 ++ (lw_privs_2 ++ (lw_privs_3 ++ (lw_privs_4 ++ (lw_privs_5 ++ (lw_privs_6))))), lw_okq q
  exact List.forall_mem_append.mpr ⟨lw_r1, List.forall_mem_append.mpr ⟨lw_r2, List.forall_mem_append.mpr ⟨lw_r3, List.forall_mem_append.mpr ⟨lw_r4, List.forall_mem_append.mpr ⟨lw_r5, lw_r6⟩⟩⟩⟩⟩

def RX0 : String := "DarkStreet$Hearsay"
def TX0 : u_T := fun k => match k with
  | 0 => ("DarkStreet$Hearsay", "line", "[I", true)
  | 1 => ("DarkStreet$Hearsay", "steps", "[I", true)
  | 2 => ("DarkStreet$Hearsay", "told", "[Z", true)
  | _ => ("DarkStreet$Hearsay", "hearing", "I", false)
def tyX0 : Nat → FieldType := fun k => match k with
  | 0 => .array .int
  | 1 => .array .int
  | 2 => .array .boolean
  | _ => .int
abbrev wsX00 : List Cond := u_ws RX0 TX0 4
theorem nmX0 : ∀ a, a < 4 → ∀ b, b < 4 → a ≠ b → (TX0 a).2.1 ≠ (TX0 b).2.1 := by decide +kernel
theorem tyX0_ok : ∀ k, k < 4 → parseFieldDescriptor (TX0 k).2.2.1 = some (tyX0 k) := by decide +kernel
abbrev cX0_init : ByteArray := prog_2_method_1_code
def yX0_init : MethodName := ⟨RX0, "<init>", "()V"⟩
abbrev cX0_spread : ByteArray := prog_2_method_2_code
def yX0_spread : MethodName := ⟨RX0, "spread", "(LDarkStreet$Town;I)I"⟩
abbrev cX0_countHearing : ByteArray := prog_2_method_3_code
def yX0_countHearing : MethodName := ⟨RX0, "countHearing", "()I"⟩
abbrev cX0_groupsWithout : ByteArray := prog_2_method_4_code
def yX0_groupsWithout : MethodName := ⟨RX0, "groupsWithout", "(LDarkStreet$Town;I)I"⟩
abbrev cX0_spreadOn : ByteArray := prog_2_method_5_code
def yX0_spreadOn : MethodName := ⟨RX0, "spreadOn", "(LDarkStreet$Town;I)I"⟩
def RX1 : String := "DarkStreet$Quarters"
def TX1 : u_T := fun k => match k with
  | 0 => ("DarkStreet$Quarters", "words", "[J", true)
  | 1 => ("DarkStreet$Quarters", "firsts", "[J", true)
  | _ => ("DarkStreet$Quarters", "line", "[I", true)
def tyX1 : Nat → FieldType := fun k => match k with
  | 0 => .array .long
  | 1 => .array .long
  | _ => .array .int
abbrev wsX10 : List Cond := u_ws RX1 TX1 3
theorem nmX1 : ∀ a, a < 3 → ∀ b, b < 3 → a ≠ b → (TX1 a).2.1 ≠ (TX1 b).2.1 := by decide +kernel
theorem tyX1_ok : ∀ k, k < 3 → parseFieldDescriptor (TX1 k).2.2.1 = some (tyX1 k) := by decide +kernel
abbrev cX1_init : ByteArray := prog_3_method_1_code
def yX1_init : MethodName := ⟨RX1, "<init>", "()V"⟩
abbrev cX1_pass : ByteArray := prog_3_method_2_code
def yX1_pass : MethodName := ⟨RX1, "pass", "(LDarkStreet$Town;LDarkStreet$Rule;I)J"⟩
abbrev cX1_bringCurrent : ByteArray := prog_3_method_3_code
def yX1_bringCurrent : MethodName := ⟨RX1, "bringCurrent", "(LDarkStreet$Town;)V"⟩
abbrev cX1_makeAll : ByteArray := prog_3_method_4_code
def yX1_makeAll : MethodName := ⟨RX1, "makeAll", "(LDarkStreet$Town;)V"⟩
abbrev cX1_spoil : ByteArray := prog_3_method_5_code
def yX1_spoil : MethodName := ⟨RX1, "spoil", "(LDarkStreet$Town;LDarkStreet$Rule;I)V"⟩
abbrev cX1_firstOf : ByteArray := prog_3_method_6_code
def yX1_firstOf : MethodName := ⟨RX1, "firstOf", "(LDarkStreet$Town;LDarkStreet$Rule;I)J"⟩
abbrev cX1_lineUp : ByteArray := prog_3_method_7_code
def yX1_lineUp : MethodName := ⟨RX1, "lineUp", "(LDarkStreet$Town;LDarkStreet$Rule;)I"⟩
abbrev cX1_serve : ByteArray := prog_3_method_8_code
def yX1_serve : MethodName := ⟨RX1, "serve", "(LDarkStreet$Town;LDarkStreet$Rule;I[I)J"⟩
abbrev cX1_takeAll : ByteArray := prog_3_method_9_code
def yX1_takeAll : MethodName := ⟨RX1, "takeAll", "(LDarkStreet$Town;[III)I"⟩
abbrev cX1_take : ByteArray := prog_3_method_10_code
def yX1_take : MethodName := ⟨RX1, "take", "(LDarkStreet$Town;LDarkStreet$Rule;[III)I"⟩
abbrev cX1_tellHouse : ByteArray := prog_3_method_11_code
def yX1_tellHouse : MethodName := ⟨RX1, "tellHouse", "(LDarkStreet$Town;I)V"⟩
abbrev cX1_tellNeed : ByteArray := prog_3_method_12_code
def yX1_tellNeed : MethodName := ⟨RX1, "tellNeed", "(LDarkStreet$Town;[I)V"⟩
abbrev cX1_tellGiver : ByteArray := prog_3_method_13_code
def yX1_tellGiver : MethodName := ⟨RX1, "tellGiver", "(LDarkStreet$Town;III)V"⟩
def RX2 : String := "DarkStreet$Reader"
def TX2 : u_T := fun k => match k with
  | 0 => ("DarkStreet$Reader", "text", "[I", false)
  | 1 => ("DarkStreet$Reader", "length", "I", false)
  | 2 => ("DarkStreet$Reader", "at", "I", false)
  | 3 => ("DarkStreet$Reader", "token", "I", false)
  | 4 => ("DarkStreet$Reader", "place", "I", false)
  | 5 => ("DarkStreet$Reader", "number", "I", false)
  | 6 => ("DarkStreet$Reader", "counted", "I", false)
  | 7 => ("DarkStreet$Reader", "fault", "I", false)
  | _ => ("DarkStreet$Reader", "rule", "LDarkStreet$Rule;", false)
def tyX2 : Nat → FieldType := fun k => match k with
  | 0 => .array .int
  | 1 => .int
  | 2 => .int
  | 3 => .int
  | 4 => .int
  | 5 => .int
  | 6 => .int
  | 7 => .int
  | _ => .object "DarkStreet$Rule"
abbrev wsX20 : List Cond := u_ws RX2 TX2 9
theorem nmX2 : ∀ a, a < 9 → ∀ b, b < 9 → a ≠ b → (TX2 a).2.1 ≠ (TX2 b).2.1 := by decide +kernel
theorem tyX2_ok : ∀ k, k < 9 → parseFieldDescriptor (TX2 k).2.2.1 = some (tyX2 k) := by decide +kernel
abbrev cX2_init : ByteArray := prog_4_method_1_code
def yX2_init : MethodName := ⟨RX2, "<init>", "()V"⟩
abbrev cX2_readRule : ByteArray := prog_4_method_2_code
def yX2_readRule : MethodName := ⟨RX2, "readRule", "(LDarkStreet$Rule;[II)I"⟩
abbrev cX2_goesOn : ByteArray := prog_4_method_3_code
def yX2_goesOn : MethodName := ⟨RX2, "goesOn", "()Z"⟩
abbrev cX2_refuse : ByteArray := prog_4_method_4_code
def yX2_refuse : MethodName := ⟨RX2, "refuse", "(I)Z"⟩
abbrev cX2_readHold : ByteArray := prog_4_method_5_code
def yX2_readHold : MethodName := ⟨RX2, "readHold", "()V"⟩
abbrev cX2_readClause : ByteArray := prog_4_method_6_code
def yX2_readClause : MethodName := ⟨RX2, "readClause", "()V"⟩
abbrev cX2_readTest : ByteArray := prog_4_method_7_code
def yX2_readTest : MethodName := ⟨RX2, "readTest", "(I)Z"⟩
abbrev cX2_readFact : ByteArray := prog_4_method_8_code
def yX2_readFact : MethodName := ⟨RX2, "readFact", "(I)Z"⟩
abbrev cX2_compares : ByteArray := prog_4_method_9_code
def yX2_compares : MethodName := ⟨RX2, "compares", "(I)Z"⟩
abbrev cX2_readSum : ByteArray := prog_4_method_10_code
def yX2_readSum : MethodName := ⟨RX2, "readSum", "()Z"⟩
abbrev cX2_faultOfValue : ByteArray := prog_4_method_11_code
def yX2_faultOfValue : MethodName := ⟨RX2, "faultOfValue", "()I"⟩
abbrev cX2_next : ByteArray := prog_4_method_12_code
def yX2_next : MethodName := ⟨RX2, "next", "()V"⟩
abbrev cX2_wordFrom : ByteArray := prog_4_method_13_code
def yX2_wordFrom : MethodName := ⟨RX2, "wordFrom", "(II)I"⟩
abbrev cX2_isLetter : ByteArray := prog_4_method_14_code
def yX2_isLetter : MethodName := ⟨RX2, "isLetter", "(I)Z"⟩
abbrev cX2_isDigit : ByteArray := prog_4_method_15_code
def yX2_isDigit : MethodName := ⟨RX2, "isDigit", "(I)Z"⟩
def RX3 : String := "DarkStreet$Rule"
def TX3 : u_T := fun k => match k with
  | 0 => ("DarkStreet$Rule", "hold", "I", false)
  | 1 => ("DarkStreet$Rule", "clauses", "I", false)
  | 2 => ("DarkStreet$Rule", "length", "I", false)
  | 3 => ("DarkStreet$Rule", "sort", "[I", true)
  | 4 => ("DarkStreet$Rule", "sumAt", "[I", true)
  | 5 => ("DarkStreet$Rule", "testAt", "[I", true)
  | 6 => ("DarkStreet$Rule", "endAt", "[I", true)
  | 7 => ("DarkStreet$Rule", "code", "[I", true)
  | _ => ("DarkStreet$Rule", "stack", "[J", true)
def tyX3 : Nat → FieldType := fun k => match k with
  | 0 => .int
  | 1 => .int
  | 2 => .int
  | 3 => .array .int
  | 4 => .array .int
  | 5 => .array .int
  | 6 => .array .int
  | 7 => .array .int
  | _ => .array .long
abbrev wsX30 : List Cond := u_ws RX3 TX3 9
theorem nmX3 : ∀ a, a < 9 → ∀ b, b < 9 → a ≠ b → (TX3 a).2.1 ≠ (TX3 b).2.1 := by decide +kernel
theorem tyX3_ok : ∀ k, k < 9 → parseFieldDescriptor (TX3 k).2.2.1 = some (tyX3 k) := by decide +kernel
abbrev cX3_init : ByteArray := prog_5_method_1_code
def yX3_init : MethodName := ⟨RX3, "<init>", "()V"⟩
abbrev cX3_clear : ByteArray := prog_5_method_2_code
def yX3_clear : MethodName := ⟨RX3, "clear", "()V"⟩
abbrev cX3_openClause : ByteArray := prog_5_method_3_code
def yX3_openClause : MethodName := ⟨RX3, "openClause", "(I)V"⟩
abbrev cX3_openTest : ByteArray := prog_5_method_4_code
def yX3_openTest : MethodName := ⟨RX3, "openTest", "()V"⟩
abbrev cX3_closeClause : ByteArray := prog_5_method_5_code
def yX3_closeClause : MethodName := ⟨RX3, "closeClause", "()V"⟩
abbrev cX3_put : ByteArray := prog_5_method_6_code
def yX3_put : MethodName := ⟨RX3, "put", "(I)V"⟩
abbrev cX3_sumOf : ByteArray := prog_5_method_7_code
def yX3_sumOf : MethodName := ⟨RX3, "sumOf", "(I[J)J"⟩
abbrev cX3_worth : ByteArray := prog_5_method_8_code
def yX3_worth : MethodName := ⟨RX3, "worth", "(II[J)J"⟩
abbrev cX3_join : ByteArray := prog_5_method_9_code
def yX3_join : MethodName := ⟨RX3, "join", "(IJJ)J"⟩
def RX4 : String := "DarkStreet$Town"
def TX4 : u_T := fun k => match k with
  | 0 => ("DarkStreet$Town", "now", "I", false)
  | 1 => ("DarkStreet$Town", "said", "I", false)
  | 2 => ("DarkStreet$Town", "houses", "I", false)
  | 3 => ("DarkStreet$Town", "needs", "I", false)
  | 4 => ("DarkStreet$Town", "makers", "I", false)
  | 5 => ("DarkStreet$Town", "cables", "I", false)
  | 6 => ("DarkStreet$Town", "items", "I", false)
  | 7 => ("DarkStreet$Town", "ends", "I", false)
  | 8 => ("DarkStreet$Town", "house", "[[I", true)
  | 9 => ("DarkStreet$Town", "near", "[[I", true)
  | 10 => ("DarkStreet$Town", "need", "[[I", true)
  | 11 => ("DarkStreet$Town", "maker", "[[I", true)
  | 12 => ("DarkStreet$Town", "cable", "[[I", true)
  | 13 => ("DarkStreet$Town", "wire", "[[I", true)
  | 14 => ("DarkStreet$Town", "tie", "[[I", true)
  | 15 => ("DarkStreet$Town", "item", "[[I", true)
  | 16 => ("DarkStreet$Town", "end", "[[I", true)
  | 17 => ("DarkStreet$Town", "turner", "[[I", true)
  | 18 => ("DarkStreet$Town", "gave", "[[J", true)
  | _ => ("DarkStreet$Town", "harm", "[J", true)
def tyX4 : Nat → FieldType := fun k => match k with
  | 0 => .int
  | 1 => .int
  | 2 => .int
  | 3 => .int
  | 4 => .int
  | 5 => .int
  | 6 => .int
  | 7 => .int
  | 8 => .array (.array .int)
  | 9 => .array (.array .int)
  | 10 => .array (.array .int)
  | 11 => .array (.array .int)
  | 12 => .array (.array .int)
  | 13 => .array (.array .int)
  | 14 => .array (.array .int)
  | 15 => .array (.array .int)
  | 16 => .array (.array .int)
  | 17 => .array (.array .int)
  | 18 => .array (.array .long)
  | _ => .array .long
abbrev wsX40 : List Cond := u_ws RX4 TX4 20
theorem nmX4 : ∀ a, a < 20 → ∀ b, b < 20 → a ≠ b → (TX4 a).2.1 ≠ (TX4 b).2.1 := by decide +kernel
theorem tyX4_ok : ∀ k, k < 20 → parseFieldDescriptor (TX4 k).2.2.1 = some (tyX4 k) := by decide +kernel
abbrev cX4_init : ByteArray := prog_6_method_1_code
def yX4_init : MethodName := ⟨RX4, "<init>", "()V"⟩
abbrev cX4_copy : ByteArray := prog_6_method_2_code
def yX4_copy : MethodName := ⟨RX4, "copy", "(LDarkStreet$Town;)V"⟩
abbrev cX4_copyRows : ByteArray := prog_6_method_3_code
def yX4_copyRows : MethodName := ⟨RX4, "copyRows", "([[I[[I)V"⟩
abbrev cX4_hasHouse : ByteArray := prog_6_method_4_code
def yX4_hasHouse : MethodName := ⟨RX4, "hasHouse", "(I)Z"⟩
abbrev cX4_areTwo : ByteArray := prog_6_method_5_code
def yX4_areTwo : MethodName := ⟨RX4, "areTwo", "(II)Z"⟩
abbrev cX4_isSet : ByteArray := prog_6_method_6_code
def yX4_isSet : MethodName := ⟨RX4, "isSet", "(I)Z"⟩
abbrev cX4_addHouse : ByteArray := prog_6_method_7_code
def yX4_addHouse : MethodName := ⟨RX4, "addHouse", "(III)I"⟩
abbrev cX4_sortOthers : ByteArray := prog_6_method_8_code
def yX4_sortOthers : MethodName := ⟨RX4, "sortOthers", "(I)V"⟩
abbrev cX4_addCable : ByteArray := prog_6_method_9_code
def yX4_addCable : MethodName := ⟨RX4, "addCable", "(III)I"⟩
abbrev cX4_far : ByteArray := prog_6_method_10_code
def yX4_far : MethodName := ⟨RX4, "far", "(II)I"⟩
abbrev cX4_hourNow : ByteArray := prog_6_method_11_code
def yX4_hourNow : MethodName := ⟨RX4, "hourNow", "()I"⟩
abbrev cX4_tillEnd : ByteArray := prog_6_method_12_code
def yX4_tillEnd : MethodName := ⟨RX4, "tillEnd", "()I"⟩
abbrev cX4_isDue : ByteArray := prog_6_method_13_code
def yX4_isDue : MethodName := ⟨RX4, "isDue", "(I)Z"⟩
abbrev cX4_noiseAt : ByteArray := prog_6_method_14_code
def yX4_noiseAt : MethodName := ⟨RX4, "noiseAt", "(II)I"⟩
abbrev cX4_gotMore : ByteArray := prog_6_method_15_code
def yX4_gotMore : MethodName := ⟨RX4, "gotMore", "(I)J"⟩
abbrev cX4_priceOf : ByteArray := prog_6_method_16_code
def yX4_priceOf : MethodName := ⟨RX4, "priceOf", "(I)I"⟩
abbrev cX4_addItems : ByteArray := prog_6_method_17_code
def yX4_addItems : MethodName := ⟨RX4, "addItems", "(I)V"⟩
abbrev cX4_lastEndWithin : ByteArray := prog_6_method_18_code
def yX4_lastEndWithin : MethodName := ⟨RX4, "lastEndWithin", "(I)I"⟩
abbrev cX4_weightOfEnds : ByteArray := prog_6_method_19_code
def yX4_weightOfEnds : MethodName := ⟨RX4, "weightOfEnds", "(I)J"⟩
abbrev cX4_hasTurners : ByteArray := prog_6_method_20_code
def yX4_hasTurners : MethodName := ⟨RX4, "hasTurners", "()Z"⟩
abbrev cX4_hears : ByteArray := prog_6_method_21_code
def yX4_hears : MethodName := ⟨RX4, "hears", "(II)Z"⟩
def RX5 : String := "DarkStreet$Turns"
def TX5 : u_T := fun k => match k with
  | 0 => ("DarkStreet$Turns", "left", "[[I", true)
  | 1 => ("DarkStreet$Turns", "harm", "[I", true)
  | 2 => ("DarkStreet$Turns", "row", "[I", true)
  | _ => ("DarkStreet$Turns", "best", "[I", true)
def tyX5 : Nat → FieldType := fun k => match k with
  | 0 => .array (.array .int)
  | 1 => .array .int
  | 2 => .array .int
  | _ => .array .int
abbrev wsX50 : List Cond := u_ws RX5 TX5 4
theorem nmX5 : ∀ a, a < 4 → ∀ b, b < 4 → a ≠ b → (TX5 a).2.1 ≠ (TX5 b).2.1 := by decide +kernel
theorem tyX5_ok : ∀ k, k < 4 → parseFieldDescriptor (TX5 k).2.2.1 = some (tyX5 k) := by decide +kernel
abbrev cX5_init : ByteArray := prog_7_method_1_code
def yX5_init : MethodName := ⟨RX5, "<init>", "()V"⟩
abbrev cX5_leastHarm : ByteArray := prog_7_method_2_code
def yX5_leastHarm : MethodName := ⟨RX5, "leastHarm", "(LDarkStreet$Town;I)I"⟩
abbrev cX5_turnAt : ByteArray := prog_7_method_3_code
def yX5_turnAt : MethodName := ⟨RX5, "turnAt", "(I)I"⟩
abbrev cX5_harmAfter : ByteArray := prog_7_method_4_code
def yX5_harmAfter : MethodName := ⟨RX5, "harmAfter", "(LDarkStreet$Town;II)I"⟩
def RX6 : String := "DarkStreet$Walks"
def TX6 : u_T := fun k => match k with
  | 0 => ("DarkStreet$Walks", "off", "[I", true)
  | 1 => ("DarkStreet$Walks", "order", "[I", true)
  | _ => ("DarkStreet$Walks", "best", "[I", true)
def tyX6 : Nat → FieldType := fun k => match k with
  | 0 => .array .int
  | 1 => .array .int
  | _ => .array .int
abbrev wsX60 : List Cond := u_ws RX6 TX6 3
theorem nmX6 : ∀ a, a < 3 → ∀ b, b < 3 → a ≠ b → (TX6 a).2.1 ≠ (TX6 b).2.1 := by decide +kernel
theorem tyX6_ok : ∀ k, k < 3 → parseFieldDescriptor (TX6 k).2.2.1 = some (tyX6 k) := by decide +kernel
abbrev cX6_init : ByteArray := prog_8_method_1_code
def yX6_init : MethodName := ⟨RX6, "<init>", "()V"⟩
abbrev cX6_reachOf : ByteArray := prog_8_method_2_code
def yX6_reachOf : MethodName := ⟨RX6, "reachOf", "(LDarkStreet$Town;I)I"⟩
abbrev cX6_lengthOf : ByteArray := prog_8_method_3_code
def yX6_lengthOf : MethodName := ⟨RX6, "lengthOf", "(LDarkStreet$Town;I)I"⟩
abbrev cX6_walkDoors : ByteArray := prog_8_method_4_code
def yX6_walkDoors : MethodName := ⟨RX6, "walkDoors", "(LDarkStreet$Town;II)I"⟩
abbrev cX6_doorAt : ByteArray := prog_8_method_5_code
def yX6_doorAt : MethodName := ⟨RX6, "doorAt", "(I)I"⟩
abbrev cX6_sumOfOrder : ByteArray := prog_8_method_6_code
def yX6_sumOfOrder : MethodName := ⟨RX6, "sumOfOrder", "(LDarkStreet$Town;II)I"⟩
abbrev cX6_nextOrder : ByteArray := prog_8_method_7_code
def yX6_nextOrder : MethodName := ⟨RX6, "nextOrder", "(I)Z"⟩
abbrev cX6_swap : ByteArray := prog_8_method_8_code
def yX6_swap : MethodName := ⟨RX6, "swap", "(II)V"⟩
def RX7 : String := "DarkStreet"
def TX7 : u_T := fun k => match k with
  | 0 => ("DarkStreet", "town", "LDarkStreet$Town;", true)
  | 1 => ("DarkStreet", "trial", "LDarkStreet$Town;", true)
  | 2 => ("DarkStreet", "images", "[LDarkStreet$Town;", true)
  | 3 => ("DarkStreet", "rules", "[LDarkStreet$Rule;", true)
  | 4 => ("DarkStreet", "ruleCount", "I", false)
  | 5 => ("DarkStreet", "tape", "[I", true)
  | 6 => ("DarkStreet", "tapeBytes", "I", false)
  | 7 => ("DarkStreet", "reader", "LDarkStreet$Reader;", true)
  | 8 => ("DarkStreet", "quarters", "LDarkStreet$Quarters;", true)
  | 9 => ("DarkStreet", "walks", "LDarkStreet$Walks;", true)
  | 10 => ("DarkStreet", "turns", "LDarkStreet$Turns;", true)
  | _ => ("DarkStreet", "hearsay", "LDarkStreet$Hearsay;", true)
def tyX7 : Nat → FieldType := fun k => match k with
  | 0 => .object "DarkStreet$Town"
  | 1 => .object "DarkStreet$Town"
  | 2 => .array (.object "DarkStreet$Town")
  | 3 => .array (.object "DarkStreet$Rule")
  | 4 => .int
  | 5 => .array .int
  | 6 => .int
  | 7 => .object "DarkStreet$Reader"
  | 8 => .object "DarkStreet$Quarters"
  | 9 => .object "DarkStreet$Walks"
  | 10 => .object "DarkStreet$Turns"
  | _ => .object "DarkStreet$Hearsay"
abbrev wsX70 : List Cond := u_ws RX7 TX7 12
theorem nmX7 : ∀ a, a < 12 → ∀ b, b < 12 → a ≠ b → (TX7 a).2.1 ≠ (TX7 b).2.1 := by decide +kernel
theorem tyX7_ok : ∀ k, k < 12 → parseFieldDescriptor (TX7 k).2.2.1 = some (tyX7 k) := by decide +kernel
abbrev cX7_init : ByteArray := prog_1_method_1_code
def yX7_init : MethodName := ⟨RX7, "<init>", "()V"⟩
abbrev cX7_within : ByteArray := prog_1_method_2_code
def yX7_within : MethodName := ⟨RX7, "within", "(III)Z"⟩
abbrev cX7_isGood : ByteArray := prog_1_method_3_code
def yX7_isGood : MethodName := ⟨RX7, "isGood", "(I)Z"⟩
abbrev cX7_house : ByteArray := prog_1_method_4_code
def yX7_house : MethodName := ⟨RX7, "house", "(III)I"⟩
abbrev cX7_store : ByteArray := prog_1_method_5_code
def yX7_store : MethodName := ⟨RX7, "store", "(III)I"⟩
abbrev cX7_need : ByteArray := prog_1_method_6_code
def yX7_need : MethodName := ⟨RX7, "need", "(IIIIIIZ)I"⟩
abbrev cX7_maker : ByteArray := prog_1_method_7_code
def yX7_maker : MethodName := ⟨RX7, "maker", "(IIIIII)I"⟩
abbrev cX7_on : ByteArray := prog_1_method_8_code
def yX7_on : MethodName := ⟨RX7, "on", "(IZ)Z"⟩
abbrev cX7_cable : ByteArray := prog_1_method_9_code
def yX7_cable : MethodName := ⟨RX7, "cable", "(III)I"⟩
abbrev cX7_tie : ByteArray := prog_1_method_10_code
def yX7_tie : MethodName := ⟨RX7, "tie", "(III)I"⟩
abbrev cX7_knock : ByteArray := prog_1_method_11_code
def yX7_knock : MethodName := ⟨RX7, "knock", "(I)I"⟩
abbrev cX7_comes : ByteArray := prog_1_method_12_code
def yX7_comes : MethodName := ⟨RX7, "comes", "(IZ)Z"⟩
abbrev cX7_say : ByteArray := prog_1_method_13_code
def yX7_say : MethodName := ⟨RX7, "say", "(I)I"⟩
abbrev cX7_feed : ByteArray := prog_1_method_14_code
def yX7_feed : MethodName := ⟨RX7, "feed", "(IIIII)I"⟩
abbrev cX7_addBytes : ByteArray := prog_1_method_15_code
def yX7_addBytes : MethodName := ⟨RX7, "addBytes", "(I)V"⟩
abbrev cX7_end : ByteArray := prog_1_method_16_code
def yX7_end : MethodName := ⟨RX7, "end", "(I)I"⟩
abbrev cX7_rule : ByteArray := prog_1_method_17_code
def yX7_rule : MethodName := ⟨RX7, "rule", "()I"⟩
abbrev cX7_ruleOf : ByteArray := prog_1_method_18_code
def yX7_ruleOf : MethodName := ⟨RX7, "ruleOf", "(I)LDarkStreet$Rule;"⟩
abbrev cX7_run : ByteArray := prog_1_method_19_code
def yX7_run : MethodName := ⟨RX7, "run", "(II)J"⟩
abbrev cX7_harmOf : ByteArray := prog_1_method_20_code
def yX7_harmOf : MethodName := ⟨RX7, "harmOf", "(LDarkStreet$Town;LDarkStreet$Rule;II)J"⟩
abbrev cX7_of : ByteArray := prog_1_method_21_code
def yX7_of : MethodName := ⟨RX7, "of", "(II)I"⟩
abbrev cX7_needs : ByteArray := prog_1_method_22_code
def yX7_needs : MethodName := ⟨RX7, "needs", "(II)I"⟩
abbrev cX7_harm : ByteArray := prog_1_method_23_code
def yX7_harm : MethodName := ⟨RX7, "harm", "(I)J"⟩
abbrev cX7_gave : ByteArray := prog_1_method_24_code
def yX7_gave : MethodName := ⟨RX7, "gave", "(II)J"⟩
abbrev cX7_carried : ByteArray := prog_1_method_25_code
def yX7_carried : MethodName := ⟨RX7, "carried", "(I)I"⟩
abbrev cX7_ahead : ByteArray := prog_1_method_26_code
def yX7_ahead : MethodName := ⟨RX7, "ahead", "(II)J"⟩
abbrev cX7_isAhead : ByteArray := prog_1_method_27_code
def yX7_isAhead : MethodName := ⟨RX7, "isAhead", "(LDarkStreet$Rule;II)Z"⟩
abbrev cX7_total : ByteArray := prog_1_method_28_code
def yX7_total : MethodName := ⟨RX7, "total", "(III)J"⟩
abbrev cX7_alone : ByteArray := prog_1_method_29_code
def yX7_alone : MethodName := ⟨RX7, "alone", "(IIII)J"⟩
abbrev cX7_lost : ByteArray := prog_1_method_30_code
def yX7_lost : MethodName := ⟨RX7, "lost", "(II)J"⟩
abbrev cX7_helps : ByteArray := prog_1_method_31_code
def yX7_helps : MethodName := ⟨RX7, "helps", "(III)J"⟩
abbrev cX7_missed : ByteArray := prog_1_method_32_code
def yX7_missed : MethodName := ⟨RX7, "missed", "()I"⟩
abbrev cX7_cook : ByteArray := prog_1_method_33_code
def yX7_cook : MethodName := ⟨RX7, "cook", "(III)I"⟩
abbrev cX7_item : ByteArray := prog_1_method_34_code
def yX7_item : MethodName := ⟨RX7, "item", "(IIII)I"⟩
abbrev cX7_common : ByteArray := prog_1_method_35_code
def yX7_common : MethodName := ⟨RX7, "common", "(IIII)J"⟩
abbrev cX7_ends : ByteArray := prog_1_method_36_code
def yX7_ends : MethodName := ⟨RX7, "ends", "(II)I"⟩
abbrev cX7_should : ByteArray := prog_1_method_37_code
def yX7_should : MethodName := ⟨RX7, "should", "(II)J"⟩
abbrev cX7_sumIfSaid : ByteArray := prog_1_method_38_code
def yX7_sumIfSaid : MethodName := ⟨RX7, "sumIfSaid", "(LDarkStreet$Rule;I)J"⟩
abbrev cX7_reach : ByteArray := prog_1_method_39_code
def yX7_reach : MethodName := ⟨RX7, "reach", "(I)I"⟩
abbrev cX7_odds : ByteArray := prog_1_method_40_code
def yX7_odds : MethodName := ⟨RX7, "odds", "(II)I"⟩
abbrev cX7_doors : ByteArray := prog_1_method_41_code
def yX7_doors : MethodName := ⟨RX7, "doors", "(III)I"⟩
abbrev cX7_turner : ByteArray := prog_1_method_42_code
def yX7_turner : MethodName := ⟨RX7, "turner", "(IIII)Z"⟩
abbrev cX7_rows : ByteArray := prog_1_method_43_code
def yX7_rows : MethodName := ⟨RX7, "rows", "(II)I"⟩
abbrev cX7_owes : ByteArray := prog_1_method_44_code
def yX7_owes : MethodName := ⟨RX7, "owes", "(II)J"⟩
abbrev cX7_debtor : ByteArray := prog_1_method_45_code
def yX7_debtor : MethodName := ⟨RX7, "debtor", "()I"⟩
abbrev cX7_noise : ByteArray := prog_1_method_46_code
def yX7_noise : MethodName := ⟨RX7, "noise", "(I)I"⟩
abbrev cX7_loud : ByteArray := prog_1_method_47_code
def yX7_loud : MethodName := ⟨RX7, "loud", "()I"⟩
abbrev cX7_knows : ByteArray := prog_1_method_48_code
def yX7_knows : MethodName := ⟨RX7, "knows", "(II)I"⟩
abbrev cX7_parts : ByteArray := prog_1_method_49_code
def yX7_parts : MethodName := ⟨RX7, "parts", "(I)I"⟩
abbrev cX7_count : ByteArray := prog_1_method_50_code
def yX7_count : MethodName := ⟨RX7, "count", "(I)I"⟩
abbrev cX7_image : ByteArray := prog_1_method_51_code
def yX7_image : MethodName := ⟨RX7, "image", "(I)I"⟩
abbrev cX7_back : ByteArray := prog_1_method_52_code
def yX7_back : MethodName := ⟨RX7, "back", "(I)I"⟩
def RX8 : String := "DarkStreetModel"
def TX8 : u_T := fun k => match k with
  | 0 => ("DarkStreetModel", "thrown", "I", false)
  | 1 => ("DarkStreetModel", "scalar", "[I", true)
  | 2 => ("DarkStreetModel", "hx", "[I", true)
  | 3 => ("DarkStreetModel", "hy", "[I", true)
  | 4 => ("DarkStreetModel", "people", "[I", true)
  | 5 => ("DarkStreetModel", "isBack", "[I", true)
  | 6 => ("DarkStreetModel", "odds", "[I", true)
  | 7 => ("DarkStreetModel", "stock", "[I", true)
  | 8 => ("DarkStreetModel", "needHouse", "[I", true)
  | 9 => ("DarkStreetModel", "needGood", "[I", true)
  | 10 => ("DarkStreetModel", "needMuch", "[I", true)
  | 11 => ("DarkStreetModel", "needHarm", "[I", true)
  | 12 => ("DarkStreetModel", "needFrom", "[I", true)
  | 13 => ("DarkStreetModel", "needTo", "[I", true)
  | 14 => ("DarkStreetModel", "isKnown", "[I", true)
  | 15 => ("DarkStreetModel", "makerHouse", "[I", true)
  | 16 => ("DarkStreetModel", "eats", "[I", true)
  | 17 => ("DarkStreetModel", "eatsMuch", "[I", true)
  | 18 => ("DarkStreetModel", "makes", "[I", true)
  | 19 => ("DarkStreetModel", "makesMany", "[I", true)
  | 20 => ("DarkStreetModel", "noisy", "[I", true)
  | 21 => ("DarkStreetModel", "isOn", "[I", true)
  | 22 => ("DarkStreetModel", "cableOne", "[I", true)
  | 23 => ("DarkStreetModel", "cableOther", "[I", true)
  | 24 => ("DarkStreetModel", "carries", "[I", true)
  | 25 => ("DarkStreetModel", "carried", "[I", true)
  | 26 => ("DarkStreetModel", "ties", "[I", true)
  | 27 => ("DarkStreetModel", "itemHouse", "[I", true)
  | 28 => ("DarkStreetModel", "itemGood", "[I", true)
  | 29 => ("DarkStreetModel", "itemMany", "[I", true)
  | 30 => ("DarkStreetModel", "itemPrice", "[I", true)
  | 31 => ("DarkStreetModel", "endAtQuarter", "[I", true)
  | 32 => ("DarkStreetModel", "endWeight", "[I", true)
  | 33 => ("DarkStreetModel", "lasts", "[I", true)
  | 34 => ("DarkStreetModel", "left", "[I", true)
  | 35 => ("DarkStreetModel", "turnHarm", "[I", true)
  | 36 => ("DarkStreetModel", "harms", "[J", true)
  | 37 => ("DarkStreetModel", "gaves", "[J", true)
  | 38 => ("DarkStreetModel", "taped", "I", false)
  | 39 => ("DarkStreetModel", "p", "I", false)
  | 40 => ("DarkStreetModel", "fault", "I", false)
  | 41 => ("DarkStreetModel", "slot", "I", false)
  | 42 => ("DarkStreetModel", "rules", "I", false)
  | 43 => ("DarkStreetModel", "entries", "I", false)
  | 44 => ("DarkStreetModel", "deep", "I", false)
  | 45 => ("DarkStreetModel", "counted", "I", false)
  | 46 => ("DarkStreetModel", "opened", "I", false)
  | 47 => ("DarkStreetModel", "words", "I", false)
  | 48 => ("DarkStreetModel", "tape", "[B", true)
  | 49 => ("DarkStreetModel", "sort", "[I", true)
  | 50 => ("DarkStreetModel", "number", "[I", true)
  | 51 => ("DarkStreetModel", "clauses", "[I", true)
  | 52 => ("DarkStreetModel", "tells", "[I", true)
  | 53 => ("DarkStreetModel", "much", "[I", true)
  | 54 => ("DarkStreetModel", "sumAt", "[I", true)
  | 55 => ("DarkStreetModel", "testAt", "[I", true)
  | 56 => ("DarkStreetModel", "endAt", "[I", true)
  | 57 => ("DarkStreetModel", "open", "[I", true)
  | 58 => ("DarkStreetModel", "asked", "[J", true)
  | 59 => ("DarkStreetModel", "stack", "[J", true)
  | 60 => ("DarkStreetModel", "due", "[I", true)
  | 61 => ("DarkStreetModel", "firsts", "[J", true)
  | 62 => ("DarkStreetModel", "asksMore", "[Z", true)
  | 63 => ("DarkStreetModel", "keptStock", "[I", true)
  | 64 => ("DarkStreetModel", "keptCarried", "[I", true)
  | 65 => ("DarkStreetModel", "keptBack", "[I", true)
  | 66 => ("DarkStreetModel", "keptScalar", "[I", true)
  | 67 => ("DarkStreetModel", "keptHarms", "[J", true)
  | 68 => ("DarkStreetModel", "keptGaves", "[J", true)
  | 69 => ("DarkStreetModel", "joins", "[I", true)
  | 70 => ("DarkStreetModel", "row", "[I", true)
  | 71 => ("DarkStreetModel", "bestRow", "[I", true)
  | 72 => ("DarkStreetModel", "leftThen", "[I", true)
  | 73 => ("DarkStreetModel", "steps", "[I", true)
  | 74 => ("DarkStreetModel", "images", "[J", true)
  | 75 => ("DarkStreetModel", "isMade", "[Z", true)
  | 76 => ("DarkStreetModel", "imageAt", "I", false)
  | _ => ("DarkStreetModel", "goesBack", "Z", false)
def tyX8 : Nat → FieldType := fun k => match k with
  | 0 => .int
  | 1 => .array .int
  | 2 => .array .int
  | 3 => .array .int
  | 4 => .array .int
  | 5 => .array .int
  | 6 => .array .int
  | 7 => .array .int
  | 8 => .array .int
  | 9 => .array .int
  | 10 => .array .int
  | 11 => .array .int
  | 12 => .array .int
  | 13 => .array .int
  | 14 => .array .int
  | 15 => .array .int
  | 16 => .array .int
  | 17 => .array .int
  | 18 => .array .int
  | 19 => .array .int
  | 20 => .array .int
  | 21 => .array .int
  | 22 => .array .int
  | 23 => .array .int
  | 24 => .array .int
  | 25 => .array .int
  | 26 => .array .int
  | 27 => .array .int
  | 28 => .array .int
  | 29 => .array .int
  | 30 => .array .int
  | 31 => .array .int
  | 32 => .array .int
  | 33 => .array .int
  | 34 => .array .int
  | 35 => .array .int
  | 36 => .array .long
  | 37 => .array .long
  | 38 => .int
  | 39 => .int
  | 40 => .int
  | 41 => .int
  | 42 => .int
  | 43 => .int
  | 44 => .int
  | 45 => .int
  | 46 => .int
  | 47 => .int
  | 48 => .array .byte
  | 49 => .array .int
  | 50 => .array .int
  | 51 => .array .int
  | 52 => .array .int
  | 53 => .array .int
  | 54 => .array .int
  | 55 => .array .int
  | 56 => .array .int
  | 57 => .array .int
  | 58 => .array .long
  | 59 => .array .long
  | 60 => .array .int
  | 61 => .array .long
  | 62 => .array .boolean
  | 63 => .array .int
  | 64 => .array .int
  | 65 => .array .int
  | 66 => .array .int
  | 67 => .array .long
  | 68 => .array .long
  | 69 => .array .int
  | 70 => .array .int
  | 71 => .array .int
  | 72 => .array .int
  | 73 => .array .int
  | 74 => .array .long
  | 75 => .array .boolean
  | 76 => .int
  | _ => .boolean
abbrev wsX80 : List Cond := u_ws RX8 TX8 78
theorem nmX8 : ∀ a, a < 78 → ∀ b, b < 78 → a ≠ b → (TX8 a).2.1 ≠ (TX8 b).2.1 := by decide +kernel
theorem tyX8_ok : ∀ k, k < 78 → parseFieldDescriptor (TX8 k).2.2.1 = some (tyX8 k) := by decide +kernel
abbrev cX8_init : ByteArray := prog_10_method_1_code
def yX8_init : MethodName := ⟨RX8, "<init>", "()V"⟩
abbrev cX8_in : ByteArray := prog_10_method_3_code
def yX8_in : MethodName := ⟨RX8, "in", "(JJJ)Z"⟩
abbrev cX8_between : ByteArray := prog_10_method_4_code
def yX8_between : MethodName := ⟨RX8, "between", "(JJJ)J"⟩
abbrev cX8_isHouse : ByteArray := prog_10_method_5_code
def yX8_isHouse : MethodName := ⟨RX8, "isHouse", "(I)Z"⟩
abbrev cX8_isGood : ByteArray := prog_10_method_6_code
def yX8_isGood : MethodName := ⟨RX8, "isGood", "(I)Z"⟩
abbrev cX8_apart : ByteArray := prog_10_method_7_code
def yX8_apart : MethodName := ⟨RX8, "apart", "(II)I"⟩
abbrev cX8_far : ByteArray := prog_10_method_8_code
def yX8_far : MethodName := ⟨RX8, "far", "(II)I"⟩
abbrev cX8_areUnlike : ByteArray := prog_10_method_9_code
def yX8_areUnlike : MethodName := ⟨RX8, "areUnlike", "(II)Z"⟩
abbrev cX8_house : ByteArray := prog_10_method_10_code
def yX8_house : MethodName := ⟨RX8, "house", "(III)I"⟩
abbrev cX8_store : ByteArray := prog_10_method_11_code
def yX8_store : MethodName := ⟨RX8, "store", "(III)I"⟩
abbrev cX8_need : ByteArray := prog_10_method_12_code
def yX8_need : MethodName := ⟨RX8, "need", "(IIIIIIZ)I"⟩
abbrev cX8_maker : ByteArray := prog_10_method_13_code
def yX8_maker : MethodName := ⟨RX8, "maker", "(IIIIII)I"⟩
abbrev cX8_isMaker : ByteArray := prog_10_method_14_code
def yX8_isMaker : MethodName := ⟨RX8, "isMaker", "(I)Z"⟩
abbrev cX8_on : ByteArray := prog_10_method_15_code
def yX8_on : MethodName := ⟨RX8, "on", "(IZ)Z"⟩
abbrev cX8_cableOf : ByteArray := prog_10_method_16_code
def yX8_cableOf : MethodName := ⟨RX8, "cableOf", "(II)I"⟩
abbrev cX8_cable : ByteArray := prog_10_method_17_code
def yX8_cable : MethodName := ⟨RX8, "cable", "(III)I"⟩
abbrev cX8_tie : ByteArray := prog_10_method_18_code
def yX8_tie : MethodName := ⟨RX8, "tie", "(III)I"⟩
abbrev cX8_knock : ByteArray := prog_10_method_19_code
def yX8_knock : MethodName := ⟨RX8, "knock", "(I)I"⟩
abbrev cX8_comes : ByteArray := prog_10_method_20_code
def yX8_comes : MethodName := ⟨RX8, "comes", "(IZ)Z"⟩
abbrev cX8_say : ByteArray := prog_10_method_21_code
def yX8_say : MethodName := ⟨RX8, "say", "(I)I"⟩
abbrev cX8_until : ByteArray := prog_10_method_22_code
def yX8_until : MethodName := ⟨RX8, "until", "()I"⟩
abbrev cX8_feed : ByteArray := prog_10_method_23_code
def yX8_feed : MethodName := ⟨RX8, "feed", "(IIIII)I"⟩
abbrev cX8_put : ByteArray := prog_10_method_24_code
def yX8_put : MethodName := ⟨RX8, "put", "(I)V"⟩
abbrev cX8_end : ByteArray := prog_10_method_25_code
def yX8_end : MethodName := ⟨RX8, "end", "(I)I"⟩
abbrev cX8_wordOf : ByteArray := prog_10_method_26_code
def yX8_wordOf : MethodName := ⟨RX8, "wordOf", "(I)Ljava/lang/String;"⟩
abbrev cX8_clauseOf : ByteArray := prog_10_method_27_code
def yX8_clauseOf : MethodName := ⟨RX8, "clauseOf", "(I)Ljava/lang/String;"⟩
abbrev cX8_fails : ByteArray := prog_10_method_28_code
def yX8_fails : MethodName := ⟨RX8, "fails", "(II)V"⟩
abbrev cX8_sign : ByteArray := prog_10_method_29_code
def yX8_sign : MethodName := ⟨RX8, "sign", "()I"⟩
abbrev cX8_blanks : ByteArray := prog_10_method_30_code
def yX8_blanks : MethodName := ⟨RX8, "blanks", "()V"⟩
abbrev cX8_isDigit : ByteArray := prog_10_method_31_code
def yX8_isDigit : MethodName := ⟨RX8, "isDigit", "()Z"⟩
abbrev cX8_stands : ByteArray := prog_10_method_32_code
def yX8_stands : MethodName := ⟨RX8, "stands", "(Ljava/lang/String;)Z"⟩
abbrev cX8_takes : ByteArray := prog_10_method_33_code
def yX8_takes : MethodName := ⟨RX8, "takes", "(Ljava/lang/String;)Z"⟩
abbrev cX8_entry : ByteArray := prog_10_method_34_code
def yX8_entry : MethodName := ⟨RX8, "entry", "(II)V"⟩
abbrev cX8_isCounted : ByteArray := prog_10_method_35_code
def yX8_isCounted : MethodName := ⟨RX8, "isCounted", "(I)V"⟩
abbrev cX8_digits : ByteArray := prog_10_method_36_code
def yX8_digits : MethodName := ⟨RX8, "digits", "(I)I"⟩
abbrev cX8_value : ByteArray := prog_10_method_37_code
def yX8_value : MethodName := ⟨RX8, "value", "()V"⟩
abbrev cX8_term : ByteArray := prog_10_method_38_code
def yX8_term : MethodName := ⟨RX8, "term", "()V"⟩
abbrev cX8_sum : ByteArray := prog_10_method_39_code
def yX8_sum : MethodName := ⟨RX8, "sum", "()V"⟩
abbrev cX8_compared : ByteArray := prog_10_method_40_code
def yX8_compared : MethodName := ⟨RX8, "compared", "()V"⟩
abbrev cX8_top : ByteArray := prog_10_method_41_code
def yX8_top : MethodName := ⟨RX8, "top", "()I"⟩
abbrev cX8_opens : ByteArray := prog_10_method_42_code
def yX8_opens : MethodName := ⟨RX8, "opens", "(I)V"⟩
abbrev cX8_answers : ByteArray := prog_10_method_43_code
def yX8_answers : MethodName := ⟨RX8, "answers", "(I)V"⟩
abbrev cX8_fact : ByteArray := prog_10_method_44_code
def yX8_fact : MethodName := ⟨RX8, "fact", "()Z"⟩
abbrev cX8_test : ByteArray := prog_10_method_45_code
def yX8_test : MethodName := ⟨RX8, "test", "()V"⟩
abbrev cX8_amount : ByteArray := prog_10_method_46_code
def yX8_amount : MethodName := ⟨RX8, "amount", "(II)I"⟩
abbrev cX8_wasTold : ByteArray := prog_10_method_47_code
def yX8_wasTold : MethodName := ⟨RX8, "wasTold", "(II)Z"⟩
abbrev cX8_clause : ByteArray := prog_10_method_48_code
def yX8_clause : MethodName := ⟨RX8, "clause", "(I)V"⟩
abbrev cX8_rule : ByteArray := prog_10_method_49_code
def yX8_rule : MethodName := ⟨RX8, "rule", "()I"⟩
abbrev cX8_isRule : ByteArray := prog_10_method_50_code
def yX8_isRule : MethodName := ⟨RX8, "isRule", "(I)Z"⟩
abbrev cX8_truth : ByteArray := prog_10_method_51_code
def yX8_truth : MethodName := ⟨RX8, "truth", "(Z)J"⟩
abbrev cX8_both : ByteArray := prog_10_method_52_code
def yX8_both : MethodName := ⟨RX8, "both", "(IJJ)J"⟩
abbrev cX8_answer : ByteArray := prog_10_method_53_code
def yX8_answer : MethodName := ⟨RX8, "answer", "(III)J"⟩
abbrev cX8_sumOf : ByteArray := prog_10_method_54_code
def yX8_sumOf : MethodName := ⟨RX8, "sumOf", "(II)J"⟩
abbrev cX8_holdOf : ByteArray := prog_10_method_55_code
def yX8_holdOf : MethodName := ⟨RX8, "holdOf", "(I)I"⟩
abbrev cX8_asksOfHouse : ByteArray := prog_10_method_56_code
def yX8_asksOfHouse : MethodName := ⟨RX8, "asksOfHouse", "(I)V"⟩
abbrev cX8_asksOfNeed : ByteArray := prog_10_method_57_code
def yX8_asksOfNeed : MethodName := ⟨RX8, "asksOfNeed", "(II)V"⟩
abbrev cX8_asksOfGiver : ByteArray := prog_10_method_58_code
def yX8_asksOfGiver : MethodName := ⟨RX8, "asksOfGiver", "(III)V"⟩
abbrev cX8_isDue : ByteArray := prog_10_method_59_code
def yX8_isDue : MethodName := ⟨RX8, "isDue", "(I)Z"⟩
abbrev cX8_firstOf : ByteArray := prog_10_method_60_code
def yX8_firstOf : MethodName := ⟨RX8, "firstOf", "(II)J"⟩
abbrev cX8_spoils : ByteArray := prog_10_method_61_code
def yX8_spoils : MethodName := ⟨RX8, "spoils", "(II)I"⟩
abbrev cX8_begins : ByteArray := prog_10_method_62_code
def yX8_begins : MethodName := ⟨RX8, "begins", "(I)V"⟩
abbrev cX8_sorts : ByteArray := prog_10_method_63_code
def yX8_sorts : MethodName := ⟨RX8, "sorts", "(I)I"⟩
abbrev cX8_gives : ByteArray := prog_10_method_64_code
def yX8_gives : MethodName := ⟨RX8, "gives", "(IIIII)I"⟩
abbrev cX8_nearest : ByteArray := prog_10_method_65_code
def yX8_nearest : MethodName := ⟨RX8, "nearest", "(I)I"⟩
abbrev cX8_has : ByteArray := prog_10_method_66_code
def yX8_has : MethodName := ⟨RX8, "has", "(III)I"⟩
abbrev cX8_quarter : ByteArray := prog_10_method_67_code
def yX8_quarter : MethodName := ⟨RX8, "quarter", "(II)V"⟩
abbrev cX8_allHarms : ByteArray := prog_10_method_68_code
def yX8_allHarms : MethodName := ⟨RX8, "allHarms", "()J"⟩
abbrev cX8_run : ByteArray := prog_10_method_69_code
def yX8_run : MethodName := ⟨RX8, "run", "(II)J"⟩
abbrev cX8_of : ByteArray := prog_10_method_70_code
def yX8_of : MethodName := ⟨RX8, "of", "(II)I"⟩
abbrev cX8_needs : ByteArray := prog_10_method_71_code
def yX8_needs : MethodName := ⟨RX8, "needs", "(II)I"⟩
abbrev cX8_harm : ByteArray := prog_10_method_72_code
def yX8_harm : MethodName := ⟨RX8, "harm", "(I)J"⟩
abbrev cX8_gave : ByteArray := prog_10_method_73_code
def yX8_gave : MethodName := ⟨RX8, "gave", "(II)J"⟩
abbrev cX8_carried : ByteArray := prog_10_method_74_code
def yX8_carried : MethodName := ⟨RX8, "carried", "(I)I"⟩
abbrev cX8_ahead : ByteArray := prog_10_method_75_code
def yX8_ahead : MethodName := ⟨RX8, "ahead", "(II)J"⟩
abbrev cX8_copy : ByteArray := prog_10_method_76_code
def yX8_copy : MethodName := ⟨RX8, "copy", "([I[I)V"⟩
abbrev cX8_copyLongs : ByteArray := prog_10_method_77_code
def yX8_copyLongs : MethodName := ⟨RX8, "copyLongs", "([J[J)V"⟩
abbrev cX8_keeps : ByteArray := prog_10_method_78_code
def yX8_keeps : MethodName := ⟨RX8, "keeps", "()V"⟩
abbrev cX8_putsBack : ByteArray := prog_10_method_79_code
def yX8_putsBack : MethodName := ⟨RX8, "putsBack", "()V"⟩
abbrev cX8_goesOn : ByteArray := prog_10_method_80_code
def yX8_goesOn : MethodName := ⟨RX8, "goesOn", "(III)J"⟩
abbrev cX8_aheadOf : ByteArray := prog_10_method_81_code
def yX8_aheadOf : MethodName := ⟨RX8, "aheadOf", "(III)J"⟩
abbrev cX8_total : ByteArray := prog_10_method_82_code
def yX8_total : MethodName := ⟨RX8, "total", "(III)J"⟩
abbrev cX8_alone : ByteArray := prog_10_method_83_code
def yX8_alone : MethodName := ⟨RX8, "alone", "(IIII)J"⟩
abbrev cX8_lost : ByteArray := prog_10_method_84_code
def yX8_lost : MethodName := ⟨RX8, "lost", "(II)J"⟩
abbrev cX8_helps : ByteArray := prog_10_method_85_code
def yX8_helps : MethodName := ⟨RX8, "helps", "(III)J"⟩
abbrev cX8_missed : ByteArray := prog_10_method_86_code
def yX8_missed : MethodName := ⟨RX8, "missed", "()I"⟩
abbrev cX8_cook : ByteArray := prog_10_method_87_code
def yX8_cook : MethodName := ⟨RX8, "cook", "(III)I"⟩
abbrev cX8_item : ByteArray := prog_10_method_88_code
def yX8_item : MethodName := ⟨RX8, "item", "(IIII)I"⟩
abbrev cX8_priceOf : ByteArray := prog_10_method_89_code
def yX8_priceOf : MethodName := ⟨RX8, "priceOf", "(I)I"⟩
abbrev cX8_harmWith : ByteArray := prog_10_method_90_code
def yX8_harmWith : MethodName := ⟨RX8, "harmWith", "(III)J"⟩
abbrev cX8_common : ByteArray := prog_10_method_91_code
def yX8_common : MethodName := ⟨RX8, "common", "(IIII)J"⟩
abbrev cX8_ends : ByteArray := prog_10_method_92_code
def yX8_ends : MethodName := ⟨RX8, "ends", "(II)I"⟩
abbrev cX8_sumSaid : ByteArray := prog_10_method_93_code
def yX8_sumSaid : MethodName := ⟨RX8, "sumSaid", "(II)J"⟩
abbrev cX8_should : ByteArray := prog_10_method_94_code
def yX8_should : MethodName := ⟨RX8, "should", "(II)J"⟩
abbrev cX8_reach : ByteArray := prog_10_method_95_code
def yX8_reach : MethodName := ⟨RX8, "reach", "(I)I"⟩
abbrev cX8_goesBy : ByteArray := prog_10_method_96_code
def yX8_goesBy : MethodName := ⟨RX8, "goesBy", "(II)V"⟩
abbrev cX8_odds : ByteArray := prog_10_method_97_code
def yX8_odds : MethodName := ⟨RX8, "odds", "(II)I"⟩
abbrev cX8_bits : ByteArray := prog_10_method_98_code
def yX8_bits : MethodName := ⟨RX8, "bits", "(I)I"⟩
abbrev cX8_isNext : ByteArray := prog_10_method_99_code
def yX8_isNext : MethodName := ⟨RX8, "isNext", "(I)Z"⟩
abbrev cX8_swaps : ByteArray := prog_10_method_100_code
def yX8_swaps : MethodName := ⟨RX8, "swaps", "(II)V"⟩
abbrev cX8_walked : ByteArray := prog_10_method_101_code
def yX8_walked : MethodName := ⟨RX8, "walked", "(II)I"⟩
abbrev cX8_doors : ByteArray := prog_10_method_102_code
def yX8_doors : MethodName := ⟨RX8, "doors", "(III)I"⟩
abbrev cX8_turner : ByteArray := prog_10_method_103_code
def yX8_turner : MethodName := ⟨RX8, "turner", "(IIII)Z"⟩
abbrev cX8_harmOfRow : ByteArray := prog_10_method_104_code
def yX8_harmOfRow : MethodName := ⟨RX8, "harmOfRow", "(I)I"⟩
abbrev cX8_rows : ByteArray := prog_10_method_105_code
def yX8_rows : MethodName := ⟨RX8, "rows", "(II)I"⟩
abbrev cX8_goesUp : ByteArray := prog_10_method_106_code
def yX8_goesUp : MethodName := ⟨RX8, "goesUp", "(II)Z"⟩
abbrev cX8_owes : ByteArray := prog_10_method_107_code
def yX8_owes : MethodName := ⟨RX8, "owes", "(II)J"⟩
abbrev cX8_debtor : ByteArray := prog_10_method_108_code
def yX8_debtor : MethodName := ⟨RX8, "debtor", "()I"⟩
abbrev cX8_heard : ByteArray := prog_10_method_109_code
def yX8_heard : MethodName := ⟨RX8, "heard", "(II)I"⟩
abbrev cX8_noise : ByteArray := prog_10_method_110_code
def yX8_noise : MethodName := ⟨RX8, "noise", "(I)I"⟩
abbrev cX8_loud : ByteArray := prog_10_method_111_code
def yX8_loud : MethodName := ⟨RX8, "loud", "()I"⟩
abbrev cX8_hear : ByteArray := prog_10_method_112_code
def yX8_hear : MethodName := ⟨RX8, "hear", "(II)I"⟩
abbrev cX8_forgets : ByteArray := prog_10_method_113_code
def yX8_forgets : MethodName := ⟨RX8, "forgets", "()V"⟩
abbrev cX8_knows : ByteArray := prog_10_method_114_code
def yX8_knows : MethodName := ⟨RX8, "knows", "(II)I"⟩
abbrev cX8_groups : ByteArray := prog_10_method_115_code
def yX8_groups : MethodName := ⟨RX8, "groups", "(I)I"⟩
abbrev cX8_parts : ByteArray := prog_10_method_116_code
def yX8_parts : MethodName := ⟨RX8, "parts", "(I)I"⟩
abbrev cX8_count : ByteArray := prog_10_method_117_code
def yX8_count : MethodName := ⟨RX8, "count", "(I)I"⟩
abbrev cX8_carry : ByteArray := prog_10_method_118_code
def yX8_carry : MethodName := ⟨RX8, "carry", "([I)V"⟩
abbrev cX8_carryLongs : ByteArray := prog_10_method_119_code
def yX8_carryLongs : MethodName := ⟨RX8, "carryLongs", "([J)V"⟩
abbrev cX8_carriesAll : ByteArray := prog_10_method_120_code
def yX8_carriesAll : MethodName := ⟨RX8, "carriesAll", "(IZ)V"⟩
abbrev cX8_image : ByteArray := prog_10_method_121_code
def yX8_image : MethodName := ⟨RX8, "image", "(I)I"⟩
abbrev cX8_back : ByteArray := prog_10_method_122_code
def yX8_back : MethodName := ⟨RX8, "back", "(I)I"⟩
def RJ6 : String := "java/lang/Integer"
abbrev cJ6_bitCount_0f7a4 : ByteArray := prog_11_method_49_code
def yJ6_bitCount_0f7a4 : MethodName := ⟨RJ6, "bitCount", "(I)I"⟩
def RJ9 : String := "java/lang/Math"
abbrev cJ9_abs_0f7a4 : ByteArray := prog_12_method_59_code
def yJ9_abs_0f7a4 : MethodName := ⟨RJ9, "abs", "(I)I"⟩
abbrev cJ9_max_7cf53 : ByteArray := prog_12_method_65_code
def yJ9_max_7cf53 : MethodName := ⟨RJ9, "max", "(II)I"⟩
abbrev cJ9_max_f86c9 : ByteArray := prog_12_method_66_code
def yJ9_max_f86c9 : MethodName := ⟨RJ9, "max", "(JJ)J"⟩
abbrev cJ9_min_7cf53 : ByteArray := prog_12_method_69_code
def yJ9_min_7cf53 : MethodName := ⟨RJ9, "min", "(II)I"⟩
abbrev cJ9_min_f86c9 : ByteArray := prog_12_method_70_code
def yJ9_min_f86c9 : MethodName := ⟨RJ9, "min", "(JJ)J"⟩
def RJ0 : String := "java/lang/String"
abbrev cJ0_length_8abf5 : ByteArray := prog_13_method_54_code
def yJ0_length_8abf5 : MethodName := ⟨RJ0, "length", "()I"⟩
abbrev cJ0_charAt_5068e : ByteArray := prog_13_method_56_code
def yJ0_charAt_5068e : MethodName := ⟨RJ0, "charAt", "(I)C"⟩
abbrev cJ0_coder_7d493 : ByteArray := prog_13_method_152_code
def yJ0_coder_7d493 : MethodName := ⟨RJ0, "coder", "()B"⟩
abbrev cJ0_isLatin1_aae02 : ByteArray := prog_13_method_154_code
def yJ0_isLatin1_aae02 : MethodName := ⟨RJ0, "isLatin1", "()Z"⟩
abbrev cJ0_checkIndex_df160 : ByteArray := prog_13_method_155_code
def yJ0_checkIndex_df160 : MethodName := ⟨RJ0, "checkIndex", "(II)V"⟩
def RJ1 : String := "java/lang/StringLatin1"
abbrev cJ1_charAt_3b067 : ByteArray := prog_14_method_2_code
def yJ1_charAt_3b067 : MethodName := ⟨RJ1, "charAt", "([BI)C"⟩
def RJ2 : String := "java/lang/StringUTF16"
abbrev cJ2_getChar_3b067 : ByteArray := prog_15_method_5_code
def yJ2_getChar_3b067 : MethodName := ⟨RJ2, "getChar", "([BI)C"⟩
abbrev cJ2_length_9d52b : ByteArray := prog_15_method_6_code
def yJ2_length_9d52b : MethodName := ⟨RJ2, "length", "([B)I"⟩
abbrev cJ2_charAt_3b067 : ByteArray := prog_15_method_83_code
def yJ2_charAt_3b067 : MethodName := ⟨RJ2, "charAt", "([BI)C"⟩
abbrev cJ2_checkIndex_2214a : ByteArray := prog_15_method_91_code
def yJ2_checkIndex_2214a : MethodName := ⟨RJ2, "checkIndex", "(I[B)V"⟩
def RJ10 : String := "java/lang/System"
def RJ3 : String := "jdk/internal/util/Preconditions"
abbrev cJ3_checkIndex_8e157 : ByteArray := prog_17_method_11_code
def yJ3_checkIndex_8e157 : MethodName := ⟨RJ3, "checkIndex", "(IILjava/util/function/BiFunction;)I"⟩
def RL : String := "DarkStreetLaw"
abbrev cL_law : ByteArray := code
def yL_law : MethodName := ⟨RL, "law", "([I)Z"⟩

theorem goodIn_sub {big ws : List Cond} (hm : ∀ w ∈ ws, w ∈ big) (h : ws.all goodWord = true) : GoodIn big ws := fun w hw => ⟨hm w hw, good_of_word (List.all_eq_true.mp h w hw)⟩
abbrev vwCl : List vw_C := [(RX0, TX0, 4), (RX1, TX1, 3), (RX2, TX2, 9), (RX3, TX3, 9), (RX4, TX4, 20), (RX5, TX5, 4), (RX6, TX6, 3), (RX7, TX7, 12), (RX8, TX8, 78)]
