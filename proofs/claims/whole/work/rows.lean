section
-- ===== PART A: goes FIRST, ahead of the names: the tables' words, and 'selects' of the private methods out of them =====
/-- a private method of a class that the tables say can be made, by its rows of tables_1 -/
def lw_okq (q : MethodName × Nat) : Prop := (q.1.cls ≠ "java/lang/invoke/MethodHandle" ∧ q.1.cls ≠ "java/lang/invoke/VarHandle") ∧ Cond.instantiable q.1.cls q.2 ∈ tables_1 ∧ Cond.privateMethod q.1 ∈ tables_1 ∧ Cond.instanceMethod q.1 ∈ tables_1
theorem lw_p0 : lw_okq (⟨"TaleHouse$Manuscript", "forgetBreakCosts", "()V"⟩, 11) := ⟨⟨by decide +kernel, by decide +kernel⟩, List.mem_of_getElem? (i := 55) (by decide +kernel), List.mem_of_getElem? (i := 407) (by decide +kernel), List.mem_of_getElem? (i := 408) (by decide +kernel)⟩
theorem lw_p1 : lw_okq (⟨"TaleHouse$Breaks", "weighRest", "(II)V"⟩, 4) := ⟨⟨by decide +kernel, by decide +kernel⟩, List.mem_of_getElem? (i := 63) (by decide +kernel), List.mem_of_getElem? (i := 431) (by decide +kernel), List.mem_of_getElem? (i := 432) (by decide +kernel)⟩
theorem lw_p2 : lw_okq (⟨"TaleHouse$Breaks", "costWith", "(III)I"⟩, 4) := ⟨⟨by decide +kernel, by decide +kernel⟩, List.mem_of_getElem? (i := 63) (by decide +kernel), List.mem_of_getElem? (i := 435) (by decide +kernel), List.mem_of_getElem? (i := 436) (by decide +kernel)⟩
theorem lw_p3 : lw_okq (⟨"TaleHouse$Setting", "weighFrom", "(LTaleHouse$Manuscript;II)V"⟩, 9) := ⟨⟨by decide +kernel, by decide +kernel⟩, List.mem_of_getElem? (i := 121) (by decide +kernel), List.mem_of_getElem? (i := 463) (by decide +kernel), List.mem_of_getElem? (i := 464) (by decide +kernel)⟩
theorem lw_p4 : lw_okq (⟨"TaleHouse$Setting", "leastUncut", "(LTaleHouse$Manuscript;III)I"⟩, 9) := ⟨⟨by decide +kernel, by decide +kernel⟩, List.mem_of_getElem? (i := 121) (by decide +kernel), List.mem_of_getElem? (i := 471) (by decide +kernel), List.mem_of_getElem? (i := 472) (by decide +kernel)⟩
theorem lw_p5 : lw_okq (⟨"TaleHouse$Setting", "costInLines", "(LTaleHouse$Manuscript;III)I"⟩, 9) := ⟨⟨by decide +kernel, by decide +kernel⟩, List.mem_of_getElem? (i := 121) (by decide +kernel), List.mem_of_getElem? (i := 480) (by decide +kernel), List.mem_of_getElem? (i := 481) (by decide +kernel)⟩
theorem lw_p6 : lw_okq (⟨"TaleHouse$Setting", "forgetPlaces", "(II)V"⟩, 9) := ⟨⟨by decide +kernel, by decide +kernel⟩, List.mem_of_getElem? (i := 121) (by decide +kernel), List.mem_of_getElem? (i := 496) (by decide +kernel), List.mem_of_getElem? (i := 497) (by decide +kernel)⟩
theorem lw_p7 : lw_okq (⟨"TaleHouse$Setting", "fewestLeads", "(LTaleHouse$Manuscript;IIII)I"⟩, 9) := ⟨⟨by decide +kernel, by decide +kernel⟩, List.mem_of_getElem? (i := 121) (by decide +kernel), List.mem_of_getElem? (i := 500) (by decide +kernel), List.mem_of_getElem? (i := 501) (by decide +kernel)⟩
theorem lw_p8 : lw_okq (⟨"TaleHouse$Setting", "note", "(IIIII)V"⟩, 9) := ⟨⟨by decide +kernel, by decide +kernel⟩, List.mem_of_getElem? (i := 121) (by decide +kernel), List.mem_of_getElem? (i := 504) (by decide +kernel), List.mem_of_getElem? (i := 505) (by decide +kernel)⟩
theorem lw_p9 : lw_okq (⟨"TaleHouse$Setting", "fewestLines", "(LTaleHouse$Manuscript;III)I"⟩, 9) := ⟨⟨by decide +kernel, by decide +kernel⟩, List.mem_of_getElem? (i := 121) (by decide +kernel), List.mem_of_getElem? (i := 508) (by decide +kernel), List.mem_of_getElem? (i := 509) (by decide +kernel)⟩
theorem lw_p10 : lw_okq (⟨"TaleHouse$Setting", "placeLines", "(LTaleHouse$Manuscript;III)V"⟩, 9) := ⟨⟨by decide +kernel, by decide +kernel⟩, List.mem_of_getElem? (i := 121) (by decide +kernel), List.mem_of_getElem? (i := 512) (by decide +kernel), List.mem_of_getElem? (i := 513) (by decide +kernel)⟩
theorem lw_p11 : lw_okq (⟨"TaleHouse$Tape", "lettersAhead", "()I"⟩, 5) := ⟨⟨by decide +kernel, by decide +kernel⟩, List.mem_of_getElem? (i := 29) (by decide +kernel), List.mem_of_getElem? (i := 561) (by decide +kernel), List.mem_of_getElem? (i := 562) (by decide +kernel)⟩
theorem lw_p12 : lw_okq (⟨"TaleHouse$Tape", "skipBlanks", "()V"⟩, 5) := ⟨⟨by decide +kernel, by decide +kernel⟩, List.mem_of_getElem? (i := 29) (by decide +kernel), List.mem_of_getElem? (i := 565) (by decide +kernel), List.mem_of_getElem? (i := 566) (by decide +kernel)⟩
theorem lw_p13 : lw_okq (⟨"TaleHouse$Tape", "byteAt", "(I)I"⟩, 5) := ⟨⟨by decide +kernel, by decide +kernel⟩, List.mem_of_getElem? (i := 29) (by decide +kernel), List.mem_of_getElem? (i := 569) (by decide +kernel), List.mem_of_getElem? (i := 570) (by decide +kernel)⟩
theorem lw_p14 : lw_okq (⟨"TaleHouse$Tape", "isFactWord", "(I)Z"⟩, 5) := ⟨⟨by decide +kernel, by decide +kernel⟩, List.mem_of_getElem? (i := 29) (by decide +kernel), List.mem_of_getElem? (i := 573) (by decide +kernel), List.mem_of_getElem? (i := 574) (by decide +kernel)⟩
theorem lw_p15 : lw_okq (⟨"TaleHouse$Tape", "isWord", "(Ljava/lang/String;I)Z"⟩, 5) := ⟨⟨by decide +kernel, by decide +kernel⟩, List.mem_of_getElem? (i := 29) (by decide +kernel), List.mem_of_getElem? (i := 578) (by decide +kernel), List.mem_of_getElem? (i := 579) (by decide +kernel)⟩
def lw_privs_1 : List (MethodName × Nat) := [(⟨"TaleHouse$Manuscript", "forgetBreakCosts", "()V"⟩, 11), (⟨"TaleHouse$Breaks", "weighRest", "(II)V"⟩, 4), (⟨"TaleHouse$Breaks", "costWith", "(III)I"⟩, 4), (⟨"TaleHouse$Setting", "weighFrom", "(LTaleHouse$Manuscript;II)V"⟩, 9), (⟨"TaleHouse$Setting", "leastUncut", "(LTaleHouse$Manuscript;III)I"⟩, 9), (⟨"TaleHouse$Setting", "costInLines", "(LTaleHouse$Manuscript;III)I"⟩, 9), (⟨"TaleHouse$Setting", "forgetPlaces", "(II)V"⟩, 9), (⟨"TaleHouse$Setting", "fewestLeads", "(LTaleHouse$Manuscript;IIII)I"⟩, 9), (⟨"TaleHouse$Setting", "note", "(IIIII)V"⟩, 9), (⟨"TaleHouse$Setting", "fewestLines", "(LTaleHouse$Manuscript;III)I"⟩, 9), (⟨"TaleHouse$Setting", "placeLines", "(LTaleHouse$Manuscript;III)V"⟩, 9), (⟨"TaleHouse$Tape", "lettersAhead", "()I"⟩, 5), (⟨"TaleHouse$Tape", "skipBlanks", "()V"⟩, 5), (⟨"TaleHouse$Tape", "byteAt", "(I)I"⟩, 5), (⟨"TaleHouse$Tape", "isFactWord", "(I)Z"⟩, 5), (⟨"TaleHouse$Tape", "isWord", "(Ljava/lang/String;I)Z"⟩, 5)]
theorem lw_r1 : ∀ q ∈ lw_privs_1, lw_okq q := List.forall_mem_cons.mpr ⟨lw_p0, List.forall_mem_cons.mpr ⟨lw_p1, List.forall_mem_cons.mpr ⟨lw_p2, List.forall_mem_cons.mpr ⟨lw_p3, List.forall_mem_cons.mpr ⟨lw_p4, List.forall_mem_cons.mpr ⟨lw_p5, List.forall_mem_cons.mpr ⟨lw_p6, List.forall_mem_cons.mpr ⟨lw_p7, List.forall_mem_cons.mpr ⟨lw_p8, List.forall_mem_cons.mpr ⟨lw_p9, List.forall_mem_cons.mpr ⟨lw_p10, List.forall_mem_cons.mpr ⟨lw_p11, List.forall_mem_cons.mpr ⟨lw_p12, List.forall_mem_cons.mpr ⟨lw_p13, List.forall_mem_cons.mpr ⟨lw_p14, List.forall_mem_cons.mpr ⟨lw_p15, fun _ h => absurd h List.not_mem_nil⟩⟩⟩⟩⟩⟩⟩⟩⟩⟩⟩⟩⟩⟩⟩⟩
theorem lw_p16 : lw_okq (⟨"TaleHouse$Tape", "fail", "(II)V"⟩, 5) := ⟨⟨by decide +kernel, by decide +kernel⟩, List.mem_of_getElem? (i := 29) (by decide +kernel), List.mem_of_getElem? (i := 633) (by decide +kernel), List.mem_of_getElem? (i := 634) (by decide +kernel)⟩
theorem lw_p17 : lw_okq (⟨"TaleHouse$Tape", "digitsAhead", "()I"⟩, 5) := ⟨⟨by decide +kernel, by decide +kernel⟩, List.mem_of_getElem? (i := 29) (by decide +kernel), List.mem_of_getElem? (i := 660) (by decide +kernel), List.mem_of_getElem? (i := 661) (by decide +kernel)⟩
theorem lw_p18 : lw_okq (⟨"TaleHouse$Facts", "numbered", "(I)LTaleHouse$Fact;"⟩, 6) := ⟨⟨by decide +kernel, by decide +kernel⟩, List.mem_of_getElem? (i := 175) (by decide +kernel), List.mem_of_getElem? (i := 701) (by decide +kernel), List.mem_of_getElem? (i := 702) (by decide +kernel)⟩
theorem lw_p19 : lw_okq (⟨"TaleHouse$Fact", "quarrelWithLater", "(LTaleHouse$Fact;)I"⟩, 7) := ⟨⟨by decide +kernel, by decide +kernel⟩, List.mem_of_getElem? (i := 182) (by decide +kernel), List.mem_of_getElem? (i := 718) (by decide +kernel), List.mem_of_getElem? (i := 719) (by decide +kernel)⟩
theorem lw_p20 : lw_okq (⟨"TaleHouse$Facts", "stands", "(IILTaleHouse$Parts;)Z"⟩, 6) := ⟨⟨by decide +kernel, by decide +kernel⟩, List.mem_of_getElem? (i := 175) (by decide +kernel), List.mem_of_getElem? (i := 730) (by decide +kernel), List.mem_of_getElem? (i := 731) (by decide +kernel)⟩
theorem lw_p21 : lw_okq (⟨"TaleHouse$Facts", "findQuarrelsOf", "(IILTaleHouse$Parts;)V"⟩, 6) := ⟨⟨by decide +kernel, by decide +kernel⟩, List.mem_of_getElem? (i := 175) (by decide +kernel), List.mem_of_getElem? (i := 743) (by decide +kernel), List.mem_of_getElem? (i := 744) (by decide +kernel)⟩
theorem lw_p22 : lw_okq (⟨"TaleHouse$Parts", "daysBehind", "(II)I"⟩, 4) := ⟨⟨by decide +kernel, by decide +kernel⟩, List.mem_of_getElem? (i := 156) (by decide +kernel), List.mem_of_getElem? (i := 838) (by decide +kernel), List.mem_of_getElem? (i := 839) (by decide +kernel)⟩
theorem lw_p23 : lw_okq (⟨"TaleHouse$Shelf", "left", "(I)I"⟩, 10) := ⟨⟨by decide +kernel, by decide +kernel⟩, List.mem_of_getElem? (i := 271) (by decide +kernel), List.mem_of_getElem? (i := 913) (by decide +kernel), List.mem_of_getElem? (i := 914) (by decide +kernel)⟩
theorem lw_p24 : lw_okq (⟨"TaleHouseModel", "put", "(I)V"⟩, 52) := ⟨⟨by decide +kernel, by decide +kernel⟩, List.mem_of_getElem? (i := 985) (by decide +kernel), List.mem_of_getElem? (i := 1152) (by decide +kernel), List.mem_of_getElem? (i := 1153) (by decide +kernel)⟩
theorem lw_p25 : lw_okq (⟨"TaleHouseModel", "breaks", "(I)V"⟩, 52) := ⟨⟨by decide +kernel, by decide +kernel⟩, List.mem_of_getElem? (i := 985) (by decide +kernel), List.mem_of_getElem? (i := 1184) (by decide +kernel), List.mem_of_getElem? (i := 1185) (by decide +kernel)⟩
theorem lw_p26 : lw_okq (⟨"TaleHouseModel", "cost", "(III)I"⟩, 52) := ⟨⟨by decide +kernel, by decide +kernel⟩, List.mem_of_getElem? (i := 985) (by decide +kernel), List.mem_of_getElem? (i := 1189) (by decide +kernel), List.mem_of_getElem? (i := 1190) (by decide +kernel)⟩
theorem lw_p27 : lw_okq (⟨"TaleHouseModel", "gone", "(III)I"⟩, 52) := ⟨⟨by decide +kernel, by decide +kernel⟩, List.mem_of_getElem? (i := 985) (by decide +kernel), List.mem_of_getElem? (i := 1197) (by decide +kernel), List.mem_of_getElem? (i := 1198) (by decide +kernel)⟩
theorem lw_p28 : lw_okq (⟨"TaleHouseModel", "stands", "(IIIIII)I"⟩, 52) := ⟨⟨by decide +kernel, by decide +kernel⟩, List.mem_of_getElem? (i := 985) (by decide +kernel), List.mem_of_getElem? (i := 1204) (by decide +kernel), List.mem_of_getElem? (i := 1205) (by decide +kernel)⟩
theorem lw_p29 : lw_okq (⟨"TaleHouseModel", "price", "(IIII)I"⟩, 52) := ⟨⟨by decide +kernel, by decide +kernel⟩, List.mem_of_getElem? (i := 985) (by decide +kernel), List.mem_of_getElem? (i := 1208) (by decide +kernel), List.mem_of_getElem? (i := 1209) (by decide +kernel)⟩
theorem lw_p30 : lw_okq (⟨"TaleHouseModel", "tells", "(I)V"⟩, 52) := ⟨⟨by decide +kernel, by decide +kernel⟩, List.mem_of_getElem? (i := 985) (by decide +kernel), List.mem_of_getElem? (i := 1212) (by decide +kernel), List.mem_of_getElem? (i := 1213) (by decide +kernel)⟩
theorem lw_p31 : lw_okq (⟨"TaleHouseModel", "lays", "(II)V"⟩, 52) := ⟨⟨by decide +kernel, by decide +kernel⟩, List.mem_of_getElem? (i := 985) (by decide +kernel), List.mem_of_getElem? (i := 1216) (by decide +kernel), List.mem_of_getElem? (i := 1217) (by decide +kernel)⟩
def lw_privs_2 : List (MethodName × Nat) := [(⟨"TaleHouse$Tape", "fail", "(II)V"⟩, 5), (⟨"TaleHouse$Tape", "digitsAhead", "()I"⟩, 5), (⟨"TaleHouse$Facts", "numbered", "(I)LTaleHouse$Fact;"⟩, 6), (⟨"TaleHouse$Fact", "quarrelWithLater", "(LTaleHouse$Fact;)I"⟩, 7), (⟨"TaleHouse$Facts", "stands", "(IILTaleHouse$Parts;)Z"⟩, 6), (⟨"TaleHouse$Facts", "findQuarrelsOf", "(IILTaleHouse$Parts;)V"⟩, 6), (⟨"TaleHouse$Parts", "daysBehind", "(II)I"⟩, 4), (⟨"TaleHouse$Shelf", "left", "(I)I"⟩, 10), (⟨"TaleHouseModel", "put", "(I)V"⟩, 52), (⟨"TaleHouseModel", "breaks", "(I)V"⟩, 52), (⟨"TaleHouseModel", "cost", "(III)I"⟩, 52), (⟨"TaleHouseModel", "gone", "(III)I"⟩, 52), (⟨"TaleHouseModel", "stands", "(IIIIII)I"⟩, 52), (⟨"TaleHouseModel", "price", "(IIII)I"⟩, 52), (⟨"TaleHouseModel", "tells", "(I)V"⟩, 52), (⟨"TaleHouseModel", "lays", "(II)V"⟩, 52)]
theorem lw_r2 : ∀ q ∈ lw_privs_2, lw_okq q := List.forall_mem_cons.mpr ⟨lw_p16, List.forall_mem_cons.mpr ⟨lw_p17, List.forall_mem_cons.mpr ⟨lw_p18, List.forall_mem_cons.mpr ⟨lw_p19, List.forall_mem_cons.mpr ⟨lw_p20, List.forall_mem_cons.mpr ⟨lw_p21, List.forall_mem_cons.mpr ⟨lw_p22, List.forall_mem_cons.mpr ⟨lw_p23, List.forall_mem_cons.mpr ⟨lw_p24, List.forall_mem_cons.mpr ⟨lw_p25, List.forall_mem_cons.mpr ⟨lw_p26, List.forall_mem_cons.mpr ⟨lw_p27, List.forall_mem_cons.mpr ⟨lw_p28, List.forall_mem_cons.mpr ⟨lw_p29, List.forall_mem_cons.mpr ⟨lw_p30, List.forall_mem_cons.mpr ⟨lw_p31, fun _ h => absurd h List.not_mem_nil⟩⟩⟩⟩⟩⟩⟩⟩⟩⟩⟩⟩⟩⟩⟩⟩
theorem lw_p32 : lw_okq (⟨"TaleHouseModel", "begins", "()V"⟩, 52) := ⟨⟨by decide +kernel, by decide +kernel⟩, List.mem_of_getElem? (i := 985) (by decide +kernel), List.mem_of_getElem? (i := 1236) (by decide +kernel), List.mem_of_getElem? (i := 1237) (by decide +kernel)⟩
theorem lw_p33 : lw_okq (⟨"TaleHouseModel", "name", "(I)V"⟩, 52) := ⟨⟨by decide +kernel, by decide +kernel⟩, List.mem_of_getElem? (i := 985) (by decide +kernel), List.mem_of_getElem? (i := 1240) (by decide +kernel), List.mem_of_getElem? (i := 1241) (by decide +kernel)⟩
theorem lw_p34 : lw_okq (⟨"TaleHouseModel", "here", "()I"⟩, 52) := ⟨⟨by decide +kernel, by decide +kernel⟩, List.mem_of_getElem? (i := 985) (by decide +kernel), List.mem_of_getElem? (i := 1244) (by decide +kernel), List.mem_of_getElem? (i := 1245) (by decide +kernel)⟩
theorem lw_p35 : lw_okq (⟨"TaleHouseModel", "blame", "(II)V"⟩, 52) := ⟨⟨by decide +kernel, by decide +kernel⟩, List.mem_of_getElem? (i := 985) (by decide +kernel), List.mem_of_getElem? (i := 1251) (by decide +kernel), List.mem_of_getElem? (i := 1252) (by decide +kernel)⟩
theorem lw_p36 : lw_okq (⟨"TaleHouseModel", "wordEnd", "()I"⟩, 52) := ⟨⟨by decide +kernel, by decide +kernel⟩, List.mem_of_getElem? (i := 985) (by decide +kernel), List.mem_of_getElem? (i := 1255) (by decide +kernel), List.mem_of_getElem? (i := 1256) (by decide +kernel)⟩
theorem lw_p37 : lw_okq (⟨"TaleHouseModel", "spells", "(IJI)Z"⟩, 52) := ⟨⟨by decide +kernel, by decide +kernel⟩, List.mem_of_getElem? (i := 985) (by decide +kernel), List.mem_of_getElem? (i := 1260) (by decide +kernel), List.mem_of_getElem? (i := 1261) (by decide +kernel)⟩
theorem lw_p38 : lw_okq (⟨"TaleHouseModel", "passes", "(JI)Z"⟩, 52) := ⟨⟨by decide +kernel, by decide +kernel⟩, List.mem_of_getElem? (i := 985) (by decide +kernel), List.mem_of_getElem? (i := 1268) (by decide +kernel), List.mem_of_getElem? (i := 1269) (by decide +kernel)⟩
theorem lw_p39 : lw_okq (⟨"TaleHouseModel", "digits", "()I"⟩, 52) := ⟨⟨by decide +kernel, by decide +kernel⟩, List.mem_of_getElem? (i := 985) (by decide +kernel), List.mem_of_getElem? (i := 1272) (by decide +kernel), List.mem_of_getElem? (i := 1273) (by decide +kernel)⟩
theorem lw_p40 : lw_okq (⟨"TaleHouseModel", "ends", "()V"⟩, 52) := ⟨⟨by decide +kernel, by decide +kernel⟩, List.mem_of_getElem? (i := 985) (by decide +kernel), List.mem_of_getElem? (i := 1279) (by decide +kernel), List.mem_of_getElem? (i := 1280) (by decide +kernel)⟩
theorem lw_p41 : lw_okq (⟨"TaleHouseModel", "must", "(I)V"⟩, 52) := ⟨⟨by decide +kernel, by decide +kernel⟩, List.mem_of_getElem? (i := 985) (by decide +kernel), List.mem_of_getElem? (i := 1283) (by decide +kernel), List.mem_of_getElem? (i := 1284) (by decide +kernel)⟩
theorem lw_p42 : lw_okq (⟨"TaleHouseModel", "isEdition", "(II)Z"⟩, 52) := ⟨⟨by decide +kernel, by decide +kernel⟩, List.mem_of_getElem? (i := 985) (by decide +kernel), List.mem_of_getElem? (i := 1287) (by decide +kernel), List.mem_of_getElem? (i := 1288) (by decide +kernel)⟩
theorem lw_p43 : lw_okq (⟨"TaleHouseModel", "quarrels0", "(II)I"⟩, 52) := ⟨⟨by decide +kernel, by decide +kernel⟩, List.mem_of_getElem? (i := 985) (by decide +kernel), List.mem_of_getElem? (i := 1302) (by decide +kernel), List.mem_of_getElem? (i := 1303) (by decide +kernel)⟩
theorem lw_p44 : lw_okq (⟨"TaleHouseModel", "isAlike", "(III)Z"⟩, 52) := ⟨⟨by decide +kernel, by decide +kernel⟩, List.mem_of_getElem? (i := 985) (by decide +kernel), List.mem_of_getElem? (i := 1306) (by decide +kernel), List.mem_of_getElem? (i := 1307) (by decide +kernel)⟩
theorem lw_p45 : lw_okq (⟨"TaleHouseModel", "stands", "(II)Z"⟩, 52) := ⟨⟨by decide +kernel, by decide +kernel⟩, List.mem_of_getElem? (i := 985) (by decide +kernel), List.mem_of_getElem? (i := 1314) (by decide +kernel), List.mem_of_getElem? (i := 1315) (by decide +kernel)⟩
theorem lw_p46 : lw_okq (⟨"TaleHouseModel", "number", "(II)I"⟩, 52) := ⟨⟨by decide +kernel, by decide +kernel⟩, List.mem_of_getElem? (i := 985) (by decide +kernel), List.mem_of_getElem? (i := 1330) (by decide +kernel), List.mem_of_getElem? (i := 1331) (by decide +kernel)⟩
theorem lw_p47 : lw_okq (⟨"TaleHouseModel", "lateDays", "(I)I"⟩, 52) := ⟨⟨by decide +kernel, by decide +kernel⟩, List.mem_of_getElem? (i := 985) (by decide +kernel), List.mem_of_getElem? (i := 1349) (by decide +kernel), List.mem_of_getElem? (i := 1350) (by decide +kernel)⟩
def lw_privs_3 : List (MethodName × Nat) := [(⟨"TaleHouseModel", "begins", "()V"⟩, 52), (⟨"TaleHouseModel", "name", "(I)V"⟩, 52), (⟨"TaleHouseModel", "here", "()I"⟩, 52), (⟨"TaleHouseModel", "blame", "(II)V"⟩, 52), (⟨"TaleHouseModel", "wordEnd", "()I"⟩, 52), (⟨"TaleHouseModel", "spells", "(IJI)Z"⟩, 52), (⟨"TaleHouseModel", "passes", "(JI)Z"⟩, 52), (⟨"TaleHouseModel", "digits", "()I"⟩, 52), (⟨"TaleHouseModel", "ends", "()V"⟩, 52), (⟨"TaleHouseModel", "must", "(I)V"⟩, 52), (⟨"TaleHouseModel", "isEdition", "(II)Z"⟩, 52), (⟨"TaleHouseModel", "quarrels0", "(II)I"⟩, 52), (⟨"TaleHouseModel", "isAlike", "(III)Z"⟩, 52), (⟨"TaleHouseModel", "stands", "(II)Z"⟩, 52), (⟨"TaleHouseModel", "number", "(II)I"⟩, 52), (⟨"TaleHouseModel", "lateDays", "(I)I"⟩, 52)]
theorem lw_r3 : ∀ q ∈ lw_privs_3, lw_okq q := List.forall_mem_cons.mpr ⟨lw_p32, List.forall_mem_cons.mpr ⟨lw_p33, List.forall_mem_cons.mpr ⟨lw_p34, List.forall_mem_cons.mpr ⟨lw_p35, List.forall_mem_cons.mpr ⟨lw_p36, List.forall_mem_cons.mpr ⟨lw_p37, List.forall_mem_cons.mpr ⟨lw_p38, List.forall_mem_cons.mpr ⟨lw_p39, List.forall_mem_cons.mpr ⟨lw_p40, List.forall_mem_cons.mpr ⟨lw_p41, List.forall_mem_cons.mpr ⟨lw_p42, List.forall_mem_cons.mpr ⟨lw_p43, List.forall_mem_cons.mpr ⟨lw_p44, List.forall_mem_cons.mpr ⟨lw_p45, List.forall_mem_cons.mpr ⟨lw_p46, List.forall_mem_cons.mpr ⟨lw_p47, fun _ h => absurd h List.not_mem_nil⟩⟩⟩⟩⟩⟩⟩⟩⟩⟩⟩⟩⟩⟩⟩⟩
theorem lw_p48 : lw_okq (⟨"TaleHouseModel", "stays", "(II)I"⟩, 52) := ⟨⟨by decide +kernel, by decide +kernel⟩, List.mem_of_getElem? (i := 985) (by decide +kernel), List.mem_of_getElem? (i := 1385) (by decide +kernel), List.mem_of_getElem? (i := 1386) (by decide +kernel)⟩
def lw_privs_4 : List (MethodName × Nat) := [(⟨"TaleHouseModel", "stays", "(II)I"⟩, 52)]
theorem lw_r4 : ∀ q ∈ lw_privs_4, lw_okq q := List.forall_mem_cons.mpr ⟨lw_p48, fun _ h => absurd h List.not_mem_nil⟩
def lw_privs : List (MethodName × Nat) := lw_privs_1 ++ (lw_privs_2 ++ (lw_privs_3 ++ (lw_privs_4)))
def lw_tbl : List Cond := k2_sels lw_privs ++ tables_1
theorem lw_privs_ok : ∀ q ∈ lw_privs, lw_okq q := by
  show ∀ q ∈ lw_privs_1 ++ (lw_privs_2 ++ (lw_privs_3 ++ (lw_privs_4))), lw_okq q
  exact List.forall_mem_append.mpr ⟨lw_r1, List.forall_mem_append.mpr ⟨lw_r2, List.forall_mem_append.mpr ⟨lw_r3, lw_r4⟩⟩⟩
-- ===== end of PART A; then your names; then what follows =====
end
section
def xR_Ag : String := "TaleHouse$Agreement"
def xT_Ag : u_T := fun k => match k with
  | 0 => ("TaleHouse$Agreement", "percents", "[I", true)
  | 1 => ("TaleHouse$Agreement", "upTo", "[I", true)
  | 2 => ("TaleHouse$Agreement", "steps", "I", false)
  | 3 => ("TaleHouse$Agreement", "late", "I", false)
  | _ => ("TaleHouse$Agreement", "fromPart", "I", false)
def xY_Ag : Nat → FieldType := fun k => match k with
  | 0 => (.array .int)
  | 1 => (.array .int)
  | 2 => .int
  | 3 => .int
  | _ => .int
def xR_As : String := "TaleHouse$Agreements"
def xT_As : u_T := fun k => match k with
  | 0 => ("TaleHouse$Agreements", "agreements", "[LTaleHouse$Agreement;", true)
  | 1 => ("TaleHouse$Agreements", "draft", "LTaleHouse$Agreement;", false)
  | _ => ("TaleHouse$Agreements", "count", "I", false)
def xY_As : Nat → FieldType := fun k => match k with
  | 0 => (.array (.object "TaleHouse$Agreement"))
  | 1 => (.object "TaleHouse$Agreement")
  | _ => .int
def xR_Br : String := "TaleHouse$Breaks"
def xT_Br : u_T := fun k => match k with
  | 0 => ("TaleHouse$Breaks", "least", "[[I", true)
  | 1 => ("TaleHouse$Breaks", "lengths", "[I", false)
  | 2 => ("TaleHouse$Breaks", "count", "I", false)
  | _ => ("TaleHouse$Breaks", "wide", "I", false)
def xY_Br : Nat → FieldType := fun k => match k with
  | 0 => (.array (.array .int))
  | 1 => (.array .int)
  | 2 => .int
  | _ => .int
def xR_Fa : String := "TaleHouse$Fact"
def xT_Fa : u_T := fun k => match k with
  | 0 => ("TaleHouse$Fact", "person", "J", false)
  | 1 => ("TaleHouse$Fact", "kind", "I", false)
  | 2 => ("TaleHouse$Fact", "place", "J", false)
  | 3 => ("TaleHouse$Fact", "day", "I", false)
  | 4 => ("TaleHouse$Fact", "part", "I", false)
  | 5 => ("TaleHouse$Fact", "edition", "I", false)
  | _ => ("TaleHouse$Fact", "struckFrom", "I", false)
def xY_Fa : Nat → FieldType := fun k => match k with
  | 0 => .long
  | 1 => .int
  | 2 => .long
  | 3 => .int
  | 4 => .int
  | 5 => .int
  | _ => .int
def xR_Fs : String := "TaleHouse$Facts"
def xT_Fs : u_T := fun k => match k with
  | 0 => ("TaleHouse$Facts", "facts", "[LTaleHouse$Fact;", true)
  | 1 => ("TaleHouse$Facts", "lesserFound", "[I", true)
  | 2 => ("TaleHouse$Facts", "otherFound", "[I", true)
  | 3 => ("TaleHouse$Facts", "draft", "LTaleHouse$Fact;", false)
  | 4 => ("TaleHouse$Facts", "count", "I", false)
  | _ => ("TaleHouse$Facts", "foundCount", "I", false)
def xY_Fs : Nat → FieldType := fun k => match k with
  | 0 => (.array (.object "TaleHouse$Fact"))
  | 1 => (.array .int)
  | 2 => (.array .int)
  | 3 => (.object "TaleHouse$Fact")
  | 4 => .int
  | _ => .int
def xR_Fo : String := "TaleHouse$Foretelling"
def xT_Fo : u_T := fun k => match k with
  | 0 => ("TaleHouse$Foretelling", "sales", "[I", true)
  | 1 => ("TaleHouse$Foretelling", "rowLots", "[I", true)
  | _ => ("TaleHouse$Foretelling", "count", "I", false)
def xY_Fo : Nat → FieldType := fun k => match k with
  | 0 => (.array .int)
  | 1 => (.array .int)
  | _ => .int
def xR_Mn : String := "TaleHouse$Manuscript"
def xT_Mn : u_T := fun k => match k with
  | 0 => ("TaleHouse$Manuscript", "cuts", "[I", true)
  | 1 => ("TaleHouse$Manuscript", "wordCounts", "[I", true)
  | 2 => ("TaleHouse$Manuscript", "words", "[[I", true)
  | 3 => ("TaleHouse$Manuscript", "breakCosts", "[[I", true)
  | 4 => ("TaleHouse$Manuscript", "weighed", "[Z", true)
  | 5 => ("TaleHouse$Manuscript", "breaks", "LTaleHouse$Breaks;", true)
  | 6 => ("TaleHouse$Manuscript", "count", "I", false)
  | 7 => ("TaleHouse$Manuscript", "wide", "I", false)
  | 8 => ("TaleHouse$Manuscript", "pageLines", "I", false)
  | 9 => ("TaleHouse$Manuscript", "leadPrice", "I", false)
  | _ => ("TaleHouse$Manuscript", "widowPrice", "I", false)
def xY_Mn : Nat → FieldType := fun k => match k with
  | 0 => (.array .int)
  | 1 => (.array .int)
  | 2 => (.array (.array .int))
  | 3 => (.array (.array .int))
  | 4 => (.array .boolean)
  | 5 => (.object "TaleHouse$Breaks")
  | 6 => .int
  | 7 => .int
  | 8 => .int
  | 9 => .int
  | _ => .int
def xR_Pa : String := "TaleHouse$Parts"
def xT_Pa : u_T := fun k => match k with
  | 0 => ("TaleHouse$Parts", "lastEditions", "[I", true)
  | 1 => ("TaleHouse$Parts", "days", "[I", true)
  | 2 => ("TaleHouse$Parts", "comeCount", "I", false)
  | _ => ("TaleHouse$Parts", "startDay", "I", false)
def xY_Pa : Nat → FieldType := fun k => match k with
  | 0 => (.array .int)
  | 1 => (.array .int)
  | 2 => .int
  | _ => .int
def xR_Se : String := "TaleHouse$Setting"
def xT_Se : u_T := fun k => match k with
  | 0 => ("TaleHouse$Setting", "restCost", "[[I", true)
  | 1 => ("TaleHouse$Setting", "openingCost", "[I", true)
  | 2 => ("TaleHouse$Setting", "uncutCost", "[I", true)
  | 3 => ("TaleHouse$Setting", "placed", "[[I", true)
  | 4 => ("TaleHouse$Setting", "lineParagraph", "[I", true)
  | 5 => ("TaleHouse$Setting", "lineFirstWord", "[I", true)
  | 6 => ("TaleHouse$Setting", "lineWords", "[I", true)
  | 7 => ("TaleHouse$Setting", "paragraphCount", "I", false)
  | _ => ("TaleHouse$Setting", "lineCount", "I", false)
def xY_Se : Nat → FieldType := fun k => match k with
  | 0 => (.array (.array .int))
  | 1 => (.array .int)
  | 2 => (.array .int)
  | 3 => (.array (.array .int))
  | 4 => (.array .int)
  | 5 => (.array .int)
  | 6 => (.array .int)
  | 7 => .int
  | _ => .int
def xR_Sh : String := "TaleHouse$Shelf"
def xT_Sh : u_T := fun k => match k with
  | 0 => ("TaleHouse$Shelf", "printed", "[I", true)
  | 1 => ("TaleHouse$Shelf", "sold", "[I", true)
  | 2 => ("TaleHouse$Shelf", "pulped", "[I", true)
  | 3 => ("TaleHouse$Shelf", "bound", "[I", true)
  | 4 => ("TaleHouse$Shelf", "platesKept", "[Z", true)
  | 5 => ("TaleHouse$Shelf", "price", "I", false)
  | 6 => ("TaleHouse$Shelf", "paperPrice", "I", false)
  | 7 => ("TaleHouse$Shelf", "platesPrice", "I", false)
  | 8 => ("TaleHouse$Shelf", "pulpPrice", "I", false)
  | _ => ("TaleHouse$Shelf", "money", "J", false)
def xY_Sh : Nat → FieldType := fun k => match k with
  | 0 => (.array .int)
  | 1 => (.array .int)
  | 2 => (.array .int)
  | 3 => (.array .int)
  | 4 => (.array .boolean)
  | 5 => .int
  | 6 => .int
  | 7 => .int
  | 8 => .int
  | _ => .long
def xR_Tp : String := "TaleHouse$Tape"
def xT_Tp : u_T := fun k => match k with
  | 0 => ("TaleHouse$Tape", "bytes", "[I", true)
  | 1 => ("TaleHouse$Tape", "size", "I", false)
  | 2 => ("TaleHouse$Tape", "at", "I", false)
  | 3 => ("TaleHouse$Tape", "faultKind", "I", false)
  | _ => ("TaleHouse$Tape", "faultPlace", "I", false)
def xY_Tp : Nat → FieldType := fun k => match k with
  | 0 => (.array .int)
  | 1 => .int
  | 2 => .int
  | 3 => .int
  | _ => .int
def xR_TH : String := "TaleHouse"
def xT_TH : u_T := fun k => match k with
  | 0 => ("TaleHouse", "tape", "LTaleHouse$Tape;", true)
  | 1 => ("TaleHouse", "manuscript", "LTaleHouse$Manuscript;", true)
  | 2 => ("TaleHouse", "setting", "LTaleHouse$Setting;", true)
  | 3 => ("TaleHouse", "parts", "LTaleHouse$Parts;", true)
  | 4 => ("TaleHouse", "facts", "LTaleHouse$Facts;", true)
  | 5 => ("TaleHouse", "agreements", "LTaleHouse$Agreements;", true)
  | 6 => ("TaleHouse", "shelf", "LTaleHouse$Shelf;", true)
  | _ => ("TaleHouse", "foretelling", "LTaleHouse$Foretelling;", true)
def xY_TH : Nat → FieldType := fun k => match k with
  | 0 => (.object "TaleHouse$Tape")
  | 1 => (.object "TaleHouse$Manuscript")
  | 2 => (.object "TaleHouse$Setting")
  | 3 => (.object "TaleHouse$Parts")
  | 4 => (.object "TaleHouse$Facts")
  | 5 => (.object "TaleHouse$Agreements")
  | 6 => (.object "TaleHouse$Shelf")
  | _ => (.object "TaleHouse$Foretelling")
def xR_Md : String := "TaleHouseModel"
def xT_Md : u_T := fun k => match k with
  | 0 => ("TaleHouseModel", "tape", "[I", true)
  | 1 => ("TaleHouseModel", "taped", "I", false)
  | 2 => ("TaleHouseModel", "paragraphs", "I", false)
  | 3 => ("TaleHouseModel", "cuts", "[I", true)
  | 4 => ("TaleHouseModel", "many", "[I", true)
  | 5 => ("TaleHouseModel", "words", "[I", true)
  | 6 => ("TaleHouseModel", "wide", "I", false)
  | 7 => ("TaleHouseModel", "paged", "I", false)
  | 8 => ("TaleHouseModel", "lead", "I", false)
  | 9 => ("TaleHouseModel", "widow", "I", false)
  | 10 => ("TaleHouseModel", "rest", "[I", true)
  | 11 => ("TaleHouseModel", "least", "[I", true)
  | 12 => ("TaleHouseModel", "left", "[I", true)
  | 13 => ("TaleHouseModel", "found", "I", false)
  | 14 => ("TaleHouseModel", "isCut", "[Z", true)
  | 15 => ("TaleHouseModel", "leadsOf", "[I", true)
  | 16 => ("TaleHouseModel", "firstOf", "[I", true)
  | 17 => ("TaleHouseModel", "linesOf", "[I", true)
  | 18 => ("TaleHouseModel", "lineOf", "[I", true)
  | 19 => ("TaleHouseModel", "wordOf", "[I", true)
  | 20 => ("TaleHouseModel", "wordsIn", "[I", true)
  | 21 => ("TaleHouseModel", "faultKind", "I", false)
  | 22 => ("TaleHouseModel", "faultPlace", "I", false)
  | 23 => ("TaleHouseModel", "at", "I", false)
  | 24 => ("TaleHouseModel", "size", "I", false)
  | 25 => ("TaleHouseModel", "facts", "I", false)
  | 26 => ("TaleHouseModel", "names", "[I", true)
  | 27 => ("TaleHouseModel", "sizes", "[I", true)
  | 28 => ("TaleHouseModel", "says", "[I", true)
  | 29 => ("TaleHouseModel", "days", "[I", true)
  | 30 => ("TaleHouseModel", "part", "[I", true)
  | 31 => ("TaleHouseModel", "told", "[I", true)
  | 32 => ("TaleHouseModel", "struck", "[I", true)
  | 33 => ("TaleHouseModel", "editions", "[I", true)
  | 34 => ("TaleHouseModel", "pairs", "[I", true)
  | 35 => ("TaleHouseModel", "pairMany", "I", false)
  | 36 => ("TaleHouseModel", "agreements", "I", false)
  | 37 => ("TaleHouseModel", "steps", "[I", true)
  | 38 => ("TaleHouseModel", "stepMany", "[I", true)
  | 39 => ("TaleHouseModel", "late", "[I", true)
  | 40 => ("TaleHouseModel", "from", "[I", true)
  | 41 => ("TaleHouseModel", "start", "I", false)
  | 42 => ("TaleHouseModel", "day", "[I", true)
  | 43 => ("TaleHouseModel", "stocks", "[I", true)
  | 44 => ("TaleHouseModel", "price", "I", false)
  | 45 => ("TaleHouseModel", "paper", "I", false)
  | 46 => ("TaleHouseModel", "plates", "I", false)
  | 47 => ("TaleHouseModel", "pulp", "I", false)
  | 48 => ("TaleHouseModel", "purse", "J", false)
  | 49 => ("TaleHouseModel", "rows", "I", false)
  | 50 => ("TaleHouseModel", "sales", "[I", true)
  | _ => ("TaleHouseModel", "lots", "[I", true)
def xY_Md : Nat → FieldType := fun k => match k with
  | 0 => (.array .int)
  | 1 => .int
  | 2 => .int
  | 3 => (.array .int)
  | 4 => (.array .int)
  | 5 => (.array .int)
  | 6 => .int
  | 7 => .int
  | 8 => .int
  | 9 => .int
  | 10 => (.array .int)
  | 11 => (.array .int)
  | 12 => (.array .int)
  | 13 => .int
  | 14 => (.array .boolean)
  | 15 => (.array .int)
  | 16 => (.array .int)
  | 17 => (.array .int)
  | 18 => (.array .int)
  | 19 => (.array .int)
  | 20 => (.array .int)
  | 21 => .int
  | 22 => .int
  | 23 => .int
  | 24 => .int
  | 25 => .int
  | 26 => (.array .int)
  | 27 => (.array .int)
  | 28 => (.array .int)
  | 29 => (.array .int)
  | 30 => (.array .int)
  | 31 => (.array .int)
  | 32 => (.array .int)
  | 33 => (.array .int)
  | 34 => (.array .int)
  | 35 => .int
  | 36 => .int
  | 37 => (.array .int)
  | 38 => (.array .int)
  | 39 => (.array .int)
  | 40 => (.array .int)
  | 41 => .int
  | 42 => (.array .int)
  | 43 => (.array .int)
  | 44 => .int
  | 45 => .int
  | 46 => .int
  | 47 => .int
  | 48 => .long
  | 49 => .int
  | 50 => (.array .int)
  | _ => (.array .int)
/-- the classes whose objects the world holds: name, fields, how many -/
def xcl : List vw_C := [(xR_Ag, xT_Ag, 5), (xR_As, xT_As, 3), (xR_Br, xT_Br, 4), (xR_Fa, xT_Fa, 7), (xR_Fs, xT_Fs, 6), (xR_Fo, xT_Fo, 3), (xR_Mn, xT_Mn, 11), (xR_Pa, xT_Pa, 4), (xR_Se, xT_Se, 9), (xR_Sh, xT_Sh, 10), (xR_Tp, xT_Tp, 5), (xR_TH, xT_TH, 8), (xR_Md, xT_Md, 52)]
def xty : List (Nat → FieldType) := [xY_Ag, xY_As, xY_Br, xY_Fa, xY_Fs, xY_Fo, xY_Mn, xY_Pa, xY_Se, xY_Sh, xY_Tp, xY_TH, xY_Md]
/-- a method: name, bytes, locals, answer, and the room (frames, words) that its calls take -/
abbrev XM : Type := MethodName × ByteArray × Nat × Option FieldType × Nat × Nat
def m_Ag_init : XM := (⟨"TaleHouse$Agreement", "<init>", "()V"⟩, prog_2_method_1_code, 1, none, 1, 20)
def m_Ag_readFrom : XM := (⟨"TaleHouse$Agreement", "readFrom", "(LTaleHouse$Tape;)V"⟩, prog_2_method_2_code, 4, none, 8, 172)
def m_Ag_percentsOf : XM := (⟨"TaleHouse$Agreement", "percentsOf", "(J)J"⟩, prog_2_method_3_code, 11, (some .long), 1, 23)
def m_As_init : XM := (⟨"TaleHouse$Agreements", "<init>", "()V"⟩, prog_3_method_1_code, 1, none, 2, 40)
def m_As_readDraft : XM := (⟨"TaleHouse$Agreements", "readDraft", "(LTaleHouse$Tape;)Z"⟩, prog_3_method_2_code, 2, (some .boolean), 9, 195)
def m_As_addDraft : XM := (⟨"TaleHouse$Agreements", "addDraft", "(I)I"⟩, prog_3_method_3_code, 2, (some .int), 2, 40)
def m_As_latestFor : XM := (⟨"TaleHouse$Agreements", "latestFor", "(I)I"⟩, prog_3_method_4_code, 4, (some .int), 1, 21)
def m_As_numbered : XM := (⟨"TaleHouse$Agreements", "numbered", "(I)LTaleHouse$Agreement;"⟩, prog_3_method_5_code, 2, (some (.object "TaleHouse$Agreement")), 0, 0)
def m_Br_init : XM := (⟨"TaleHouse$Breaks", "<init>", "()V"⟩, prog_4_method_1_code, 1, none, 1, 20)
def m_Br_weigh : XM := (⟨"TaleHouse$Breaks", "weigh", "([III)V"⟩, prog_4_method_2_code, 6, none, 2, 49)
def m_Br_cost : XM := (⟨"TaleHouse$Breaks", "cost", "(I)I"⟩, prog_4_method_3_code, 2, (some .int), 0, 0)
def m_Br_wordsTaken : XM := (⟨"TaleHouse$Breaks", "wordsTaken", "(II)I"⟩, prog_4_method_4_code, 6, (some .int), 1, 25)
def m_Br_weighRest : XM := (⟨"TaleHouse$Breaks", "weighRest", "(II)V"⟩, prog_4_method_5_code, 5, none, 1, 25)
def m_Br_costWith : XM := (⟨"TaleHouse$Breaks", "costWith", "(III)I"⟩, prog_4_method_6_code, 6, (some .int), 0, 0)
def m_Fa_init : XM := (⟨"TaleHouse$Fact", "<init>", "()V"⟩, prog_5_method_1_code, 1, none, 1, 20)
def m_Fa_readFrom : XM := (⟨"TaleHouse$Fact", "readFrom", "(LTaleHouse$Tape;)V"⟩, prog_5_method_2_code, 2, none, 8, 174)
def m_Fa_standsIn : XM := (⟨"TaleHouse$Fact", "standsIn", "(I)Z"⟩, prog_5_method_3_code, 2, (some .boolean), 0, 0)
def m_Fa_quarrelWith : XM := (⟨"TaleHouse$Fact", "quarrelWith", "(LTaleHouse$Fact;)I"⟩, prog_5_method_4_code, 2, (some .int), 1, 22)
def m_Fa_quarrelWithLater : XM := (⟨"TaleHouse$Fact", "quarrelWithLater", "(LTaleHouse$Fact;)I"⟩, prog_5_method_5_code, 3, (some .int), 0, 0)
def m_Fs_init : XM := (⟨"TaleHouse$Facts", "<init>", "()V"⟩, prog_6_method_1_code, 1, none, 2, 40)
def m_Fs_readDraft : XM := (⟨"TaleHouse$Facts", "readDraft", "(LTaleHouse$Tape;)Z"⟩, prog_6_method_2_code, 2, (some .boolean), 9, 195)
def m_Fs_addDraft : XM := (⟨"TaleHouse$Facts", "addDraft", "(II)I"⟩, prog_6_method_3_code, 3, (some .int), 2, 40)
def m_Fs_strikeFrom : XM := (⟨"TaleHouse$Facts", "strikeFrom", "(IILTaleHouse$Parts;)Z"⟩, prog_6_method_4_code, 5, (some .boolean), 2, 42)
def m_Fs_quarrelOf : XM := (⟨"TaleHouse$Facts", "quarrelOf", "(II)I"⟩, prog_6_method_5_code, 5, (some .int), 2, 43)
def m_Fs_findQuarrels : XM := (⟨"TaleHouse$Facts", "findQuarrels", "(ILTaleHouse$Parts;)I"⟩, prog_6_method_6_code, 4, (some .int), 4, 91)
def m_Fs_foundPair : XM := (⟨"TaleHouse$Facts", "foundPair", "(II)I"⟩, prog_6_method_7_code, 3, (some .int), 0, 0)
def m_Fs_findQuarrelsOf : XM := (⟨"TaleHouse$Facts", "findQuarrelsOf", "(IILTaleHouse$Parts;)V"⟩, prog_6_method_8_code, 5, none, 3, 67)
def m_Fs_stands : XM := (⟨"TaleHouse$Facts", "stands", "(IILTaleHouse$Parts;)Z"⟩, prog_6_method_9_code, 5, (some .boolean), 2, 41)
def m_Fs_numbered : XM := (⟨"TaleHouse$Facts", "numbered", "(I)LTaleHouse$Fact;"⟩, prog_6_method_10_code, 2, (some (.object "TaleHouse$Fact")), 0, 0)
def m_Fo_init : XM := (⟨"TaleHouse$Foretelling", "<init>", "()V"⟩, prog_7_method_1_code, 1, none, 1, 20)
def m_Fo_addRow : XM := (⟨"TaleHouse$Foretelling", "addRow", "(II)I"⟩, prog_7_method_2_code, 3, (some .int), 0, 0)
def m_Fo_worthOf : XM := (⟨"TaleHouse$Foretelling", "worthOf", "(LTaleHouse$Shelf;II)J"⟩, prog_7_method_3_code, 12, (some .long), 2, 42)
def m_Fo_bestCopies : XM := (⟨"TaleHouse$Foretelling", "bestCopies", "(LTaleHouse$Shelf;I)I"⟩, prog_7_method_4_code, 9, (some .int), 3, 73)
def m_Mn_init : XM := (⟨"TaleHouse$Manuscript", "<init>", "()V"⟩, prog_8_method_1_code, 1, none, 2, 40)
def m_Mn_addParagraph : XM := (⟨"TaleHouse$Manuscript", "addParagraph", "(I)I"⟩, prog_8_method_2_code, 2, (some .int), 0, 0)
def m_Mn_addWord : XM := (⟨"TaleHouse$Manuscript", "addWord", "(I)I"⟩, prog_8_method_3_code, 4, (some .int), 0, 0)
def m_Mn_empty : XM := (⟨"TaleHouse$Manuscript", "empty", "()I"⟩, prog_8_method_4_code, 2, (some .int), 0, 0)
def m_Mn_shape : XM := (⟨"TaleHouse$Manuscript", "shape", "(IIII)Z"⟩, prog_8_method_5_code, 5, (some .boolean), 1, 21)
def m_Mn_cutCost : XM := (⟨"TaleHouse$Manuscript", "cutCost", "(I)I"⟩, prog_8_method_6_code, 2, (some .int), 0, 0)
def m_Mn_wordsOf : XM := (⟨"TaleHouse$Manuscript", "wordsOf", "(I)I"⟩, prog_8_method_7_code, 2, (some .int), 0, 0)
def m_Mn_weighBreaks : XM := (⟨"TaleHouse$Manuscript", "weighBreaks", "(I)V"⟩, prog_8_method_8_code, 4, none, 4, 95)
def m_Mn_breakCost : XM := (⟨"TaleHouse$Manuscript", "breakCost", "(II)I"⟩, prog_8_method_9_code, 3, (some .int), 0, 0)
def m_Mn_breaksOf : XM := (⟨"TaleHouse$Manuscript", "breaksOf", "(I)LTaleHouse$Breaks;"⟩, prog_8_method_10_code, 2, (some (.object "TaleHouse$Breaks")), 3, 74)
def m_Mn_widowCost : XM := (⟨"TaleHouse$Manuscript", "widowCost", "(II)I"⟩, prog_8_method_11_code, 4, (some .int), 0, 0)
def m_Mn_forgetBreakCosts : XM := (⟨"TaleHouse$Manuscript", "forgetBreakCosts", "()V"⟩, prog_8_method_12_code, 2, none, 0, 0)
def m_Pa_init : XM := (⟨"TaleHouse$Parts", "<init>", "()V"⟩, prog_9_method_1_code, 1, none, 1, 20)
def m_Pa_haveEdition : XM := (⟨"TaleHouse$Parts", "haveEdition", "(II)Z"⟩, prog_9_method_2_code, 3, (some .boolean), 1, 20)
def m_Pa_allHaveEdition : XM := (⟨"TaleHouse$Parts", "allHaveEdition", "(III)Z"⟩, prog_9_method_3_code, 5, (some .boolean), 2, 42)
def m_Pa_lastEdition : XM := (⟨"TaleHouse$Parts", "lastEdition", "(I)I"⟩, prog_9_method_4_code, 2, (some .int), 1, 20)
def m_Pa_addEdition : XM := (⟨"TaleHouse$Parts", "addEdition", "(I)I"⟩, prog_9_method_5_code, 2, (some .int), 1, 20)
def m_Pa_beginOn : XM := (⟨"TaleHouse$Parts", "beginOn", "(I)Z"⟩, prog_9_method_6_code, 2, (some .boolean), 0, 0)
def m_Pa_arrive : XM := (⟨"TaleHouse$Parts", "arrive", "(II)I"⟩, prog_9_method_7_code, 3, (some .int), 5, 108)
def m_Pa_hasCome : XM := (⟨"TaleHouse$Parts", "hasCome", "(I)Z"⟩, prog_9_method_8_code, 2, (some .boolean), 1, 20)
def m_Pa_daysLate : XM := (⟨"TaleHouse$Parts", "daysLate", "(I)I"⟩, prog_9_method_9_code, 2, (some .int), 4, 87)
def m_Pa_dueDay : XM := (⟨"TaleHouse$Parts", "dueDay", "(I)I"⟩, prog_9_method_10_code, 5, (some .int), 3, 63)
def m_Pa_daysBehind : XM := (⟨"TaleHouse$Parts", "daysBehind", "(II)I"⟩, prog_9_method_11_code, 3, (some .int), 2, 41)
def m_Se_init : XM := (⟨"TaleHouse$Setting", "<init>", "()V"⟩, prog_10_method_1_code, 1, none, 1, 20)
def m_Se_leastCost : XM := (⟨"TaleHouse$Setting", "leastCost", "(LTaleHouse$Manuscript;I)I"⟩, prog_10_method_2_code, 5, (some .int), 5, 118)
def m_Se_placeAll : XM := (⟨"TaleHouse$Setting", "placeAll", "(LTaleHouse$Manuscript;I)V"⟩, prog_10_method_3_code, 9, none, 5, 123)
def m_Se_ofParagraph : XM := (⟨"TaleHouse$Setting", "ofParagraph", "(II)I"⟩, prog_10_method_4_code, 3, (some .int), 0, 0)
def m_Se_ofLine : XM := (⟨"TaleHouse$Setting", "ofLine", "(II)I"⟩, prog_10_method_5_code, 3, (some .int), 0, 0)
def m_Se_weighFrom : XM := (⟨"TaleHouse$Setting", "weighFrom", "(LTaleHouse$Manuscript;II)V"⟩, prog_10_method_6_code, 8, none, 3, 75)
def m_Se_leastUncut : XM := (⟨"TaleHouse$Setting", "leastUncut", "(LTaleHouse$Manuscript;III)I"⟩, prog_10_method_7_code, 8, (some .int), 2, 48)
def m_Se_costInLines : XM := (⟨"TaleHouse$Setting", "costInLines", "(LTaleHouse$Manuscript;III)I"⟩, prog_10_method_8_code, 6, (some .int), 1, 23)
def m_Se_forgetPlaces : XM := (⟨"TaleHouse$Setting", "forgetPlaces", "(II)V"⟩, prog_10_method_9_code, 3, none, 1, 23)
def m_Se_fewestLeads : XM := (⟨"TaleHouse$Setting", "fewestLeads", "(LTaleHouse$Manuscript;IIII)I"⟩, prog_10_method_10_code, 8, (some .int), 3, 75)
def m_Se_fewestLines : XM := (⟨"TaleHouse$Setting", "fewestLines", "(LTaleHouse$Manuscript;III)I"⟩, prog_10_method_11_code, 7, (some .int), 2, 48)
def m_Se_placeLines : XM := (⟨"TaleHouse$Setting", "placeLines", "(LTaleHouse$Manuscript;III)V"⟩, prog_10_method_12_code, 9, none, 4, 95)
def m_Se_note : XM := (⟨"TaleHouse$Setting", "note", "(IIIII)V"⟩, prog_10_method_13_code, 6, none, 0, 0)
def m_Sh_init : XM := (⟨"TaleHouse$Shelf", "<init>", "()V"⟩, prog_11_method_1_code, 1, none, 1, 20)
def m_Sh_changePrices : XM := (⟨"TaleHouse$Shelf", "changePrices", "(IIII)Z"⟩, prog_11_method_2_code, 5, (some .boolean), 0, 0)
def m_Sh_keepPlates : XM := (⟨"TaleHouse$Shelf", "keepPlates", "(IZ)Z"⟩, prog_11_method_3_code, 3, (some .boolean), 1, 20)
def m_Sh_printingCost : XM := (⟨"TaleHouse$Shelf", "printingCost", "(II)I"⟩, prog_11_method_4_code, 3, (some .int), 1, 20)
def m_Sh_addPrinted : XM := (⟨"TaleHouse$Shelf", "addPrinted", "(II)I"⟩, prog_11_method_5_code, 4, (some .int), 2, 42)
def m_Sh_takeSold : XM := (⟨"TaleHouse$Shelf", "takeSold", "(II)I"⟩, prog_11_method_6_code, 3, (some .int), 2, 41)
def m_Sh_takePulped : XM := (⟨"TaleHouse$Shelf", "takePulped", "(I)I"⟩, prog_11_method_7_code, 3, (some .int), 2, 41)
def m_Sh_countOf : XM := (⟨"TaleHouse$Shelf", "countOf", "(II)I"⟩, prog_11_method_8_code, 3, (some .int), 2, 41)
def m_Sh_soldOfPart : XM := (⟨"TaleHouse$Shelf", "soldOfPart", "(I)J"⟩, prog_11_method_9_code, 6, (some .long), 1, 21)
def m_Sh_leastLeft : XM := (⟨"TaleHouse$Shelf", "leastLeft", "(III)I"⟩, prog_11_method_10_code, 6, (some .int), 2, 41)
def m_Sh_bind : XM := (⟨"TaleHouse$Shelf", "bind", "(IIII)V"⟩, prog_11_method_11_code, 7, none, 1, 21)
def m_Sh_left : XM := (⟨"TaleHouse$Shelf", "left", "(I)I"⟩, prog_11_method_12_code, 2, (some .int), 1, 20)
def m_Sh_isSlot : XM := (⟨"TaleHouse$Shelf", "isSlot", "(I)Z"⟩, prog_11_method_13_code, 1, (some .boolean), 0, 0)
def m_Tp_init : XM := (⟨"TaleHouse$Tape", "<init>", "()V"⟩, prog_12_method_1_code, 1, none, 1, 20)
def m_Tp_hasRoom : XM := (⟨"TaleHouse$Tape", "hasRoom", "()Z"⟩, prog_12_method_2_code, 1, (some .boolean), 0, 0)
def m_Tp_append : XM := (⟨"TaleHouse$Tape", "append", "(I)V"⟩, prog_12_method_3_code, 3, none, 0, 0)
def m_Tp_shorten : XM := (⟨"TaleHouse$Tape", "shorten", "(I)Z"⟩, prog_12_method_4_code, 2, (some .boolean), 0, 0)
def m_Tp_discard : XM := (⟨"TaleHouse$Tape", "discard", "()V"⟩, prog_12_method_5_code, 1, none, 0, 0)
def m_Tp_open : XM := (⟨"TaleHouse$Tape", "open", "()V"⟩, prog_12_method_6_code, 1, none, 0, 0)
def m_Tp_failed : XM := (⟨"TaleHouse$Tape", "failed", "()Z"⟩, prog_12_method_7_code, 1, (some .boolean), 0, 0)
def m_Tp_readName : XM := (⟨"TaleHouse$Tape", "readName", "()J"⟩, prog_12_method_8_code, 5, (some .long), 7, 150)
def m_Tp_readNumber : XM := (⟨"TaleHouse$Tape", "readNumber", "(II)I"⟩, prog_12_method_9_code, 6, (some .int), 2, 42)
def m_Tp_passWord : XM := (⟨"TaleHouse$Tape", "passWord", "(Ljava/lang/String;)Z"⟩, prog_12_method_10_code, 3, (some .boolean), 6, 129)
def m_Tp_needWord : XM := (⟨"TaleHouse$Tape", "needWord", "(Ljava/lang/String;)V"⟩, prog_12_method_11_code, 2, none, 7, 151)
def m_Tp_needSign : XM := (⟨"TaleHouse$Tape", "needSign", "(C)V"⟩, prog_12_method_12_code, 2, none, 3, 62)
def m_Tp_needEnd : XM := (⟨"TaleHouse$Tape", "needEnd", "()V"⟩, prog_12_method_13_code, 1, none, 3, 62)
def m_Tp_failNext : XM := (⟨"TaleHouse$Tape", "failNext", "()V"⟩, prog_12_method_14_code, 1, none, 2, 42)
def m_Tp_fail : XM := (⟨"TaleHouse$Tape", "fail", "(II)V"⟩, prog_12_method_15_code, 3, none, 1, 20)
def m_Tp_lettersAhead : XM := (⟨"TaleHouse$Tape", "lettersAhead", "()I"⟩, prog_12_method_16_code, 2, (some .int), 1, 21)
def m_Tp_digitsAhead : XM := (⟨"TaleHouse$Tape", "digitsAhead", "()I"⟩, prog_12_method_17_code, 2, (some .int), 1, 21)
def m_Tp_skipBlanks : XM := (⟨"TaleHouse$Tape", "skipBlanks", "()V"⟩, prog_12_method_18_code, 1, none, 0, 0)
def m_Tp_byteAt : XM := (⟨"TaleHouse$Tape", "byteAt", "(I)I"⟩, prog_12_method_19_code, 2, (some .int), 0, 0)
def m_Tp_isFactWord : XM := (⟨"TaleHouse$Tape", "isFactWord", "(I)Z"⟩, prog_12_method_20_code, 2, (some .boolean), 6, 129)
def m_Tp_isWord : XM := (⟨"TaleHouse$Tape", "isWord", "(Ljava/lang/String;I)Z"⟩, prog_12_method_21_code, 4, (some .boolean), 5, 106)
def m_TH_init : XM := (⟨"TaleHouse", "<init>", "()V"⟩, prog_1_method_1_code, 1, none, 3, 60)
def m_TH_feed : XM := (⟨"TaleHouse", "feed", "(IIIII)I"⟩, prog_1_method_2_code, 6, (some .int), 1, 22)
def m_TH_end : XM := (⟨"TaleHouse", "end", "(I)Z"⟩, prog_1_method_3_code, 2, (some .boolean), 1, 21)
def m_TH_paragraph : XM := (⟨"TaleHouse", "paragraph", "(I)I"⟩, prog_1_method_4_code, 2, (some .int), 1, 21)
def m_TH_word : XM := (⟨"TaleHouse", "word", "(I)I"⟩, prog_1_method_5_code, 2, (some .int), 1, 23)
def m_TH_clear : XM := (⟨"TaleHouse", "clear", "()I"⟩, prog_1_method_6_code, 1, (some .int), 1, 21)
def m_TH_page : XM := (⟨"TaleHouse", "page", "(IIII)Z"⟩, prog_1_method_7_code, 5, (some .boolean), 2, 45)
def m_TH_lines : XM := (⟨"TaleHouse", "lines", "(II)I"⟩, prog_1_method_8_code, 4, (some .int), 5, 118)
def m_TH_fill : XM := (⟨"TaleHouse", "fill", "(I)I"⟩, prog_1_method_9_code, 3, (some .int), 6, 151)
def m_TH_set : XM := (⟨"TaleHouse", "set", "(II)I"⟩, prog_1_method_10_code, 3, (some .int), 1, 22)
def m_TH_line : XM := (⟨"TaleHouse", "line", "(II)I"⟩, prog_1_method_11_code, 3, (some .int), 1, 22)
def m_TH_fact : XM := (⟨"TaleHouse", "fact", "(II)I"⟩, prog_1_method_12_code, 4, (some .int), 10, 216)
def m_TH_fault : XM := (⟨"TaleHouse", "fault", "(I)I"⟩, prog_1_method_13_code, 2, (some .int), 0, 0)
def m_TH_strike : XM := (⟨"TaleHouse", "strike", "(II)Z"⟩, prog_1_method_14_code, 3, (some .boolean), 3, 66)
def m_TH_quarrel : XM := (⟨"TaleHouse", "quarrel", "(II)I"⟩, prog_1_method_15_code, 3, (some .int), 3, 67)
def m_TH_quarrels : XM := (⟨"TaleHouse", "quarrels", "(I)I"⟩, prog_1_method_16_code, 2, (some .int), 5, 114)
def m_TH_found : XM := (⟨"TaleHouse", "found", "(II)I"⟩, prog_1_method_17_code, 3, (some .int), 1, 22)
def m_TH_mend : XM := (⟨"TaleHouse", "mend", "(I)I"⟩, prog_1_method_18_code, 2, (some .int), 2, 41)
def m_TH_agree : XM := (⟨"TaleHouse", "agree", "(I)I"⟩, prog_1_method_19_code, 3, (some .int), 10, 216)
def m_TH_agreed : XM := (⟨"TaleHouse", "agreed", "(I)I"⟩, prog_1_method_20_code, 2, (some .int), 2, 44)
def m_TH_share : XM := (⟨"TaleHouse", "share", "(I)J"⟩, prog_1_method_21_code, 9, (some .long), 5, 108)
def m_TH_start : XM := (⟨"TaleHouse", "start", "(I)Z"⟩, prog_1_method_22_code, 2, (some .boolean), 1, 21)
def m_TH_came : XM := (⟨"TaleHouse", "came", "(II)I"⟩, prog_1_method_23_code, 3, (some .int), 6, 130)
def m_TH_due : XM := (⟨"TaleHouse", "due", "(I)I"⟩, prog_1_method_24_code, 2, (some .int), 4, 87)
def m_TH_prices : XM := (⟨"TaleHouse", "prices", "(IIII)Z"⟩, prog_1_method_25_code, 5, (some .boolean), 1, 24)
def m_TH_keep : XM := (⟨"TaleHouse", "keep", "(IIZ)Z"⟩, prog_1_method_26_code, 4, (some .boolean), 2, 42)
def m_TH_print : XM := (⟨"TaleHouse", "print", "(III)I"⟩, prog_1_method_27_code, 4, (some .int), 3, 65)
def m_TH_sell : XM := (⟨"TaleHouse", "sell", "(III)I"⟩, prog_1_method_28_code, 4, (some .int), 3, 63)
def m_TH_pulp : XM := (⟨"TaleHouse", "pulp", "(II)I"⟩, prog_1_method_29_code, 3, (some .int), 3, 63)
def m_TH_stock : XM := (⟨"TaleHouse", "stock", "(III)I"⟩, prog_1_method_30_code, 4, (some .int), 3, 63)
def m_TH_volume : XM := (⟨"TaleHouse", "volume", "(IIII)I"⟩, prog_1_method_31_code, 6, (some .int), 3, 66)
def m_TH_foretell : XM := (⟨"TaleHouse", "foretell", "(II)I"⟩, prog_1_method_32_code, 3, (some .int), 1, 22)
def m_TH_best : XM := (⟨"TaleHouse", "best", "(II)I"⟩, prog_1_method_33_code, 3, (some .int), 4, 101)
def m_TH_worth : XM := (⟨"TaleHouse", "worth", "(III)J"⟩, prog_1_method_34_code, 4, (some .long), 3, 73)
def m_TH_purse : XM := (⟨"TaleHouse", "purse", "()J"⟩, prog_1_method_35_code, 1, (some .long), 0, 0)
def m_TH_isPart : XM := (⟨"TaleHouse", "isPart", "(I)Z"⟩, prog_1_method_36_code, 1, (some .boolean), 0, 0)
def m_TH_slot : XM := (⟨"TaleHouse", "slot", "(II)I"⟩, prog_1_method_37_code, 2, (some .int), 0, 0)
def m_TH_plus : XM := (⟨"TaleHouse", "plus", "(II)I"⟩, prog_1_method_38_code, 2, (some .int), 0, 0)
def m_Md_is : XM := (⟨"TaleHouseModel", "is", "(III)Z"⟩, prog_14_method_1_code, 3, (some .boolean), 0, 0)
def m_Md_put : XM := (⟨"TaleHouseModel", "put", "(I)V"⟩, prog_14_method_2_code, 3, none, 0, 0)
def m_Md_init : XM := (⟨"TaleHouseModel", "<init>", "()V"⟩, prog_14_method_3_code, 2, none, 1, 20)
def m_Md_feed : XM := (⟨"TaleHouseModel", "feed", "(IIIII)I"⟩, prog_14_method_4_code, 6, (some .int), 1, 22)
def m_Md_end : XM := (⟨"TaleHouseModel", "end", "(I)Z"⟩, prog_14_method_5_code, 2, (some .boolean), 0, 0)
def m_Md_paragraph : XM := (⟨"TaleHouseModel", "paragraph", "(I)I"⟩, prog_14_method_6_code, 2, (some .int), 1, 22)
def m_Md_word : XM := (⟨"TaleHouseModel", "word", "(I)I"⟩, prog_14_method_7_code, 3, (some .int), 1, 22)
def m_Md_clear : XM := (⟨"TaleHouseModel", "clear", "()I"⟩, prog_14_method_8_code, 2, (some .int), 0, 0)
def m_Md_page : XM := (⟨"TaleHouseModel", "page", "(IIII)Z"⟩, prog_14_method_9_code, 5, (some .boolean), 1, 22)
def m_Md_cost : XM := (⟨"TaleHouseModel", "cost", "(III)I"⟩, prog_14_method_10_code, 6, (some .int), 0, 0)
def m_Md_breaks : XM := (⟨"TaleHouseModel", "breaks", "(I)V"⟩, prog_14_method_11_code, 9, none, 1, 25)
def m_Md_lines : XM := (⟨"TaleHouseModel", "lines", "(II)I"⟩, prog_14_method_12_code, 3, (some .int), 2, 53)
def m_Md_at : XM := (⟨"TaleHouseModel", "at", "(III)I"⟩, prog_14_method_13_code, 3, (some .int), 0, 0)
def m_Md_price : XM := (⟨"TaleHouseModel", "price", "(IIII)I"⟩, prog_14_method_14_code, 6, (some .int), 0, 0)
def m_Md_stands6 : XM := (⟨"TaleHouseModel", "stands", "(IIIIII)I"⟩, prog_14_method_15_code, 10, (some .int), 1, 25)
def m_Md_gone : XM := (⟨"TaleHouseModel", "gone", "(III)I"⟩, prog_14_method_16_code, 5, (some .int), 1, 22)
def m_Md_fill : XM := (⟨"TaleHouseModel", "fill", "(I)I"⟩, prog_14_method_17_code, 9, (some .int), 4, 106)
def m_Md_tells : XM := (⟨"TaleHouseModel", "tells", "(I)V"⟩, prog_14_method_18_code, 8, none, 3, 79)
def m_Md_lays : XM := (⟨"TaleHouseModel", "lays", "(II)V"⟩, prog_14_method_19_code, 7, none, 2, 53)
def m_Md_set : XM := (⟨"TaleHouseModel", "set", "(II)I"⟩, prog_14_method_20_code, 3, (some .int), 0, 0)
def m_Md_line : XM := (⟨"TaleHouseModel", "line", "(II)I"⟩, prog_14_method_21_code, 3, (some .int), 0, 0)
def m_Md_blame : XM := (⟨"TaleHouseModel", "blame", "(II)V"⟩, prog_14_method_22_code, 3, none, 0, 0)
def m_Md_isLetter : XM := (⟨"TaleHouseModel", "isLetter", "(I)Z"⟩, prog_14_method_23_code, 1, (some .boolean), 0, 0)
def m_Md_isDigit : XM := (⟨"TaleHouseModel", "isDigit", "(I)Z"⟩, prog_14_method_24_code, 1, (some .boolean), 0, 0)
def m_Md_here : XM := (⟨"TaleHouseModel", "here", "()I"⟩, prog_14_method_25_code, 1, (some .int), 0, 0)
def m_Md_must : XM := (⟨"TaleHouseModel", "must", "(I)V"⟩, prog_14_method_26_code, 2, none, 1, 22)
def m_Md_wordEnd : XM := (⟨"TaleHouseModel", "wordEnd", "()I"⟩, prog_14_method_27_code, 2, (some .int), 1, 20)
def m_Md_spells : XM := (⟨"TaleHouseModel", "spells", "(IJI)Z"⟩, prog_14_method_28_code, 7, (some .boolean), 0, 0)
def m_Md_passes : XM := (⟨"TaleHouseModel", "passes", "(JI)Z"⟩, prog_14_method_29_code, 4, (some .boolean), 2, 41)
def m_Md_digits : XM := (⟨"TaleHouseModel", "digits", "()I"⟩, prog_14_method_30_code, 3, (some .int), 1, 22)
def m_Md_number : XM := (⟨"TaleHouseModel", "number", "(II)I"⟩, prog_14_method_31_code, 5, (some .int), 2, 44)
def m_Md_begins : XM := (⟨"TaleHouseModel", "begins", "()V"⟩, prog_14_method_32_code, 1, none, 0, 0)
def m_Md_ends : XM := (⟨"TaleHouseModel", "ends", "()V"⟩, prog_14_method_33_code, 1, none, 2, 43)
def m_Md_fault : XM := (⟨"TaleHouseModel", "fault", "(I)I"⟩, prog_14_method_34_code, 2, (some .int), 0, 0)
def m_Md_isPart : XM := (⟨"TaleHouseModel", "isPart", "(I)Z"⟩, prog_14_method_35_code, 1, (some .boolean), 0, 0)
def m_Md_isEdition : XM := (⟨"TaleHouseModel", "isEdition", "(II)Z"⟩, prog_14_method_36_code, 3, (some .boolean), 1, 20)
def m_Md_name : XM := (⟨"TaleHouseModel", "name", "(I)V"⟩, prog_14_method_37_code, 4, none, 2, 41)
def m_Md_fact : XM := (⟨"TaleHouseModel", "fact", "(II)I"⟩, prog_14_method_38_code, 3, (some .int), 3, 64)
def m_Md_strike : XM := (⟨"TaleHouseModel", "strike", "(II)Z"⟩, prog_14_method_39_code, 3, (some .boolean), 2, 42)
def m_Md_isAlike : XM := (⟨"TaleHouseModel", "isAlike", "(III)Z"⟩, prog_14_method_40_code, 6, (some .boolean), 0, 0)
def m_Md_quarrels0 : XM := (⟨"TaleHouseModel", "quarrels0", "(II)I"⟩, prog_14_method_41_code, 5, (some .int), 1, 25)
def m_Md_quarrel : XM := (⟨"TaleHouseModel", "quarrel", "(II)I"⟩, prog_14_method_42_code, 3, (some .int), 2, 49)
def m_Md_stands2 : XM := (⟨"TaleHouseModel", "stands", "(II)Z"⟩, prog_14_method_43_code, 4, (some .boolean), 0, 0)
def m_Md_quarrels : XM := (⟨"TaleHouseModel", "quarrels", "(I)I"⟩, prog_14_method_44_code, 4, (some .int), 2, 49)
def m_Md_found : XM := (⟨"TaleHouseModel", "found", "(II)I"⟩, prog_14_method_45_code, 3, (some .int), 1, 22)
def m_Md_mend : XM := (⟨"TaleHouseModel", "mend", "(I)I"⟩, prog_14_method_46_code, 2, (some .int), 1, 20)
def m_Md_agree : XM := (⟨"TaleHouseModel", "agree", "(I)I"⟩, prog_14_method_47_code, 7, (some .int), 3, 68)
def m_Md_agreed : XM := (⟨"TaleHouseModel", "agreed", "(I)I"⟩, prog_14_method_48_code, 4, (some .int), 1, 20)
def m_Md_share : XM := (⟨"TaleHouseModel", "share", "(I)J"⟩, prog_14_method_49_code, 12, (some .long), 3, 65)
def m_Md_lateDays : XM := (⟨"TaleHouseModel", "lateDays", "(I)I"⟩, prog_14_method_50_code, 2, (some .int), 2, 44)
def m_Md_due : XM := (⟨"TaleHouseModel", "due", "(I)I"⟩, prog_14_method_51_code, 5, (some .int), 1, 20)
def m_Md_start : XM := (⟨"TaleHouseModel", "start", "(I)Z"⟩, prog_14_method_52_code, 4, (some .boolean), 1, 22)
def m_Md_came : XM := (⟨"TaleHouseModel", "came", "(II)I"⟩, prog_14_method_53_code, 3, (some .int), 3, 65)
def m_Md_prices : XM := (⟨"TaleHouseModel", "prices", "(IIII)Z"⟩, prog_14_method_54_code, 5, (some .boolean), 1, 22)
def m_Md_row : XM := (⟨"TaleHouseModel", "row", "(II)I"⟩, prog_14_method_55_code, 2, (some .int), 0, 0)
def m_Md_stays : XM := (⟨"TaleHouseModel", "stays", "(II)I"⟩, prog_14_method_56_code, 4, (some .int), 1, 21)
def m_Md_keep : XM := (⟨"TaleHouseModel", "keep", "(IIZ)Z"⟩, prog_14_method_57_code, 4, (some .boolean), 2, 42)
def m_Md_print : XM := (⟨"TaleHouseModel", "print", "(III)I"⟩, prog_14_method_58_code, 5, (some .int), 2, 42)
def m_Md_sell : XM := (⟨"TaleHouseModel", "sell", "(III)I"⟩, prog_14_method_59_code, 4, (some .int), 2, 44)
def m_Md_pulp : XM := (⟨"TaleHouseModel", "pulp", "(II)I"⟩, prog_14_method_60_code, 4, (some .int), 2, 44)
def m_Md_stock : XM := (⟨"TaleHouseModel", "stock", "(III)I"⟩, prog_14_method_61_code, 4, (some .int), 2, 44)
def m_Md_volume : XM := (⟨"TaleHouseModel", "volume", "(IIII)I"⟩, prog_14_method_62_code, 7, (some .int), 2, 44)
def m_Md_foretell : XM := (⟨"TaleHouseModel", "foretell", "(II)I"⟩, prog_14_method_63_code, 3, (some .int), 1, 22)
def m_Md_worth : XM := (⟨"TaleHouseModel", "worth", "(III)J"⟩, prog_14_method_64_code, 11, (some .long), 2, 42)
def m_Md_best : XM := (⟨"TaleHouseModel", "best", "(II)I"⟩, prog_14_method_65_code, 7, (some .int), 3, 72)
def m_Md_purse : XM := (⟨"TaleHouseModel", "purse", "()J"⟩, prog_14_method_66_code, 1, (some .long), 0, 0)
def m_Jm_maxI : XM := (⟨"java/lang/Math", "max", "(II)I"⟩, prog_15_method_65_code, 2, (some .int), 0, 0)
def m_Jm_maxJ : XM := (⟨"java/lang/Math", "max", "(JJ)J"⟩, prog_15_method_66_code, 4, (some .long), 0, 0)
def m_Jm_minI : XM := (⟨"java/lang/Math", "min", "(II)I"⟩, prog_15_method_69_code, 2, (some .int), 0, 0)
def m_Jm_minJ : XM := (⟨"java/lang/Math", "min", "(JJ)J"⟩, prog_15_method_70_code, 4, (some .long), 0, 0)
def m_Js_length : XM := (⟨"java/lang/String", "length", "()I"⟩, prog_16_method_54_code, 1, (some .int), 1, 20)
def m_Js_charAt : XM := (⟨"java/lang/String", "charAt", "(I)C"⟩, prog_16_method_56_code, 2, (some .char), 4, 85)
def m_Js_coder : XM := (⟨"java/lang/String", "coder", "()B"⟩, prog_16_method_152_code, 1, (some .byte), 0, 0)
def m_Js_isLatin1 : XM := (⟨"java/lang/String", "isLatin1", "()Z"⟩, prog_16_method_154_code, 1, (some .boolean), 0, 0)
def m_Js_checkIndex : XM := (⟨"java/lang/String", "checkIndex", "(II)V"⟩, prog_16_method_155_code, 2, none, 1, 22)
def m_Jl_charAt : XM := (⟨"java/lang/StringLatin1", "charAt", "([BI)C"⟩, prog_17_method_2_code, 2, (some .char), 2, 43)
def m_Ja_fill : XM := (⟨"java/util/Arrays", "fill", "([II)V"⟩, prog_19_method_103_code, 4, none, 0, 0)
def m_Lw_law : XM := (x, code, 4, some .boolean, 11, 239)
end
section
/-! THE SMALL HEAP. A list of cells; a cell's place is its number; a reference is a number. An array bears its kind's number where va_E has a class. -/
abbrev XH : Type := List va_E
/-- the world's constants: where the world begins; class numbers and slots; array classes by kind; addresses of what is older (String constants, the script) -/
abbrev XK : Type := Nat × va_G × (Nat → ClassId) × (Nat → Nat)
def xv (K : XK) : Value → Value
  | .ref a => .ref (K.1 + a)
  | .retAddr k => .ref (K.2.2.2 k)
  | v => v
def xf (K : XK) (r : Option Nat) : Option Nat := r.map (fun a => K.1 + a)
def xa (K : XK) : ((Nat → Int32) ⊕ (Nat → Int64) ⊕ (Nat → UInt32) ⊕ (Nat → UInt64) ⊕ (Nat → Option Nat)) → ((Nat → Int32) ⊕ (Nat → Int64) ⊕ (Nat → UInt32) ⊕ (Nat → UInt64) ⊕ (Nat → Option Nat))
  | .inr (.inr (.inr (.inr f))) => .inr (.inr (.inr (.inr (fun i => xf K (f i)))))
  | a => a
def xe (K : XK) : va_E → va_E
  | .inl (t, n, a) => .inl (K.2.2.1 t, n, xa K a)
  | .inr (ci, fs) => .inr (ci, fs.map (xv K))
def xw (K : XK) (h : XH) : va_W := h.mapIdx (fun i e => (K.1 + i, xe K e))
def xs1 : va_E → Nat
  | .inl (_, n, _) => n
  | .inr (_, fs) => fs.length
def xsz (h : XH) : Nat := (h.map xs1).sum
theorem xv_cat (K : XK) (v : Value) : (xv K v).category = v.category := by cases v <;> rfl
theorem xv_cats (K : XK) (st : List Value) : ((st.map (xv K)).map fun v => v.category).sum = (st.map fun v => v.category).sum := by
  rw [List.map_map]
  congr 1
  apply List.map_congr_left
  intro v _
  exact xv_cat K v
theorem xw_get {K : XK} {h : XH} {i : Nat} {e : va_E} (hi : h[i]? = some e) : (xw K h)[i]? = some (K.1 + i, xe K e) := by
  simp [xw, List.getElem?_mapIdx, hi]
theorem xw_get' {K : XK} {h : XH} {i : Nat} {q : Nat × va_E} (hq : (xw K h)[i]? = some q) : q.1 = K.1 + i ∧ ∃ e, h[i]? = some e ∧ q.2 = xe K e := by
  simp only [xw, List.getElem?_mapIdx, Option.map_eq_some_iff] at hq
  obtain ⟨e, h1, h2⟩ := hq
  subst h2
  exact ⟨rfl, e, h1, rfl⟩
theorem xw_set {K : XK} {h : XH} (i : Nat) (e : va_E) : xw K (h.set i e) = (xw K h).set i (K.1 + i, xe K e) := by
  apply List.ext_getElem?
  intro j
  by_cases hj : i = j
  · subst hj
    by_cases hl : i < h.length
    · simp [xw, List.getElem?_mapIdx, List.getElem?_set_self, hl]
    · simp [xw, List.getElem?_mapIdx, List.getElem?_set, hl]
  · simp [xw, List.getElem?_mapIdx, List.getElem?_set_ne hj]
theorem xw_push {K : XK} {h : XH} (e : va_E) : xw K (h ++ [e]) = xw K h ++ [(K.1 + h.length, xe K e)] := by
  simp [xw, List.mapIdx_append]
theorem xw_D {K : XK} {h : XH} : va_D (fun q => K.1 ≤ q) (xw K h) := by
  refine ⟨fun i j p q hi hj e => ?_, fun k q hk => ?_⟩
  · have h1 := (xw_get' hi).1
    have h2 := (xw_get' hj).1
    omega
  · have h1 := (xw_get' hk).1
    show K.1 ≤ q.1
    omega
theorem xsz_set {h : XH} {i : Nat} {e e' : va_E} (hi : h[i]? = some e) (he : xs1 e' = xs1 e) : xsz (h.set i e') = xsz h := by
  unfold xsz
  rw [List.map_set]
  congr 1
  apply List.ext_getElem?
  intro j
  by_cases hj : i = j
  · subst hj
    have hl := (List.getElem?_eq_some_iff.mp hi).1
    rw [List.getElem?_set_self (by rw [List.length_map]; exact hl), List.getElem?_map, hi, he]
    rfl
  · rw [List.getElem?_set_ne hj]
theorem xsz_push {h : XH} (e : va_E) : xsz (h ++ [e]) = xsz h + xs1 e := by simp [xsz]
/-- the concrete heap holds the small one -/
def XR (K : XK) (h : XH) (H : Heap) : Prop := H.size = K.1 + h.length ∧ va_P K.2.1 xcl (xw K h) H
/-- a place of the locals: none where nothing is said -/
def lvX (K : XK) (L : Array Slot) (nL : Nat) (ls : List (Option Value)) : Prop := L.size = nL ∧ lv_wf L ∧ ∀ (i : Nat) (v : Value), ls[i]? = some (some v) → L[i]? = some (.val (xv K v))
/-- storing: what stood there goes, and a long one place ahead -/
def xk (ls : List (Option Value)) : Nat → List (Option Value)
  | 0 => ls
  | j + 1 => match ls[j]? with
    | some (some w) => if w.category = 2 then ls.set j none else ls
    | _ => ls
def xst (ls : List (Option Value)) (i : Nat) (v : Value) : List (Option Value) := (xk ls i).set i (some v)
def xst2 (ls : List (Option Value)) (i : Nat) (v : Value) : List (Option Value) := (xst ls i v).set (i + 1) none
theorem xst_get {ls : List (Option Value)} {i k : Nat} {v w : Value} (h : (xst ls i v)[k]? = some (some w)) : (k = i ∧ w = v) ∨ (k ≠ i ∧ ls[k]? = some (some w) ∧ ¬ (k + 1 = i ∧ w.category = 2)) := by
  unfold xst at h
  by_cases hk : k = i
  · subst hk
    by_cases hl : k < (xk ls k).length
    · rw [List.getElem?_set_self hl] at h
      cases h
      exact Or.inl ⟨rfl, rfl⟩
    · rw [List.getElem?_eq_none (by rw [List.length_set]; omega)] at h
      cases h
  · rw [List.getElem?_set_ne (fun e => hk e.symm)] at h
    refine Or.inr ⟨hk, ?_⟩
    cases i with
    | zero => exact ⟨h, fun q => by omega⟩
    | succ j =>
      simp only [xk] at h
      split at h
      · rename_i w0 hw0
        split at h
        · by_cases hkj : k = j
          · subst hkj
            by_cases hl : k < ls.length
            · rw [List.getElem?_set_self hl] at h
              cases h
            · rw [List.getElem?_eq_none (by rw [List.length_set]; omega)] at h
              cases h
          · rw [List.getElem?_set_ne (fun e => hkj e.symm)] at h
            exact ⟨h, fun q => hkj (by omega)⟩
        · rename_i hc
          refine ⟨h, fun q => ?_⟩
          have : k = j := by omega
          subst this
          rw [hw0] at h
          cases h
          exact hc q.2
      · rename_i hx
        refine ⟨h, fun q => ?_⟩
        have : k = j := by omega
        subst this
        exact hx _ h
theorem lvX_store1 {K : XK} {L : Array Slot} {nL : Nat} {ls : List (Option Value)} {i : Nat} {v : Value} (h : lvX K L nL ls) (hi : i < nL) (hc : v.category = 1) : ∃ L', storeLocals L i (xv K v) = some L' ∧ lvX K L' nL (xst ls i v) := by
  let all : List (Nat × Value) := (List.range nL).filterMap (fun k => match ls[k]? with | some (some w) => some (k, xv K w) | _ => none)
  have hh : lv_has L nL all := by
    refine ⟨h.1, h.2.1, fun q hq => ?_⟩
    obtain ⟨k, -, hk⟩ := List.mem_filterMap.mp hq
    split at hk
    · rename_i w hw
      cases hk
      exact h.2.2 k w hw
    · cases hk
  obtain ⟨L', h1, h2⟩ := lv_store1 (i := i) (v := xv K v) hh hi (by rw [xv_cat]; exact hc)
  refine ⟨L', h1, h2.1, h2.2.1, fun k w hk => ?_⟩
  rcases xst_get hk with ⟨rfl, rfl⟩ | ⟨g1, g2, g3⟩
  · exact h2.2.2 (k, xv K w) List.mem_cons_self
  · refine h2.2.2 (k, xv K w) (List.mem_cons_of_mem _ (List.mem_filter.mpr ⟨?_, ?_⟩))
    · refine List.mem_filterMap.mpr ⟨k, List.mem_range.mpr ?_, by simp [g2]⟩
      have := h.2.2 k w g2
      rw [← h.1]
      exact (Array.getElem?_eq_some_iff.mp this).1
    · rw [xv_cat]
      simp only [Bool.and_eq_true, Bool.not_eq_true', beq_eq_false_iff_ne, ne_eq, Bool.and_eq_false_iff]
      refine ⟨g1, ?_⟩
      by_cases q : k + 1 = i
      · exact Or.inr (fun z => g3 ⟨q, z⟩)
      · exact Or.inl q
theorem lvX_store2 {K : XK} {L : Array Slot} {nL : Nat} {ls : List (Option Value)} {i : Nat} {v : Value} (h : lvX K L nL ls) (hi : i + 1 < nL) (hc : v.category = 2) : ∃ L', storeLocals L i (xv K v) = some L' ∧ lvX K L' nL (xst2 ls i v) := by
  let all : List (Nat × Value) := (List.range nL).filterMap (fun k => match ls[k]? with | some (some w) => some (k, xv K w) | _ => none)
  have hh : lv_has L nL all := by
    refine ⟨h.1, h.2.1, fun q hq => ?_⟩
    obtain ⟨k, -, hk⟩ := List.mem_filterMap.mp hq
    split at hk
    · rename_i w hw
      cases hk
      exact h.2.2 k w hw
    · cases hk
  obtain ⟨L', h1, h2⟩ := lv_store2 (i := i) (v := xv K v) hh hi (by rw [xv_cat]; exact hc)
  refine ⟨L', h1, h2.1, h2.2.1, fun k w hk => ?_⟩
  have hk1 : k ≠ i + 1 ∧ (xst ls i v)[k]? = some (some w) := by
    unfold xst2 at hk
    by_cases q : k = i + 1
    · subst q
      by_cases hl : i + 1 < (xst ls i v).length
      · rw [List.getElem?_set_self hl] at hk
        cases hk
      · rw [List.getElem?_eq_none (by rw [List.length_set]; omega)] at hk
        cases hk
    · rw [List.getElem?_set_ne (fun e => q e.symm)] at hk
      exact ⟨q, hk⟩
  rcases xst_get hk1.2 with ⟨rfl, rfl⟩ | ⟨g1, g2, g3⟩
  · exact h2.2.2 (k, xv K w) List.mem_cons_self
  · refine h2.2.2 (k, xv K w) (List.mem_cons_of_mem _ (List.mem_filter.mpr ⟨?_, ?_⟩))
    · refine List.mem_filterMap.mpr ⟨k, List.mem_range.mpr ?_, by simp [g2]⟩
      have := h.2.2 k w g2
      rw [← h.1]
      exact (Array.getElem?_eq_some_iff.mp this).1
    · rw [xv_cat]
      simp only [Bool.and_eq_true, Bool.not_eq_true', beq_eq_false_iff_ne, ne_eq, Bool.and_eq_false_iff]
      refine ⟨g1, hk1.1, ?_⟩
      by_cases q : k + 1 = i
      · exact Or.inr (fun z => g3 ⟨q, z⟩)
      · exact Or.inl q
theorem lvX_at {K : XK} {L : Array Slot} {nL : Nat} {ls : List (Option Value)} (h : lvX K L nL ls) {i : Nat} {v : Value} (hi : ls[i]? = some (some v)) : L[i]? = some (.val (xv K v)) := h.2.2 i v hi
end
section
/-! WHAT IS GIVEN AT A METHOD'S ENTRY, AND THE JUDGEMENT. -/
def gtbl : List Cond := lw_tbl.filter goodWord
theorem gt_of {w : Cond} (h : w ∈ lw_tbl) (hg : goodWord w = true) : w ∈ gtbl := List.mem_filter.mpr ⟨h, hg⟩
theorem gt_in {w : Cond} (i : Nat) (h : tables_1[i]? = some w) (hg : goodWord w = true) : w ∈ gtbl := gt_of (List.mem_append_right _ (List.mem_of_getElem? h)) hg
theorem gt_pv {w : Cond} (i : Nat) (h : (k2_sels lw_privs)[i]? = some w) (hg : goodWord w = true) : w ∈ gtbl := gt_of (List.mem_append_left _ (List.mem_of_getElem? h)) hg
theorem gt_good : GoodIn gtbl gtbl := fun w h => ⟨h, good_of_word (List.mem_filter.mp h).2⟩
/-- the array kinds: 0 int, 1 boolean, 2 int[], 3 Fact, 4 Agreement -/
def xkd : Nat → FieldType
  | 0 => .int
  | 1 => .boolean
  | 2 => .array .int
  | 3 => .object xR_Fa
  | _ => .object xR_Ag
def xtys (K : XK) : List (ClassId × FieldType) := [(K.2.2.1 0, .int), (K.2.2.1 1, .boolean), (K.2.2.1 2, .array .int), (K.2.2.1 3, .object xR_Fa), (K.2.2.1 4, .object xR_Ag)]
def xnst : Cond → Bool
  | .fieldLinkNest .. => true
  | .methodLinkNest .. => true
  | _ => false
/-- the String constants' places: class, entry, text, number -/
def xstr : List (String × Nat × String × Nat) := [("TaleHouse$Tape", 67, "born", 0), ("TaleHouse$Tape", 69, "dead", 1), ("TaleHouse$Tape", 71, "in", 2), ("TaleHouse$Tape", 73, "on", 3), ("TaleHouse$Fact", 31, "born", 0), ("TaleHouse$Fact", 40, "dead", 1), ("TaleHouse$Fact", 42, "in", 2), ("TaleHouse$Fact", 48, "on", 3), ("TaleHouse$Agreement", 33, "percent", 4), ("TaleHouse$Agreement", 39, "late", 5), ("TaleHouse$Agreement", 54, "to", 6)]
def xlen : List Nat := [4, 4, 2, 2, 7, 4, 2]
def xbyt : List (List Int32) := [[98, 111, 114, 110], [100, 101, 97, 100], [105, 110], [111, 110], [112, 101, 114, 99, 101, 110, 116], [108, 97, 116, 101], [116, 111]]
/-- the script: its length and its ints -/
abbrev XS : Type := Nat × (Nat → Int32)
def xAi (U : State) : Prop := (Cond.arrayOver (.array .int)).before #[] U = true
theorem xAi.same {u U : State} (hv : U.vm = u.vm) (h : xAi u) : xAi U := by
  have h1 : (Cond.arrayOver (.array .int)).before #[] u = true := h
  show (Cond.arrayOver (.array .int)).before #[] U = true
  simp only [Cond.before, Cond.holds, Cond.value] at h1 ⊢
  rw [hv]
  exact h1
theorem xAi.moved {u U : State} (hvm : u.vm.Alike U.vm) (h : xAi u) : xAi U := by
  have h1 : (Cond.arrayOver (.array .int)).before #[] u = true := h
  show (Cond.arrayOver (.array .int)).before #[] U = true
  simp only [Cond.before, Cond.holds, Cond.value, beq_iff_eq, Option.bind_eq_some_iff, Option.map_eq_some_iff] at h1 ⊢
  obtain ⟨comp, h1, c, h2, k, h3, h4⟩ := h1
  obtain ⟨k', hk', he⟩ := hvm.2.2 _ _ h3
  refine ⟨comp, by rw [hvm.findClass]; exact h1, c, ?_, k', hk', ?_⟩
  · have e1 := va_idx_bare U.vm comp
    have e2 := va_idx_bare u.vm comp
    first | rw [hvm.bare_eq] at e1 | rw [← hvm.bare_eq] at e1
    exact e1.symm.trans (e2.trans h2)
  · rw [hvm.findClass, he]
    exact h4
/-- what is given of the tables and of the older cells -/
def xE (K : XK) (S : XS) (U : State) : Prop :=
  va_K K.2.1 xcl (xtys K) U ∧ (∀ w ∈ tables_1, xnst w = true → va_Nw w U) ∧ (∀ q ∈ xstr, vk_R q.1 q.2.1 q.2.2.1 (K.2.2.2 q.2.2.2) U) ∧
  (va_AO xR_Fa U ∧ va_AO xR_Ag U ∧ xAi U) ∧ (∃ adV : Nat → Nat, vk_S 7 xlen xbyt K.2.2.2 adV (fun q => K.1 ≤ q) U U.heap) ∧ va_Z "java/lang/String" "COMPACT_STRINGS" "Z" (.int 1) (fun q => K.1 ≤ q) U U.heap ∧
  va_X (K.2.2.2 99) S.1 S.2 U U.heap ∧ K.2.2.2 99 < K.1
theorem xE.to {K : XK} {S : XS} {s U : State} (hW : s.WarmedH U.vm) (hh : ∀ q : Nat, q < s.heap.size → ¬ K.1 ≤ q → U.heap[q]? = s.heap[q]?) (h : xE K S s) : xE K S U := by
  obtain ⟨h1, h2, h3, ⟨h4, h5, h6⟩, ⟨adV, h7⟩, h8, h9, h10⟩ := h
  refine ⟨va_K.moved hW.alike h1, fun w hw hn => ?_, fun q hq => (h3 q hq).warm hW, ⟨h4.moved hW.alike, h5.moved hW.alike, h6.moved hW.alike⟩, ⟨adV, (h7.moved hW.alike).kept hh⟩, (h8.moved hW.alike).kept hh, (h9.moved hW.alike).kept (hh _ ?_ (by omega)), h10⟩
  · have h := h2 w hw hn
    cases w <;> first | exact va_Nw.warmF hW h | exact va_Nw.warmM hW h | cases hn
  · obtain ⟨scr, g1, -⟩ := h9
    exact (Array.getElem?_eq_some_iff.mp g1).1
theorem xE.same {K : XK} {S : XS} {s U : State} (hv : U.vm = s.vm) (hh : U.heap = s.heap) (h : xE K S s) : xE K S U := by
  have hA : s.vm.Alike U.vm := by rw [hv]; exact Vm.Alike.refl _
  obtain ⟨h1, h2, h3, ⟨h4, h5, h6⟩, ⟨adV, h7⟩, h8, h9, h10⟩ := h
  refine ⟨va_K.moved hA h1, fun w hw hn => ?_, fun q hq => (h3 q hq).same hv, ⟨h4.moved hA, h5.moved hA, h6.moved hA⟩, ⟨adV, ?_⟩, ?_, ?_, h10⟩
  · have h := h2 w hw hn
    cases w <;> first | exact va_Nw.same rfl hv.symm h | cases hn
  · rw [hh]; exact h7.moved hA
  · rw [hh]; exact h8.moved hA
  · rw [hh]; exact h9.moved hA
def xQ (K : XK) (r : Option Value) (h' : XH) : Array Value → State → Outcome → State → Prop := fun _ st oc t =>
  oc = .returned (r.map (xv K)) ∧ XR K h' t.heap ∧ va_F (fun q => K.1 ≤ q) st t
def xP (K : XK) (S : XS) (as : List Value) (h : XH) : Array Value → State → Prop := fun v U => v = (as.map (xv K)).toArray ∧ XR K h U.heap ∧ xE K S U ∧ K.1 ≤ U.heap.size
abbrev xws (M : XM) : List Cond := .code M.1 M.2.1 M.2.2.1 M.2.2.2.1 :: gtbl
abbrev xrm (M : XM) (mc ms : Nat) : Room := { frames := M.2.2.2.2.1, cells := mc, slots := ms, locals := M.2.2.2.2.2 }
/-- method M, called with as over the small heap h, answers r over h' -/
def AM (S : XS) (M : XM) (as : List Value) (h : XH) (r : Option Value) (h' : XH) : Prop :=
  (h.length ≤ h'.length ∧ xsz h ≤ xsz h') ∧ ∀ (l : Launch) (K : XK), Met l M.1 (xws M) (xrm M (h'.length - h.length) (xsz h' - xsz h)) (xP K S as h) (xQ K r h') (h'.length - h.length) (xsz h' - xsz h) (fun q => K.1 ≤ q)
/-- what a method's walk stands on -/
def xC (K : XK) (S : XS) (M : XM) (p : Program) (s : State) (m : MethodId) (args : Array Value) (meth : Method) (c : Code) : Prop :=
  p.tables.exec = Jvm.exec ∧ c.code = M.2.1 ∧ meth.sig.returnType = M.2.2.2.1 ∧ c.maxLocals = M.2.2.1 ∧ s.vm.findClass M.1.cls = some m.cls ∧ (∀ w ∈ gtbl, w.before args s = true) ∧ meth.locks = false ∧ meth.name = M.1.name ∧ xE K S s ∧ K.1 ≤ s.heap.size
/-- from here on method M comes to its end, with r over h' -/
def AW (S : XS) (M : XM) (pc : Nat) (ls : List (Option Value)) (st : List Value) (h : XH) (r : Option Value) (h' : XH) : Prop :=
  (h.length ≤ h'.length ∧ xsz h ≤ xsz h') ∧
  ∀ (l : Launch) (K : XK) (p : Program) (e : Env) (s : State) (m : MethodId) (args : Array Value) (below : List Frame) (meth : Method) (c : Code) (n0 z0 : Nat) (H : Heap) (locs : List Loc) (L : Array Slot),
    xC K S M p s m args meth c → n0 ≤ h.length → z0 ≤ xsz h → XR K h H → va_S (fun q => K.1 ≤ q) s.heap H locs → lvX K L M.2.2.1 ls →
    W p l e (xrm M (h'.length - n0) (xsz h' - z0)) s m args below meth c H locs (h.length - n0) (xsz h - z0) (MQ below (xQ K r h') args s (h'.length - n0) (xsz h' - z0) (fun q => K.1 ≤ q)) (F0 m pc L (st.map (xv K)))
end
section
/-! ROWS: AN INSTRUCTION, OVER THE SMALL HEAP. -/
section XRW
variable {S : XS} {M : XM} {pc : Nat} {ls : List (Option Value)} {st : List Value} {h : XH} {r : Option Value} {h' : XH}
theorem x_iconst {n : Int} {v : Int32} (hd : decode M.2.1 pc = .ok (.iconst n, 1)) (hv : Int32.ofInt n = v) (k : AW S M (pc + 1) ls (.int v :: st) h r h') : AW S M pc ls (st) h r h' :=
  ⟨k.1, fun l K p e s m args below meth c n0 z0 H locs L C hn hz hR hS hL => lv_iconst C.1 C.2.1 hd hv (k.2 l K p e s m args below meth c n0 z0 H locs L C hn hz hR hS hL)⟩
theorem x_bipush {n : Int} {v : Int32} (hd : decode M.2.1 pc = .ok (.bipush n, 2)) (hv : (Int8.ofInt n).toInt32 = v) (k : AW S M (pc + 2) ls (.int v :: st) h r h') : AW S M pc ls (st) h r h' :=
  ⟨k.1, fun l K p e s m args below meth c n0 z0 H locs L C hn hz hR hS hL => lv_bipush C.1 C.2.1 hd hv (k.2 l K p e s m args below meth c n0 z0 H locs L C hn hz hR hS hL)⟩
theorem x_sipush {n : Int} {v : Int32} (hd : decode M.2.1 pc = .ok (.sipush n, 3)) (hv : (Int16.ofInt n).toInt32 = v) (k : AW S M (pc + 3) ls (.int v :: st) h r h') : AW S M pc ls (st) h r h' :=
  ⟨k.1, fun l K p e s m args below meth c n0 z0 H locs L C hn hz hR hS hL => lv_sipush C.1 C.2.1 hd hv (k.2 l K p e s m args below meth c n0 z0 H locs L C hn hz hR hS hL)⟩
theorem x_lconst {n : Fin 2} {v : Int64} (hd : decode M.2.1 pc = .ok (.lconst n, 1)) (hv : Int64.ofNat (n : Nat) = v) (k : AW S M (pc + 1) ls (.long v :: st) h r h') : AW S M pc ls (st) h r h' :=
  ⟨k.1, fun l K p e s m args below meth c n0 z0 H locs L C hn hz hR hS hL => lv_lconst C.1 C.2.1 hd hv (k.2 l K p e s m args below meth c n0 z0 H locs L C hn hz hR hS hL)⟩
theorem x_anull  (hd : decode M.2.1 pc = .ok (.aconst_null, 1))  (k : AW S M (pc + 1) ls (.null :: st) h r h') : AW S M pc ls (st) h r h' :=
  ⟨k.1, fun l K p e s m args below meth c n0 z0 H locs L C hn hz hR hS hL => lv_null C.1 C.2.1 hd  (k.2 l K p e s m args below meth c n0 z0 H locs L C hn hz hR hS hL)⟩
theorem x_iload_n {k0 : Fin 4} {i : Nat} {x : Int32} (hd : decode M.2.1 pc = .ok (.iload_n k0, 1)) (hi : (k0 : Nat) = i) (hl : ls[i]? = some (some (.int x))) (k : AW S M (pc + 1) ls (.int x :: st) h r h') : AW S M pc ls (st) h r h' :=
  ⟨k.1, fun l K p e s m args below meth c n0 z0 H locs L C hn hz hR hS hL => lv_iload_n C.1 C.2.1 hd hi (lvX_at hL hl) (k.2 l K p e s m args below meth c n0 z0 H locs L C hn hz hR hS hL)⟩
theorem x_iload {i : Nat} {x : Int32} (hd : decode M.2.1 pc = .ok (.iload i, 2)) (hl : ls[i]? = some (some (.int x))) (k : AW S M (pc + 2) ls (.int x :: st) h r h') : AW S M pc ls (st) h r h' :=
  ⟨k.1, fun l K p e s m args below meth c n0 z0 H locs L C hn hz hR hS hL => lv_iload C.1 C.2.1 hd (lvX_at hL hl) (k.2 l K p e s m args below meth c n0 z0 H locs L C hn hz hR hS hL)⟩
theorem x_lload_n {k0 : Fin 4} {i : Nat} {x : Int64} (hd : decode M.2.1 pc = .ok (.lload_n k0, 1)) (hi : (k0 : Nat) = i) (hl : ls[i]? = some (some (.long x))) (k : AW S M (pc + 1) ls (.long x :: st) h r h') : AW S M pc ls (st) h r h' :=
  ⟨k.1, fun l K p e s m args below meth c n0 z0 H locs L C hn hz hR hS hL => lv_lload_n C.1 C.2.1 hd hi (lvX_at hL hl) (k.2 l K p e s m args below meth c n0 z0 H locs L C hn hz hR hS hL)⟩
theorem x_lload {i : Nat} {x : Int64} (hd : decode M.2.1 pc = .ok (.lload i, 2)) (hl : ls[i]? = some (some (.long x))) (k : AW S M (pc + 2) ls (.long x :: st) h r h') : AW S M pc ls (st) h r h' :=
  ⟨k.1, fun l K p e s m args below meth c n0 z0 H locs L C hn hz hR hS hL => lv_lload C.1 C.2.1 hd (lvX_at hL hl) (k.2 l K p e s m args below meth c n0 z0 H locs L C hn hz hR hS hL)⟩
theorem x_aload_n {k0 : Fin 4} {i : Nat} {x : Nat} (hd : decode M.2.1 pc = .ok (.aload_n k0, 1)) (hi : (k0 : Nat) = i) (hl : ls[i]? = some (some (.ref x))) (k : AW S M (pc + 1) ls (.ref x :: st) h r h') : AW S M pc ls (st) h r h' :=
  ⟨k.1, fun l K p e s m args below meth c n0 z0 H locs L C hn hz hR hS hL => lv_aload_n C.1 C.2.1 hd hi (lvX_at hL hl) (k.2 l K p e s m args below meth c n0 z0 H locs L C hn hz hR hS hL)⟩
theorem x_aload_nS {k0 : Fin 4} {i : Nat} {x : Nat} (hd : decode M.2.1 pc = .ok (.aload_n k0, 1)) (hi : (k0 : Nat) = i) (hl : ls[i]? = some (some (.retAddr x))) (k : AW S M (pc + 1) ls (.retAddr x :: st) h r h') : AW S M pc ls (st) h r h' :=
  ⟨k.1, fun l K p e s m args below meth c n0 z0 H locs L C hn hz hR hS hL => lv_aload_n C.1 C.2.1 hd hi (lvX_at hL hl) (k.2 l K p e s m args below meth c n0 z0 H locs L C hn hz hR hS hL)⟩
theorem x_aload_nN {k0 : Fin 4} {i : Nat} (hd : decode M.2.1 pc = .ok (.aload_n k0, 1)) (hi : (k0 : Nat) = i) (hl : ls[i]? = some (some .null)) (k : AW S M (pc + 1) ls (.null :: st) h r h') : AW S M pc ls (st) h r h' :=
  ⟨k.1, fun l K p e s m args below meth c n0 z0 H locs L C hn hz hR hS hL => lv_aload_nN C.1 C.2.1 hd hi (lvX_at hL hl) (k.2 l K p e s m args below meth c n0 z0 H locs L C hn hz hR hS hL)⟩
theorem x_aload {i : Nat} {x : Nat} (hd : decode M.2.1 pc = .ok (.aload i, 2)) (hl : ls[i]? = some (some (.ref x))) (k : AW S M (pc + 2) ls (.ref x :: st) h r h') : AW S M pc ls (st) h r h' :=
  ⟨k.1, fun l K p e s m args below meth c n0 z0 H locs L C hn hz hR hS hL => lv_aload C.1 C.2.1 hd (lvX_at hL hl) (k.2 l K p e s m args below meth c n0 z0 H locs L C hn hz hR hS hL)⟩
theorem x_aloadS {i : Nat} {x : Nat} (hd : decode M.2.1 pc = .ok (.aload i, 2)) (hl : ls[i]? = some (some (.retAddr x))) (k : AW S M (pc + 2) ls (.retAddr x :: st) h r h') : AW S M pc ls (st) h r h' :=
  ⟨k.1, fun l K p e s m args below meth c n0 z0 H locs L C hn hz hR hS hL => lv_aload C.1 C.2.1 hd (lvX_at hL hl) (k.2 l K p e s m args below meth c n0 z0 H locs L C hn hz hR hS hL)⟩
theorem x_aloadN {i : Nat} (hd : decode M.2.1 pc = .ok (.aload i, 2)) (hl : ls[i]? = some (some .null)) (k : AW S M (pc + 2) ls (.null :: st) h r h') : AW S M pc ls (st) h r h' :=
  ⟨k.1, fun l K p e s m args below meth c n0 z0 H locs L C hn hz hR hS hL => lv_aloadN C.1 C.2.1 hd (lvX_at hL hl) (k.2 l K p e s m args below meth c n0 z0 H locs L C hn hz hR hS hL)⟩
theorem x_iadd {x y : Int32} (hd : decode M.2.1 pc = .ok (.iadd, 1))  (k : AW S M (pc + 1) ls (.int (x + y) :: st) h r h') : AW S M pc ls (.int y :: .int x :: st) h r h' :=
  ⟨k.1, fun l K p e s m args below meth c n0 z0 H locs L C hn hz hR hS hL => lv_iadd C.1 C.2.1 hd  (k.2 l K p e s m args below meth c n0 z0 H locs L C hn hz hR hS hL)⟩
theorem x_isub {x y : Int32} (hd : decode M.2.1 pc = .ok (.isub, 1))  (k : AW S M (pc + 1) ls (.int (x - y) :: st) h r h') : AW S M pc ls (.int y :: .int x :: st) h r h' :=
  ⟨k.1, fun l K p e s m args below meth c n0 z0 H locs L C hn hz hR hS hL => lv_isub C.1 C.2.1 hd  (k.2 l K p e s m args below meth c n0 z0 H locs L C hn hz hR hS hL)⟩
theorem x_imul {x y : Int32} (hd : decode M.2.1 pc = .ok (.imul, 1))  (k : AW S M (pc + 1) ls (.int (x * y) :: st) h r h') : AW S M pc ls (.int y :: .int x :: st) h r h' :=
  ⟨k.1, fun l K p e s m args below meth c n0 z0 H locs L C hn hz hR hS hL => lv_imul C.1 C.2.1 hd  (k.2 l K p e s m args below meth c n0 z0 H locs L C hn hz hR hS hL)⟩
theorem x_iand {x y : Int32} (hd : decode M.2.1 pc = .ok (.iand, 1))  (k : AW S M (pc + 1) ls (.int (x &&& y) :: st) h r h') : AW S M pc ls (.int y :: .int x :: st) h r h' :=
  ⟨k.1, fun l K p e s m args below meth c n0 z0 H locs L C hn hz hR hS hL => lv_iand C.1 C.2.1 hd  (k.2 l K p e s m args below meth c n0 z0 H locs L C hn hz hR hS hL)⟩
theorem x_ishr {x y : Int32} (hd : decode M.2.1 pc = .ok (.ishr, 1))  (k : AW S M (pc + 1) ls (.int (x >>> (y &&& 31)) :: st) h r h') : AW S M pc ls (.int y :: .int x :: st) h r h' :=
  ⟨k.1, fun l K p e s m args below meth c n0 z0 H locs L C hn hz hR hS hL => lv_ishr C.1 C.2.1 hd  (k.2 l K p e s m args below meth c n0 z0 H locs L C hn hz hR hS hL)⟩
theorem x_iushr {x y : Int32} (hd : decode M.2.1 pc = .ok (.iushr, 1))  (k : AW S M (pc + 1) ls (.int ((x.toUInt32 >>> (y.toUInt32 &&& Int32.toUInt32 31)).toInt32) :: st) h r h') : AW S M pc ls (.int y :: .int x :: st) h r h' :=
  ⟨k.1, fun l K p e s m args below meth c n0 z0 H locs L C hn hz hR hS hL => lv_iushr C.1 C.2.1 hd rfl (k.2 l K p e s m args below meth c n0 z0 H locs L C hn hz hR hS hL)⟩
theorem x_idiv {x y : Int32} (hd : decode M.2.1 pc = .ok (.idiv, 1)) (hne : ¬ y = 0) (k : AW S M (pc + 1) ls (.int (x / y) :: st) h r h') : AW S M pc ls (.int y :: .int x :: st) h r h' :=
  ⟨k.1, fun l K p e s m args below meth c n0 z0 H locs L C hn hz hR hS hL => lv_idiv C.1 C.2.1 hd hne (k.2 l K p e s m args below meth c n0 z0 H locs L C hn hz hR hS hL)⟩
theorem x_irem {x y : Int32} (hd : decode M.2.1 pc = .ok (.irem, 1)) (hne : ¬ y = 0) (k : AW S M (pc + 1) ls (.int (x - x / y * y) :: st) h r h') : AW S M pc ls (.int y :: .int x :: st) h r h' :=
  ⟨k.1, fun l K p e s m args below meth c n0 z0 H locs L C hn hz hR hS hL => lv_irem C.1 C.2.1 hd hne (k.2 l K p e s m args below meth c n0 z0 H locs L C hn hz hR hS hL)⟩
theorem x_ladd {x y : Int64} (hd : decode M.2.1 pc = .ok (.ladd, 1))  (k : AW S M (pc + 1) ls (.long (x + y) :: st) h r h') : AW S M pc ls (.long y :: .long x :: st) h r h' :=
  ⟨k.1, fun l K p e s m args below meth c n0 z0 H locs L C hn hz hR hS hL => lv_ladd C.1 C.2.1 hd  (k.2 l K p e s m args below meth c n0 z0 H locs L C hn hz hR hS hL)⟩
theorem x_lsub {x y : Int64} (hd : decode M.2.1 pc = .ok (.lsub, 1))  (k : AW S M (pc + 1) ls (.long (x - y) :: st) h r h') : AW S M pc ls (.long y :: .long x :: st) h r h' :=
  ⟨k.1, fun l K p e s m args below meth c n0 z0 H locs L C hn hz hR hS hL => lv_lsub C.1 C.2.1 hd  (k.2 l K p e s m args below meth c n0 z0 H locs L C hn hz hR hS hL)⟩
theorem x_lmul {x y : Int64} (hd : decode M.2.1 pc = .ok (.lmul, 1))  (k : AW S M (pc + 1) ls (.long (x * y) :: st) h r h') : AW S M pc ls (.long y :: .long x :: st) h r h' :=
  ⟨k.1, fun l K p e s m args below meth c n0 z0 H locs L C hn hz hR hS hL => lv_lmul C.1 C.2.1 hd  (k.2 l K p e s m args below meth c n0 z0 H locs L C hn hz hR hS hL)⟩
theorem x_land {x y : Int64} (hd : decode M.2.1 pc = .ok (.land, 1))  (k : AW S M (pc + 1) ls (.long (x &&& y) :: st) h r h') : AW S M pc ls (.long y :: .long x :: st) h r h' :=
  ⟨k.1, fun l K p e s m args below meth c n0 z0 H locs L C hn hz hR hS hL => lv_land C.1 C.2.1 hd  (k.2 l K p e s m args below meth c n0 z0 H locs L C hn hz hR hS hL)⟩
theorem x_ldiv {x y : Int64} (hd : decode M.2.1 pc = .ok (.ldiv, 1)) (hne : ¬ y = 0) (k : AW S M (pc + 1) ls (.long (x / y) :: st) h r h') : AW S M pc ls (.long y :: .long x :: st) h r h' :=
  ⟨k.1, fun l K p e s m args below meth c n0 z0 H locs L C hn hz hR hS hL => lv_ldiv C.1 C.2.1 hd hne (k.2 l K p e s m args below meth c n0 z0 H locs L C hn hz hR hS hL)⟩
theorem x_lshr {x : Int64} {y : Int32} (hd : decode M.2.1 pc = .ok (.lshr, 1))  (k : AW S M (pc + 1) ls (.long (x >>> (y.toInt64 &&& 63)) :: st) h r h') : AW S M pc ls (.int y :: .long x :: st) h r h' :=
  ⟨k.1, fun l K p e s m args below meth c n0 z0 H locs L C hn hz hR hS hL => lv_lshr C.1 C.2.1 hd rfl (k.2 l K p e s m args below meth c n0 z0 H locs L C hn hz hR hS hL)⟩
theorem x_i2l {x : Int32} (hd : decode M.2.1 pc = .ok (.i2l, 1))  (k : AW S M (pc + 1) ls (.long x.toInt64 :: st) h r h') : AW S M pc ls (.int x :: st) h r h' :=
  ⟨k.1, fun l K p e s m args below meth c n0 z0 H locs L C hn hz hR hS hL => lv_i2l C.1 C.2.1 hd rfl (k.2 l K p e s m args below meth c n0 z0 H locs L C hn hz hR hS hL)⟩
theorem x_l2i {x : Int64} (hd : decode M.2.1 pc = .ok (.l2i, 1))  (k : AW S M (pc + 1) ls (.int x.toInt32 :: st) h r h') : AW S M pc ls (.long x :: st) h r h' :=
  ⟨k.1, fun l K p e s m args below meth c n0 z0 H locs L C hn hz hR hS hL => lv_l2i C.1 C.2.1 hd rfl (k.2 l K p e s m args below meth c n0 z0 H locs L C hn hz hR hS hL)⟩
theorem x_lcmp {x y : Int64} (hd : decode M.2.1 pc = .ok (.lcmp, 1))  (k : AW S M (pc + 1) ls (.int (lg_cmp x y) :: st) h r h') : AW S M pc ls (.long y :: .long x :: st) h r h' :=
  ⟨k.1, fun l K p e s m args below meth c n0 z0 H locs L C hn hz hR hS hL => W.lcmp C.1 C.2.1 hd  (k.2 l K p e s m args below meth c n0 z0 H locs L C hn hz hR hS hL)⟩
theorem x_dup {v : Value} (hd : decode M.2.1 pc = .ok (.dup, 1)) (hv : v.category = 1) (k : AW S M (pc + 1) ls (v :: v :: st) h r h') : AW S M pc ls (v :: st) h r h' :=
  ⟨k.1, fun l K p e s m args below meth c n0 z0 H locs L C hn hz hR hS hL => lv_dup C.1 C.2.1 hd (by rw [xv_cat]; exact hv) (k.2 l K p e s m args below meth c n0 z0 H locs L C hn hz hR hS hL)⟩
theorem x_pop {v : Value} (hd : decode M.2.1 pc = .ok (.pop, 1)) (hv : v.category = 1) (k : AW S M (pc + 1) ls (st) h r h') : AW S M pc ls (v :: st) h r h' :=
  ⟨k.1, fun l K p e s m args below meth c n0 z0 H locs L C hn hz hR hS hL => lv_pop C.1 C.2.1 hd (by rw [xv_cat]; exact hv) (k.2 l K p e s m args below meth c n0 z0 H locs L C hn hz hR hS hL)⟩
theorem x_dup2 {v w : Value} (hd : decode M.2.1 pc = .ok (.dup2, 1)) (hv : v.category = 1) (hw : w.category = 1) (k : AW S M (pc + 1) ls (v :: w :: v :: w :: st) h r h') : AW S M pc ls (v :: w :: st) h r h' :=
  ⟨k.1, fun l K p e s m args below meth c n0 z0 H locs L C hn hz hR hS hL => lv_dup2_11 C.1 C.2.1 hd (by rw [xv_cat]; exact hv) (by rw [xv_cat]; exact hw) (k.2 l K p e s m args below meth c n0 z0 H locs L C hn hz hR hS hL)⟩
theorem x_istore_n {k0 : Fin 4} {i : Nat} {x : Int32} {ls' : List (Option Value)} (hd : decode M.2.1 pc = .ok (.istore_n k0, 1)) (hi : (k0 : Nat) = i) (hn9 : i < M.2.2.1) (hl : xst ls i (.int x) = ls') (k : AW S M (pc + 1) ls' st h r h') : AW S M pc ls (.int x :: st) h r h' := by
  refine ⟨k.1, fun l K p e s m args below meth c n0 z0 H locs L C hn hz hR hS hL => ?_⟩
  obtain ⟨L', e1, h1⟩ := lvX_store1 (v := .int x) hL hn9 rfl
  rw [hl] at h1
  have e1 : storeLocals L i (.int x) = some L' := e1
  rw [← hi] at e1
  have hx := C.1
  have hb := C.2.1
  intro T hT X
  obtain ⟨t, a, b⟩ := k.2 l K p e s m args below meth c n0 z0 H locs L' C hn hz hR hS h1 T hT X
  refine ⟨t, ?_, b⟩
  jvm_step X.here [X.here.top, ↓top_set X.here.top, hx, hb, hd, e1, xv]
  exact a
theorem x_lstore_n {k0 : Fin 4} {i : Nat} {x : Int64} {ls' : List (Option Value)} (hd : decode M.2.1 pc = .ok (.lstore_n k0, 1)) (hi : (k0 : Nat) = i) (hn9 : i + 1 < M.2.2.1) (hl : xst2 ls i (.long x) = ls') (k : AW S M (pc + 1) ls' st h r h') : AW S M pc ls (.long x :: st) h r h' := by
  refine ⟨k.1, fun l K p e s m args below meth c n0 z0 H locs L C hn hz hR hS hL => ?_⟩
  obtain ⟨L', e1, h1⟩ := lvX_store2 (v := .long x) hL hn9 rfl
  rw [hl] at h1
  have e1 : storeLocals L i (.long x) = some L' := e1
  rw [← hi] at e1
  have hx := C.1
  have hb := C.2.1
  intro T hT X
  obtain ⟨t, a, b⟩ := k.2 l K p e s m args below meth c n0 z0 H locs L' C hn hz hR hS h1 T hT X
  refine ⟨t, ?_, b⟩
  jvm_step X.here [X.here.top, ↓top_set X.here.top, hx, hb, hd, e1, xv]
  exact a
theorem x_astore_n {k0 : Fin 4} {i : Nat} {x : Nat} {ls' : List (Option Value)} (hd : decode M.2.1 pc = .ok (.astore_n k0, 1)) (hi : (k0 : Nat) = i) (hn9 : i < M.2.2.1) (hl : xst ls i (.ref x) = ls') (k : AW S M (pc + 1) ls' st h r h') : AW S M pc ls (.ref x :: st) h r h' := by
  refine ⟨k.1, fun l K p e s m args below meth c n0 z0 H locs L C hn hz hR hS hL => ?_⟩
  obtain ⟨L', e1, h1⟩ := lvX_store1 (v := .ref x) hL hn9 rfl
  rw [hl] at h1
  have e1 : storeLocals L i (.ref (K.1 + x)) = some L' := e1
  rw [← hi] at e1
  have hx := C.1
  have hb := C.2.1
  intro T hT X
  obtain ⟨t, a, b⟩ := k.2 l K p e s m args below meth c n0 z0 H locs L' C hn hz hR hS h1 T hT X
  refine ⟨t, ?_, b⟩
  jvm_step X.here [X.here.top, ↓top_set X.here.top, hx, hb, hd, e1, xv, Value.isRef]
  exact a
theorem x_astore_nN {k0 : Fin 4} {i : Nat} {ls' : List (Option Value)} (hd : decode M.2.1 pc = .ok (.astore_n k0, 1)) (hi : (k0 : Nat) = i) (hn9 : i < M.2.2.1) (hl : xst ls i (.null) = ls') (k : AW S M (pc + 1) ls' st h r h') : AW S M pc ls (.null :: st) h r h' := by
  refine ⟨k.1, fun l K p e s m args below meth c n0 z0 H locs L C hn hz hR hS hL => ?_⟩
  obtain ⟨L', e1, h1⟩ := lvX_store1 (v := .null) hL hn9 rfl
  rw [hl] at h1
  have e1 : storeLocals L i (.null) = some L' := e1
  rw [← hi] at e1
  have hx := C.1
  have hb := C.2.1
  intro T hT X
  obtain ⟨t, a, b⟩ := k.2 l K p e s m args below meth c n0 z0 H locs L' C hn hz hR hS h1 T hT X
  refine ⟨t, ?_, b⟩
  jvm_step X.here [X.here.top, ↓top_set X.here.top, hx, hb, hd, e1, xv, Value.isRef]
  exact a
theorem x_istore {i : Nat} {x : Int32} {ls' : List (Option Value)} (hd : decode M.2.1 pc = .ok (.istore i, 2))  (hn9 : i < M.2.2.1) (hl : xst ls i (.int x) = ls') (k : AW S M (pc + 2) ls' st h r h') : AW S M pc ls (.int x :: st) h r h' := by
  refine ⟨k.1, fun l K p e s m args below meth c n0 z0 H locs L C hn hz hR hS hL => ?_⟩
  obtain ⟨L', e1, h1⟩ := lvX_store1 (v := .int x) hL hn9 rfl
  rw [hl] at h1
  have e1 : storeLocals L i (.int x) = some L' := e1
  skip
  have hx := C.1
  have hb := C.2.1
  intro T hT X
  obtain ⟨t, a, b⟩ := k.2 l K p e s m args below meth c n0 z0 H locs L' C hn hz hR hS h1 T hT X
  refine ⟨t, ?_, b⟩
  jvm_step X.here [X.here.top, ↓top_set X.here.top, hx, hb, hd, e1, xv]
  exact a
theorem x_lstore {i : Nat} {x : Int64} {ls' : List (Option Value)} (hd : decode M.2.1 pc = .ok (.lstore i, 2))  (hn9 : i + 1 < M.2.2.1) (hl : xst2 ls i (.long x) = ls') (k : AW S M (pc + 2) ls' st h r h') : AW S M pc ls (.long x :: st) h r h' := by
  refine ⟨k.1, fun l K p e s m args below meth c n0 z0 H locs L C hn hz hR hS hL => ?_⟩
  obtain ⟨L', e1, h1⟩ := lvX_store2 (v := .long x) hL hn9 rfl
  rw [hl] at h1
  have e1 : storeLocals L i (.long x) = some L' := e1
  skip
  have hx := C.1
  have hb := C.2.1
  intro T hT X
  obtain ⟨t, a, b⟩ := k.2 l K p e s m args below meth c n0 z0 H locs L' C hn hz hR hS h1 T hT X
  refine ⟨t, ?_, b⟩
  jvm_step X.here [X.here.top, ↓top_set X.here.top, hx, hb, hd, e1, xv]
  exact a
theorem x_astore {i : Nat} {x : Nat} {ls' : List (Option Value)} (hd : decode M.2.1 pc = .ok (.astore i, 2))  (hn9 : i < M.2.2.1) (hl : xst ls i (.ref x) = ls') (k : AW S M (pc + 2) ls' st h r h') : AW S M pc ls (.ref x :: st) h r h' := by
  refine ⟨k.1, fun l K p e s m args below meth c n0 z0 H locs L C hn hz hR hS hL => ?_⟩
  obtain ⟨L', e1, h1⟩ := lvX_store1 (v := .ref x) hL hn9 rfl
  rw [hl] at h1
  have e1 : storeLocals L i (.ref (K.1 + x)) = some L' := e1
  skip
  have hx := C.1
  have hb := C.2.1
  intro T hT X
  obtain ⟨t, a, b⟩ := k.2 l K p e s m args below meth c n0 z0 H locs L' C hn hz hR hS h1 T hT X
  refine ⟨t, ?_, b⟩
  jvm_step X.here [X.here.top, ↓top_set X.here.top, hx, hb, hd, e1, xv, Value.isRef]
  exact a
theorem x_astoreN {i : Nat} {ls' : List (Option Value)} (hd : decode M.2.1 pc = .ok (.astore i, 2))  (hn9 : i < M.2.2.1) (hl : xst ls i (.null) = ls') (k : AW S M (pc + 2) ls' st h r h') : AW S M pc ls (.null :: st) h r h' := by
  refine ⟨k.1, fun l K p e s m args below meth c n0 z0 H locs L C hn hz hR hS hL => ?_⟩
  obtain ⟨L', e1, h1⟩ := lvX_store1 (v := .null) hL hn9 rfl
  rw [hl] at h1
  have e1 : storeLocals L i (.null) = some L' := e1
  skip
  have hx := C.1
  have hb := C.2.1
  intro T hT X
  obtain ⟨t, a, b⟩ := k.2 l K p e s m args below meth c n0 z0 H locs L' C hn hz hR hS h1 T hT X
  refine ⟨t, ?_, b⟩
  jvm_step X.here [X.here.top, ↓top_set X.here.top, hx, hb, hd, e1, xv, Value.isRef]
  exact a
theorem x_iinc {i : Nat} {n : Int} {x v : Int32} {ls' : List (Option Value)} (hd : decode M.2.1 pc = .ok (.iinc i n, 3)) (hx0 : ls[i]? = some (some (.int x))) (hv : x + Int32.ofInt n = v) (hn9 : i < M.2.2.1) (hl : xst ls i (.int v) = ls') (k : AW S M (pc + 3) ls' st h r h') : AW S M pc ls st h r h' := by
  refine ⟨k.1, fun l K p e s m args below meth c n0 z0 H locs L C hn hz hR hS hL => ?_⟩
  subst hv
  obtain ⟨L', e1, h1⟩ := lvX_store1 (v := .int (x + Int32.ofInt n)) hL hn9 rfl
  rw [hl] at h1
  have e1 : storeLocals L i (.int (x + Int32.ofInt n)) = some L' := e1
  have hg : L[i]? = some (.val (.int x)) := lvX_at hL hx0
  have hx := C.1
  have hb := C.2.1
  intro T hT X
  obtain ⟨t, a, b⟩ := k.2 l K p e s m args below meth c n0 z0 H locs L' C hn hz hR hS h1 T hT X
  refine ⟨t, ?_, b⟩
  jvm_step X.here [X.here.top, ↓top_set X.here.top, hx, hb, hd, hg, e1]
  exact a
theorem x_if_eq {x : Int32} {off : Int} {tgt : Nat} (hd : decode M.2.1 pc = .ok (.ifCond .eq off, 3)) (ht : (pc : Int) + off = (tgt : Int)) (kt : x = 0 → AW S M tgt ls st h r h') (kf : ¬ x = 0 → AW S M (pc + 3) ls st h r h') : AW S M pc ls (.int x :: st) h r h' :=
  ⟨by by_cases q : x = 0
      · exact (kt q).1
      · exact (kf q).1, fun l K p e s m args below meth c n0 z0 H locs L C hn hz hR hS hL => lv_if_eq C.1 C.2.1 hd ht (fun q => (kt q).2 l K p e s m args below meth c n0 z0 H locs L C hn hz hR hS hL) (fun q => (kf q).2 l K p e s m args below meth c n0 z0 H locs L C hn hz hR hS hL)⟩
theorem x_icmp_eq {x y : Int32} {off : Int} {tgt : Nat} (hd : decode M.2.1 pc = .ok (.if_icmp .eq off, 3)) (ht : (pc : Int) + off = (tgt : Int)) (kt : x = y → AW S M tgt ls st h r h') (kf : ¬ x = y → AW S M (pc + 3) ls st h r h') : AW S M pc ls (.int y :: .int x :: st) h r h' :=
  ⟨by by_cases q : x = y
      · exact (kt q).1
      · exact (kf q).1, fun l K p e s m args below meth c n0 z0 H locs L C hn hz hR hS hL => lv_icmp_eq C.1 C.2.1 hd ht (fun q => (kt q).2 l K p e s m args below meth c n0 z0 H locs L C hn hz hR hS hL) (fun q => (kf q).2 l K p e s m args below meth c n0 z0 H locs L C hn hz hR hS hL)⟩
theorem x_if_ne {x : Int32} {off : Int} {tgt : Nat} (hd : decode M.2.1 pc = .ok (.ifCond .ne off, 3)) (ht : (pc : Int) + off = (tgt : Int)) (kt : ¬ x = 0 → AW S M tgt ls st h r h') (kf : x = 0 → AW S M (pc + 3) ls st h r h') : AW S M pc ls (.int x :: st) h r h' :=
  ⟨by by_cases q : x = 0
      · exact (kf q).1
      · exact (kt q).1, fun l K p e s m args below meth c n0 z0 H locs L C hn hz hR hS hL => lv_if_ne C.1 C.2.1 hd ht (fun q => (kt q).2 l K p e s m args below meth c n0 z0 H locs L C hn hz hR hS hL) (fun q => (kf q).2 l K p e s m args below meth c n0 z0 H locs L C hn hz hR hS hL)⟩
theorem x_icmp_ne {x y : Int32} {off : Int} {tgt : Nat} (hd : decode M.2.1 pc = .ok (.if_icmp .ne off, 3)) (ht : (pc : Int) + off = (tgt : Int)) (kt : ¬ x = y → AW S M tgt ls st h r h') (kf : x = y → AW S M (pc + 3) ls st h r h') : AW S M pc ls (.int y :: .int x :: st) h r h' :=
  ⟨by by_cases q : x = y
      · exact (kf q).1
      · exact (kt q).1, fun l K p e s m args below meth c n0 z0 H locs L C hn hz hR hS hL => lv_icmp_ne C.1 C.2.1 hd ht (fun q => (kt q).2 l K p e s m args below meth c n0 z0 H locs L C hn hz hR hS hL) (fun q => (kf q).2 l K p e s m args below meth c n0 z0 H locs L C hn hz hR hS hL)⟩
theorem x_if_lt {x : Int32} {off : Int} {tgt : Nat} (hd : decode M.2.1 pc = .ok (.ifCond .lt off, 3)) (ht : (pc : Int) + off = (tgt : Int)) (kt : x < 0 → AW S M tgt ls st h r h') (kf : ¬ x < 0 → AW S M (pc + 3) ls st h r h') : AW S M pc ls (.int x :: st) h r h' :=
  ⟨by by_cases q : x < 0
      · exact (kt q).1
      · exact (kf q).1, fun l K p e s m args below meth c n0 z0 H locs L C hn hz hR hS hL => lv_if_lt C.1 C.2.1 hd ht (fun q => (kt q).2 l K p e s m args below meth c n0 z0 H locs L C hn hz hR hS hL) (fun q => (kf q).2 l K p e s m args below meth c n0 z0 H locs L C hn hz hR hS hL)⟩
theorem x_icmp_lt {x y : Int32} {off : Int} {tgt : Nat} (hd : decode M.2.1 pc = .ok (.if_icmp .lt off, 3)) (ht : (pc : Int) + off = (tgt : Int)) (kt : x < y → AW S M tgt ls st h r h') (kf : ¬ x < y → AW S M (pc + 3) ls st h r h') : AW S M pc ls (.int y :: .int x :: st) h r h' :=
  ⟨by by_cases q : x < y
      · exact (kt q).1
      · exact (kf q).1, fun l K p e s m args below meth c n0 z0 H locs L C hn hz hR hS hL => lv_icmp_lt C.1 C.2.1 hd ht (fun q => (kt q).2 l K p e s m args below meth c n0 z0 H locs L C hn hz hR hS hL) (fun q => (kf q).2 l K p e s m args below meth c n0 z0 H locs L C hn hz hR hS hL)⟩
theorem x_if_ge {x : Int32} {off : Int} {tgt : Nat} (hd : decode M.2.1 pc = .ok (.ifCond .ge off, 3)) (ht : (pc : Int) + off = (tgt : Int)) (kt : 0 ≤ x → AW S M tgt ls st h r h') (kf : ¬ 0 ≤ x → AW S M (pc + 3) ls st h r h') : AW S M pc ls (.int x :: st) h r h' :=
  ⟨by by_cases q : 0 ≤ x
      · exact (kt q).1
      · exact (kf q).1, fun l K p e s m args below meth c n0 z0 H locs L C hn hz hR hS hL => lv_if_ge C.1 C.2.1 hd ht (fun q => (kt q).2 l K p e s m args below meth c n0 z0 H locs L C hn hz hR hS hL) (fun q => (kf q).2 l K p e s m args below meth c n0 z0 H locs L C hn hz hR hS hL)⟩
theorem x_icmp_ge {x y : Int32} {off : Int} {tgt : Nat} (hd : decode M.2.1 pc = .ok (.if_icmp .ge off, 3)) (ht : (pc : Int) + off = (tgt : Int)) (kt : y ≤ x → AW S M tgt ls st h r h') (kf : ¬ y ≤ x → AW S M (pc + 3) ls st h r h') : AW S M pc ls (.int y :: .int x :: st) h r h' :=
  ⟨by by_cases q : y ≤ x
      · exact (kt q).1
      · exact (kf q).1, fun l K p e s m args below meth c n0 z0 H locs L C hn hz hR hS hL => lv_icmp_ge C.1 C.2.1 hd ht (fun q => (kt q).2 l K p e s m args below meth c n0 z0 H locs L C hn hz hR hS hL) (fun q => (kf q).2 l K p e s m args below meth c n0 z0 H locs L C hn hz hR hS hL)⟩
theorem x_if_gt {x : Int32} {off : Int} {tgt : Nat} (hd : decode M.2.1 pc = .ok (.ifCond .gt off, 3)) (ht : (pc : Int) + off = (tgt : Int)) (kt : 0 < x → AW S M tgt ls st h r h') (kf : ¬ 0 < x → AW S M (pc + 3) ls st h r h') : AW S M pc ls (.int x :: st) h r h' :=
  ⟨by by_cases q : 0 < x
      · exact (kt q).1
      · exact (kf q).1, fun l K p e s m args below meth c n0 z0 H locs L C hn hz hR hS hL => lv_if_gt C.1 C.2.1 hd ht (fun q => (kt q).2 l K p e s m args below meth c n0 z0 H locs L C hn hz hR hS hL) (fun q => (kf q).2 l K p e s m args below meth c n0 z0 H locs L C hn hz hR hS hL)⟩
theorem x_icmp_gt {x y : Int32} {off : Int} {tgt : Nat} (hd : decode M.2.1 pc = .ok (.if_icmp .gt off, 3)) (ht : (pc : Int) + off = (tgt : Int)) (kt : y < x → AW S M tgt ls st h r h') (kf : ¬ y < x → AW S M (pc + 3) ls st h r h') : AW S M pc ls (.int y :: .int x :: st) h r h' :=
  ⟨by by_cases q : y < x
      · exact (kt q).1
      · exact (kf q).1, fun l K p e s m args below meth c n0 z0 H locs L C hn hz hR hS hL => lv_icmp_gt C.1 C.2.1 hd ht (fun q => (kt q).2 l K p e s m args below meth c n0 z0 H locs L C hn hz hR hS hL) (fun q => (kf q).2 l K p e s m args below meth c n0 z0 H locs L C hn hz hR hS hL)⟩
theorem x_if_le {x : Int32} {off : Int} {tgt : Nat} (hd : decode M.2.1 pc = .ok (.ifCond .le off, 3)) (ht : (pc : Int) + off = (tgt : Int)) (kt : x ≤ 0 → AW S M tgt ls st h r h') (kf : ¬ x ≤ 0 → AW S M (pc + 3) ls st h r h') : AW S M pc ls (.int x :: st) h r h' :=
  ⟨by by_cases q : x ≤ 0
      · exact (kt q).1
      · exact (kf q).1, fun l K p e s m args below meth c n0 z0 H locs L C hn hz hR hS hL => lv_if_le C.1 C.2.1 hd ht (fun q => (kt q).2 l K p e s m args below meth c n0 z0 H locs L C hn hz hR hS hL) (fun q => (kf q).2 l K p e s m args below meth c n0 z0 H locs L C hn hz hR hS hL)⟩
theorem x_icmp_le {x y : Int32} {off : Int} {tgt : Nat} (hd : decode M.2.1 pc = .ok (.if_icmp .le off, 3)) (ht : (pc : Int) + off = (tgt : Int)) (kt : x ≤ y → AW S M tgt ls st h r h') (kf : ¬ x ≤ y → AW S M (pc + 3) ls st h r h') : AW S M pc ls (.int y :: .int x :: st) h r h' :=
  ⟨by by_cases q : x ≤ y
      · exact (kt q).1
      · exact (kf q).1, fun l K p e s m args below meth c n0 z0 H locs L C hn hz hR hS hL => lv_icmp_le C.1 C.2.1 hd ht (fun q => (kt q).2 l K p e s m args below meth c n0 z0 H locs L C hn hz hR hS hL) (fun q => (kf q).2 l K p e s m args below meth c n0 z0 H locs L C hn hz hR hS hL)⟩
theorem x_goto {off : Int} {tgt : Nat} (hd : decode M.2.1 pc = .ok (.goto off, 3)) (ht : (pc : Int) + off = (tgt : Int)) (k : AW S M tgt ls st h r h') : AW S M pc ls st h r h' :=
  ⟨k.1, fun l K p e s m args below meth c n0 z0 H locs L C hn hz hR hS hL => lv_goto C.1 C.2.1 hd ht (k.2 l K p e s m args below meth c n0 z0 H locs L C hn hz hR hS hL)⟩
theorem x_ifnull {x : Nat} {off : Int} (hd : decode M.2.1 pc = .ok (.ifnull off, 3)) (k : AW S M (pc + 3) ls st h r h') : AW S M pc ls (.ref x :: st) h r h' :=
  ⟨k.1, fun l K p e s m args below meth c n0 z0 H locs L C hn hz hR hS hL => lv_ifnull C.1 C.2.1 hd (k.2 l K p e s m args below meth c n0 z0 H locs L C hn hz hR hS hL)⟩
theorem x_ifnullN {off : Int} {tgt : Nat} (hd : decode M.2.1 pc = .ok (.ifnull off, 3)) (ht : (pc : Int) + off = (tgt : Int)) (k : AW S M (tgt) ls st h r h') : AW S M pc ls (.null :: st) h r h' :=
  ⟨k.1, fun l K p e s m args below meth c n0 z0 H locs L C hn hz hR hS hL => lv_ifnullN C.1 C.2.1 hd ht (k.2 l K p e s m args below meth c n0 z0 H locs L C hn hz hR hS hL)⟩
theorem x_ifnonnull {x : Nat} {off : Int} {tgt : Nat} (hd : decode M.2.1 pc = .ok (.ifnonnull off, 3)) (ht : (pc : Int) + off = (tgt : Int)) (k : AW S M (tgt) ls st h r h') : AW S M pc ls (.ref x :: st) h r h' :=
  ⟨k.1, fun l K p e s m args below meth c n0 z0 H locs L C hn hz hR hS hL => lv_ifnonnull C.1 C.2.1 hd ht (k.2 l K p e s m args below meth c n0 z0 H locs L C hn hz hR hS hL)⟩
theorem x_ifnonnullN {off : Int} (hd : decode M.2.1 pc = .ok (.ifnonnull off, 3)) (k : AW S M (pc + 3) ls st h r h') : AW S M pc ls (.null :: st) h r h' :=
  ⟨k.1, fun l K p e s m args below meth c n0 z0 H locs L C hn hz hR hS hL => lv_ifnonnullN C.1 C.2.1 hd (k.2 l K p e s m args below meth c n0 z0 H locs L C hn hz hR hS hL)⟩
theorem x_tableOut {dflt lo hi : Int} {offs : Array Int} {len : Nat} {x : Int32} {tgt : Nat} (hd : decode M.2.1 pc = .ok (.tableswitch dflt lo hi offs, len)) (hx : x.toInt < lo ∨ hi < x.toInt) (ht : (pc : Int) + dflt = (tgt : Int)) (k : AW S M tgt ls st h r h') : AW S M pc ls (.int x :: st) h r h' :=
  ⟨k.1, fun l K p e s m args below meth c n0 z0 H locs L C hn hz hR hS hL => lv_tableOut C.1 C.2.1 hd hx ht (k.2 l K p e s m args below meth c n0 z0 H locs L C hn hz hR hS hL)⟩
theorem x_tableIn {dflt lo hi : Int} {offs : Array Int} {len : Nat} {x : Int32} {off : Int} {tgt : Nat} (hd : decode M.2.1 pc = .ok (.tableswitch dflt lo hi offs, len)) (h1 : ¬ x.toInt < lo) (h2 : ¬ hi < x.toInt) (ho : offs[(x.toInt - lo).toNat]? = some off) (ht : (pc : Int) + off = (tgt : Int)) (k : AW S M tgt ls st h r h') : AW S M pc ls (.int x :: st) h r h' :=
  ⟨k.1, fun l K p e s m args below meth c n0 z0 H locs L C hn hz hR hS hL => lv_tableIn C.1 C.2.1 hd h1 h2 ho ht (k.2 l K p e s m args below meth c n0 z0 H locs L C hn hz hR hS hL)⟩
theorem x_ldc {index : Nat} {v : Int32} (hd : decode M.2.1 pc = .ok (.ldc index, 2)) (hw : Cond.constant M.1.cls index v ∈ gtbl) (k : AW S M (pc + 2) ls (.int v :: st) h r h') : AW S M pc ls st h r h' :=
  ⟨k.1, fun l K p e s m args below meth c n0 z0 H locs L C hn hz hR hS hL => lv_ldc C.1 C.2.1 C.2.2.2.2.1 (C.2.2.2.2.2.1 _ hw) hd (k.2 l K p e s m args below meth c n0 z0 H locs L C hn hz hR hS hL)⟩
theorem x_ldcw {index : Nat} {v : Int32} (hd : decode M.2.1 pc = .ok (.ldc_w index, 3)) (hw : Cond.constant M.1.cls index v ∈ gtbl) (k : AW S M (pc + 3) ls (.int v :: st) h r h') : AW S M pc ls st h r h' :=
  ⟨k.1, fun l K p e s m args below meth c n0 z0 H locs L C hn hz hR hS hL => lv_ldcw C.1 C.2.1 C.2.2.2.2.1 (C.2.2.2.2.2.1 _ hw) hd (k.2 l K p e s m args below meth c n0 z0 H locs L C hn hz hR hS hL)⟩
theorem x_ldc2 {index : Nat} {v : Int64} (hd : decode M.2.1 pc = .ok (.ldc2_w index, 3)) (hw : Cond.constantLong M.1.cls index v ∈ gtbl) (k : AW S M (pc + 3) ls (.long v :: st) h r h') : AW S M pc ls st h r h' :=
  ⟨k.1, fun l K p e s m args below meth c n0 z0 H locs L C hn hz hR hS hL => lv_ldc2 C.1 C.2.1 C.2.2.2.2.1 (C.2.2.2.2.2.1 _ hw) hd (k.2 l K p e s m args below meth c n0 z0 H locs L C hn hz hR hS hL)⟩
theorem x_ldcS {index n : Nat} {tx : String} (hd : decode M.2.1 pc = .ok (.ldc index, 2)) (hw : (M.1.cls, index, tx, n) ∈ xstr) (k : AW S M (pc + 2) ls (.retAddr n :: st) h r h') : AW S M pc ls st h r h' :=
  ⟨k.1, fun l K p e s m args below meth c n0 z0 H locs L C hn hz hR hS hL => va_ldcS C.1 C.2.1 C.2.2.2.2.1 (C.2.2.2.2.2.2.2.2.1.2.2.1 _ hw) hd (k.2 l K p e s m args below meth c n0 z0 H locs L C hn hz hR hS hL)⟩
theorem x_iret {x : Int32} {ty : FieldType} (hd : decode M.2.1 pc = .ok (.ireturn, 1)) (hr : M.2.2.2.1 = some ty) (hn9 : narrow ty (.int x) = .int x) : AW S M pc ls [.int x] h (some (.int x)) h :=
  ⟨⟨Nat.le_refl _, Nat.le_refl _⟩, fun l K p e s m args below meth c n0 z0 H locs L C hn hz hR hS hL => W.zret C.1 C.2.1 (C.2.2.1.trans hr) hn9 (fun t ht hW => ⟨rfl, by rw [ht]; exact hR, hS.F ht⟩) hS.2.2 hd C.2.2.2.2.2.2.1⟩
theorem x_lret {x : Int64} (hd : decode M.2.1 pc = .ok (.lreturn, 1)) (hr : M.2.2.2.1 = some .long) : AW S M pc ls [.long x] h (some (.long x)) h :=
  ⟨⟨Nat.le_refl _, Nat.le_refl _⟩, fun l K p e s m args below meth c n0 z0 H locs L C hn hz hR hS hL => W.lret C.1 C.2.1 (C.2.2.1.trans hr) (fun t ht hW => ⟨rfl, by rw [ht]; exact hR, hS.F ht⟩) hS.2.2 hd C.2.2.2.2.2.2.1⟩
theorem x_vret (hd : decode M.2.1 pc = .ok (.return_, 1)) (hr : M.2.2.2.1 = none) : AW S M pc ls [] h none h :=
  ⟨⟨Nat.le_refl _, Nat.le_refl _⟩, fun l K p e s m args below meth c n0 z0 H locs L C hn hz hR hS hL => W.vret C.1 C.2.1 (C.2.2.1.trans hr) (fun t ht hW => ⟨rfl, by rw [ht]; exact hR, hS.F ht⟩) hS.2.2 hd C.2.2.2.2.2.2.1⟩
theorem x_aret {x : Nat} {C9 : String} (hd : decode M.2.1 pc = .ok (.areturn, 1)) (hr : M.2.2.2.1 = some (.object C9)) : AW S M pc ls [.ref x] h (some (.ref x)) h :=
  ⟨⟨Nat.le_refl _, Nat.le_refl _⟩, fun l K p e s m args below meth c n0 z0 H locs L C hn hz hR hS hL => W.aret C.1 C.2.1 (C.2.2.1.trans hr) (Or.inl ⟨_, rfl⟩) (Or.inr ⟨_, rfl⟩) (fun t ht hW => ⟨rfl, by rw [ht]; exact hR, hS.F ht⟩) hS.2.2 hd C.2.2.2.2.2.2.1⟩
theorem x_aretN {C9 : String} (hd : decode M.2.1 pc = .ok (.areturn, 1)) (hr : M.2.2.2.1 = some (.object C9)) : AW S M pc ls [.null] h (some .null) h :=
  ⟨⟨Nat.le_refl _, Nat.le_refl _⟩, fun l K p e s m args below meth c n0 z0 H locs L C hn hz hR hS hL => W.aret C.1 C.2.1 (C.2.2.1.trans hr) (Or.inl ⟨_, rfl⟩) (Or.inl rfl) (fun t ht hW => ⟨rfl, by rw [ht]; exact hR, hS.F ht⟩) hS.2.2 hd C.2.2.2.2.2.2.1⟩
end XRW
end
section
/-! ROWS OVER THE SMALL HEAP'S CELLS: fields, arrays. -/
/-- what a program decides of each class: its words stand in the tables, its fields' types, their names apart -/
def xok (ci : Nat) (C : String) (T : u_T) (N : Nat) (ty0 : Nat → FieldType) : Prop := (∀ w ∈ u_ws C T N, w ∈ gtbl) ∧ (∀ k, k < N → parseFieldDescriptor (T k).2.2.1 = some (ty0 k)) ∧ (∀ a, a < N → ∀ b, b < N → a ≠ b → (T a).2.1 ≠ (T b).2.1)
/-- the link of a field: its class's number and the field's place -/
def xFL (own : String) (index ci k : Nat) : Prop := ∃ (C : String) (T : u_T) (N : Nat) (ty0 : Nat → FieldType), xcl[ci]? = some (C, T, N) ∧ k < N ∧ Cond.fieldLink own index (T k).1 (T k).2.1 (T k).2.2.1 ∈ gtbl ∧ xok ci C T N ty0
def xFN (own : String) (index ci k : Nat) : Prop := ∃ (C : String) (T : u_T) (N : Nat) (ty0 : Nat → FieldType) (host : String), xcl[ci]? = some (C, T, N) ∧ k < N ∧ Cond.fieldLinkNest own index (T k).1 (T k).2.1 (T k).2.2.1 host ∈ tables_1 ∧ xok ci C T N ty0
/-- a value that may stand in a field of this type -/
def xfit (ty : FieldType) (v : Value) : Prop := ∀ K : XK, narrow ty (xv K v) = xv K v ∧ fits ty (xv K v) = true
def xFT (ci k : Nat) (fin : Bool) (ty : FieldType) : Prop := ∃ (C : String) (T : u_T) (N : Nat), xcl[ci]? = some (C, T, N) ∧ (T k).2.2.2 = fin ∧ parseFieldDescriptor (T k).2.2.1 = some ty
theorem XR.set {K : XK} {h : XH} {H H1 : Heap} {a : Nat} {e0 e : va_E} (hR : XR K h H) (he : h[a]? = some e0) (z : H1.size = H.size) (hat : va_at K.2.1 xcl (K.1 + a, xe K e) H1) (oq : ∀ q : Nat, q ≠ K.1 + a → H1[q]? = H[q]?) : XR K (h.set a e) H1 := by
  refine ⟨by rw [List.length_set, z]; exact hR.1, ?_⟩
  rw [xw_set]
  exact hR.2.set xw_D (xw_get he) hat oq
section XHR
variable {S : XS} {M : XM} {pc : Nat} {ls : List (Option Value)} {st : List Value} {h h1 : XH} {r : Option Value} {h' : XH}
theorem x_getf {index ci k a : Nat} {fs : List Value} {v : Value} (hd : decode M.2.1 pc = .ok (.getfield index, 3)) (hf : xFL M.1.cls index ci k) (he : h[a]? = some (.inr (ci, fs))) (hv : fs[k]? = some v) (kk : AW S M (pc + 3) ls (v :: st) h r h') : AW S M pc ls (.ref a :: st) h r h' := by
  refine ⟨kk.1, fun l K p e s m args below meth c n0 z0 H locs L C hn hz hR hS hL => ?_⟩
  obtain ⟨C9, T, N, ty0, hc, hk, hl, ho⟩ := hf
  exact va_get (D := K.2.1) (C := C9) (T := T) (N := N) (ci := ci) (a := K.1 + a) (fs := fs.map (xv K)) (v := xv K v) C.1 C.2.1 C.2.2.2.2.2.1 ho.1 C.2.2.2.2.1 C.2.2.2.2.2.2.2.2.1.1 hR.2 a (xw_get he) hc k hk (C.2.2.2.2.2.1 _ hl) (fun _ q => q) (by rw [List.getElem?_map, hv]; rfl) hd (kk.2 l K p e s m args below meth c n0 z0 H locs L C hn hz hR hS hL)
theorem x_getfN {index ci k a : Nat} {fs : List Value} {v : Value} (hd : decode M.2.1 pc = .ok (.getfield index, 3)) (hf : xFN M.1.cls index ci k) (he : h[a]? = some (.inr (ci, fs))) (hv : fs[k]? = some v) (kk : AW S M (pc + 3) ls (v :: st) h r h') : AW S M pc ls (.ref a :: st) h r h' := by
  refine ⟨kk.1, fun l K p e s m args below meth c n0 z0 H locs L C hn hz hR hS hL => ?_⟩
  obtain ⟨C9, T, N, ty0, host, hc, hk, hl, ho⟩ := hf
  exact va_getN (D := K.2.1) (C := C9) (T := T) (N := N) (ci := ci) (a := K.1 + a) (fs := fs.map (xv K)) (v := xv K v) C.1 C.2.1 C.2.2.2.2.2.1 ho.1 C.2.2.2.2.1 C.2.2.2.2.2.2.2.2.1.1 hR.2 a (xw_get he) hc k hk (va_Nw.use rfl (C.2.2.2.2.2.2.2.2.1.2.1 _ hl rfl)) (fun _ q => q) (by rw [List.getElem?_map, hv]; rfl) hd (kk.2 l K p e s m args below meth c n0 z0 H locs L C hn hz hR hS hL)
theorem xsl {h : XH} {a ci k : Nat} {fs : List Value} {v : Value} (he : h[a]? = some (.inr (ci, fs))) : (h.set a (.inr (ci, fs.set k v))).length = h.length ∧ xsz (h.set a (.inr (ci, fs.set k v))) = xsz h := ⟨List.length_set, xsz_set he (by show (fs.set k v).length = fs.length; exact List.length_set)⟩
theorem xgo {pc1 : Nat} {ls1 : List (Option Value)} {st1 : List Value} (k : AW S M pc1 ls1 st1 h1 r h') (e1 : h1.length = h.length) (e2 : xsz h1 = xsz h) {l : Launch} {K : XK} {p : Program} {e : Env} {s : State} {m : MethodId} {args : Array Value} {below : List Frame} {meth : Method} {c : Code} {n0 z0 : Nat} {H : Heap} {locs : List Loc} {L : Array Slot}
    (C : xC K S M p s m args meth c) (hn : n0 ≤ h.length) (hz : z0 ≤ xsz h) (hR : XR K h1 H) (hS : va_S (fun q => K.1 ≤ q) s.heap H locs) (hL : lvX K L M.2.2.1 ls1) :
    W p l e (xrm M (h'.length - n0) (xsz h' - z0)) s m args below meth c H locs (h.length - n0) (xsz h - z0) (MQ below (xQ K r h') args s (h'.length - n0) (xsz h' - z0) (fun q => K.1 ≤ q)) (F0 m pc1 L (st1.map (xv K))) := by
  rw [← e1, ← e2]
  exact k.2 l K p e s m args below meth c n0 z0 H locs L C (by rw [e1]; exact hn) (by rw [e2]; exact hz) hR hS hL
theorem x_putf {index ci k a : Nat} {fs : List Value} {v : Value} {ty : FieldType} (hd : decode M.2.1 pc = .ok (.putfield index, 3)) (hf : xFL M.1.cls index ci k) (ht : xFT ci k false ty) (hw : xfit ty v) (he : h[a]? = some (.inr (ci, fs))) (hkl : k < fs.length) (hh : h.set a (.inr (ci, fs.set k v)) = h1) (kk : AW S M (pc + 3) ls st h1 r h') : AW S M pc ls (v :: .ref a :: st) h r h' := by
  subst hh
  obtain ⟨e1, e2⟩ := xsl (k := k) (v := v) he
  refine ⟨by rw [← e1, ← e2]; exact kk.1, fun l K p e s m args below meth c n0 z0 H locs L C hn hz hR hS hL => ?_⟩
  obtain ⟨C9, T, N, ty0, hc, hk, hl, ho⟩ := hf
  obtain ⟨C8, T8, N8, hc8, hfin, hdt⟩ := ht
  obtain ⟨rfl, rfl, rfl⟩ : C8 = C9 ∧ T8 = T ∧ N8 = N := by
    have q := Option.some.inj (hc8.symm.trans hc)
    exact ⟨congrArg (fun z => z.1) q, congrArg (fun z => z.2.1) q, congrArg (fun z => z.2.2) q⟩
  have hts := C.2.2.2.2.2.1
  have hK := C.2.2.2.2.2.2.2.2.1.1
  have hin := ho.1
  have hap := va_apart (own := M.1.cls) hts hin ty0 ho.2.1 ho.2.2 hK hc
  obtain ⟨r0, g1, cell, q1, q2, q3, q4⟩ := hR.2 a _ (xw_get he)
  have hr : r0 = (C8, T8, N8) := Option.some.inj (g1.symm.trans hc)
  subst hr
  obtain ⟨hSl, hfc, kC, hkC, hkind⟩ := hK.1 ci _ hc
  obtain ⟨cf, kf, fi, f, hi, hsl⟩ := hSl k hk
  have hlay := hts _ (hin _ (u_in_lay hk))
  unfold u_lay at hlay
  rw [if_neg (by rw [hfin]; decide)] at hlay
  have hst := (u_facts hfc hkC (u_lays hts hin hk) hi).1
  have h6 := u_store hfc hkC hkind hlay hi hdt (hw K).1 (hw K).2
  refine W.putK C.1 C.2.1 (f := f) (v := xv K v) (a := K.1 + a) ⟨C.2.2.2.2.1, hts _ hl, ⟨_, _, _, hi⟩, hst⟩ (by rw [q2]; exact h6) q1 q3 (by rw [hsl]; exact k2_hasslot (q4 k hk)) rfl rfl hd fun H' w1 w2 w3 => ?_
  rw [hsl] at w1 ⊢
  have hR1 : XR K (h.set a (.inr (ci, fs.set k v))) H' := hR.set he w2 ⟨_, hc, t_OB.to (V := updV (vp_V (fs.map (xv K))) k (xv K v)) ⟨_, w1, q2, q3, t_set q4 hap hk (xv K v)⟩ (fun j _ => by rw [vp_updV_set (by rw [List.length_map]; exact hkl) (xv K v) j, List.map_set])⟩ w3
  exact xgo kk e1 e2 C hn hz hR1 (hS.put w2 w3 (Nat.le_add_right _ _)) hL
theorem x_putfN {index ci k a : Nat} {fs : List Value} {v : Value} {ty : FieldType} (hd : decode M.2.1 pc = .ok (.putfield index, 3)) (hf : xFN M.1.cls index ci k) (ht : xFT ci k false ty) (hw : xfit ty v) (he : h[a]? = some (.inr (ci, fs))) (hkl : k < fs.length) (hh : h.set a (.inr (ci, fs.set k v)) = h1) (kk : AW S M (pc + 3) ls st h1 r h') : AW S M pc ls (v :: .ref a :: st) h r h' := by
  subst hh
  obtain ⟨e1, e2⟩ := xsl (k := k) (v := v) he
  refine ⟨by rw [← e1, ← e2]; exact kk.1, fun l K p e s m args below meth c n0 z0 H locs L C hn hz hR hS hL => ?_⟩
  obtain ⟨C9, T, N, ty0, host, hc, hk, hl, ho⟩ := hf
  obtain ⟨C8, T8, N8, hc8, hfin, hdt⟩ := ht
  obtain ⟨rfl, rfl, rfl⟩ : C8 = C9 ∧ T8 = T ∧ N8 = N := by
    have q := Option.some.inj (hc8.symm.trans hc)
    exact ⟨congrArg (fun z => z.1) q, congrArg (fun z => z.2.1) q, congrArg (fun z => z.2.2) q⟩
  have hts := C.2.2.2.2.2.1
  have hK := C.2.2.2.2.2.2.2.2.1.1
  have hin := ho.1
  have hap := va_apart (own := M.1.cls) hts hin ty0 ho.2.1 ho.2.2 hK hc
  obtain ⟨r0, g1, cell, q1, q2, q3, q4⟩ := hR.2 a _ (xw_get he)
  have hr : r0 = (C8, T8, N8) := Option.some.inj (g1.symm.trans hc)
  subst hr
  obtain ⟨hSl, hfc, kC, hkC, hkind⟩ := hK.1 ci _ hc
  obtain ⟨cf, kf, fi, f, hi, hsl⟩ := hSl k hk
  have hlay := hts _ (hin _ (u_in_lay hk))
  unfold u_lay at hlay
  rw [if_neg (by rw [hfin]; decide)] at hlay
  have hst := (u_facts hfc hkC (u_lays hts hin hk) hi).1
  have h6 := u_store hfc hkC hkind hlay hi hdt (hw K).1 (hw K).2
  refine va_WputK C.1 C.2.1 (f := f) (v := xv K v) (a := K.1 + a) C.2.2.2.2.1 (va_Nw.use rfl (C.2.2.2.2.2.2.2.2.1.2.1 _ hl rfl)) hi hst (by rw [q2]; exact h6) q1 q3 (by rw [hsl]; exact k2_hasslot (q4 k hk)) rfl rfl hd fun H' w1 w2 w3 => ?_
  rw [hsl] at w1 ⊢
  have hR1 : XR K (h.set a (.inr (ci, fs.set k v))) H' := hR.set he w2 ⟨_, hc, t_OB.to (V := updV (vp_V (fs.map (xv K))) k (xv K v)) ⟨_, w1, q2, q3, t_set q4 hap hk (xv K v)⟩ (fun j _ => by rw [vp_updV_set (by rw [List.length_map]; exact hkl) (xv K v) j, List.map_set])⟩ w3
  exact xgo kk e1 e2 C hn hz hR1 (hS.put w2 w3 (Nat.le_add_right _ _)) hL
theorem x_putfF {index ci k a : Nat} {fs : List Value} {v : Value} {ty : FieldType} (hd : decode M.2.1 pc = .ok (.putfield index, 3)) (hf : xFL M.1.cls index ci k) (ht : xFT ci k true ty) (hini : M.1.name = "<init>") (hcl : M.1.cls = (xcl.getD ci ("", xT_Ag, 0)).1) (hdc : ∀ (C : String) (T : u_T) (N : Nat), xcl[ci]? = some (C, T, N) → (T k).1 = C) (hw : xfit ty v) (he : h[a]? = some (.inr (ci, fs))) (hkl : k < fs.length) (hh : h.set a (.inr (ci, fs.set k v)) = h1) (kk : AW S M (pc + 3) ls st h1 r h') : AW S M pc ls (v :: .ref a :: st) h r h' := by
  subst hh
  obtain ⟨e1, e2⟩ := xsl (k := k) (v := v) he
  refine ⟨by rw [← e1, ← e2]; exact kk.1, fun l K p e s m args below meth c n0 z0 H locs L C hn hz hR hS hL => ?_⟩
  obtain ⟨C9, T, N, ty0, hc, hk, hl, ho⟩ := hf
  obtain ⟨C8, T8, N8, hc8, hfin, hdt⟩ := ht
  obtain ⟨rfl, rfl, rfl⟩ : C8 = C9 ∧ T8 = T ∧ N8 = N := by
    have q := Option.some.inj (hc8.symm.trans hc)
    exact ⟨congrArg (fun z => z.1) q, congrArg (fun z => z.2.1) q, congrArg (fun z => z.2.2) q⟩
  have hts := C.2.2.2.2.2.1
  have hK := C.2.2.2.2.2.2.2.2.1.1
  have hin := ho.1
  have hap := va_apart (own := M.1.cls) hts hin ty0 ho.2.1 ho.2.2 hK hc
  obtain ⟨r0, g1, cell, q1, q2, q3, q4⟩ := hR.2 a _ (xw_get he)
  have hr : r0 = (C8, T8, N8) := Option.some.inj (g1.symm.trans hc)
  subst hr
  obtain ⟨hSl, hfc, kC, hkC, hkind⟩ := hK.1 ci _ hc
  obtain ⟨cf, kf, fi, f, hi, hsl⟩ := hSl k hk
  have hlay := hts _ (hin _ (u_in_lay hk))
  unfold u_lay at hlay
  rw [if_pos hfin] at hlay
  have hst := (u_facts hfc hkC (u_lays hts hin hk) hi).1
  have hdecl : (T8 k).1 = M.1.cls := by
    rw [hdc C8 T8 N8 hc, hcl, List.getD_eq_getElem?_getD, hc]
    rfl
  have hcf : m.cls = cf := by
    obtain ⟨_, _, c', _, _, _, -, -, hf', -, -, -, hown2, -⟩ := Cond.laysFinal_spec hlay
    have e1 : c' = cf := by have := hi.symm.trans hf'; simp at this; exact this.1.symm
    rw [hdecl] at hown2
    rw [← e1]; exact Option.some.inj (C.2.2.2.2.1.symm.trans hown2)
  have h6 := u_fits hfc hkC hkind (Or.inr hlay) hi hdt (hw K).1 (hw K).2
  refine W.putFinK C.1 C.2.1 (f := f) (v := xv K v) (a := K.1 + a) C.2.2.2.2.1 (hts _ hl) hi hst hcf (C.2.2.2.2.2.2.2.1.trans hini) (by rw [q2]; exact h6) q1 q3 (by rw [hsl]; exact k2_hasslot (q4 k hk)) rfl rfl hd fun H' w1 w2 w3 => ?_
  rw [hsl] at w1 ⊢
  have hR1 : XR K (h.set a (.inr (ci, fs.set k v))) H' := hR.set he w2 ⟨_, hc, t_OB.to (V := updV (vp_V (fs.map (xv K))) k (xv K v)) ⟨_, w1, q2, q3, t_set q4 hap hk (xv K v)⟩ (fun j _ => by rw [vp_updV_set (by rw [List.length_map]; exact hkl) (xv K v) j, List.map_set])⟩ w3
  exact xgo kk e1 e2 C hn hz hR1 (hS.put w2 w3 (Nat.le_add_right _ _)) hL
/-- the arrays: a read, a store, the length -/
theorem x_iald {a n : Nat} {f : Nat → Int32} {i : Int32} (hd : decode M.2.1 pc = .ok (.iaload, 1)) (he : h[a]? = some (.inl (0, n, .inl f))) (hin : vp_in i n) (kk : AW S M (pc + 1) ls (.int (f i.toNatClampNeg) :: st) h r h') : AW S M pc ls (.int i :: .ref a :: st) h r h' :=
  ⟨kk.1, fun l K p e s m args below meth c n0 z0 H locs L C hn hz hR hS hL => va_iald (a := K.1 + a) C.1 C.2.1 C.2.2.2.2.2.2.2.2.1.1 hR.2 a 0 (xw_get he) rfl hin hd (kk.2 l K p e s m args below meth c n0 z0 H locs L C hn hz hR hS hL)⟩
theorem x_zald {a n : Nat} {f : Nat → Int32} {i : Int32} (hd : decode M.2.1 pc = .ok (.baload, 1)) (he : h[a]? = some (.inl (1, n, .inl f))) (hin : vp_in i n) (kk : AW S M (pc + 1) ls (.int (f i.toNatClampNeg) :: st) h r h') : AW S M pc ls (.int i :: .ref a :: st) h r h' :=
  ⟨kk.1, fun l K p e s m args below meth c n0 z0 H locs L C hn hz hR hS hL => va_zald (a := K.1 + a) C.1 C.2.1 C.2.2.2.2.2.2.2.2.1.1 hR.2 a 1 (xw_get he) rfl hin hd (kk.2 l K p e s m args below meth c n0 z0 H locs L C hn hz hR hS hL)⟩
theorem x_alen {a t n : Nat} {x : _} {v : Int32} (hd : decode M.2.1 pc = .ok (.arraylength, 1)) (he : h[a]? = some (.inl (t, n, x))) (ht : t < 5) (hv : Int32.ofNat n = v) (kk : AW S M (pc + 1) ls (.int v :: st) h r h') : AW S M pc ls (.ref a :: st) h r h' :=
  ⟨kk.1, fun l K p e s m args below meth c n0 z0 H locs L C hn hz hR hS hL => va_alen (a := K.1 + a) (ty := xkd t) C.1 C.2.1 C.2.2.2.2.2.2.2.2.1.1 hR.2 a t (xw_get he) (by match t, ht with | 0, _ => rfl | 1, _ => rfl | 2, _ => rfl | 3, _ => rfl | 4, _ => rfl) hv hd (kk.2 l K p e s m args below meth c n0 z0 H locs L C hn hz hR hS hL)⟩
/-- a reference out of an array of objects (3, 4) or of rows (2) -/
theorem x_aald {a t n : Nat} {f : Nat → Option Nat} {i : Int32} (hd : decode M.2.1 pc = .ok (.aaload, 1)) (he : h[a]? = some (.inl (t, n, .inr (.inr (.inr (.inr f)))))) (ht : 2 ≤ t ∧ t < 5) (hin : vp_in i n) (kk : AW S M (pc + 1) ls (va_rf (f i.toNatClampNeg) :: st) h r h') : AW S M pc ls (.int i :: .ref a :: st) h r h' := by
  refine ⟨kk.1, fun l K p e s m args below meth c n0 z0 H locs L C hn hz hR hS hL => ?_⟩
  have hlt : i.toNatClampNeg < n := Nat.not_le.mp fun q => hin (Or.inr q)
  have hty : (xtys K)[t]? = some (K.2.2.1 t, xkd t) := by
    obtain ⟨h1, h2⟩ := ht
    match t, h2 with
    | 2, _ => rfl
    | 3, _ => rfl
    | 4, _ => rfl
    | 0, _ => omega
    | 1, _ => omega
  have hrf : (xkd t).isReference = true := by
    obtain ⟨h1, h2⟩ := ht
    match t, h2 with
    | 2, _ => rfl
    | 3, _ => rfl
    | 4, _ => rfl
    | 0, _ => omega
    | 1, _ => omega
  have q := kk.2 l K p e s m args below meth c n0 z0 H locs L C hn hz hR hS hL
  have e1 : xv K (va_rf (f i.toNatClampNeg)) = va_rf (xf K (f i.toNatClampNeg)) := by cases f i.toNatClampNeg <;> rfl
  rw [List.map_cons, e1] at q
  exact W.aald (v := va_rf (xf K (f i.toNatClampNeg))) (ty := xkd t) C.1 C.2.1 (hR.2 a _ (xw_get he)) ((C.2.2.2.2.2.2.2.2.1.1.2 t _ hty).1 n (fun j => va_rf (xf K (f j)))) hrf (fun q => by cases q) (by show ¬ (i < 0 ∨ (arrV _ _ _).slots.size ≤ _); rw [arrV_size]; exact hin) (by show (arrV _ _ _).slots[_]? = _; rw [arrV_read _ _ hlt]) rfl rfl hd q
theorem xsa {h : XH} {a t n : Nat} {x y : _} (he : h[a]? = some (.inl (t, n, x))) : (h.set a (.inl (t, n, y))).length = h.length ∧ xsz (h.set a (.inl (t, n, y))) = xsz h := ⟨List.length_set, xsz_set he rfl⟩
theorem x_iast {a n : Nat} {f : Nat → Int32} {i x : Int32} (hd : decode M.2.1 pc = .ok (.iastore, 1)) (he : h[a]? = some (.inl (0, n, .inl f))) (hin : vp_in i n) (hh : h.set a (.inl (0, n, .inl (upd f i.toNatClampNeg x))) = h1) (kk : AW S M (pc + 1) ls st h1 r h') : AW S M pc ls (.int x :: .int i :: .ref a :: st) h r h' := by
  subst hh
  obtain ⟨e1, e2⟩ := xsa (y := .inl (upd f i.toNatClampNeg x)) he
  refine ⟨by rw [← e1, ← e2]; exact kk.1, fun l K p e s m args below meth c n0 z0 H locs L C hn hz hR hS hL => ?_⟩
  refine W.iast (a := K.1 + a) C.1 C.2.1 (hR.2 a _ (xw_get he)) ((C.2.2.2.2.2.2.2.2.1.1.2 0 _ rfl).1 n (fun j => .int (f j))) (fun q => by cases q) (by show ¬ (i < 0 ∨ (arrV _ _ _).slots.size ≤ _); rw [arrV_size]; exact hin) rfl rfl hd fun H1 w1 w2 w3 => ?_
  have hR1 : XR K (h.set a (.inl (0, n, .inl (upd f i.toNatClampNeg x)))) H1 := by
    refine hR.set he w2 ?_ w3
    show H1[K.1 + a]? = some (vp_cell (K.2.2.1 0) (n, .inl (upd f i.toNatClampNeg x)))
    rw [w1]
    show some ((vp_cell (K.2.2.1 0) (n, .inl f)).setSlot _ _) = _
    rw [vp_cell_i, vp_cell_i, arrV_store]
    congr 2
    funext q
    by_cases hq : q = i.toNatClampNeg
    · subst hq
      simp [updV, upd]
    · simp [updV, upd, hq]
  exact xgo kk e1 e2 C hn hz hR1 (hS.put w2 w3 (Nat.le_add_right _ _)) hL
theorem x_zast {a n : Nat} {f : Nat → Int32} {i x y : Int32} (hd : decode M.2.1 pc = .ok (.bastore, 1)) (he : h[a]? = some (.inl (1, n, .inl f))) (hin : vp_in i n) (hxy : vp_nar .boolean x = y) (hh : h.set a (.inl (1, n, .inl (upd f i.toNatClampNeg y))) = h1) (kk : AW S M (pc + 1) ls st h1 r h') : AW S M pc ls (.int x :: .int i :: .ref a :: st) h r h' := by
  subst hh
  subst hxy
  obtain ⟨e1, e2⟩ := xsa (y := .inl (upd f i.toNatClampNeg (vp_nar .boolean x))) he
  refine ⟨by rw [← e1, ← e2]; exact kk.1, fun l K p e s m args below meth c n0 z0 H locs L C hn hz hR hS hL => ?_⟩
  refine W.zast (a := K.1 + a) C.1 C.2.1 (hR.2 a _ (xw_get he)) ((C.2.2.2.2.2.2.2.2.1.1.2 1 _ rfl).1 n (fun j => .int (f j))) (fun q => by cases q) (by show ¬ (i < 0 ∨ (arrV _ _ _).slots.size ≤ _); rw [arrV_size]; exact hin) rfl rfl hd fun H1 w1 w2 w3 => ?_
  have hR1 : XR K (h.set a (.inl (1, n, .inl (upd f i.toNatClampNeg (vp_nar .boolean x))))) H1 := by
    refine hR.set he w2 ?_ w3
    show H1[K.1 + a]? = some (vp_cell (K.2.2.1 1) (n, .inl (upd f i.toNatClampNeg (vp_nar .boolean x))))
    rw [w1]
    show some ((vp_cell (K.2.2.1 1) (n, .inl f)).setSlot _ _) = _
    rw [vp_cell_i, vp_cell_i, arrV_store]
    congr 2
    funext q
    by_cases hq : q = i.toNatClampNeg
    · subst hq
      simp [updV, upd, vp_nar]
      try rfl
    · simp [updV, upd, hq]
  exact xgo kk e1 e2 C hn hz hR1 (hS.put w2 w3 (Nat.le_add_right _ _)) hL
/-- the script -/
theorem x_sald {i : Int32} (hd : decode M.2.1 pc = .ok (.iaload, 1)) (hin : vp_in i S.1) (kk : AW S M (pc + 1) ls (.int (S.2 i.toNatClampNeg) :: st) h r h') : AW S M pc ls (.int i :: .retAddr 99 :: st) h r h' :=
  ⟨kk.1, fun l K p e s m args below meth c n0 z0 H locs L C hn hz hR hS hL => va_sld (b := K.2.2.2 99) C.1 C.2.1 C.2.2.2.2.2.2.2.2.1.2.2.2.2.2.2.1 (Nat.lt_of_lt_of_le C.2.2.2.2.2.2.2.2.1.2.2.2.2.2.2.2 C.2.2.2.2.2.2.2.2.2) (Nat.not_le.mpr C.2.2.2.2.2.2.2.2.1.2.2.2.2.2.2.2) hS hin hd (kk.2 l K p e s m args below meth c n0 z0 H locs L C hn hz hR hS hL)⟩
theorem x_slen (hd : decode M.2.1 pc = .ok (.arraylength, 1)) (kk : AW S M (pc + 1) ls (.int (Int32.ofNat S.1) :: st) h r h') : AW S M pc ls (.retAddr 99 :: st) h r h' :=
  ⟨kk.1, fun l K p e s m args below meth c n0 z0 H locs L C hn hz hR hS hL => va_slen (b := K.2.2.2 99) C.1 C.2.1 C.2.2.2.2.2.2.2.2.1.2.2.2.2.2.2.1 (Nat.lt_of_lt_of_le C.2.2.2.2.2.2.2.2.1.2.2.2.2.2.2.2 C.2.2.2.2.2.2.2.2.2) (Nat.not_le.mpr C.2.2.2.2.2.2.2.2.1.2.2.2.2.2.2.2) hS hd (kk.2 l K p e s m args below meth c n0 z0 H locs L C hn hz hR hS hL)⟩
end XHR
end
section
/-! CALLS, AND A METHOD'S CONTRACT OUT OF ITS WALK. -/
theorem xP_blind {K : XK} {S : XS} {as : List Value} {h : XH} : FrameBlind (xP K S as h) := fun a U g mk q => ⟨q.1, q.2.1, xE.same (s := U) (U := U.calling g mk a) rfl rfl q.2.2.1, q.2.2.2⟩
section XCR
variable {S : XS} {M : XM} {pc : Nat} {ls : List (Option Value)} {st : List Value} {h h1 : XH} {r rv : Option Value} {h' : XH}
theorem xP_at {l : Launch} {K : XK} {p : Program} {s : State} {m : MethodId} {args : Array Value} {meth : Method} {c : Code} {H : Heap} {locs : List Loc} {as : List Value} (C : xC K S M p s m args meth c) (hR : XR K h H) (hS : va_S (fun q => K.1 ≤ q) s.heap H locs) :
    ∀ U : State, U.heap = H → s.WarmedH U.vm → xP K S as h (as.map (xv K)).toArray U := fun U hU hW =>
  ⟨rfl, by rw [hU]; exact hR, C.2.2.2.2.2.2.2.2.1.to hW (fun q q1 q2 => by rw [hU]; exact hS.2.1 q q1 q2), by rw [hU, hR.1]; exact Nat.le_add_right _ _⟩
theorem xrun {l : Launch} {K : XK} {p : Program} {e : Env} {s : State} {m : MethodId} {args a : Array Value} {below : List Frame} {meth : Method} {c : Code} {n0 z0 : Nat} {H : Heap} {locs : List Loc} {L : Array Slot} {st0 : List Value}
    (C : xC K S M p s m args meth c) (hn : n0 ≤ h.length) (hz : z0 ≤ xsz h) (hl1 : h.length ≤ h1.length ∧ xsz h ≤ xsz h1) (hS : va_S (fun q => K.1 ≤ q) s.heap H locs) (hL : lvX K L M.2.2.1 ls)
    (hrun : va_Run p l e (xrm M (h'.length - n0) (xsz h' - z0)) s m args below meth c H locs (h.length - n0) (xsz h - z0) (h1.length - h.length) (xsz h1 - xsz h) (F0 m pc L st0) (st.map (xv K)) (xQ K rv h1 a) (fun q => K.1 ≤ q))
    (kk : AW S M (pc + 3) ls (rv.toList ++ st) h1 r h') :
    W p l e (xrm M (h'.length - n0) (xsz h' - z0)) s m args below meth c H locs (h.length - n0) (xsz h - z0) (MQ below (xQ K r h') args s (h'.length - n0) (xsz h' - z0) (fun q => K.1 ≤ q)) (F0 m pc L st0) := by
  intro T hT X
  obtain ⟨v, s0, t, T', L9, g0, X', hL9, e1, e2, ⟨hv, hR1, hF⟩, go⟩ := hrun T hT X
  have hv : v = rv.map (xv K) := by injection hv
  subst hv
  rw [show h.length - n0 + (h1.length - h.length) = h1.length - n0 by omega, show xsz h - z0 + (xsz h1 - xsz h) = xsz h1 - z0 by omega] at X'
  have hS1 : va_S (fun q => K.1 ≤ q) s.heap T'.heap (locs ++ L9) := by
    refine ⟨?_, fun q q1 q2 => ?_, fun q hq => ?_⟩
    · rw [e1]; exact Nat.le_trans hS.1 (by rw [← g0]; exact hF.1)
    · rw [e1, hF.2 q (by rw [g0]; exact Nat.lt_of_lt_of_le q1 hS.1) q2, g0]; exact hS.2.1 q q1 q2
    · rcases List.mem_append.mp hq with h9 | h9
      · exact hS.2.2 q h9
      · exact hL9 q h9
  obtain ⟨t2, a1, b1⟩ := kk.2 l K p e s m args below meth c n0 z0 T'.heap (locs ++ L9) L C (by omega) (by omega) (by rw [e1]; exact hR1) hS1 hL T' rfl X'
  refine ⟨t2, go t2 ?_, b1⟩
  have hstk : (rv.map (xv K)).toList ++ st.map (xv K) = (rv.toList ++ st).map (xv K) := by cases rv <;> simp
  rw [hstk]
  exact a1
/-- what the tables say of a call -/
def xLk (M Mc : XM) (n : Nat) : Prop := Cond.initialized Mc.1.cls ∈ gtbl ∧ Cond.code Mc.1 Mc.2.1 Mc.2.2.1 Mc.2.2.2.1 ∈ gtbl ∧ (Mc.1.cls ≠ "java/lang/invoke/MethodHandle" ∧ Mc.1.cls ≠ "java/lang/invoke/VarHandle" ∧ (parseMethodDescriptor Mc.1.desc).map (fun d => d.parameters.length) = some n) ∧ (Mc.2.2.2.2.1 + 1 ≤ M.2.2.2.2.1 ∧ 8 + (Mc.2.2.1 + 11) + Mc.2.2.2.2.2 ≤ M.2.2.2.2.2)
def xLV (M Mc : XM) (index ci n : Nat) : Prop := xLk M Mc n ∧ Cond.methodLink M.1.cls index Mc.1 ∈ gtbl ∧ Cond.instanceMethod Mc.1 ∈ gtbl ∧ Cond.selects Mc.1.cls Mc.1 Mc.1 ∈ gtbl ∧ ∃ (T : u_T) (N : Nat), xcl[ci]? = some (Mc.1.cls, T, N)
def xLS (M Mc : XM) (index n : Nat) : Prop := xLk M Mc n ∧ Cond.methodLink M.1.cls index Mc.1 ∈ gtbl ∧ Cond.static Mc.1 ∈ gtbl
def xLSN (M Mc : XM) (index n : Nat) : Prop := xLk M Mc n ∧ (∃ host, Cond.methodLinkNest M.1.cls index Mc.1 host ∈ tables_1) ∧ Cond.static Mc.1 ∈ gtbl
def xLI (M Mc : XM) (index n : Nat) : Prop := xLk M Mc n ∧ Cond.methodLink M.1.cls index Mc.1 ∈ gtbl ∧ Cond.instanceMethod Mc.1 ∈ gtbl ∧ Mc.1.name = "<init>" ∧ Mc.2.2.2.1 = none
def xLIN (M Mc : XM) (index n : Nat) : Prop := xLk M Mc n ∧ (∃ host, Cond.methodLinkNest M.1.cls index Mc.1 host ∈ tables_1) ∧ Cond.instanceMethod Mc.1 ∈ gtbl ∧ Mc.1.name = "<init>" ∧ Mc.2.2.2.1 = none
theorem xGW {Mc : XM} (h : Cond.code Mc.1 Mc.2.1 Mc.2.2.1 Mc.2.2.2.1 ∈ gtbl) : GoodIn gtbl (xws Mc) := fun w hw => by
  rcases List.mem_cons.mp hw with rfl | q
  · exact gt_good _ h
  · exact gt_good _ q
theorem x_callV {index ci b n : Nat} {fs : List Value} {Mc : XM} {As stk : List Value} (hd : decode M.2.1 pc = .ok (.invokevirtual index, 3)) (hl : xLV M Mc index ci n) (he : h[b]? = some (.inr (ci, fs))) (hn9 : As.length = n) (hs9 : stk = As.reverse ++ .ref b :: st) (hst : (st.map fun v => v.category).sum ≤ 8) (hM : AM S Mc (.ref b :: As) h rv h1) (kk : AW S M (pc + 3) ls (rv.toList ++ st) h1 r h') : AW S M pc ls stk h r h' := by
  subst hs9
  refine ⟨⟨Nat.le_trans hM.1.1 kk.1.1, Nat.le_trans hM.1.2 kk.1.2⟩, fun l K p e s m args below meth c n0 z0 H locs L C hn hz hR hS hL => ?_⟩
  obtain ⟨⟨l1, l2, l3, l4⟩, l5, l6, l7, T, N, l8⟩ := hl
  have hts := C.2.2.2.2.2.1
  have k1 := kk.1
  have m1 := hM.1
  refine xrun C hn hz hM.1 hS hL (va_runV (As := As.map (xv K)) (rest := st.map (xv K)) (b := K.1 + b) (C := Mc.1.cls) ⟨C.1, C.2.1, C.2.2.2.1, C.2.2.2.2.1, hts⟩ (hM.2 l K) ⟨callB_of n hts (xGW l2) rfl rfl rfl (hts _ l1) (hts _ l5) l3 l4, hts _ l6, hts _ l7⟩ ⟨xP_blind, va_recv (ci := ci) (q0 := b) C.2.2.2.2.2.2.2.2.1.1 hR.2 l8 (xw_get he), xP_at (l := l) (as := .ref b :: As) C hR hS⟩ rfl (by rw [List.length_map]; exact hn9) hL.1 ?_ (lv_room (by rw [xv_cats]; exact hst)) hd ⟨?_, ?_⟩) kk
  · show List.map (xv K) (As.reverse ++ .ref b :: st) = _
    rw [List.map_append, List.map_reverse]
    rfl
  · show h.length - n0 + (h1.length - h.length) ≤ h'.length - n0
    omega
  · show xsz h - z0 + (xsz h1 - xsz h) ≤ xsz h' - z0
    omega
theorem x_callS {index n : Nat} {Mc : XM} {As stk : List Value} (hd : decode M.2.1 pc = .ok (.invokestatic index, 3)) (hl : xLS M Mc index n) (hn9 : As.length = n) (hs9 : stk = As.reverse ++ st) (hst : (st.map fun v => v.category).sum ≤ 8) (hM : AM S Mc As h rv h1) (kk : AW S M (pc + 3) ls (rv.toList ++ st) h1 r h') : AW S M pc ls stk h r h' := by
  subst hs9
  refine ⟨⟨Nat.le_trans hM.1.1 kk.1.1, Nat.le_trans hM.1.2 kk.1.2⟩, fun l K p e s m args below meth c n0 z0 H locs L C hn hz hR hS hL => ?_⟩
  obtain ⟨⟨l1, l2, l3, l4⟩, l5, l6⟩ := hl
  have hts := C.2.2.2.2.2.1
  have k1 := kk.1
  have m1 := hM.1
  refine xrun C hn hz hM.1 hS hL (va_runS (As := As.map (xv K)) (rest := st.map (xv K)) ⟨C.1, C.2.1, C.2.2.2.1, C.2.2.2.2.1, hts⟩ (hM.2 l K) ⟨callB_of n hts (xGW l2) rfl rfl rfl (hts _ l1) (hts _ l5) l3 l4, hts _ l6⟩ ⟨xP_blind, xP_at (l := l) (as := As) C hR hS⟩ rfl (by rw [List.length_map]; exact hn9) hL.1 ?_ (lv_room (by rw [xv_cats]; exact hst)) hd ⟨?_, ?_⟩) kk
  · show List.map (xv K) (As.reverse ++ st) = _
    rw [List.map_append, List.map_reverse]
  · show h.length - n0 + (h1.length - h.length) ≤ h'.length - n0
    omega
  · show xsz h - z0 + (xsz h1 - xsz h) ≤ xsz h' - z0
    omega
theorem x_callSN {index n : Nat} {Mc : XM} {As stk : List Value} (hd : decode M.2.1 pc = .ok (.invokestatic index, 3)) (hl : xLSN M Mc index n) (hn9 : As.length = n) (hs9 : stk = As.reverse ++ st) (hst : (st.map fun v => v.category).sum ≤ 8) (hM : AM S Mc As h rv h1) (kk : AW S M (pc + 3) ls (rv.toList ++ st) h1 r h') : AW S M pc ls stk h r h' := by
  subst hs9
  refine ⟨⟨Nat.le_trans hM.1.1 kk.1.1, Nat.le_trans hM.1.2 kk.1.2⟩, fun l K p e s m args below meth c n0 z0 H locs L C hn hz hR hS hL => ?_⟩
  obtain ⟨⟨l1, l2, l3, l4⟩, ⟨host, l5⟩, l6⟩ := hl
  have hts := C.2.2.2.2.2.1
  have k1 := kk.1
  have m1 := hM.1
  refine xrun C hn hz hM.1 hS hL (va_runSN (As := As.map (xv K)) (rest := st.map (xv K)) ⟨C.1, C.2.1, C.2.2.2.1, C.2.2.2.2.1, hts⟩ (hM.2 l K) ⟨va_cnB n hts (xGW l2) rfl rfl rfl (C.2.2.2.2.2.2.2.2.1.2.1 _ l5 rfl) (hts _ l1) l3 l4, hts _ l6, trivial⟩ ⟨xP_blind, xP_at (l := l) (as := As) C hR hS⟩ rfl (by rw [List.length_map]; exact hn9) hL.1 ?_ (lv_room (by rw [xv_cats]; exact hst)) hd ⟨?_, ?_⟩) kk
  · show List.map (xv K) (As.reverse ++ st) = _
    rw [List.map_append, List.map_reverse]
  · show h.length - n0 + (h1.length - h.length) ≤ h'.length - n0
    omega
  · show xsz h - z0 + (xsz h1 - xsz h) ≤ xsz h' - z0
    omega
theorem x_callI {index b n : Nat} {Mc : XM} {As stk : List Value} (hd : decode M.2.1 pc = .ok (.invokespecial index, 3)) (hl : xLI M Mc index n) (hn9 : As.length = n) (hs9 : stk = As.reverse ++ .ref b :: st) (hst : (st.map fun v => v.category).sum ≤ 8) (hM : AM S Mc (.ref b :: As) h rv h1) (kk : AW S M (pc + 3) ls (rv.toList ++ st) h1 r h') : AW S M pc ls stk h r h' := by
  subst hs9
  refine ⟨⟨Nat.le_trans hM.1.1 kk.1.1, Nat.le_trans hM.1.2 kk.1.2⟩, fun l K p e s m args below meth c n0 z0 H locs L C hn hz hR hS hL => ?_⟩
  obtain ⟨⟨l1, l2, l3, l4⟩, l5, l6, l7, l8⟩ := hl
  have hts := C.2.2.2.2.2.1
  have k1 := kk.1
  have m1 := hM.1
  refine xrun C hn hz hM.1 hS hL (va_runI (As := As.map (xv K)) (rest := st.map (xv K)) (b := K.1 + b) ⟨C.1, C.2.1, C.2.2.2.1, C.2.2.2.2.1, hts⟩ (hM.2 l K) ⟨callB_of n hts (xGW l2) (by rw [← l8]) rfl rfl (hts _ l1) (hts _ l5) l3 l4, l7, hts _ l6⟩ ⟨xP_blind, xP_at (l := l) (as := .ref b :: As) C hR hS⟩ rfl (by rw [List.length_map]; exact hn9) hL.1 ?_ (lv_room (by rw [xv_cats]; exact hst)) hd ⟨?_, ?_⟩) kk
  · show List.map (xv K) (As.reverse ++ .ref b :: st) = _
    rw [List.map_append, List.map_reverse]
    rfl
  · show h.length - n0 + (h1.length - h.length) ≤ h'.length - n0
    omega
  · show xsz h - z0 + (xsz h1 - xsz h) ≤ xsz h' - z0
    omega
theorem x_callIN {index b n : Nat} {Mc : XM} {As stk : List Value} (hd : decode M.2.1 pc = .ok (.invokespecial index, 3)) (hl : xLIN M Mc index n) (hn9 : As.length = n) (hs9 : stk = As.reverse ++ .ref b :: st) (hst : (st.map fun v => v.category).sum ≤ 8) (hM : AM S Mc (.ref b :: As) h rv h1) (kk : AW S M (pc + 3) ls (rv.toList ++ st) h1 r h') : AW S M pc ls stk h r h' := by
  subst hs9
  refine ⟨⟨Nat.le_trans hM.1.1 kk.1.1, Nat.le_trans hM.1.2 kk.1.2⟩, fun l K p e s m args below meth c n0 z0 H locs L C hn hz hR hS hL => ?_⟩
  obtain ⟨⟨l1, l2, l3, l4⟩, ⟨host, l5⟩, l6, l7, l8⟩ := hl
  have hts := C.2.2.2.2.2.1
  have k1 := kk.1
  have m1 := hM.1
  refine xrun C hn hz hM.1 hS hL (va_runIN (As := As.map (xv K)) (rest := st.map (xv K)) (b := K.1 + b) ⟨C.1, C.2.1, C.2.2.2.1, C.2.2.2.2.1, hts⟩ (hM.2 l K) ⟨va_cnB n hts (xGW l2) (by rw [← l8]) rfl rfl (C.2.2.2.2.2.2.2.2.1.2.1 _ l5 rfl) (hts _ l1) l3 l4, l7, hts _ l6⟩ ⟨xP_blind, xP_at (l := l) (as := .ref b :: As) C hR hS⟩ rfl (by rw [List.length_map]; exact hn9) hL.1 ?_ (lv_room (by rw [xv_cats]; exact hst)) hd ⟨?_, ?_⟩) kk
  · show List.map (xv K) (As.reverse ++ .ref b :: st) = _
    rw [List.map_append, List.map_reverse]
    rfl
  · show h.length - n0 + (h1.length - h.length) ≤ h'.length - n0
    omega
  · show xsz h - z0 + (xsz h1 - xsz h) ≤ xsz h' - z0
    omega
/-- Object.<init> -/
theorem x_oinit {index a : Nat} (hd : decode M.2.1 pc = .ok (.invokespecial index, 3)) (hl : Cond.methodLink M.1.cls index Lib.objectInit ∈ gtbl ∧ Cond.instanceMethod Lib.objectInit ∈ gtbl ∧ Cond.code Lib.objectInit ⟨#[0xb1]⟩ 1 none ∈ gtbl) (hst : (st.map fun v => v.category).sum ≤ 8) (hrm : 1 ≤ M.2.2.2.2.1 ∧ 20 ≤ M.2.2.2.2.2) (kk : AW S M (pc + 3) ls st h r h') : AW S M pc ls (.ref a :: st) h r h' := by
  refine ⟨kk.1, fun l K p e s m args below meth c n0 z0 H locs L C hn hz hR hS hL => ?_⟩
  have hts := C.2.2.2.2.2.1
  refine W.objInit (a := K.1 + a) (rest := st.map (xv K)) C.1 C.2.1 C.2.2.2.2.1 (hts _ hl.1) (hts _ hl.2.1) (hts _ hl.2.2) rfl (hL.1.trans C.2.2.2.1.symm) rfl hd hrm.1 ?_ (kk.2 l K p e s m args below meth c n0 z0 H locs L C hn hz hR hS hL)
  show 2 * 0 + ((st.map (xv K)).map fun v => v.category).sum + 12 ≤ M.2.2.2.2.2
  rw [xv_cats]
  omega
/-- a method's locals at its entry -/
def xin (nL : Nat) (as : List Value) : List (Option Value) := (as.flatMap (fun v => if v.category = 2 then [some v, none] else [some v])) ++ List.replicate (nL - (as.map fun v => v.category).sum) none
theorem xin_args (K : XK) : ∀ (as : List Value) (o : Nat) (i : Nat) (v : Value), (as.flatMap (fun v => if v.category = 2 then [some v, none] else [some v]))[i]? = some (some v) → (o + i, xv K v) ∈ lv_args o (as.map (xv K)) := by
  intro as
  induction as with
  | nil => intro o i v h; simp at h
  | cons a as ih =>
    intro o i v h
    rw [List.flatMap_cons] at h
    rw [List.map_cons, lv_args, xv_cat]
    by_cases hc : a.category = 2
    · rw [if_pos hc] at h ⊢
      match i, h with
      | 0, h =>
        have h : some (some a) = some (some v) := h
        cases h
        exact List.mem_cons_self
      | 1, h =>
        have h : some (none : Option Value) = some (some v) := h
        cases h
      | i + 2, h =>
        have := ih (o + 2) i v h
        rw [show o + 2 + i = o + (i + 2) by omega] at this
        exact List.mem_cons_of_mem _ this
    · rw [if_neg hc] at h ⊢
      match i, h with
      | 0, h =>
        have h : some (some a) = some (some v) := h
        cases h
        exact List.mem_cons_self
      | i + 1, h =>
        have := ih (o + 1) i v h
        rw [show o + 1 + i = o + (i + 1) by omega] at this
        exact List.mem_cons_of_mem _ this
theorem xin_len (K : XK) (as : List Value) : (lg_sl (as.map (xv K))).length = (as.map fun v => v.category).sum := by
  induction as with
  | nil => rfl
  | cons a as ih =>
    have hc := lv_cat a
    have e : lg_sl ((a :: as).map (xv K)) = lg_sl [xv K a] ++ lg_sl (as.map (xv K)) := by simp [lg_sl]
    rw [e, List.length_append, ih, List.map_cons, List.sum_cons]
    congr 1
    rcases hc with h | h
    · simp [lg_sl, xv_cat, h]
    · simp [lg_sl, xv_cat, h]
/-- THE CONTRACT -/
theorem x_meth {as : List Value} {ls : List (Option Value)} (hy : plainName M.1.cls = true) (hcat : (as.map fun v => v.category).sum ≤ M.2.2.1) (hls : xin M.2.2.1 as = ls) (k : AW S M 0 ls [] h r h') : AM S M as h r h' := by
  subst hls
  refine ⟨k.1, fun l K => ?_⟩
  refine Met.ofW (cc := M.2.1) (maxL := M.2.2.1) (ret := M.2.2.2.1) hy rfl ?_
  intro p e s m args below meth c s1 B hml hv
  obtain ⟨rfl, hR, hE, hsz⟩ := hv
  have hts := atoms_spec (ws := xws M) B.pre
  have hC : xC K S M p s m ((as.map (xv K)).toArray) meth c := ⟨B.exec, B.bytes, B.returns, hml, findClass_of_methodNamed B.named, fun w hw => hts w (List.mem_cons_of_mem _ hw), B.notSynchronized, (name_of_methodNamed B.named B.method).1, hE, hsz⟩
  have hle : (lg_sl (as.map (xv K))).length ≤ M.2.2.1 := by rw [xin_len]; exact hcat
  have hl := lv_entry (as.map (xv K)) (n := M.2.2.1) hle
  rw [lg_entry_eq]
  generalize (lg_sl (as.map (xv K)) ++ List.replicate (M.2.2.1 - (lg_sl (as.map (xv K))).length) Slot.unset).toArray = L at hl ⊢
  have hL : lvX K L M.2.2.1 (xin M.2.2.1 as) := by
    refine ⟨hl.1, hl.2.1, fun i v hi => ?_⟩
    refine hl.2.2 (i, xv K v) ?_
    unfold xin at hi
    by_cases hlt : i < (as.flatMap (fun v => if v.category = 2 then [some v, none] else [some v])).length
    · rw [List.getElem?_append_left hlt] at hi
      have := xin_args K as 0 i v hi
      rw [Nat.zero_add] at this
      exact this
    · rw [List.getElem?_append_right (by omega)] at hi
      have := List.eq_of_mem_replicate (List.mem_of_getElem? hi)
      cases this
  have q := k.2 l K p e s m ((as.map (xv K)).toArray) below meth c h.length (xsz h) s.heap [] L hC (Nat.le_refl _) (Nat.le_refl _) hR va_S.rf hL
  rw [Nat.sub_self, Nat.sub_self] at q
  exact q
end XCR
end
section
/-! THE STATE OF CLASS AND REFERENCE, AND ITS CELLS. -/
abbrev SX : Type := (Nat → Int32) × (Nat → Nat → Int32) × (Nat → Nat → Nat → Int32) × Int64 × Option Nat × (Nat → Option Nat) × (Nat → Option Nat) × Nat × Nat × (Nat → va_E) × Nat
abbrev SY : Type := (Nat → Int32) × (Nat → Nat → Int32) × Int64
abbrev St : Type := SX × SY
/-- the class: its numbers, its arrays, its arrays of arrays, the money, the row that is weighed, the two arrays of objects, the two drafts, the objects made, how many came behind the start -/
def gX (σ : St) (k : Nat) : Int32 := σ.1.1 k
def gA (σ : St) (k : Nat) : Nat → Int32 := σ.1.2.1 k
def gB (σ : St) (k i : Nat) : Nat → Int32 := σ.1.2.2.1 k i
def gP (σ : St) : Int64 := σ.1.2.2.2.1
def gN (σ : St) : Option Nat := σ.1.2.2.2.2.1
def gF (σ : St) : Nat → Option Nat := σ.1.2.2.2.2.2.1
def gG (σ : St) : Nat → Option Nat := σ.1.2.2.2.2.2.2.1
def gf (σ : St) : Nat := σ.1.2.2.2.2.2.2.2.1
def gg (σ : St) : Nat := σ.1.2.2.2.2.2.2.2.2.1
def gD (σ : St) : Nat → va_E := σ.1.2.2.2.2.2.2.2.2.2.1
def gn (σ : St) : Nat := σ.1.2.2.2.2.2.2.2.2.2.2
/-- the reference: its numbers, its arrays, its purse -/
def gY (σ : St) (k : Nat) : Int32 := σ.2.1 k
def gC (σ : St) (k : Nat) : Nat → Int32 := σ.2.2.1 k
def gQ (σ : St) : Int64 := σ.2.2.2
def sX (σ : St) (k : Nat) (v : Int32) : St := ((va_up σ.1.1 k v, σ.1.2), σ.2)
def sA (σ : St) (k : Nat) (f : Nat → Int32) : St := ((σ.1.1, va_up σ.1.2.1 k f, σ.1.2.2), σ.2)
def sB (σ : St) (k i : Nat) (f : Nat → Int32) : St := ((σ.1.1, σ.1.2.1, va_up σ.1.2.2.1 k (va_up (σ.1.2.2.1 k) i f), σ.1.2.2.2), σ.2)
def sP (σ : St) (v : Int64) : St := ((σ.1.1, σ.1.2.1, σ.1.2.2.1, v, σ.1.2.2.2.2), σ.2)
def sN (σ : St) (v : Option Nat) : St := ((σ.1.1, σ.1.2.1, σ.1.2.2.1, σ.1.2.2.2.1, v, σ.1.2.2.2.2.2), σ.2)
def sF (σ : St) (v : Nat → Option Nat) : St := ((σ.1.1, σ.1.2.1, σ.1.2.2.1, σ.1.2.2.2.1, σ.1.2.2.2.2.1, v, σ.1.2.2.2.2.2.2), σ.2)
def sG (σ : St) (v : Nat → Option Nat) : St := ((σ.1.1, σ.1.2.1, σ.1.2.2.1, σ.1.2.2.2.1, σ.1.2.2.2.2.1, σ.1.2.2.2.2.2.1, v, σ.1.2.2.2.2.2.2.2), σ.2)
def sf (σ : St) (v : Nat) : St := ((σ.1.1, σ.1.2.1, σ.1.2.2.1, σ.1.2.2.2.1, σ.1.2.2.2.2.1, σ.1.2.2.2.2.2.1, σ.1.2.2.2.2.2.2.1, v, σ.1.2.2.2.2.2.2.2.2), σ.2)
def sg (σ : St) (v : Nat) : St := ((σ.1.1, σ.1.2.1, σ.1.2.2.1, σ.1.2.2.2.1, σ.1.2.2.2.2.1, σ.1.2.2.2.2.2.1, σ.1.2.2.2.2.2.2.1, σ.1.2.2.2.2.2.2.2.1, v, σ.1.2.2.2.2.2.2.2.2.2), σ.2)
def sD (σ : St) (q : Nat) (c : va_E) : St := ((σ.1.1, σ.1.2.1, σ.1.2.2.1, σ.1.2.2.2.1, σ.1.2.2.2.2.1, σ.1.2.2.2.2.2.1, σ.1.2.2.2.2.2.2.1, σ.1.2.2.2.2.2.2.2.1, σ.1.2.2.2.2.2.2.2.2.1, va_up σ.1.2.2.2.2.2.2.2.2.2.1 q c, σ.1.2.2.2.2.2.2.2.2.2.2), σ.2)
/-- one cell more -/
def sM (σ : St) (c : va_E) : St := ((σ.1.1, σ.1.2.1, σ.1.2.2.1, σ.1.2.2.2.1, σ.1.2.2.2.2.1, σ.1.2.2.2.2.2.1, σ.1.2.2.2.2.2.2.1, σ.1.2.2.2.2.2.2.2.1, σ.1.2.2.2.2.2.2.2.2.1, va_up σ.1.2.2.2.2.2.2.2.2.2.1 (185 + gn σ) c, gn σ + 1), σ.2)
def sY (σ : St) (k : Nat) (v : Int32) : St := (σ.1, (va_up σ.2.1 k v, σ.2.2))
def sC (σ : St) (k : Nat) (f : Nat → Int32) : St := (σ.1, (σ.2.1, va_up σ.2.2.1 k f, σ.2.2.2))
def sQ (σ : St) (v : Int64) : St := (σ.1, (σ.2.1, σ.2.2.1, v))
/-- a row of an array of arrays; which row a reference is -/
def xri (n b : Nat) : Nat → Option Nat := fun i => if i < n then some (b + i) else none
def xrw (b : Nat) (r : Option Nat) : Option Nat := r.map (fun p => b + p)
def en0 (σ : St) : XH := [.inr (11, [.ref 1, .ref 3, .ref 82, .ref 131, .ref 134, .ref 139, .ref 144, .ref 150]), .inr (10, [.ref 2, .int (gX σ 0), .int (gX σ 1), .int (gX σ 2), .int (gX σ 3)]), .inl (0, 200, .inl (gA σ 0)), .inr (6, [.ref 4, .ref 5, .ref 6, .ref 27, .ref 48, .ref 49, .int (gX σ 4), .int (gX σ 5), .int (gX σ 6), .int (gX σ 7), .int (gX σ 8)]), .inl (0, 20, .inl (gA σ 1)), .inl (0, 20, .inl (gA σ 2)), .inl (2, 20, .inr (.inr (.inr (.inr (xri 20 7)))))]
def en1 (σ : St) : XH := (List.range 20).map (fun i => (.inl (0, 30, .inl (gB σ 0 i)) : va_E))
def en2 (σ : St) : XH := [.inl (2, 20, .inr (.inr (.inr (.inr (xri 20 28)))))]
def en3 (σ : St) : XH := (List.range 20).map (fun i => (.inl (0, 31, .inl (gB σ 1 i)) : va_E))
def en4 (σ : St) : XH := [.inl (1, 20, .inl (gA σ 3)), .inr (2, [.ref 50, va_rf (xrw 7 (gN σ)), .int (gX σ 9), .int (gX σ 10)]), .inl (2, 31, .inr (.inr (.inr (.inr (xri 31 51)))))]
def en5 (σ : St) : XH := (List.range 31).map (fun i => (.inl (0, 31, .inl (gB σ 2 i)) : va_E))
def en6 (σ : St) : XH := [.inr (8, [.ref 83, .ref 105, .ref 106, .ref 107, .ref 128, .ref 129, .ref 130, .int (gX σ 11), .int (gX σ 12)]), .inl (2, 21, .inr (.inr (.inr (.inr (xri 21 84)))))]
def en7 (σ : St) : XH := (List.range 21).map (fun i => (.inl (0, 121, .inl (gB σ 3 i)) : va_E))
def en8 (σ : St) : XH := [.inl (0, 21, .inl (gA σ 4)), .inl (0, 121, .inl (gA σ 5)), .inl (2, 20, .inr (.inr (.inr (.inr (xri 20 108)))))]
def en9 (σ : St) : XH := (List.range 20).map (fun i => (.inl (0, 4, .inl (gB σ 4 i)) : va_E))
def en10 (σ : St) : XH := [.inl (0, 120, .inl (gA σ 6)), .inl (0, 120, .inl (gA σ 7)), .inl (0, 120, .inl (gA σ 8)), .inr (7, [.ref 132, .ref 133, .int (gX σ 13), .int (gX σ 14)]), .inl (0, 24, .inl (gA σ 9)), .inl (0, 24, .inl (gA σ 10)), .inr (4, [.ref 135, .ref 136, .ref 137, .ref (gf σ), .int (gX σ 15), .int (gX σ 16)]), .inl (3, 60, .inr (.inr (.inr (.inr (gF σ))))), .inl (0, 1770, .inl (gA σ 11)), .inl (0, 1770, .inl (gA σ 12)), gD σ 138, .inr (1, [.ref 140, .ref (gg σ), .int (gX σ 17)]), .inl (4, 12, .inr (.inr (.inr (.inr (gG σ))))), gD σ 141, gD σ 142, gD σ 143, .inr (9, [.ref 145, .ref 146, .ref 147, .ref 148, .ref 149, .int (gX σ 18), .int (gX σ 19), .int (gX σ 20), .int (gX σ 21), .long (gP σ)]), .inl (0, 96, .inl (gA σ 13)), .inl (0, 96, .inl (gA σ 14)), .inl (0, 96, .inl (gA σ 15)), .inl (0, 96, .inl (gA σ 16)), .inl (1, 96, .inl (gA σ 17)), .inr (5, [.ref 151, .ref 152, .int (gX σ 22)]), .inl (0, 8, .inl (gA σ 18)), .inl (0, 8, .inl (gA σ 19)), .inr (12, [.ref 154, .int (gY σ 0), .int (gY σ 1), .ref 155, .ref 156, .ref 157, .int (gY σ 2), .int (gY σ 3), .int (gY σ 4), .int (gY σ 5), .ref 158, .ref 159, .ref 160, .int (gY σ 6), .ref 161, .ref 162, .ref 163, .ref 164, .ref 165, .ref 166, .ref 167, .int (gY σ 7), .int (gY σ 8), .int (gY σ 9), .int (gY σ 10), .int (gY σ 11), .ref 168, .ref 169, .ref 170, .ref 171, .ref 172, .ref 173, .ref 174, .ref 175, .ref 176, .int (gY σ 12), .int (gY σ 13), .ref 177, .ref 178, .ref 179, .ref 180, .int (gY σ 14), .ref 181, .ref 182, .int (gY σ 15), .int (gY σ 16), .int (gY σ 17), .int (gY σ 18), .long (gQ σ), .int (gY σ 19), .ref 183, .ref 184]), .inl (0, 200, .inl (gC σ 0)), .inl (0, 20, .inl (gC σ 1)), .inl (0, 20, .inl (gC σ 2)), .inl (0, 600, .inl (gC σ 3)), .inl (0, 961, .inl (gC σ 4)), .inl (0, 620, .inl (gC σ 5)), .inl (0, 5082, .inl (gC σ 6)), .inl (1, 20, .inl (gC σ 7)), .inl (0, 20, .inl (gC σ 8)), .inl (0, 20, .inl (gC σ 9)), .inl (0, 20, .inl (gC σ 10)), .inl (0, 120, .inl (gC σ 11)), .inl (0, 120, .inl (gC σ 12)), .inl (0, 120, .inl (gC σ 13)), .inl (0, 1220, .inl (gC σ 14)), .inl (0, 122, .inl (gC σ 15)), .inl (0, 61, .inl (gC σ 16)), .inl (0, 61, .inl (gC σ 17)), .inl (0, 61, .inl (gC σ 18)), .inl (0, 61, .inl (gC σ 19)), .inl (0, 61, .inl (gC σ 20)), .inl (0, 24, .inl (gC σ 21)), .inl (0, 3600, .inl (gC σ 22)), .inl (0, 130, .inl (gC σ 23)), .inl (0, 13, .inl (gC σ 24)), .inl (0, 13, .inl (gC σ 25)), .inl (0, 13, .inl (gC σ 26)), .inl (0, 24, .inl (gC σ 27)), .inl (0, 480, .inl (gC σ 28)), .inl (0, 8, .inl (gC σ 29)), .inl (0, 8, .inl (gC σ 30))]
def enc (σ : St) : XH := en0 σ ++ (en1 σ ++ (en2 σ ++ (en3 σ ++ (en4 σ ++ (en5 σ ++ (en6 σ ++ (en7 σ ++ (en8 σ ++ (en9 σ ++ (en10 σ ++ ((List.range (gn σ)).map (fun i => gD σ (185 + i)))))))))))))
set_option maxRecDepth 100000 in
theorem eg_0 (σ : St) : (enc σ)[0]? = some (.inr (11, [.ref 1, .ref 3, .ref 82, .ref 131, .ref 134, .ref 139, .ref 144, .ref 150])) := rfl
set_option maxRecDepth 100000 in
theorem eg_1 (σ : St) : (enc σ)[1]? = some (.inr (10, [.ref 2, .int (gX σ 0), .int (gX σ 1), .int (gX σ 2), .int (gX σ 3)])) := rfl
set_option maxRecDepth 100000 in
theorem eg_2 (σ : St) : (enc σ)[2]? = some (.inl (0, 200, .inl (gA σ 0))) := rfl
set_option maxRecDepth 100000 in
theorem eg_3 (σ : St) : (enc σ)[3]? = some (.inr (6, [.ref 4, .ref 5, .ref 6, .ref 27, .ref 48, .ref 49, .int (gX σ 4), .int (gX σ 5), .int (gX σ 6), .int (gX σ 7), .int (gX σ 8)])) := rfl
set_option maxRecDepth 100000 in
theorem eg_4 (σ : St) : (enc σ)[4]? = some (.inl (0, 20, .inl (gA σ 1))) := rfl
set_option maxRecDepth 100000 in
theorem eg_5 (σ : St) : (enc σ)[5]? = some (.inl (0, 20, .inl (gA σ 2))) := rfl
set_option maxRecDepth 100000 in
theorem eg_6 (σ : St) : (enc σ)[6]? = some (.inl (2, 20, .inr (.inr (.inr (.inr (xri 20 7)))))) := rfl
set_option maxRecDepth 100000 in
theorem eg_27 (σ : St) : (enc σ)[27]? = some (.inl (2, 20, .inr (.inr (.inr (.inr (xri 20 28)))))) := rfl
set_option maxRecDepth 100000 in
theorem eg_48 (σ : St) : (enc σ)[48]? = some (.inl (1, 20, .inl (gA σ 3))) := rfl
set_option maxRecDepth 100000 in
theorem eg_49 (σ : St) : (enc σ)[49]? = some (.inr (2, [.ref 50, va_rf (xrw 7 (gN σ)), .int (gX σ 9), .int (gX σ 10)])) := rfl
set_option maxRecDepth 100000 in
theorem eg_50 (σ : St) : (enc σ)[50]? = some (.inl (2, 31, .inr (.inr (.inr (.inr (xri 31 51)))))) := rfl
set_option maxRecDepth 100000 in
theorem eg_82 (σ : St) : (enc σ)[82]? = some (.inr (8, [.ref 83, .ref 105, .ref 106, .ref 107, .ref 128, .ref 129, .ref 130, .int (gX σ 11), .int (gX σ 12)])) := rfl
set_option maxRecDepth 100000 in
theorem eg_83 (σ : St) : (enc σ)[83]? = some (.inl (2, 21, .inr (.inr (.inr (.inr (xri 21 84)))))) := rfl
set_option maxRecDepth 100000 in
theorem eg_105 (σ : St) : (enc σ)[105]? = some (.inl (0, 21, .inl (gA σ 4))) := rfl
set_option maxRecDepth 100000 in
theorem eg_106 (σ : St) : (enc σ)[106]? = some (.inl (0, 121, .inl (gA σ 5))) := rfl
set_option maxRecDepth 100000 in
theorem eg_107 (σ : St) : (enc σ)[107]? = some (.inl (2, 20, .inr (.inr (.inr (.inr (xri 20 108)))))) := rfl
set_option maxRecDepth 100000 in
theorem eg_128 (σ : St) : (enc σ)[128]? = some (.inl (0, 120, .inl (gA σ 6))) := rfl
set_option maxRecDepth 100000 in
theorem eg_129 (σ : St) : (enc σ)[129]? = some (.inl (0, 120, .inl (gA σ 7))) := rfl
set_option maxRecDepth 100000 in
theorem eg_130 (σ : St) : (enc σ)[130]? = some (.inl (0, 120, .inl (gA σ 8))) := rfl
set_option maxRecDepth 100000 in
theorem eg_131 (σ : St) : (enc σ)[131]? = some (.inr (7, [.ref 132, .ref 133, .int (gX σ 13), .int (gX σ 14)])) := rfl
set_option maxRecDepth 100000 in
theorem eg_132 (σ : St) : (enc σ)[132]? = some (.inl (0, 24, .inl (gA σ 9))) := rfl
set_option maxRecDepth 100000 in
theorem eg_133 (σ : St) : (enc σ)[133]? = some (.inl (0, 24, .inl (gA σ 10))) := rfl
set_option maxRecDepth 100000 in
theorem eg_134 (σ : St) : (enc σ)[134]? = some (.inr (4, [.ref 135, .ref 136, .ref 137, .ref (gf σ), .int (gX σ 15), .int (gX σ 16)])) := rfl
set_option maxRecDepth 100000 in
theorem eg_135 (σ : St) : (enc σ)[135]? = some (.inl (3, 60, .inr (.inr (.inr (.inr (gF σ)))))) := rfl
set_option maxRecDepth 100000 in
theorem eg_136 (σ : St) : (enc σ)[136]? = some (.inl (0, 1770, .inl (gA σ 11))) := rfl
set_option maxRecDepth 100000 in
theorem eg_137 (σ : St) : (enc σ)[137]? = some (.inl (0, 1770, .inl (gA σ 12))) := rfl
set_option maxRecDepth 100000 in
theorem eg_138 (σ : St) : (enc σ)[138]? = some (gD σ 138) := rfl
set_option maxRecDepth 100000 in
theorem eg_139 (σ : St) : (enc σ)[139]? = some (.inr (1, [.ref 140, .ref (gg σ), .int (gX σ 17)])) := rfl
set_option maxRecDepth 100000 in
theorem eg_140 (σ : St) : (enc σ)[140]? = some (.inl (4, 12, .inr (.inr (.inr (.inr (gG σ)))))) := rfl
set_option maxRecDepth 100000 in
theorem eg_141 (σ : St) : (enc σ)[141]? = some (gD σ 141) := rfl
set_option maxRecDepth 100000 in
theorem eg_142 (σ : St) : (enc σ)[142]? = some (gD σ 142) := rfl
set_option maxRecDepth 100000 in
theorem eg_143 (σ : St) : (enc σ)[143]? = some (gD σ 143) := rfl
set_option maxRecDepth 100000 in
theorem eg_144 (σ : St) : (enc σ)[144]? = some (.inr (9, [.ref 145, .ref 146, .ref 147, .ref 148, .ref 149, .int (gX σ 18), .int (gX σ 19), .int (gX σ 20), .int (gX σ 21), .long (gP σ)])) := rfl
set_option maxRecDepth 100000 in
theorem eg_145 (σ : St) : (enc σ)[145]? = some (.inl (0, 96, .inl (gA σ 13))) := rfl
set_option maxRecDepth 100000 in
theorem eg_146 (σ : St) : (enc σ)[146]? = some (.inl (0, 96, .inl (gA σ 14))) := rfl
set_option maxRecDepth 100000 in
theorem eg_147 (σ : St) : (enc σ)[147]? = some (.inl (0, 96, .inl (gA σ 15))) := rfl
set_option maxRecDepth 100000 in
theorem eg_148 (σ : St) : (enc σ)[148]? = some (.inl (0, 96, .inl (gA σ 16))) := rfl
set_option maxRecDepth 100000 in
theorem eg_149 (σ : St) : (enc σ)[149]? = some (.inl (1, 96, .inl (gA σ 17))) := rfl
set_option maxRecDepth 100000 in
theorem eg_150 (σ : St) : (enc σ)[150]? = some (.inr (5, [.ref 151, .ref 152, .int (gX σ 22)])) := rfl
set_option maxRecDepth 100000 in
theorem eg_151 (σ : St) : (enc σ)[151]? = some (.inl (0, 8, .inl (gA σ 18))) := rfl
set_option maxRecDepth 100000 in
theorem eg_152 (σ : St) : (enc σ)[152]? = some (.inl (0, 8, .inl (gA σ 19))) := rfl
set_option maxRecDepth 100000 in
theorem eg_153 (σ : St) : (enc σ)[153]? = some (.inr (12, [.ref 154, .int (gY σ 0), .int (gY σ 1), .ref 155, .ref 156, .ref 157, .int (gY σ 2), .int (gY σ 3), .int (gY σ 4), .int (gY σ 5), .ref 158, .ref 159, .ref 160, .int (gY σ 6), .ref 161, .ref 162, .ref 163, .ref 164, .ref 165, .ref 166, .ref 167, .int (gY σ 7), .int (gY σ 8), .int (gY σ 9), .int (gY σ 10), .int (gY σ 11), .ref 168, .ref 169, .ref 170, .ref 171, .ref 172, .ref 173, .ref 174, .ref 175, .ref 176, .int (gY σ 12), .int (gY σ 13), .ref 177, .ref 178, .ref 179, .ref 180, .int (gY σ 14), .ref 181, .ref 182, .int (gY σ 15), .int (gY σ 16), .int (gY σ 17), .int (gY σ 18), .long (gQ σ), .int (gY σ 19), .ref 183, .ref 184])) := rfl
set_option maxRecDepth 100000 in
theorem eg_154 (σ : St) : (enc σ)[154]? = some (.inl (0, 200, .inl (gC σ 0))) := rfl
set_option maxRecDepth 100000 in
theorem eg_155 (σ : St) : (enc σ)[155]? = some (.inl (0, 20, .inl (gC σ 1))) := rfl
set_option maxRecDepth 100000 in
theorem eg_156 (σ : St) : (enc σ)[156]? = some (.inl (0, 20, .inl (gC σ 2))) := rfl
set_option maxRecDepth 100000 in
theorem eg_157 (σ : St) : (enc σ)[157]? = some (.inl (0, 600, .inl (gC σ 3))) := rfl
set_option maxRecDepth 100000 in
theorem eg_158 (σ : St) : (enc σ)[158]? = some (.inl (0, 961, .inl (gC σ 4))) := rfl
set_option maxRecDepth 100000 in
theorem eg_159 (σ : St) : (enc σ)[159]? = some (.inl (0, 620, .inl (gC σ 5))) := rfl
set_option maxRecDepth 100000 in
theorem eg_160 (σ : St) : (enc σ)[160]? = some (.inl (0, 5082, .inl (gC σ 6))) := rfl
set_option maxRecDepth 100000 in
theorem eg_161 (σ : St) : (enc σ)[161]? = some (.inl (1, 20, .inl (gC σ 7))) := rfl
set_option maxRecDepth 100000 in
theorem eg_162 (σ : St) : (enc σ)[162]? = some (.inl (0, 20, .inl (gC σ 8))) := rfl
set_option maxRecDepth 100000 in
theorem eg_163 (σ : St) : (enc σ)[163]? = some (.inl (0, 20, .inl (gC σ 9))) := rfl
set_option maxRecDepth 100000 in
theorem eg_164 (σ : St) : (enc σ)[164]? = some (.inl (0, 20, .inl (gC σ 10))) := rfl
set_option maxRecDepth 100000 in
theorem eg_165 (σ : St) : (enc σ)[165]? = some (.inl (0, 120, .inl (gC σ 11))) := rfl
set_option maxRecDepth 100000 in
theorem eg_166 (σ : St) : (enc σ)[166]? = some (.inl (0, 120, .inl (gC σ 12))) := rfl
set_option maxRecDepth 100000 in
theorem eg_167 (σ : St) : (enc σ)[167]? = some (.inl (0, 120, .inl (gC σ 13))) := rfl
set_option maxRecDepth 100000 in
theorem eg_168 (σ : St) : (enc σ)[168]? = some (.inl (0, 1220, .inl (gC σ 14))) := rfl
set_option maxRecDepth 100000 in
theorem eg_169 (σ : St) : (enc σ)[169]? = some (.inl (0, 122, .inl (gC σ 15))) := rfl
set_option maxRecDepth 100000 in
theorem eg_170 (σ : St) : (enc σ)[170]? = some (.inl (0, 61, .inl (gC σ 16))) := rfl
set_option maxRecDepth 100000 in
theorem eg_171 (σ : St) : (enc σ)[171]? = some (.inl (0, 61, .inl (gC σ 17))) := rfl
set_option maxRecDepth 100000 in
theorem eg_172 (σ : St) : (enc σ)[172]? = some (.inl (0, 61, .inl (gC σ 18))) := rfl
set_option maxRecDepth 100000 in
theorem eg_173 (σ : St) : (enc σ)[173]? = some (.inl (0, 61, .inl (gC σ 19))) := rfl
set_option maxRecDepth 100000 in
theorem eg_174 (σ : St) : (enc σ)[174]? = some (.inl (0, 61, .inl (gC σ 20))) := rfl
set_option maxRecDepth 100000 in
theorem eg_175 (σ : St) : (enc σ)[175]? = some (.inl (0, 24, .inl (gC σ 21))) := rfl
set_option maxRecDepth 100000 in
theorem eg_176 (σ : St) : (enc σ)[176]? = some (.inl (0, 3600, .inl (gC σ 22))) := rfl
set_option maxRecDepth 100000 in
theorem eg_177 (σ : St) : (enc σ)[177]? = some (.inl (0, 130, .inl (gC σ 23))) := rfl
set_option maxRecDepth 100000 in
theorem eg_178 (σ : St) : (enc σ)[178]? = some (.inl (0, 13, .inl (gC σ 24))) := rfl
set_option maxRecDepth 100000 in
theorem eg_179 (σ : St) : (enc σ)[179]? = some (.inl (0, 13, .inl (gC σ 25))) := rfl
set_option maxRecDepth 100000 in
theorem eg_180 (σ : St) : (enc σ)[180]? = some (.inl (0, 13, .inl (gC σ 26))) := rfl
set_option maxRecDepth 100000 in
theorem eg_181 (σ : St) : (enc σ)[181]? = some (.inl (0, 24, .inl (gC σ 27))) := rfl
set_option maxRecDepth 100000 in
theorem eg_182 (σ : St) : (enc σ)[182]? = some (.inl (0, 480, .inl (gC σ 28))) := rfl
set_option maxRecDepth 100000 in
theorem eg_183 (σ : St) : (enc σ)[183]? = some (.inl (0, 8, .inl (gC σ 29))) := rfl
set_option maxRecDepth 100000 in
theorem eg_184 (σ : St) : (enc σ)[184]? = some (.inl (0, 8, .inl (gC σ 30))) := rfl
set_option maxRecDepth 100000 in
theorem es_1_1 (σ : St) (v : Int32) : (enc σ).set 1 (.inr (10, [.ref 2, .int v, .int (gX σ 1), .int (gX σ 2), .int (gX σ 3)])) = enc (sX σ 0 v) := rfl
set_option maxRecDepth 100000 in
theorem es_1_2 (σ : St) (v : Int32) : (enc σ).set 1 (.inr (10, [.ref 2, .int (gX σ 0), .int v, .int (gX σ 2), .int (gX σ 3)])) = enc (sX σ 1 v) := rfl
set_option maxRecDepth 100000 in
theorem es_1_3 (σ : St) (v : Int32) : (enc σ).set 1 (.inr (10, [.ref 2, .int (gX σ 0), .int (gX σ 1), .int v, .int (gX σ 3)])) = enc (sX σ 2 v) := rfl
set_option maxRecDepth 100000 in
theorem es_1_4 (σ : St) (v : Int32) : (enc σ).set 1 (.inr (10, [.ref 2, .int (gX σ 0), .int (gX σ 1), .int (gX σ 2), .int v])) = enc (sX σ 3 v) := rfl
set_option maxRecDepth 100000 in
theorem es_2 (σ : St) (f : Nat → Int32) : (enc σ).set 2 (.inl (0, 200, .inl f)) = enc (sA σ 0 f) := rfl
set_option maxRecDepth 100000 in
theorem es_3_6 (σ : St) (v : Int32) : (enc σ).set 3 (.inr (6, [.ref 4, .ref 5, .ref 6, .ref 27, .ref 48, .ref 49, .int v, .int (gX σ 5), .int (gX σ 6), .int (gX σ 7), .int (gX σ 8)])) = enc (sX σ 4 v) := rfl
set_option maxRecDepth 100000 in
theorem es_3_7 (σ : St) (v : Int32) : (enc σ).set 3 (.inr (6, [.ref 4, .ref 5, .ref 6, .ref 27, .ref 48, .ref 49, .int (gX σ 4), .int v, .int (gX σ 6), .int (gX σ 7), .int (gX σ 8)])) = enc (sX σ 5 v) := rfl
set_option maxRecDepth 100000 in
theorem es_3_8 (σ : St) (v : Int32) : (enc σ).set 3 (.inr (6, [.ref 4, .ref 5, .ref 6, .ref 27, .ref 48, .ref 49, .int (gX σ 4), .int (gX σ 5), .int v, .int (gX σ 7), .int (gX σ 8)])) = enc (sX σ 6 v) := rfl
set_option maxRecDepth 100000 in
theorem es_3_9 (σ : St) (v : Int32) : (enc σ).set 3 (.inr (6, [.ref 4, .ref 5, .ref 6, .ref 27, .ref 48, .ref 49, .int (gX σ 4), .int (gX σ 5), .int (gX σ 6), .int v, .int (gX σ 8)])) = enc (sX σ 7 v) := rfl
set_option maxRecDepth 100000 in
theorem es_3_10 (σ : St) (v : Int32) : (enc σ).set 3 (.inr (6, [.ref 4, .ref 5, .ref 6, .ref 27, .ref 48, .ref 49, .int (gX σ 4), .int (gX σ 5), .int (gX σ 6), .int (gX σ 7), .int v])) = enc (sX σ 8 v) := rfl
set_option maxRecDepth 100000 in
theorem es_4 (σ : St) (f : Nat → Int32) : (enc σ).set 4 (.inl (0, 20, .inl f)) = enc (sA σ 1 f) := rfl
set_option maxRecDepth 100000 in
theorem es_5 (σ : St) (f : Nat → Int32) : (enc σ).set 5 (.inl (0, 20, .inl f)) = enc (sA σ 2 f) := rfl
set_option maxRecDepth 100000 in
theorem es_48 (σ : St) (f : Nat → Int32) : (enc σ).set 48 (.inl (1, 20, .inl f)) = enc (sA σ 3 f) := rfl
set_option maxRecDepth 100000 in
theorem es_49_1 (σ : St) (v : Option Nat) : (enc σ).set 49 (.inr (2, [.ref 50, va_rf (xrw 7 v), .int (gX σ 9), .int (gX σ 10)])) = enc (sN σ v) := rfl
set_option maxRecDepth 100000 in
theorem es_49_2 (σ : St) (v : Int32) : (enc σ).set 49 (.inr (2, [.ref 50, va_rf (xrw 7 (gN σ)), .int v, .int (gX σ 10)])) = enc (sX σ 9 v) := rfl
set_option maxRecDepth 100000 in
theorem es_49_3 (σ : St) (v : Int32) : (enc σ).set 49 (.inr (2, [.ref 50, va_rf (xrw 7 (gN σ)), .int (gX σ 9), .int v])) = enc (sX σ 10 v) := rfl
set_option maxRecDepth 100000 in
theorem es_82_7 (σ : St) (v : Int32) : (enc σ).set 82 (.inr (8, [.ref 83, .ref 105, .ref 106, .ref 107, .ref 128, .ref 129, .ref 130, .int v, .int (gX σ 12)])) = enc (sX σ 11 v) := rfl
set_option maxRecDepth 100000 in
theorem es_82_8 (σ : St) (v : Int32) : (enc σ).set 82 (.inr (8, [.ref 83, .ref 105, .ref 106, .ref 107, .ref 128, .ref 129, .ref 130, .int (gX σ 11), .int v])) = enc (sX σ 12 v) := rfl
set_option maxRecDepth 100000 in
theorem es_105 (σ : St) (f : Nat → Int32) : (enc σ).set 105 (.inl (0, 21, .inl f)) = enc (sA σ 4 f) := rfl
set_option maxRecDepth 100000 in
theorem es_106 (σ : St) (f : Nat → Int32) : (enc σ).set 106 (.inl (0, 121, .inl f)) = enc (sA σ 5 f) := rfl
set_option maxRecDepth 100000 in
theorem es_128 (σ : St) (f : Nat → Int32) : (enc σ).set 128 (.inl (0, 120, .inl f)) = enc (sA σ 6 f) := rfl
set_option maxRecDepth 100000 in
theorem es_129 (σ : St) (f : Nat → Int32) : (enc σ).set 129 (.inl (0, 120, .inl f)) = enc (sA σ 7 f) := rfl
set_option maxRecDepth 100000 in
theorem es_130 (σ : St) (f : Nat → Int32) : (enc σ).set 130 (.inl (0, 120, .inl f)) = enc (sA σ 8 f) := rfl
set_option maxRecDepth 100000 in
theorem es_131_2 (σ : St) (v : Int32) : (enc σ).set 131 (.inr (7, [.ref 132, .ref 133, .int v, .int (gX σ 14)])) = enc (sX σ 13 v) := rfl
set_option maxRecDepth 100000 in
theorem es_131_3 (σ : St) (v : Int32) : (enc σ).set 131 (.inr (7, [.ref 132, .ref 133, .int (gX σ 13), .int v])) = enc (sX σ 14 v) := rfl
set_option maxRecDepth 100000 in
theorem es_132 (σ : St) (f : Nat → Int32) : (enc σ).set 132 (.inl (0, 24, .inl f)) = enc (sA σ 9 f) := rfl
set_option maxRecDepth 100000 in
theorem es_133 (σ : St) (f : Nat → Int32) : (enc σ).set 133 (.inl (0, 24, .inl f)) = enc (sA σ 10 f) := rfl
set_option maxRecDepth 100000 in
theorem es_134_3 (σ : St) (v : Nat) : (enc σ).set 134 (.inr (4, [.ref 135, .ref 136, .ref 137, .ref v, .int (gX σ 15), .int (gX σ 16)])) = enc (sf σ v) := rfl
set_option maxRecDepth 100000 in
theorem es_134_4 (σ : St) (v : Int32) : (enc σ).set 134 (.inr (4, [.ref 135, .ref 136, .ref 137, .ref (gf σ), .int v, .int (gX σ 16)])) = enc (sX σ 15 v) := rfl
set_option maxRecDepth 100000 in
theorem es_134_5 (σ : St) (v : Int32) : (enc σ).set 134 (.inr (4, [.ref 135, .ref 136, .ref 137, .ref (gf σ), .int (gX σ 15), .int v])) = enc (sX σ 16 v) := rfl
set_option maxRecDepth 100000 in
theorem es_135 (σ : St) (f : Nat → Option Nat) : (enc σ).set 135 (.inl (3, 60, .inr (.inr (.inr (.inr f))))) = enc (sF σ f) := rfl
set_option maxRecDepth 100000 in
theorem es_136 (σ : St) (f : Nat → Int32) : (enc σ).set 136 (.inl (0, 1770, .inl f)) = enc (sA σ 11 f) := rfl
set_option maxRecDepth 100000 in
theorem es_137 (σ : St) (f : Nat → Int32) : (enc σ).set 137 (.inl (0, 1770, .inl f)) = enc (sA σ 12 f) := rfl
set_option maxRecDepth 100000 in
theorem es_139_1 (σ : St) (v : Nat) : (enc σ).set 139 (.inr (1, [.ref 140, .ref v, .int (gX σ 17)])) = enc (sg σ v) := rfl
set_option maxRecDepth 100000 in
theorem es_139_2 (σ : St) (v : Int32) : (enc σ).set 139 (.inr (1, [.ref 140, .ref (gg σ), .int v])) = enc (sX σ 17 v) := rfl
set_option maxRecDepth 100000 in
theorem es_140 (σ : St) (f : Nat → Option Nat) : (enc σ).set 140 (.inl (4, 12, .inr (.inr (.inr (.inr f))))) = enc (sG σ f) := rfl
set_option maxRecDepth 100000 in
theorem es_144_5 (σ : St) (v : Int32) : (enc σ).set 144 (.inr (9, [.ref 145, .ref 146, .ref 147, .ref 148, .ref 149, .int v, .int (gX σ 19), .int (gX σ 20), .int (gX σ 21), .long (gP σ)])) = enc (sX σ 18 v) := rfl
set_option maxRecDepth 100000 in
theorem es_144_6 (σ : St) (v : Int32) : (enc σ).set 144 (.inr (9, [.ref 145, .ref 146, .ref 147, .ref 148, .ref 149, .int (gX σ 18), .int v, .int (gX σ 20), .int (gX σ 21), .long (gP σ)])) = enc (sX σ 19 v) := rfl
set_option maxRecDepth 100000 in
theorem es_144_7 (σ : St) (v : Int32) : (enc σ).set 144 (.inr (9, [.ref 145, .ref 146, .ref 147, .ref 148, .ref 149, .int (gX σ 18), .int (gX σ 19), .int v, .int (gX σ 21), .long (gP σ)])) = enc (sX σ 20 v) := rfl
set_option maxRecDepth 100000 in
theorem es_144_8 (σ : St) (v : Int32) : (enc σ).set 144 (.inr (9, [.ref 145, .ref 146, .ref 147, .ref 148, .ref 149, .int (gX σ 18), .int (gX σ 19), .int (gX σ 20), .int v, .long (gP σ)])) = enc (sX σ 21 v) := rfl
set_option maxRecDepth 100000 in
theorem es_144_9 (σ : St) (v : Int64) : (enc σ).set 144 (.inr (9, [.ref 145, .ref 146, .ref 147, .ref 148, .ref 149, .int (gX σ 18), .int (gX σ 19), .int (gX σ 20), .int (gX σ 21), .long v])) = enc (sP σ v) := rfl
set_option maxRecDepth 100000 in
theorem es_145 (σ : St) (f : Nat → Int32) : (enc σ).set 145 (.inl (0, 96, .inl f)) = enc (sA σ 13 f) := rfl
set_option maxRecDepth 100000 in
theorem es_146 (σ : St) (f : Nat → Int32) : (enc σ).set 146 (.inl (0, 96, .inl f)) = enc (sA σ 14 f) := rfl
set_option maxRecDepth 100000 in
theorem es_147 (σ : St) (f : Nat → Int32) : (enc σ).set 147 (.inl (0, 96, .inl f)) = enc (sA σ 15 f) := rfl
set_option maxRecDepth 100000 in
theorem es_148 (σ : St) (f : Nat → Int32) : (enc σ).set 148 (.inl (0, 96, .inl f)) = enc (sA σ 16 f) := rfl
set_option maxRecDepth 100000 in
theorem es_149 (σ : St) (f : Nat → Int32) : (enc σ).set 149 (.inl (1, 96, .inl f)) = enc (sA σ 17 f) := rfl
set_option maxRecDepth 100000 in
theorem es_150_2 (σ : St) (v : Int32) : (enc σ).set 150 (.inr (5, [.ref 151, .ref 152, .int v])) = enc (sX σ 22 v) := rfl
set_option maxRecDepth 100000 in
theorem es_151 (σ : St) (f : Nat → Int32) : (enc σ).set 151 (.inl (0, 8, .inl f)) = enc (sA σ 18 f) := rfl
set_option maxRecDepth 100000 in
theorem es_152 (σ : St) (f : Nat → Int32) : (enc σ).set 152 (.inl (0, 8, .inl f)) = enc (sA σ 19 f) := rfl
set_option maxRecDepth 100000 in
theorem es_153_1 (σ : St) (v : Int32) : (enc σ).set 153 (.inr (12, [.ref 154, .int v, .int (gY σ 1), .ref 155, .ref 156, .ref 157, .int (gY σ 2), .int (gY σ 3), .int (gY σ 4), .int (gY σ 5), .ref 158, .ref 159, .ref 160, .int (gY σ 6), .ref 161, .ref 162, .ref 163, .ref 164, .ref 165, .ref 166, .ref 167, .int (gY σ 7), .int (gY σ 8), .int (gY σ 9), .int (gY σ 10), .int (gY σ 11), .ref 168, .ref 169, .ref 170, .ref 171, .ref 172, .ref 173, .ref 174, .ref 175, .ref 176, .int (gY σ 12), .int (gY σ 13), .ref 177, .ref 178, .ref 179, .ref 180, .int (gY σ 14), .ref 181, .ref 182, .int (gY σ 15), .int (gY σ 16), .int (gY σ 17), .int (gY σ 18), .long (gQ σ), .int (gY σ 19), .ref 183, .ref 184])) = enc (sY σ 0 v) := rfl
set_option maxRecDepth 100000 in
theorem es_153_2 (σ : St) (v : Int32) : (enc σ).set 153 (.inr (12, [.ref 154, .int (gY σ 0), .int v, .ref 155, .ref 156, .ref 157, .int (gY σ 2), .int (gY σ 3), .int (gY σ 4), .int (gY σ 5), .ref 158, .ref 159, .ref 160, .int (gY σ 6), .ref 161, .ref 162, .ref 163, .ref 164, .ref 165, .ref 166, .ref 167, .int (gY σ 7), .int (gY σ 8), .int (gY σ 9), .int (gY σ 10), .int (gY σ 11), .ref 168, .ref 169, .ref 170, .ref 171, .ref 172, .ref 173, .ref 174, .ref 175, .ref 176, .int (gY σ 12), .int (gY σ 13), .ref 177, .ref 178, .ref 179, .ref 180, .int (gY σ 14), .ref 181, .ref 182, .int (gY σ 15), .int (gY σ 16), .int (gY σ 17), .int (gY σ 18), .long (gQ σ), .int (gY σ 19), .ref 183, .ref 184])) = enc (sY σ 1 v) := rfl
set_option maxRecDepth 100000 in
theorem es_153_6 (σ : St) (v : Int32) : (enc σ).set 153 (.inr (12, [.ref 154, .int (gY σ 0), .int (gY σ 1), .ref 155, .ref 156, .ref 157, .int v, .int (gY σ 3), .int (gY σ 4), .int (gY σ 5), .ref 158, .ref 159, .ref 160, .int (gY σ 6), .ref 161, .ref 162, .ref 163, .ref 164, .ref 165, .ref 166, .ref 167, .int (gY σ 7), .int (gY σ 8), .int (gY σ 9), .int (gY σ 10), .int (gY σ 11), .ref 168, .ref 169, .ref 170, .ref 171, .ref 172, .ref 173, .ref 174, .ref 175, .ref 176, .int (gY σ 12), .int (gY σ 13), .ref 177, .ref 178, .ref 179, .ref 180, .int (gY σ 14), .ref 181, .ref 182, .int (gY σ 15), .int (gY σ 16), .int (gY σ 17), .int (gY σ 18), .long (gQ σ), .int (gY σ 19), .ref 183, .ref 184])) = enc (sY σ 2 v) := rfl
set_option maxRecDepth 100000 in
theorem es_153_7 (σ : St) (v : Int32) : (enc σ).set 153 (.inr (12, [.ref 154, .int (gY σ 0), .int (gY σ 1), .ref 155, .ref 156, .ref 157, .int (gY σ 2), .int v, .int (gY σ 4), .int (gY σ 5), .ref 158, .ref 159, .ref 160, .int (gY σ 6), .ref 161, .ref 162, .ref 163, .ref 164, .ref 165, .ref 166, .ref 167, .int (gY σ 7), .int (gY σ 8), .int (gY σ 9), .int (gY σ 10), .int (gY σ 11), .ref 168, .ref 169, .ref 170, .ref 171, .ref 172, .ref 173, .ref 174, .ref 175, .ref 176, .int (gY σ 12), .int (gY σ 13), .ref 177, .ref 178, .ref 179, .ref 180, .int (gY σ 14), .ref 181, .ref 182, .int (gY σ 15), .int (gY σ 16), .int (gY σ 17), .int (gY σ 18), .long (gQ σ), .int (gY σ 19), .ref 183, .ref 184])) = enc (sY σ 3 v) := rfl
set_option maxRecDepth 100000 in
theorem es_153_8 (σ : St) (v : Int32) : (enc σ).set 153 (.inr (12, [.ref 154, .int (gY σ 0), .int (gY σ 1), .ref 155, .ref 156, .ref 157, .int (gY σ 2), .int (gY σ 3), .int v, .int (gY σ 5), .ref 158, .ref 159, .ref 160, .int (gY σ 6), .ref 161, .ref 162, .ref 163, .ref 164, .ref 165, .ref 166, .ref 167, .int (gY σ 7), .int (gY σ 8), .int (gY σ 9), .int (gY σ 10), .int (gY σ 11), .ref 168, .ref 169, .ref 170, .ref 171, .ref 172, .ref 173, .ref 174, .ref 175, .ref 176, .int (gY σ 12), .int (gY σ 13), .ref 177, .ref 178, .ref 179, .ref 180, .int (gY σ 14), .ref 181, .ref 182, .int (gY σ 15), .int (gY σ 16), .int (gY σ 17), .int (gY σ 18), .long (gQ σ), .int (gY σ 19), .ref 183, .ref 184])) = enc (sY σ 4 v) := rfl
set_option maxRecDepth 100000 in
theorem es_153_9 (σ : St) (v : Int32) : (enc σ).set 153 (.inr (12, [.ref 154, .int (gY σ 0), .int (gY σ 1), .ref 155, .ref 156, .ref 157, .int (gY σ 2), .int (gY σ 3), .int (gY σ 4), .int v, .ref 158, .ref 159, .ref 160, .int (gY σ 6), .ref 161, .ref 162, .ref 163, .ref 164, .ref 165, .ref 166, .ref 167, .int (gY σ 7), .int (gY σ 8), .int (gY σ 9), .int (gY σ 10), .int (gY σ 11), .ref 168, .ref 169, .ref 170, .ref 171, .ref 172, .ref 173, .ref 174, .ref 175, .ref 176, .int (gY σ 12), .int (gY σ 13), .ref 177, .ref 178, .ref 179, .ref 180, .int (gY σ 14), .ref 181, .ref 182, .int (gY σ 15), .int (gY σ 16), .int (gY σ 17), .int (gY σ 18), .long (gQ σ), .int (gY σ 19), .ref 183, .ref 184])) = enc (sY σ 5 v) := rfl
set_option maxRecDepth 100000 in
theorem es_153_13 (σ : St) (v : Int32) : (enc σ).set 153 (.inr (12, [.ref 154, .int (gY σ 0), .int (gY σ 1), .ref 155, .ref 156, .ref 157, .int (gY σ 2), .int (gY σ 3), .int (gY σ 4), .int (gY σ 5), .ref 158, .ref 159, .ref 160, .int v, .ref 161, .ref 162, .ref 163, .ref 164, .ref 165, .ref 166, .ref 167, .int (gY σ 7), .int (gY σ 8), .int (gY σ 9), .int (gY σ 10), .int (gY σ 11), .ref 168, .ref 169, .ref 170, .ref 171, .ref 172, .ref 173, .ref 174, .ref 175, .ref 176, .int (gY σ 12), .int (gY σ 13), .ref 177, .ref 178, .ref 179, .ref 180, .int (gY σ 14), .ref 181, .ref 182, .int (gY σ 15), .int (gY σ 16), .int (gY σ 17), .int (gY σ 18), .long (gQ σ), .int (gY σ 19), .ref 183, .ref 184])) = enc (sY σ 6 v) := rfl
set_option maxRecDepth 100000 in
theorem es_153_21 (σ : St) (v : Int32) : (enc σ).set 153 (.inr (12, [.ref 154, .int (gY σ 0), .int (gY σ 1), .ref 155, .ref 156, .ref 157, .int (gY σ 2), .int (gY σ 3), .int (gY σ 4), .int (gY σ 5), .ref 158, .ref 159, .ref 160, .int (gY σ 6), .ref 161, .ref 162, .ref 163, .ref 164, .ref 165, .ref 166, .ref 167, .int v, .int (gY σ 8), .int (gY σ 9), .int (gY σ 10), .int (gY σ 11), .ref 168, .ref 169, .ref 170, .ref 171, .ref 172, .ref 173, .ref 174, .ref 175, .ref 176, .int (gY σ 12), .int (gY σ 13), .ref 177, .ref 178, .ref 179, .ref 180, .int (gY σ 14), .ref 181, .ref 182, .int (gY σ 15), .int (gY σ 16), .int (gY σ 17), .int (gY σ 18), .long (gQ σ), .int (gY σ 19), .ref 183, .ref 184])) = enc (sY σ 7 v) := rfl
set_option maxRecDepth 100000 in
theorem es_153_22 (σ : St) (v : Int32) : (enc σ).set 153 (.inr (12, [.ref 154, .int (gY σ 0), .int (gY σ 1), .ref 155, .ref 156, .ref 157, .int (gY σ 2), .int (gY σ 3), .int (gY σ 4), .int (gY σ 5), .ref 158, .ref 159, .ref 160, .int (gY σ 6), .ref 161, .ref 162, .ref 163, .ref 164, .ref 165, .ref 166, .ref 167, .int (gY σ 7), .int v, .int (gY σ 9), .int (gY σ 10), .int (gY σ 11), .ref 168, .ref 169, .ref 170, .ref 171, .ref 172, .ref 173, .ref 174, .ref 175, .ref 176, .int (gY σ 12), .int (gY σ 13), .ref 177, .ref 178, .ref 179, .ref 180, .int (gY σ 14), .ref 181, .ref 182, .int (gY σ 15), .int (gY σ 16), .int (gY σ 17), .int (gY σ 18), .long (gQ σ), .int (gY σ 19), .ref 183, .ref 184])) = enc (sY σ 8 v) := rfl
set_option maxRecDepth 100000 in
theorem es_153_23 (σ : St) (v : Int32) : (enc σ).set 153 (.inr (12, [.ref 154, .int (gY σ 0), .int (gY σ 1), .ref 155, .ref 156, .ref 157, .int (gY σ 2), .int (gY σ 3), .int (gY σ 4), .int (gY σ 5), .ref 158, .ref 159, .ref 160, .int (gY σ 6), .ref 161, .ref 162, .ref 163, .ref 164, .ref 165, .ref 166, .ref 167, .int (gY σ 7), .int (gY σ 8), .int v, .int (gY σ 10), .int (gY σ 11), .ref 168, .ref 169, .ref 170, .ref 171, .ref 172, .ref 173, .ref 174, .ref 175, .ref 176, .int (gY σ 12), .int (gY σ 13), .ref 177, .ref 178, .ref 179, .ref 180, .int (gY σ 14), .ref 181, .ref 182, .int (gY σ 15), .int (gY σ 16), .int (gY σ 17), .int (gY σ 18), .long (gQ σ), .int (gY σ 19), .ref 183, .ref 184])) = enc (sY σ 9 v) := rfl
set_option maxRecDepth 100000 in
theorem es_153_24 (σ : St) (v : Int32) : (enc σ).set 153 (.inr (12, [.ref 154, .int (gY σ 0), .int (gY σ 1), .ref 155, .ref 156, .ref 157, .int (gY σ 2), .int (gY σ 3), .int (gY σ 4), .int (gY σ 5), .ref 158, .ref 159, .ref 160, .int (gY σ 6), .ref 161, .ref 162, .ref 163, .ref 164, .ref 165, .ref 166, .ref 167, .int (gY σ 7), .int (gY σ 8), .int (gY σ 9), .int v, .int (gY σ 11), .ref 168, .ref 169, .ref 170, .ref 171, .ref 172, .ref 173, .ref 174, .ref 175, .ref 176, .int (gY σ 12), .int (gY σ 13), .ref 177, .ref 178, .ref 179, .ref 180, .int (gY σ 14), .ref 181, .ref 182, .int (gY σ 15), .int (gY σ 16), .int (gY σ 17), .int (gY σ 18), .long (gQ σ), .int (gY σ 19), .ref 183, .ref 184])) = enc (sY σ 10 v) := rfl
set_option maxRecDepth 100000 in
theorem es_153_25 (σ : St) (v : Int32) : (enc σ).set 153 (.inr (12, [.ref 154, .int (gY σ 0), .int (gY σ 1), .ref 155, .ref 156, .ref 157, .int (gY σ 2), .int (gY σ 3), .int (gY σ 4), .int (gY σ 5), .ref 158, .ref 159, .ref 160, .int (gY σ 6), .ref 161, .ref 162, .ref 163, .ref 164, .ref 165, .ref 166, .ref 167, .int (gY σ 7), .int (gY σ 8), .int (gY σ 9), .int (gY σ 10), .int v, .ref 168, .ref 169, .ref 170, .ref 171, .ref 172, .ref 173, .ref 174, .ref 175, .ref 176, .int (gY σ 12), .int (gY σ 13), .ref 177, .ref 178, .ref 179, .ref 180, .int (gY σ 14), .ref 181, .ref 182, .int (gY σ 15), .int (gY σ 16), .int (gY σ 17), .int (gY σ 18), .long (gQ σ), .int (gY σ 19), .ref 183, .ref 184])) = enc (sY σ 11 v) := rfl
set_option maxRecDepth 100000 in
theorem es_153_35 (σ : St) (v : Int32) : (enc σ).set 153 (.inr (12, [.ref 154, .int (gY σ 0), .int (gY σ 1), .ref 155, .ref 156, .ref 157, .int (gY σ 2), .int (gY σ 3), .int (gY σ 4), .int (gY σ 5), .ref 158, .ref 159, .ref 160, .int (gY σ 6), .ref 161, .ref 162, .ref 163, .ref 164, .ref 165, .ref 166, .ref 167, .int (gY σ 7), .int (gY σ 8), .int (gY σ 9), .int (gY σ 10), .int (gY σ 11), .ref 168, .ref 169, .ref 170, .ref 171, .ref 172, .ref 173, .ref 174, .ref 175, .ref 176, .int v, .int (gY σ 13), .ref 177, .ref 178, .ref 179, .ref 180, .int (gY σ 14), .ref 181, .ref 182, .int (gY σ 15), .int (gY σ 16), .int (gY σ 17), .int (gY σ 18), .long (gQ σ), .int (gY σ 19), .ref 183, .ref 184])) = enc (sY σ 12 v) := rfl
set_option maxRecDepth 100000 in
theorem es_153_36 (σ : St) (v : Int32) : (enc σ).set 153 (.inr (12, [.ref 154, .int (gY σ 0), .int (gY σ 1), .ref 155, .ref 156, .ref 157, .int (gY σ 2), .int (gY σ 3), .int (gY σ 4), .int (gY σ 5), .ref 158, .ref 159, .ref 160, .int (gY σ 6), .ref 161, .ref 162, .ref 163, .ref 164, .ref 165, .ref 166, .ref 167, .int (gY σ 7), .int (gY σ 8), .int (gY σ 9), .int (gY σ 10), .int (gY σ 11), .ref 168, .ref 169, .ref 170, .ref 171, .ref 172, .ref 173, .ref 174, .ref 175, .ref 176, .int (gY σ 12), .int v, .ref 177, .ref 178, .ref 179, .ref 180, .int (gY σ 14), .ref 181, .ref 182, .int (gY σ 15), .int (gY σ 16), .int (gY σ 17), .int (gY σ 18), .long (gQ σ), .int (gY σ 19), .ref 183, .ref 184])) = enc (sY σ 13 v) := rfl
set_option maxRecDepth 100000 in
theorem es_153_41 (σ : St) (v : Int32) : (enc σ).set 153 (.inr (12, [.ref 154, .int (gY σ 0), .int (gY σ 1), .ref 155, .ref 156, .ref 157, .int (gY σ 2), .int (gY σ 3), .int (gY σ 4), .int (gY σ 5), .ref 158, .ref 159, .ref 160, .int (gY σ 6), .ref 161, .ref 162, .ref 163, .ref 164, .ref 165, .ref 166, .ref 167, .int (gY σ 7), .int (gY σ 8), .int (gY σ 9), .int (gY σ 10), .int (gY σ 11), .ref 168, .ref 169, .ref 170, .ref 171, .ref 172, .ref 173, .ref 174, .ref 175, .ref 176, .int (gY σ 12), .int (gY σ 13), .ref 177, .ref 178, .ref 179, .ref 180, .int v, .ref 181, .ref 182, .int (gY σ 15), .int (gY σ 16), .int (gY σ 17), .int (gY σ 18), .long (gQ σ), .int (gY σ 19), .ref 183, .ref 184])) = enc (sY σ 14 v) := rfl
set_option maxRecDepth 100000 in
theorem es_153_44 (σ : St) (v : Int32) : (enc σ).set 153 (.inr (12, [.ref 154, .int (gY σ 0), .int (gY σ 1), .ref 155, .ref 156, .ref 157, .int (gY σ 2), .int (gY σ 3), .int (gY σ 4), .int (gY σ 5), .ref 158, .ref 159, .ref 160, .int (gY σ 6), .ref 161, .ref 162, .ref 163, .ref 164, .ref 165, .ref 166, .ref 167, .int (gY σ 7), .int (gY σ 8), .int (gY σ 9), .int (gY σ 10), .int (gY σ 11), .ref 168, .ref 169, .ref 170, .ref 171, .ref 172, .ref 173, .ref 174, .ref 175, .ref 176, .int (gY σ 12), .int (gY σ 13), .ref 177, .ref 178, .ref 179, .ref 180, .int (gY σ 14), .ref 181, .ref 182, .int v, .int (gY σ 16), .int (gY σ 17), .int (gY σ 18), .long (gQ σ), .int (gY σ 19), .ref 183, .ref 184])) = enc (sY σ 15 v) := rfl
set_option maxRecDepth 100000 in
theorem es_153_45 (σ : St) (v : Int32) : (enc σ).set 153 (.inr (12, [.ref 154, .int (gY σ 0), .int (gY σ 1), .ref 155, .ref 156, .ref 157, .int (gY σ 2), .int (gY σ 3), .int (gY σ 4), .int (gY σ 5), .ref 158, .ref 159, .ref 160, .int (gY σ 6), .ref 161, .ref 162, .ref 163, .ref 164, .ref 165, .ref 166, .ref 167, .int (gY σ 7), .int (gY σ 8), .int (gY σ 9), .int (gY σ 10), .int (gY σ 11), .ref 168, .ref 169, .ref 170, .ref 171, .ref 172, .ref 173, .ref 174, .ref 175, .ref 176, .int (gY σ 12), .int (gY σ 13), .ref 177, .ref 178, .ref 179, .ref 180, .int (gY σ 14), .ref 181, .ref 182, .int (gY σ 15), .int v, .int (gY σ 17), .int (gY σ 18), .long (gQ σ), .int (gY σ 19), .ref 183, .ref 184])) = enc (sY σ 16 v) := rfl
set_option maxRecDepth 100000 in
theorem es_153_46 (σ : St) (v : Int32) : (enc σ).set 153 (.inr (12, [.ref 154, .int (gY σ 0), .int (gY σ 1), .ref 155, .ref 156, .ref 157, .int (gY σ 2), .int (gY σ 3), .int (gY σ 4), .int (gY σ 5), .ref 158, .ref 159, .ref 160, .int (gY σ 6), .ref 161, .ref 162, .ref 163, .ref 164, .ref 165, .ref 166, .ref 167, .int (gY σ 7), .int (gY σ 8), .int (gY σ 9), .int (gY σ 10), .int (gY σ 11), .ref 168, .ref 169, .ref 170, .ref 171, .ref 172, .ref 173, .ref 174, .ref 175, .ref 176, .int (gY σ 12), .int (gY σ 13), .ref 177, .ref 178, .ref 179, .ref 180, .int (gY σ 14), .ref 181, .ref 182, .int (gY σ 15), .int (gY σ 16), .int v, .int (gY σ 18), .long (gQ σ), .int (gY σ 19), .ref 183, .ref 184])) = enc (sY σ 17 v) := rfl
set_option maxRecDepth 100000 in
theorem es_153_47 (σ : St) (v : Int32) : (enc σ).set 153 (.inr (12, [.ref 154, .int (gY σ 0), .int (gY σ 1), .ref 155, .ref 156, .ref 157, .int (gY σ 2), .int (gY σ 3), .int (gY σ 4), .int (gY σ 5), .ref 158, .ref 159, .ref 160, .int (gY σ 6), .ref 161, .ref 162, .ref 163, .ref 164, .ref 165, .ref 166, .ref 167, .int (gY σ 7), .int (gY σ 8), .int (gY σ 9), .int (gY σ 10), .int (gY σ 11), .ref 168, .ref 169, .ref 170, .ref 171, .ref 172, .ref 173, .ref 174, .ref 175, .ref 176, .int (gY σ 12), .int (gY σ 13), .ref 177, .ref 178, .ref 179, .ref 180, .int (gY σ 14), .ref 181, .ref 182, .int (gY σ 15), .int (gY σ 16), .int (gY σ 17), .int v, .long (gQ σ), .int (gY σ 19), .ref 183, .ref 184])) = enc (sY σ 18 v) := rfl
set_option maxRecDepth 100000 in
theorem es_153_48 (σ : St) (v : Int64) : (enc σ).set 153 (.inr (12, [.ref 154, .int (gY σ 0), .int (gY σ 1), .ref 155, .ref 156, .ref 157, .int (gY σ 2), .int (gY σ 3), .int (gY σ 4), .int (gY σ 5), .ref 158, .ref 159, .ref 160, .int (gY σ 6), .ref 161, .ref 162, .ref 163, .ref 164, .ref 165, .ref 166, .ref 167, .int (gY σ 7), .int (gY σ 8), .int (gY σ 9), .int (gY σ 10), .int (gY σ 11), .ref 168, .ref 169, .ref 170, .ref 171, .ref 172, .ref 173, .ref 174, .ref 175, .ref 176, .int (gY σ 12), .int (gY σ 13), .ref 177, .ref 178, .ref 179, .ref 180, .int (gY σ 14), .ref 181, .ref 182, .int (gY σ 15), .int (gY σ 16), .int (gY σ 17), .int (gY σ 18), .long v, .int (gY σ 19), .ref 183, .ref 184])) = enc (sQ σ v) := rfl
set_option maxRecDepth 100000 in
theorem es_153_49 (σ : St) (v : Int32) : (enc σ).set 153 (.inr (12, [.ref 154, .int (gY σ 0), .int (gY σ 1), .ref 155, .ref 156, .ref 157, .int (gY σ 2), .int (gY σ 3), .int (gY σ 4), .int (gY σ 5), .ref 158, .ref 159, .ref 160, .int (gY σ 6), .ref 161, .ref 162, .ref 163, .ref 164, .ref 165, .ref 166, .ref 167, .int (gY σ 7), .int (gY σ 8), .int (gY σ 9), .int (gY σ 10), .int (gY σ 11), .ref 168, .ref 169, .ref 170, .ref 171, .ref 172, .ref 173, .ref 174, .ref 175, .ref 176, .int (gY σ 12), .int (gY σ 13), .ref 177, .ref 178, .ref 179, .ref 180, .int (gY σ 14), .ref 181, .ref 182, .int (gY σ 15), .int (gY σ 16), .int (gY σ 17), .int (gY σ 18), .long (gQ σ), .int v, .ref 183, .ref 184])) = enc (sY σ 19 v) := rfl
set_option maxRecDepth 100000 in
theorem es_154 (σ : St) (f : Nat → Int32) : (enc σ).set 154 (.inl (0, 200, .inl f)) = enc (sC σ 0 f) := rfl
set_option maxRecDepth 100000 in
theorem es_155 (σ : St) (f : Nat → Int32) : (enc σ).set 155 (.inl (0, 20, .inl f)) = enc (sC σ 1 f) := rfl
set_option maxRecDepth 100000 in
theorem es_156 (σ : St) (f : Nat → Int32) : (enc σ).set 156 (.inl (0, 20, .inl f)) = enc (sC σ 2 f) := rfl
set_option maxRecDepth 100000 in
theorem es_157 (σ : St) (f : Nat → Int32) : (enc σ).set 157 (.inl (0, 600, .inl f)) = enc (sC σ 3 f) := rfl
set_option maxRecDepth 100000 in
theorem es_158 (σ : St) (f : Nat → Int32) : (enc σ).set 158 (.inl (0, 961, .inl f)) = enc (sC σ 4 f) := rfl
set_option maxRecDepth 100000 in
theorem es_159 (σ : St) (f : Nat → Int32) : (enc σ).set 159 (.inl (0, 620, .inl f)) = enc (sC σ 5 f) := rfl
set_option maxRecDepth 100000 in
theorem es_160 (σ : St) (f : Nat → Int32) : (enc σ).set 160 (.inl (0, 5082, .inl f)) = enc (sC σ 6 f) := rfl
set_option maxRecDepth 100000 in
theorem es_161 (σ : St) (f : Nat → Int32) : (enc σ).set 161 (.inl (1, 20, .inl f)) = enc (sC σ 7 f) := rfl
set_option maxRecDepth 100000 in
theorem es_162 (σ : St) (f : Nat → Int32) : (enc σ).set 162 (.inl (0, 20, .inl f)) = enc (sC σ 8 f) := rfl
set_option maxRecDepth 100000 in
theorem es_163 (σ : St) (f : Nat → Int32) : (enc σ).set 163 (.inl (0, 20, .inl f)) = enc (sC σ 9 f) := rfl
set_option maxRecDepth 100000 in
theorem es_164 (σ : St) (f : Nat → Int32) : (enc σ).set 164 (.inl (0, 20, .inl f)) = enc (sC σ 10 f) := rfl
set_option maxRecDepth 100000 in
theorem es_165 (σ : St) (f : Nat → Int32) : (enc σ).set 165 (.inl (0, 120, .inl f)) = enc (sC σ 11 f) := rfl
set_option maxRecDepth 100000 in
theorem es_166 (σ : St) (f : Nat → Int32) : (enc σ).set 166 (.inl (0, 120, .inl f)) = enc (sC σ 12 f) := rfl
set_option maxRecDepth 100000 in
theorem es_167 (σ : St) (f : Nat → Int32) : (enc σ).set 167 (.inl (0, 120, .inl f)) = enc (sC σ 13 f) := rfl
set_option maxRecDepth 100000 in
theorem es_168 (σ : St) (f : Nat → Int32) : (enc σ).set 168 (.inl (0, 1220, .inl f)) = enc (sC σ 14 f) := rfl
set_option maxRecDepth 100000 in
theorem es_169 (σ : St) (f : Nat → Int32) : (enc σ).set 169 (.inl (0, 122, .inl f)) = enc (sC σ 15 f) := rfl
set_option maxRecDepth 100000 in
theorem es_170 (σ : St) (f : Nat → Int32) : (enc σ).set 170 (.inl (0, 61, .inl f)) = enc (sC σ 16 f) := rfl
set_option maxRecDepth 100000 in
theorem es_171 (σ : St) (f : Nat → Int32) : (enc σ).set 171 (.inl (0, 61, .inl f)) = enc (sC σ 17 f) := rfl
set_option maxRecDepth 100000 in
theorem es_172 (σ : St) (f : Nat → Int32) : (enc σ).set 172 (.inl (0, 61, .inl f)) = enc (sC σ 18 f) := rfl
set_option maxRecDepth 100000 in
theorem es_173 (σ : St) (f : Nat → Int32) : (enc σ).set 173 (.inl (0, 61, .inl f)) = enc (sC σ 19 f) := rfl
set_option maxRecDepth 100000 in
theorem es_174 (σ : St) (f : Nat → Int32) : (enc σ).set 174 (.inl (0, 61, .inl f)) = enc (sC σ 20 f) := rfl
set_option maxRecDepth 100000 in
theorem es_175 (σ : St) (f : Nat → Int32) : (enc σ).set 175 (.inl (0, 24, .inl f)) = enc (sC σ 21 f) := rfl
set_option maxRecDepth 100000 in
theorem es_176 (σ : St) (f : Nat → Int32) : (enc σ).set 176 (.inl (0, 3600, .inl f)) = enc (sC σ 22 f) := rfl
set_option maxRecDepth 100000 in
theorem es_177 (σ : St) (f : Nat → Int32) : (enc σ).set 177 (.inl (0, 130, .inl f)) = enc (sC σ 23 f) := rfl
set_option maxRecDepth 100000 in
theorem es_178 (σ : St) (f : Nat → Int32) : (enc σ).set 178 (.inl (0, 13, .inl f)) = enc (sC σ 24 f) := rfl
set_option maxRecDepth 100000 in
theorem es_179 (σ : St) (f : Nat → Int32) : (enc σ).set 179 (.inl (0, 13, .inl f)) = enc (sC σ 25 f) := rfl
set_option maxRecDepth 100000 in
theorem es_180 (σ : St) (f : Nat → Int32) : (enc σ).set 180 (.inl (0, 13, .inl f)) = enc (sC σ 26 f) := rfl
set_option maxRecDepth 100000 in
theorem es_181 (σ : St) (f : Nat → Int32) : (enc σ).set 181 (.inl (0, 24, .inl f)) = enc (sC σ 27 f) := rfl
set_option maxRecDepth 100000 in
theorem es_182 (σ : St) (f : Nat → Int32) : (enc σ).set 182 (.inl (0, 480, .inl f)) = enc (sC σ 28 f) := rfl
set_option maxRecDepth 100000 in
theorem es_183 (σ : St) (f : Nat → Int32) : (enc σ).set 183 (.inl (0, 8, .inl f)) = enc (sC σ 29 f) := rfl
set_option maxRecDepth 100000 in
theorem es_184 (σ : St) (f : Nat → Int32) : (enc σ).set 184 (.inl (0, 8, .inl f)) = enc (sC σ 30 f) := rfl
end
section
/-! ROWS OF ARRAYS OF ARRAYS; OBJECTS THAT ARE MADE. -/
theorem xmid_get {α : Type} {A B : List α} {f : Nat → α} {n i a : Nat} (hA : A.length = a) (hi : i < n) : (A ++ ((List.range n).map f ++ B))[a + i]? = some (f i) := by
  subst hA
  rw [List.getElem?_append_right (Nat.le_add_right _ _), Nat.add_sub_cancel_left, List.getElem?_append_left (by simp [hi]), List.getElem?_map, List.getElem?_range hi]
  rfl
theorem xmap_set {α : Type} {f : Nat → α} {n i : Nat} {c : α} : ((List.range n).map f).set i c = (List.range n).map (fun j => if j = i then c else f j) := by
  apply List.ext_getElem?
  intro j
  by_cases hj : j < n
  · by_cases e : i = j
    · subst e
      rw [List.getElem?_set_self (by simp [hj]), List.getElem?_map, List.getElem?_range hj]
      simp
    · rw [List.getElem?_set_ne e, List.getElem?_map, List.getElem?_map, List.getElem?_range hj]
      simp [Ne.symm e]
  · rw [List.getElem?_eq_none (by simp; omega), List.getElem?_eq_none (by simp; omega)]
theorem xmid_set {α : Type} {A B : List α} {f : Nat → α} {n i a : Nat} {c : α} (hA : A.length = a) (hi : i < n) : (A ++ ((List.range n).map f ++ B)).set (a + i) c = A ++ ((List.range n).map (fun j => if j = i then c else f j) ++ B) := by
  subst hA
  rw [List.set_append_right _ _ (Nat.le_add_right _ _), Nat.add_sub_cancel_left, List.set_append_left _ _ (by simp [hi]), xmap_set]
def ep0 (σ : St) : XH := en0 σ
def eb0 (σ : St) : XH := en2 σ ++ (en3 σ ++ (en4 σ ++ (en5 σ ++ (en6 σ ++ (en7 σ ++ (en8 σ ++ (en9 σ ++ (en10 σ ++ ((List.range (gn σ)).map (fun i => gD σ (185 + i)))))))))))
set_option maxRecDepth 100000 in
theorem ea0 (σ : St) : enc σ = ep0 σ ++ ((List.range 20).map (fun i => (.inl (0, 30, .inl (gB σ 0 i)) : va_E)) ++ eb0 σ) := rfl
theorem er0 (σ : St) {i : Nat} (hi : i < 20) : (enc σ)[7 + i]? = some (.inl (0, 30, .inl (gB σ 0 i))) := by
  rw [ea0 σ]
  exact xmid_get (A := ep0 σ) (f := fun i => (.inl (0, 30, .inl (gB σ 0 i)) : va_E)) rfl hi
set_option maxRecDepth 100000 in
theorem et0 (σ : St) {i : Nat} (hi : i < 20) (f : Nat → Int32) : (enc σ).set (7 + i) (.inl (0, 30, .inl f)) = enc (sB σ 0 i f) := by
  rw [ea0 σ, ea0 (sB σ 0 i f), xmid_set (A := ep0 σ) (a := 7) (f := fun i => (.inl (0, 30, .inl (gB σ 0 i)) : va_E)) rfl hi]
  have e1 : ep0 (sB σ 0 i f) = ep0 σ := rfl
  have e2 : eb0 (sB σ 0 i f) = eb0 σ := rfl
  rw [e1, e2]
  congr 2
  apply List.map_congr_left
  intro j _
  show _ = (.inl (0, 30, .inl (va_up (gB σ 0) i f j)) : va_E)
  unfold va_up
  split <;> rfl
def ep1 (σ : St) : XH := en0 σ ++ (en1 σ ++ (en2 σ))
def eb1 (σ : St) : XH := en4 σ ++ (en5 σ ++ (en6 σ ++ (en7 σ ++ (en8 σ ++ (en9 σ ++ (en10 σ ++ ((List.range (gn σ)).map (fun i => gD σ (185 + i)))))))))
set_option maxRecDepth 100000 in
theorem ea1 (σ : St) : enc σ = ep1 σ ++ ((List.range 20).map (fun i => (.inl (0, 31, .inl (gB σ 1 i)) : va_E)) ++ eb1 σ) := rfl
theorem er1 (σ : St) {i : Nat} (hi : i < 20) : (enc σ)[28 + i]? = some (.inl (0, 31, .inl (gB σ 1 i))) := by
  rw [ea1 σ]
  exact xmid_get (A := ep1 σ) (f := fun i => (.inl (0, 31, .inl (gB σ 1 i)) : va_E)) rfl hi
set_option maxRecDepth 100000 in
theorem et1 (σ : St) {i : Nat} (hi : i < 20) (f : Nat → Int32) : (enc σ).set (28 + i) (.inl (0, 31, .inl f)) = enc (sB σ 1 i f) := by
  rw [ea1 σ, ea1 (sB σ 1 i f), xmid_set (A := ep1 σ) (a := 28) (f := fun i => (.inl (0, 31, .inl (gB σ 1 i)) : va_E)) rfl hi]
  have e1 : ep1 (sB σ 1 i f) = ep1 σ := rfl
  have e2 : eb1 (sB σ 1 i f) = eb1 σ := rfl
  rw [e1, e2]
  congr 2
  apply List.map_congr_left
  intro j _
  show _ = (.inl (0, 31, .inl (va_up (gB σ 1) i f j)) : va_E)
  unfold va_up
  split <;> rfl
def ep2 (σ : St) : XH := en0 σ ++ (en1 σ ++ (en2 σ ++ (en3 σ ++ (en4 σ))))
def eb2 (σ : St) : XH := en6 σ ++ (en7 σ ++ (en8 σ ++ (en9 σ ++ (en10 σ ++ ((List.range (gn σ)).map (fun i => gD σ (185 + i)))))))
set_option maxRecDepth 100000 in
theorem ea2 (σ : St) : enc σ = ep2 σ ++ ((List.range 31).map (fun i => (.inl (0, 31, .inl (gB σ 2 i)) : va_E)) ++ eb2 σ) := rfl
theorem er2 (σ : St) {i : Nat} (hi : i < 31) : (enc σ)[51 + i]? = some (.inl (0, 31, .inl (gB σ 2 i))) := by
  rw [ea2 σ]
  exact xmid_get (A := ep2 σ) (f := fun i => (.inl (0, 31, .inl (gB σ 2 i)) : va_E)) rfl hi
set_option maxRecDepth 100000 in
theorem et2 (σ : St) {i : Nat} (hi : i < 31) (f : Nat → Int32) : (enc σ).set (51 + i) (.inl (0, 31, .inl f)) = enc (sB σ 2 i f) := by
  rw [ea2 σ, ea2 (sB σ 2 i f), xmid_set (A := ep2 σ) (a := 51) (f := fun i => (.inl (0, 31, .inl (gB σ 2 i)) : va_E)) rfl hi]
  have e1 : ep2 (sB σ 2 i f) = ep2 σ := rfl
  have e2 : eb2 (sB σ 2 i f) = eb2 σ := rfl
  rw [e1, e2]
  congr 2
  apply List.map_congr_left
  intro j _
  show _ = (.inl (0, 31, .inl (va_up (gB σ 2) i f j)) : va_E)
  unfold va_up
  split <;> rfl
def ep3 (σ : St) : XH := en0 σ ++ (en1 σ ++ (en2 σ ++ (en3 σ ++ (en4 σ ++ (en5 σ ++ (en6 σ))))))
def eb3 (σ : St) : XH := en8 σ ++ (en9 σ ++ (en10 σ ++ ((List.range (gn σ)).map (fun i => gD σ (185 + i)))))
set_option maxRecDepth 100000 in
theorem ea3 (σ : St) : enc σ = ep3 σ ++ ((List.range 21).map (fun i => (.inl (0, 121, .inl (gB σ 3 i)) : va_E)) ++ eb3 σ) := rfl
theorem er3 (σ : St) {i : Nat} (hi : i < 21) : (enc σ)[84 + i]? = some (.inl (0, 121, .inl (gB σ 3 i))) := by
  rw [ea3 σ]
  exact xmid_get (A := ep3 σ) (f := fun i => (.inl (0, 121, .inl (gB σ 3 i)) : va_E)) rfl hi
set_option maxRecDepth 100000 in
theorem et3 (σ : St) {i : Nat} (hi : i < 21) (f : Nat → Int32) : (enc σ).set (84 + i) (.inl (0, 121, .inl f)) = enc (sB σ 3 i f) := by
  rw [ea3 σ, ea3 (sB σ 3 i f), xmid_set (A := ep3 σ) (a := 84) (f := fun i => (.inl (0, 121, .inl (gB σ 3 i)) : va_E)) rfl hi]
  have e1 : ep3 (sB σ 3 i f) = ep3 σ := rfl
  have e2 : eb3 (sB σ 3 i f) = eb3 σ := rfl
  rw [e1, e2]
  congr 2
  apply List.map_congr_left
  intro j _
  show _ = (.inl (0, 121, .inl (va_up (gB σ 3) i f j)) : va_E)
  unfold va_up
  split <;> rfl
def ep4 (σ : St) : XH := en0 σ ++ (en1 σ ++ (en2 σ ++ (en3 σ ++ (en4 σ ++ (en5 σ ++ (en6 σ ++ (en7 σ ++ (en8 σ))))))))
def eb4 (σ : St) : XH := en10 σ ++ ((List.range (gn σ)).map (fun i => gD σ (185 + i)))
set_option maxRecDepth 100000 in
theorem ea4 (σ : St) : enc σ = ep4 σ ++ ((List.range 20).map (fun i => (.inl (0, 4, .inl (gB σ 4 i)) : va_E)) ++ eb4 σ) := rfl
theorem er4 (σ : St) {i : Nat} (hi : i < 20) : (enc σ)[108 + i]? = some (.inl (0, 4, .inl (gB σ 4 i))) := by
  rw [ea4 σ]
  exact xmid_get (A := ep4 σ) (f := fun i => (.inl (0, 4, .inl (gB σ 4 i)) : va_E)) rfl hi
set_option maxRecDepth 100000 in
theorem et4 (σ : St) {i : Nat} (hi : i < 20) (f : Nat → Int32) : (enc σ).set (108 + i) (.inl (0, 4, .inl f)) = enc (sB σ 4 i f) := by
  rw [ea4 σ, ea4 (sB σ 4 i f), xmid_set (A := ep4 σ) (a := 108) (f := fun i => (.inl (0, 4, .inl (gB σ 4 i)) : va_E)) rfl hi]
  have e1 : ep4 (sB σ 4 i f) = ep4 σ := rfl
  have e2 : eb4 (sB σ 4 i f) = eb4 σ := rfl
  rw [e1, e2]
  congr 2
  apply List.map_congr_left
  intro j _
  show _ = (.inl (0, 4, .inl (va_up (gB σ 4) i f j)) : va_E)
  unfold va_up
  split <;> rfl
end
section
/-- the numbers of the objects that are made -/
def isd (σ : St) (q : Nat) : Prop := q = 138 ∨ q = 141 ∨ q = 142 ∨ q = 143 ∨ (185 ≤ q ∧ q < 185 + gn σ)
def ef (σ : St) : XH := en0 σ ++ (en1 σ ++ (en2 σ ++ (en3 σ ++ (en4 σ ++ (en5 σ ++ (en6 σ ++ (en7 σ ++ (en8 σ ++ (en9 σ ++ (en10 σ))))))))))
set_option maxRecDepth 100000 in
theorem ef_enc (σ : St) : enc σ = ef σ ++ ((List.range (gn σ)).map (fun i => gD σ (185 + i)) ++ []) := by
  rw [List.append_nil]
  rfl
set_option maxRecDepth 100000 in
theorem ef_len (σ : St) : (ef σ).length = 185 := rfl
theorem ed (σ : St) {q : Nat} (hq : isd σ q) : (enc σ)[q]? = some (gD σ q) := by
  unfold isd at hq
  rcases hq with rfl | rfl | rfl | rfl | ⟨h1, h2⟩
  · exact eg_138 σ
  · exact eg_141 σ
  · exact eg_142 σ
  · exact eg_143 σ
  · obtain ⟨i, rfl⟩ : ∃ i, q = 185 + i := ⟨q - 185, by omega⟩
    rw [ef_enc σ]
    exact xmid_get (f := fun i => gD σ (185 + i)) (ef_len σ) (by omega)
set_option maxRecDepth 100000 in
theorem et_138 (σ : St) (c : va_E) : (ef σ).set 138 c = ef (sD σ 138 c) := rfl
set_option maxRecDepth 100000 in
theorem et_141 (σ : St) (c : va_E) : (ef σ).set 141 c = ef (sD σ 141 c) := rfl
set_option maxRecDepth 100000 in
theorem et_142 (σ : St) (c : va_E) : (ef σ).set 142 c = ef (sD σ 142 c) := rfl
set_option maxRecDepth 100000 in
theorem et_143 (σ : St) (c : va_E) : (ef σ).set 143 c = ef (sD σ 143 c) := rfl
set_option maxRecDepth 100000 in
theorem ef_sD (σ : St) {q : Nat} (c : va_E) (h : 185 ≤ q) : ef (sD σ q c) = ef σ := by
  have e : ∀ d, d < 185 → gD (sD σ q c) d = gD σ d := fun d hd => by
    show va_up (gD σ) q c d = gD σ d
    unfold va_up
    rw [if_neg (by omega)]
  have h10 : en10 (sD σ q c) = en10 σ := by
    unfold en10
    rw [e 138 (by omega), e 141 (by omega), e 142 (by omega), e 143 (by omega)]
    rfl
  have h0 : en0 (sD σ q c) = en0 σ := rfl
  have h1 : en1 (sD σ q c) = en1 σ := rfl
  have h2 : en2 (sD σ q c) = en2 σ := rfl
  have h3 : en3 (sD σ q c) = en3 σ := rfl
  have h4 : en4 (sD σ q c) = en4 σ := rfl
  have h5 : en5 (sD σ q c) = en5 σ := rfl
  have h6 : en6 (sD σ q c) = en6 σ := rfl
  have h7 : en7 (sD σ q c) = en7 σ := rfl
  have h8 : en8 (sD σ q c) = en8 σ := rfl
  have h9 : en9 (sD σ q c) = en9 σ := rfl
  unfold ef
  rw [h0, h1, h2, h3, h4, h5, h6, h7, h8, h9, h10]
set_option maxRecDepth 100000 in
theorem esd (σ : St) {q : Nat} (hq : isd σ q) (c : va_E) : (enc σ).set q c = enc (sD σ q c) := by
  unfold isd at hq
  have key : ∀ d, d < 185 → (ef σ).set d c = ef (sD σ d c) → (enc σ).set d c = enc (sD σ d c) := fun d hd h => by
    rw [ef_enc σ, ef_enc (sD σ d c), List.set_append_left _ _ (by rw [ef_len]; exact hd), h]
    congr 2
    show _ = (List.range (gn σ)).map _
    apply List.map_congr_left
    intro j _
    show _ = va_up (gD σ) d c (185 + j)
    unfold va_up
    rw [if_neg (by omega)]
  rcases hq with rfl | rfl | rfl | rfl | ⟨h1, h2⟩
  · exact key 138 (by omega) (et_138 σ c)
  · exact key 141 (by omega) (et_141 σ c)
  · exact key 142 (by omega) (et_142 σ c)
  · exact key 143 (by omega) (et_143 σ c)
  · obtain ⟨i, rfl⟩ : ∃ i, q = 185 + i := ⟨q - 185, by omega⟩
    rw [ef_enc σ, ef_enc (sD σ (185 + i) c), xmid_set (f := fun i => gD σ (185 + i)) (ef_len σ) (by omega), ef_sD σ c (by omega)]
    congr 2
    show _ = (List.range (gn σ)).map _
    apply List.map_congr_left
    intro j _
    show _ = va_up (gD σ) (185 + i) c (185 + j)
    unfold va_up
    by_cases e : j = i
    · subst e; simp
    · rw [if_neg e, if_neg (by omega)]
set_option maxRecDepth 100000 in
theorem ef_same (σ τ : St) (h : (σ.1.1, σ.1.2.1, σ.1.2.2.1, σ.1.2.2.2.1, σ.1.2.2.2.2.1, σ.1.2.2.2.2.2.1, σ.1.2.2.2.2.2.2.1, σ.1.2.2.2.2.2.2.2.1, σ.1.2.2.2.2.2.2.2.2.1, σ.1.2.2.2.2.2.2.2.2.2.1, σ.2) = (τ.1.1, τ.1.2.1, τ.1.2.2.1, τ.1.2.2.2.1, τ.1.2.2.2.2.1, τ.1.2.2.2.2.2.1, τ.1.2.2.2.2.2.2.1, τ.1.2.2.2.2.2.2.2.1, τ.1.2.2.2.2.2.2.2.2.1, τ.1.2.2.2.2.2.2.2.2.2.1, τ.2)) : ef σ = ef τ := by
  obtain ⟨⟨a1, a2, a3, a4, a5, a6, a7, a8, a9, a10, a11⟩, b1⟩ := σ
  obtain ⟨⟨c1, c2, c3, c4, c5, c6, c7, c8, c9, c10, c11⟩, d1⟩ := τ
  simp only [Prod.mk.injEq] at h
  obtain ⟨rfl, rfl, rfl, rfl, rfl, rfl, rfl, rfl, rfl, rfl, rfl⟩ := h
  rfl
set_option maxRecDepth 100000 in
theorem esm (σ : St) (c : va_E) : enc σ ++ [c] = enc (sM σ c) := by
  have e1 : ef (sM σ c) = ef σ := by
    have h : ef (sM σ c) = ef (sD σ (185 + gn σ) c) := ef_same _ _ rfl
    rw [h, ef_sD σ c (by omega)]
  rw [ef_enc σ, ef_enc (sM σ c), e1, List.append_nil, List.append_nil, List.append_assoc]
  congr 1
  show _ = (List.range (gn σ + 1)).map _
  rw [List.range_succ, List.map_append]
  congr 1
  · apply List.map_congr_left
    intro j hj
    have := List.mem_range.mp hj
    show _ = va_up (gD σ) (185 + gn σ) c (185 + j)
    unfold va_up
    rw [if_neg (by omega)]
  · show _ = [va_up (gD σ) (185 + gn σ) c (185 + gn σ)]
    unfold va_up
    rw [if_pos rfl]
theorem enc_len (σ : St) : (enc σ).length = 185 + gn σ := by
  rw [ef_enc σ, List.length_append, ef_len, List.append_nil, List.length_map, List.length_range]
end
section
/-! THE SAME ROWS WITH AN END THAT IS ASKED FOR: Q of the answer and the last heap. -/
def BW (S : XS) (M : XM) (pc : Nat) (ls : List (Option Value)) (st : List Value) (h : XH) (Q : Option Value → XH → Prop) : Prop := ∃ (r : Option Value) (h' : XH), Q r h' ∧ AW S M pc ls st h r h'
def CM (S : XS) (M : XM) (as : List Value) (h : XH) (Q : Option Value → XH → Prop) : Prop := ∃ (r : Option Value) (h' : XH), Q r h' ∧ AM S M as h r h'
def qI (Q : Int32 → St → Prop) : Option Value → XH → Prop := fun r h' => ∃ (v : Int32) (τ : St), r = some (.int v) ∧ h' = enc τ ∧ Q v τ
def qL (Q : Int64 → St → Prop) : Option Value → XH → Prop := fun r h' => ∃ (v : Int64) (τ : St), r = some (.long v) ∧ h' = enc τ ∧ Q v τ
def qV (Q : St → Prop) : Option Value → XH → Prop := fun r h' => ∃ τ : St, r = none ∧ h' = enc τ ∧ Q τ
def qR (Q : Option Nat → St → Prop) : Option Value → XH → Prop := fun r h' => ∃ (v : Option Nat) (τ : St), r = some (va_rf v) ∧ h' = enc τ ∧ Q v τ
theorem CM.mono {S : XS} {M : XM} {as : List Value} {h : XH} {Q Q' : Option Value → XH → Prop} (c : CM S M as h Q) (hq : ∀ r h', Q r h' → Q' r h') : CM S M as h Q' := by
  obtain ⟨r, h', q, w⟩ := c
  exact ⟨r, h', hq _ _ q, w⟩
theorem CM.monoI {S : XS} {M : XM} {as : List Value} {h : XH} {Q Q' : Int32 → St → Prop} (c : CM S M as h (qI Q)) (hq : ∀ v τ, Q v τ → Q' v τ) : CM S M as h (qI Q') := c.mono (fun _ _ ⟨v, τ, e1, e2, q⟩ => ⟨v, τ, e1, e2, hq v τ q⟩)
theorem CM.monoL {S : XS} {M : XM} {as : List Value} {h : XH} {Q Q' : Int64 → St → Prop} (c : CM S M as h (qL Q)) (hq : ∀ v τ, Q v τ → Q' v τ) : CM S M as h (qL Q') := c.mono (fun _ _ ⟨v, τ, e1, e2, q⟩ => ⟨v, τ, e1, e2, hq v τ q⟩)
theorem CM.monoV {S : XS} {M : XM} {as : List Value} {h : XH} {Q Q' : St → Prop} (c : CM S M as h (qV Q)) (hq : ∀ τ, Q τ → Q' τ) : CM S M as h (qV Q') := c.mono (fun _ _ ⟨τ, e1, e2, q⟩ => ⟨τ, e1, e2, hq τ q⟩)
theorem CM.monoR {S : XS} {M : XM} {as : List Value} {h : XH} {Q Q' : Option Nat → St → Prop} (c : CM S M as h (qR Q)) (hq : ∀ v τ, Q v τ → Q' v τ) : CM S M as h (qR Q') := c.mono (fun _ _ ⟨v, τ, e1, e2, q⟩ => ⟨v, τ, e1, e2, hq v τ q⟩)
section XBW
variable {S : XS} {M : XM} {pc : Nat} {ls : List (Option Value)} {st : List Value} {h h1 : XH} {Q : Option Value → XH → Prop}
theorem b_iconst {n : Int} {v : Int32} (hd : decode M.2.1 pc = .ok (.iconst n, 1)) (hv : Int32.ofInt n = v) (k : BW S M (pc + 1) ls (.int v :: st) h Q) : BW S M pc ls (st) h Q := by
  obtain ⟨r, h9, q, w⟩ := k
  exact ⟨r, h9, q, x_iconst hd hv w⟩
theorem b_bipush {n : Int} {v : Int32} (hd : decode M.2.1 pc = .ok (.bipush n, 2)) (hv : (Int8.ofInt n).toInt32 = v) (k : BW S M (pc + 2) ls (.int v :: st) h Q) : BW S M pc ls (st) h Q := by
  obtain ⟨r, h9, q, w⟩ := k
  exact ⟨r, h9, q, x_bipush hd hv w⟩
theorem b_sipush {n : Int} {v : Int32} (hd : decode M.2.1 pc = .ok (.sipush n, 3)) (hv : (Int16.ofInt n).toInt32 = v) (k : BW S M (pc + 3) ls (.int v :: st) h Q) : BW S M pc ls (st) h Q := by
  obtain ⟨r, h9, q, w⟩ := k
  exact ⟨r, h9, q, x_sipush hd hv w⟩
theorem b_lconst {n : Fin 2} {v : Int64} (hd : decode M.2.1 pc = .ok (.lconst n, 1)) (hv : Int64.ofNat (n : Nat) = v) (k : BW S M (pc + 1) ls (.long v :: st) h Q) : BW S M pc ls (st) h Q := by
  obtain ⟨r, h9, q, w⟩ := k
  exact ⟨r, h9, q, x_lconst hd hv w⟩
theorem b_anull  (hd : decode M.2.1 pc = .ok (.aconst_null, 1))  (k : BW S M (pc + 1) ls (.null :: st) h Q) : BW S M pc ls (st) h Q := by
  obtain ⟨r, h9, q, w⟩ := k
  exact ⟨r, h9, q, x_anull hd w⟩
theorem b_iload_n {k0 : Fin 4} {i : Nat} {x : Int32} (hd : decode M.2.1 pc = .ok (.iload_n k0, 1)) (hi : (k0 : Nat) = i) (hl : ls[i]? = some (some (.int x))) (k : BW S M (pc + 1) ls (.int x :: st) h Q) : BW S M pc ls (st) h Q := by
  obtain ⟨r, h9, q, w⟩ := k
  exact ⟨r, h9, q, x_iload_n hd hi hl w⟩
theorem b_iload {i : Nat} {x : Int32} (hd : decode M.2.1 pc = .ok (.iload i, 2)) (hl : ls[i]? = some (some (.int x))) (k : BW S M (pc + 2) ls (.int x :: st) h Q) : BW S M pc ls (st) h Q := by
  obtain ⟨r, h9, q, w⟩ := k
  exact ⟨r, h9, q, x_iload hd hl w⟩
theorem b_lload_n {k0 : Fin 4} {i : Nat} {x : Int64} (hd : decode M.2.1 pc = .ok (.lload_n k0, 1)) (hi : (k0 : Nat) = i) (hl : ls[i]? = some (some (.long x))) (k : BW S M (pc + 1) ls (.long x :: st) h Q) : BW S M pc ls (st) h Q := by
  obtain ⟨r, h9, q, w⟩ := k
  exact ⟨r, h9, q, x_lload_n hd hi hl w⟩
theorem b_lload {i : Nat} {x : Int64} (hd : decode M.2.1 pc = .ok (.lload i, 2)) (hl : ls[i]? = some (some (.long x))) (k : BW S M (pc + 2) ls (.long x :: st) h Q) : BW S M pc ls (st) h Q := by
  obtain ⟨r, h9, q, w⟩ := k
  exact ⟨r, h9, q, x_lload hd hl w⟩
theorem b_aload_n {k0 : Fin 4} {i : Nat} {x : Nat} (hd : decode M.2.1 pc = .ok (.aload_n k0, 1)) (hi : (k0 : Nat) = i) (hl : ls[i]? = some (some (.ref x))) (k : BW S M (pc + 1) ls (.ref x :: st) h Q) : BW S M pc ls (st) h Q := by
  obtain ⟨r, h9, q, w⟩ := k
  exact ⟨r, h9, q, x_aload_n hd hi hl w⟩
theorem b_aload_nS {k0 : Fin 4} {i : Nat} {x : Nat} (hd : decode M.2.1 pc = .ok (.aload_n k0, 1)) (hi : (k0 : Nat) = i) (hl : ls[i]? = some (some (.retAddr x))) (k : BW S M (pc + 1) ls (.retAddr x :: st) h Q) : BW S M pc ls (st) h Q := by
  obtain ⟨r, h9, q, w⟩ := k
  exact ⟨r, h9, q, x_aload_nS hd hi hl w⟩
theorem b_aload_nN {k0 : Fin 4} {i : Nat} (hd : decode M.2.1 pc = .ok (.aload_n k0, 1)) (hi : (k0 : Nat) = i) (hl : ls[i]? = some (some .null)) (k : BW S M (pc + 1) ls (.null :: st) h Q) : BW S M pc ls (st) h Q := by
  obtain ⟨r, h9, q, w⟩ := k
  exact ⟨r, h9, q, x_aload_nN hd hi hl w⟩
theorem b_aload {i : Nat} {x : Nat} (hd : decode M.2.1 pc = .ok (.aload i, 2)) (hl : ls[i]? = some (some (.ref x))) (k : BW S M (pc + 2) ls (.ref x :: st) h Q) : BW S M pc ls (st) h Q := by
  obtain ⟨r, h9, q, w⟩ := k
  exact ⟨r, h9, q, x_aload hd hl w⟩
theorem b_aloadS {i : Nat} {x : Nat} (hd : decode M.2.1 pc = .ok (.aload i, 2)) (hl : ls[i]? = some (some (.retAddr x))) (k : BW S M (pc + 2) ls (.retAddr x :: st) h Q) : BW S M pc ls (st) h Q := by
  obtain ⟨r, h9, q, w⟩ := k
  exact ⟨r, h9, q, x_aloadS hd hl w⟩
theorem b_aloadN {i : Nat} (hd : decode M.2.1 pc = .ok (.aload i, 2)) (hl : ls[i]? = some (some .null)) (k : BW S M (pc + 2) ls (.null :: st) h Q) : BW S M pc ls (st) h Q := by
  obtain ⟨r, h9, q, w⟩ := k
  exact ⟨r, h9, q, x_aloadN hd hl w⟩
theorem b_iadd {x y : Int32} (hd : decode M.2.1 pc = .ok (.iadd, 1))  (k : BW S M (pc + 1) ls (.int (x + y) :: st) h Q) : BW S M pc ls (.int y :: .int x :: st) h Q := by
  obtain ⟨r, h9, q, w⟩ := k
  exact ⟨r, h9, q, x_iadd hd w⟩
theorem b_isub {x y : Int32} (hd : decode M.2.1 pc = .ok (.isub, 1))  (k : BW S M (pc + 1) ls (.int (x - y) :: st) h Q) : BW S M pc ls (.int y :: .int x :: st) h Q := by
  obtain ⟨r, h9, q, w⟩ := k
  exact ⟨r, h9, q, x_isub hd w⟩
theorem b_imul {x y : Int32} (hd : decode M.2.1 pc = .ok (.imul, 1))  (k : BW S M (pc + 1) ls (.int (x * y) :: st) h Q) : BW S M pc ls (.int y :: .int x :: st) h Q := by
  obtain ⟨r, h9, q, w⟩ := k
  exact ⟨r, h9, q, x_imul hd w⟩
theorem b_iand {x y : Int32} (hd : decode M.2.1 pc = .ok (.iand, 1))  (k : BW S M (pc + 1) ls (.int (x &&& y) :: st) h Q) : BW S M pc ls (.int y :: .int x :: st) h Q := by
  obtain ⟨r, h9, q, w⟩ := k
  exact ⟨r, h9, q, x_iand hd w⟩
theorem b_ishr {x y : Int32} (hd : decode M.2.1 pc = .ok (.ishr, 1))  (k : BW S M (pc + 1) ls (.int (x >>> (y &&& 31)) :: st) h Q) : BW S M pc ls (.int y :: .int x :: st) h Q := by
  obtain ⟨r, h9, q, w⟩ := k
  exact ⟨r, h9, q, x_ishr hd w⟩
theorem b_iushr {x y : Int32} (hd : decode M.2.1 pc = .ok (.iushr, 1))  (k : BW S M (pc + 1) ls (.int ((x.toUInt32 >>> (y.toUInt32 &&& Int32.toUInt32 31)).toInt32) :: st) h Q) : BW S M pc ls (.int y :: .int x :: st) h Q := by
  obtain ⟨r, h9, q, w⟩ := k
  exact ⟨r, h9, q, x_iushr hd w⟩
theorem b_idiv {x y : Int32} (hd : decode M.2.1 pc = .ok (.idiv, 1)) (hne : ¬ y = 0) (k : BW S M (pc + 1) ls (.int (x / y) :: st) h Q) : BW S M pc ls (.int y :: .int x :: st) h Q := by
  obtain ⟨r, h9, q, w⟩ := k
  exact ⟨r, h9, q, x_idiv hd hne w⟩
theorem b_irem {x y : Int32} (hd : decode M.2.1 pc = .ok (.irem, 1)) (hne : ¬ y = 0) (k : BW S M (pc + 1) ls (.int (x - x / y * y) :: st) h Q) : BW S M pc ls (.int y :: .int x :: st) h Q := by
  obtain ⟨r, h9, q, w⟩ := k
  exact ⟨r, h9, q, x_irem hd hne w⟩
theorem b_ladd {x y : Int64} (hd : decode M.2.1 pc = .ok (.ladd, 1))  (k : BW S M (pc + 1) ls (.long (x + y) :: st) h Q) : BW S M pc ls (.long y :: .long x :: st) h Q := by
  obtain ⟨r, h9, q, w⟩ := k
  exact ⟨r, h9, q, x_ladd hd w⟩
theorem b_lsub {x y : Int64} (hd : decode M.2.1 pc = .ok (.lsub, 1))  (k : BW S M (pc + 1) ls (.long (x - y) :: st) h Q) : BW S M pc ls (.long y :: .long x :: st) h Q := by
  obtain ⟨r, h9, q, w⟩ := k
  exact ⟨r, h9, q, x_lsub hd w⟩
theorem b_lmul {x y : Int64} (hd : decode M.2.1 pc = .ok (.lmul, 1))  (k : BW S M (pc + 1) ls (.long (x * y) :: st) h Q) : BW S M pc ls (.long y :: .long x :: st) h Q := by
  obtain ⟨r, h9, q, w⟩ := k
  exact ⟨r, h9, q, x_lmul hd w⟩
theorem b_land {x y : Int64} (hd : decode M.2.1 pc = .ok (.land, 1))  (k : BW S M (pc + 1) ls (.long (x &&& y) :: st) h Q) : BW S M pc ls (.long y :: .long x :: st) h Q := by
  obtain ⟨r, h9, q, w⟩ := k
  exact ⟨r, h9, q, x_land hd w⟩
theorem b_ldiv {x y : Int64} (hd : decode M.2.1 pc = .ok (.ldiv, 1)) (hne : ¬ y = 0) (k : BW S M (pc + 1) ls (.long (x / y) :: st) h Q) : BW S M pc ls (.long y :: .long x :: st) h Q := by
  obtain ⟨r, h9, q, w⟩ := k
  exact ⟨r, h9, q, x_ldiv hd hne w⟩
theorem b_lshr {x : Int64} {y : Int32} (hd : decode M.2.1 pc = .ok (.lshr, 1))  (k : BW S M (pc + 1) ls (.long (x >>> (y.toInt64 &&& 63)) :: st) h Q) : BW S M pc ls (.int y :: .long x :: st) h Q := by
  obtain ⟨r, h9, q, w⟩ := k
  exact ⟨r, h9, q, x_lshr hd w⟩
theorem b_i2l {x : Int32} (hd : decode M.2.1 pc = .ok (.i2l, 1))  (k : BW S M (pc + 1) ls (.long x.toInt64 :: st) h Q) : BW S M pc ls (.int x :: st) h Q := by
  obtain ⟨r, h9, q, w⟩ := k
  exact ⟨r, h9, q, x_i2l hd w⟩
theorem b_l2i {x : Int64} (hd : decode M.2.1 pc = .ok (.l2i, 1))  (k : BW S M (pc + 1) ls (.int x.toInt32 :: st) h Q) : BW S M pc ls (.long x :: st) h Q := by
  obtain ⟨r, h9, q, w⟩ := k
  exact ⟨r, h9, q, x_l2i hd w⟩
theorem b_lcmp {x y : Int64} (hd : decode M.2.1 pc = .ok (.lcmp, 1))  (k : BW S M (pc + 1) ls (.int (lg_cmp x y) :: st) h Q) : BW S M pc ls (.long y :: .long x :: st) h Q := by
  obtain ⟨r, h9, q, w⟩ := k
  exact ⟨r, h9, q, x_lcmp hd w⟩
theorem b_dup {v : Value} (hd : decode M.2.1 pc = .ok (.dup, 1)) (hv : v.category = 1) (k : BW S M (pc + 1) ls (v :: v :: st) h Q) : BW S M pc ls (v :: st) h Q := by
  obtain ⟨r, h9, q, w⟩ := k
  exact ⟨r, h9, q, x_dup hd hv w⟩
theorem b_pop {v : Value} (hd : decode M.2.1 pc = .ok (.pop, 1)) (hv : v.category = 1) (k : BW S M (pc + 1) ls (st) h Q) : BW S M pc ls (v :: st) h Q := by
  obtain ⟨r, h9, q, w⟩ := k
  exact ⟨r, h9, q, x_pop hd hv w⟩
theorem b_dup2 {v w : Value} (hd : decode M.2.1 pc = .ok (.dup2, 1)) (hv : v.category = 1) (hw : w.category = 1) (k : BW S M (pc + 1) ls (v :: w :: v :: w :: st) h Q) : BW S M pc ls (v :: w :: st) h Q := by
  obtain ⟨r, h9, q, w⟩ := k
  exact ⟨r, h9, q, x_dup2 hd hv hw w⟩
theorem b_istore_n {k0 : Fin 4} {i : Nat} {x : Int32} {ls' : List (Option Value)} (hd : decode M.2.1 pc = .ok (.istore_n k0, 1)) (hi : (k0 : Nat) = i) (hn9 : i < M.2.2.1) (hl : xst ls i (.int x) = ls') (k : BW S M (pc + 1) ls' st h Q) : BW S M pc ls (.int x :: st) h Q := by
  obtain ⟨r, h9, q, w⟩ := k
  exact ⟨r, h9, q, x_istore_n hd hi hn9 hl w⟩
theorem b_lstore_n {k0 : Fin 4} {i : Nat} {x : Int64} {ls' : List (Option Value)} (hd : decode M.2.1 pc = .ok (.lstore_n k0, 1)) (hi : (k0 : Nat) = i) (hn9 : i + 1 < M.2.2.1) (hl : xst2 ls i (.long x) = ls') (k : BW S M (pc + 1) ls' st h Q) : BW S M pc ls (.long x :: st) h Q := by
  obtain ⟨r, h9, q, w⟩ := k
  exact ⟨r, h9, q, x_lstore_n hd hi hn9 hl w⟩
theorem b_astore_n {k0 : Fin 4} {i : Nat} {x : Nat} {ls' : List (Option Value)} (hd : decode M.2.1 pc = .ok (.astore_n k0, 1)) (hi : (k0 : Nat) = i) (hn9 : i < M.2.2.1) (hl : xst ls i (.ref x) = ls') (k : BW S M (pc + 1) ls' st h Q) : BW S M pc ls (.ref x :: st) h Q := by
  obtain ⟨r, h9, q, w⟩ := k
  exact ⟨r, h9, q, x_astore_n hd hi hn9 hl w⟩
theorem b_astore_nN {k0 : Fin 4} {i : Nat} {ls' : List (Option Value)} (hd : decode M.2.1 pc = .ok (.astore_n k0, 1)) (hi : (k0 : Nat) = i) (hn9 : i < M.2.2.1) (hl : xst ls i (.null) = ls') (k : BW S M (pc + 1) ls' st h Q) : BW S M pc ls (.null :: st) h Q := by
  obtain ⟨r, h9, q, w⟩ := k
  exact ⟨r, h9, q, x_astore_nN hd hi hn9 hl w⟩
theorem b_istore {i : Nat} {x : Int32} {ls' : List (Option Value)} (hd : decode M.2.1 pc = .ok (.istore i, 2))  (hn9 : i < M.2.2.1) (hl : xst ls i (.int x) = ls') (k : BW S M (pc + 2) ls' st h Q) : BW S M pc ls (.int x :: st) h Q := by
  obtain ⟨r, h9, q, w⟩ := k
  exact ⟨r, h9, q, x_istore hd hn9 hl w⟩
theorem b_lstore {i : Nat} {x : Int64} {ls' : List (Option Value)} (hd : decode M.2.1 pc = .ok (.lstore i, 2))  (hn9 : i + 1 < M.2.2.1) (hl : xst2 ls i (.long x) = ls') (k : BW S M (pc + 2) ls' st h Q) : BW S M pc ls (.long x :: st) h Q := by
  obtain ⟨r, h9, q, w⟩ := k
  exact ⟨r, h9, q, x_lstore hd hn9 hl w⟩
theorem b_astore {i : Nat} {x : Nat} {ls' : List (Option Value)} (hd : decode M.2.1 pc = .ok (.astore i, 2))  (hn9 : i < M.2.2.1) (hl : xst ls i (.ref x) = ls') (k : BW S M (pc + 2) ls' st h Q) : BW S M pc ls (.ref x :: st) h Q := by
  obtain ⟨r, h9, q, w⟩ := k
  exact ⟨r, h9, q, x_astore hd hn9 hl w⟩
theorem b_astoreN {i : Nat} {ls' : List (Option Value)} (hd : decode M.2.1 pc = .ok (.astore i, 2))  (hn9 : i < M.2.2.1) (hl : xst ls i (.null) = ls') (k : BW S M (pc + 2) ls' st h Q) : BW S M pc ls (.null :: st) h Q := by
  obtain ⟨r, h9, q, w⟩ := k
  exact ⟨r, h9, q, x_astoreN hd hn9 hl w⟩
theorem b_iinc {i : Nat} {n : Int} {x v : Int32} {ls' : List (Option Value)} (hd : decode M.2.1 pc = .ok (.iinc i n, 3)) (hx0 : ls[i]? = some (some (.int x))) (hv : x + Int32.ofInt n = v) (hn9 : i < M.2.2.1) (hl : xst ls i (.int v) = ls') (k : BW S M (pc + 3) ls' st h Q) : BW S M pc ls st h Q := by
  obtain ⟨r, h9, q, w⟩ := k
  exact ⟨r, h9, q, x_iinc hd hx0 hv hn9 hl w⟩
theorem b_if_eq {x : Int32} {off : Int} {tgt : Nat} (hd : decode M.2.1 pc = .ok (.ifCond .eq off, 3)) (ht : (pc : Int) + off = (tgt : Int)) (kt : x = 0 → BW S M tgt ls st h Q) (kf : ¬ x = 0 → BW S M (pc + 3) ls st h Q) : BW S M pc ls (.int x :: st) h Q := by
  by_cases c9 : x = 0
  · obtain ⟨r, h9, q, w⟩ := kt c9
    exact ⟨r, h9, q, x_if_eq hd ht (fun _ => w) (fun z => absurd c9 z)⟩
  · obtain ⟨r, h9, q, w⟩ := kf c9
    exact ⟨r, h9, q, x_if_eq hd ht (fun z => absurd z c9) (fun _ => w)⟩
theorem b_icmp_eq {x y : Int32} {off : Int} {tgt : Nat} (hd : decode M.2.1 pc = .ok (.if_icmp .eq off, 3)) (ht : (pc : Int) + off = (tgt : Int)) (kt : x = y → BW S M tgt ls st h Q) (kf : ¬ x = y → BW S M (pc + 3) ls st h Q) : BW S M pc ls (.int y :: .int x :: st) h Q := by
  by_cases c9 : x = y
  · obtain ⟨r, h9, q, w⟩ := kt c9
    exact ⟨r, h9, q, x_icmp_eq hd ht (fun _ => w) (fun z => absurd c9 z)⟩
  · obtain ⟨r, h9, q, w⟩ := kf c9
    exact ⟨r, h9, q, x_icmp_eq hd ht (fun z => absurd z c9) (fun _ => w)⟩
theorem b_if_ne {x : Int32} {off : Int} {tgt : Nat} (hd : decode M.2.1 pc = .ok (.ifCond .ne off, 3)) (ht : (pc : Int) + off = (tgt : Int)) (kt : ¬ x = 0 → BW S M tgt ls st h Q) (kf : x = 0 → BW S M (pc + 3) ls st h Q) : BW S M pc ls (.int x :: st) h Q := by
  by_cases c9 : x = 0
  · obtain ⟨r, h9, q, w⟩ := kf c9
    exact ⟨r, h9, q, x_if_ne hd ht (fun z => absurd c9 z) (fun _ => w)⟩
  · obtain ⟨r, h9, q, w⟩ := kt c9
    exact ⟨r, h9, q, x_if_ne hd ht (fun _ => w) (fun z => absurd z c9)⟩
theorem b_icmp_ne {x y : Int32} {off : Int} {tgt : Nat} (hd : decode M.2.1 pc = .ok (.if_icmp .ne off, 3)) (ht : (pc : Int) + off = (tgt : Int)) (kt : ¬ x = y → BW S M tgt ls st h Q) (kf : x = y → BW S M (pc + 3) ls st h Q) : BW S M pc ls (.int y :: .int x :: st) h Q := by
  by_cases c9 : x = y
  · obtain ⟨r, h9, q, w⟩ := kf c9
    exact ⟨r, h9, q, x_icmp_ne hd ht (fun z => absurd c9 z) (fun _ => w)⟩
  · obtain ⟨r, h9, q, w⟩ := kt c9
    exact ⟨r, h9, q, x_icmp_ne hd ht (fun _ => w) (fun z => absurd z c9)⟩
theorem b_if_lt {x : Int32} {off : Int} {tgt : Nat} (hd : decode M.2.1 pc = .ok (.ifCond .lt off, 3)) (ht : (pc : Int) + off = (tgt : Int)) (kt : x < 0 → BW S M tgt ls st h Q) (kf : ¬ x < 0 → BW S M (pc + 3) ls st h Q) : BW S M pc ls (.int x :: st) h Q := by
  by_cases c9 : x < 0
  · obtain ⟨r, h9, q, w⟩ := kt c9
    exact ⟨r, h9, q, x_if_lt hd ht (fun _ => w) (fun z => absurd c9 z)⟩
  · obtain ⟨r, h9, q, w⟩ := kf c9
    exact ⟨r, h9, q, x_if_lt hd ht (fun z => absurd z c9) (fun _ => w)⟩
theorem b_icmp_lt {x y : Int32} {off : Int} {tgt : Nat} (hd : decode M.2.1 pc = .ok (.if_icmp .lt off, 3)) (ht : (pc : Int) + off = (tgt : Int)) (kt : x < y → BW S M tgt ls st h Q) (kf : ¬ x < y → BW S M (pc + 3) ls st h Q) : BW S M pc ls (.int y :: .int x :: st) h Q := by
  by_cases c9 : x < y
  · obtain ⟨r, h9, q, w⟩ := kt c9
    exact ⟨r, h9, q, x_icmp_lt hd ht (fun _ => w) (fun z => absurd c9 z)⟩
  · obtain ⟨r, h9, q, w⟩ := kf c9
    exact ⟨r, h9, q, x_icmp_lt hd ht (fun z => absurd z c9) (fun _ => w)⟩
theorem b_if_ge {x : Int32} {off : Int} {tgt : Nat} (hd : decode M.2.1 pc = .ok (.ifCond .ge off, 3)) (ht : (pc : Int) + off = (tgt : Int)) (kt : 0 ≤ x → BW S M tgt ls st h Q) (kf : ¬ 0 ≤ x → BW S M (pc + 3) ls st h Q) : BW S M pc ls (.int x :: st) h Q := by
  by_cases c9 : 0 ≤ x
  · obtain ⟨r, h9, q, w⟩ := kt c9
    exact ⟨r, h9, q, x_if_ge hd ht (fun _ => w) (fun z => absurd c9 z)⟩
  · obtain ⟨r, h9, q, w⟩ := kf c9
    exact ⟨r, h9, q, x_if_ge hd ht (fun z => absurd z c9) (fun _ => w)⟩
theorem b_icmp_ge {x y : Int32} {off : Int} {tgt : Nat} (hd : decode M.2.1 pc = .ok (.if_icmp .ge off, 3)) (ht : (pc : Int) + off = (tgt : Int)) (kt : y ≤ x → BW S M tgt ls st h Q) (kf : ¬ y ≤ x → BW S M (pc + 3) ls st h Q) : BW S M pc ls (.int y :: .int x :: st) h Q := by
  by_cases c9 : y ≤ x
  · obtain ⟨r, h9, q, w⟩ := kt c9
    exact ⟨r, h9, q, x_icmp_ge hd ht (fun _ => w) (fun z => absurd c9 z)⟩
  · obtain ⟨r, h9, q, w⟩ := kf c9
    exact ⟨r, h9, q, x_icmp_ge hd ht (fun z => absurd z c9) (fun _ => w)⟩
theorem b_if_gt {x : Int32} {off : Int} {tgt : Nat} (hd : decode M.2.1 pc = .ok (.ifCond .gt off, 3)) (ht : (pc : Int) + off = (tgt : Int)) (kt : 0 < x → BW S M tgt ls st h Q) (kf : ¬ 0 < x → BW S M (pc + 3) ls st h Q) : BW S M pc ls (.int x :: st) h Q := by
  by_cases c9 : 0 < x
  · obtain ⟨r, h9, q, w⟩ := kt c9
    exact ⟨r, h9, q, x_if_gt hd ht (fun _ => w) (fun z => absurd c9 z)⟩
  · obtain ⟨r, h9, q, w⟩ := kf c9
    exact ⟨r, h9, q, x_if_gt hd ht (fun z => absurd z c9) (fun _ => w)⟩
theorem b_icmp_gt {x y : Int32} {off : Int} {tgt : Nat} (hd : decode M.2.1 pc = .ok (.if_icmp .gt off, 3)) (ht : (pc : Int) + off = (tgt : Int)) (kt : y < x → BW S M tgt ls st h Q) (kf : ¬ y < x → BW S M (pc + 3) ls st h Q) : BW S M pc ls (.int y :: .int x :: st) h Q := by
  by_cases c9 : y < x
  · obtain ⟨r, h9, q, w⟩ := kt c9
    exact ⟨r, h9, q, x_icmp_gt hd ht (fun _ => w) (fun z => absurd c9 z)⟩
  · obtain ⟨r, h9, q, w⟩ := kf c9
    exact ⟨r, h9, q, x_icmp_gt hd ht (fun z => absurd z c9) (fun _ => w)⟩
theorem b_if_le {x : Int32} {off : Int} {tgt : Nat} (hd : decode M.2.1 pc = .ok (.ifCond .le off, 3)) (ht : (pc : Int) + off = (tgt : Int)) (kt : x ≤ 0 → BW S M tgt ls st h Q) (kf : ¬ x ≤ 0 → BW S M (pc + 3) ls st h Q) : BW S M pc ls (.int x :: st) h Q := by
  by_cases c9 : x ≤ 0
  · obtain ⟨r, h9, q, w⟩ := kt c9
    exact ⟨r, h9, q, x_if_le hd ht (fun _ => w) (fun z => absurd c9 z)⟩
  · obtain ⟨r, h9, q, w⟩ := kf c9
    exact ⟨r, h9, q, x_if_le hd ht (fun z => absurd z c9) (fun _ => w)⟩
theorem b_icmp_le {x y : Int32} {off : Int} {tgt : Nat} (hd : decode M.2.1 pc = .ok (.if_icmp .le off, 3)) (ht : (pc : Int) + off = (tgt : Int)) (kt : x ≤ y → BW S M tgt ls st h Q) (kf : ¬ x ≤ y → BW S M (pc + 3) ls st h Q) : BW S M pc ls (.int y :: .int x :: st) h Q := by
  by_cases c9 : x ≤ y
  · obtain ⟨r, h9, q, w⟩ := kt c9
    exact ⟨r, h9, q, x_icmp_le hd ht (fun _ => w) (fun z => absurd c9 z)⟩
  · obtain ⟨r, h9, q, w⟩ := kf c9
    exact ⟨r, h9, q, x_icmp_le hd ht (fun z => absurd z c9) (fun _ => w)⟩
theorem b_goto {off : Int} {tgt : Nat} (hd : decode M.2.1 pc = .ok (.goto off, 3)) (ht : (pc : Int) + off = (tgt : Int)) (k : BW S M tgt ls st h Q) : BW S M pc ls st h Q := by
  obtain ⟨r, h9, q, w⟩ := k
  exact ⟨r, h9, q, x_goto hd ht w⟩
theorem b_ifnull {x : Nat} {off : Int} (hd : decode M.2.1 pc = .ok (.ifnull off, 3)) (k : BW S M (pc + 3) ls st h Q) : BW S M pc ls (.ref x :: st) h Q := by
  obtain ⟨r, h9, q, w⟩ := k
  exact ⟨r, h9, q, x_ifnull hd w⟩
theorem b_ifnullN {off : Int} {tgt : Nat} (hd : decode M.2.1 pc = .ok (.ifnull off, 3)) (ht : (pc : Int) + off = (tgt : Int)) (k : BW S M (tgt) ls st h Q) : BW S M pc ls (.null :: st) h Q := by
  obtain ⟨r, h9, q, w⟩ := k
  exact ⟨r, h9, q, x_ifnullN hd ht w⟩
theorem b_ifnonnull {x : Nat} {off : Int} {tgt : Nat} (hd : decode M.2.1 pc = .ok (.ifnonnull off, 3)) (ht : (pc : Int) + off = (tgt : Int)) (k : BW S M (tgt) ls st h Q) : BW S M pc ls (.ref x :: st) h Q := by
  obtain ⟨r, h9, q, w⟩ := k
  exact ⟨r, h9, q, x_ifnonnull hd ht w⟩
theorem b_ifnonnullN {off : Int} (hd : decode M.2.1 pc = .ok (.ifnonnull off, 3)) (k : BW S M (pc + 3) ls st h Q) : BW S M pc ls (.null :: st) h Q := by
  obtain ⟨r, h9, q, w⟩ := k
  exact ⟨r, h9, q, x_ifnonnullN hd w⟩
theorem b_tableOut {dflt lo hi : Int} {offs : Array Int} {len : Nat} {x : Int32} {tgt : Nat} (hd : decode M.2.1 pc = .ok (.tableswitch dflt lo hi offs, len)) (hx : x.toInt < lo ∨ hi < x.toInt) (ht : (pc : Int) + dflt = (tgt : Int)) (k : BW S M tgt ls st h Q) : BW S M pc ls (.int x :: st) h Q := by
  obtain ⟨r, h9, q, w⟩ := k
  exact ⟨r, h9, q, x_tableOut hd hx ht w⟩
theorem b_tableIn {dflt lo hi : Int} {offs : Array Int} {len : Nat} {x : Int32} {off : Int} {tgt : Nat} (hd : decode M.2.1 pc = .ok (.tableswitch dflt lo hi offs, len)) (h1 : ¬ x.toInt < lo) (h2 : ¬ hi < x.toInt) (ho : offs[(x.toInt - lo).toNat]? = some off) (ht : (pc : Int) + off = (tgt : Int)) (k : BW S M tgt ls st h Q) : BW S M pc ls (.int x :: st) h Q := by
  obtain ⟨r, h9, q, w⟩ := k
  exact ⟨r, h9, q, x_tableIn hd h1 h2 ho ht w⟩
theorem b_ldc {index : Nat} {v : Int32} (hd : decode M.2.1 pc = .ok (.ldc index, 2)) (hw : Cond.constant M.1.cls index v ∈ gtbl) (k : BW S M (pc + 2) ls (.int v :: st) h Q) : BW S M pc ls st h Q := by
  obtain ⟨r, h9, q, w⟩ := k
  exact ⟨r, h9, q, x_ldc hd hw w⟩
theorem b_ldcw {index : Nat} {v : Int32} (hd : decode M.2.1 pc = .ok (.ldc_w index, 3)) (hw : Cond.constant M.1.cls index v ∈ gtbl) (k : BW S M (pc + 3) ls (.int v :: st) h Q) : BW S M pc ls st h Q := by
  obtain ⟨r, h9, q, w⟩ := k
  exact ⟨r, h9, q, x_ldcw hd hw w⟩
theorem b_ldc2 {index : Nat} {v : Int64} (hd : decode M.2.1 pc = .ok (.ldc2_w index, 3)) (hw : Cond.constantLong M.1.cls index v ∈ gtbl) (k : BW S M (pc + 3) ls (.long v :: st) h Q) : BW S M pc ls st h Q := by
  obtain ⟨r, h9, q, w⟩ := k
  exact ⟨r, h9, q, x_ldc2 hd hw w⟩
theorem b_ldcS {index n : Nat} {tx : String} (hd : decode M.2.1 pc = .ok (.ldc index, 2)) (hw : (M.1.cls, index, tx, n) ∈ xstr) (k : BW S M (pc + 2) ls (.retAddr n :: st) h Q) : BW S M pc ls st h Q := by
  obtain ⟨r, h9, q, w⟩ := k
  exact ⟨r, h9, q, x_ldcS hd hw w⟩
theorem b_iret {x : Int32} {ty : FieldType} (hd : decode M.2.1 pc = .ok (.ireturn, 1)) (hr : M.2.2.2.1 = some ty) (hn9 : narrow ty (.int x) = .int x) (q : Q (some (.int x)) h) : BW S M pc ls [.int x] h Q := ⟨_, _, q, x_iret hd hr hn9⟩
theorem b_lret {x : Int64} (hd : decode M.2.1 pc = .ok (.lreturn, 1)) (hr : M.2.2.2.1 = some .long) (q : Q (some (.long x)) h) : BW S M pc ls [.long x] h Q := ⟨_, _, q, x_lret hd hr⟩
theorem b_vret (hd : decode M.2.1 pc = .ok (.return_, 1)) (hr : M.2.2.2.1 = none) (q : Q none h) : BW S M pc ls [] h Q := ⟨_, _, q, x_vret hd hr⟩
theorem b_aret {x : Nat} {C9 : String} (hd : decode M.2.1 pc = .ok (.areturn, 1)) (hr : M.2.2.2.1 = some (.object C9)) (q : Q (some (.ref x)) h) : BW S M pc ls [.ref x] h Q := ⟨_, _, q, x_aret hd hr⟩
theorem b_aretN {C9 : String} (hd : decode M.2.1 pc = .ok (.areturn, 1)) (hr : M.2.2.2.1 = some (.object C9)) (q : Q (some .null) h) : BW S M pc ls [.null] h Q := ⟨_, _, q, x_aretN hd hr⟩
theorem b_getf {index ci k a : Nat} {fs : List Value} {v : Value} (hd : decode M.2.1 pc = .ok (.getfield index, 3)) (hf : xFL M.1.cls index ci k) (he : h[a]? = some (.inr (ci, fs))) (hv : fs[k]? = some v) (kk : BW S M (pc + 3) ls (v :: st) h Q) : BW S M pc ls (.ref a :: st) h Q := by
  obtain ⟨r, h9, q, w⟩ := kk
  exact ⟨r, h9, q, x_getf hd hf he hv w⟩
theorem b_getfN {index ci k a : Nat} {fs : List Value} {v : Value} (hd : decode M.2.1 pc = .ok (.getfield index, 3)) (hf : xFN M.1.cls index ci k) (he : h[a]? = some (.inr (ci, fs))) (hv : fs[k]? = some v) (kk : BW S M (pc + 3) ls (v :: st) h Q) : BW S M pc ls (.ref a :: st) h Q := by
  obtain ⟨r, h9, q, w⟩ := kk
  exact ⟨r, h9, q, x_getfN hd hf he hv w⟩
theorem b_putf {index ci k a : Nat} {fs : List Value} {v : Value} {ty : FieldType} (hd : decode M.2.1 pc = .ok (.putfield index, 3)) (hf : xFL M.1.cls index ci k) (ht : xFT ci k false ty) (hw : xfit ty v) (he : h[a]? = some (.inr (ci, fs))) (hkl : k < fs.length) (hh : h.set a (.inr (ci, fs.set k v)) = h1) (kk : BW S M (pc + 3) ls st h1 Q) : BW S M pc ls (v :: .ref a :: st) h Q := by
  obtain ⟨r, h9, q, w⟩ := kk
  exact ⟨r, h9, q, x_putf hd hf ht hw he hkl hh w⟩
theorem b_putfN {index ci k a : Nat} {fs : List Value} {v : Value} {ty : FieldType} (hd : decode M.2.1 pc = .ok (.putfield index, 3)) (hf : xFN M.1.cls index ci k) (ht : xFT ci k false ty) (hw : xfit ty v) (he : h[a]? = some (.inr (ci, fs))) (hkl : k < fs.length) (hh : h.set a (.inr (ci, fs.set k v)) = h1) (kk : BW S M (pc + 3) ls st h1 Q) : BW S M pc ls (v :: .ref a :: st) h Q := by
  obtain ⟨r, h9, q, w⟩ := kk
  exact ⟨r, h9, q, x_putfN hd hf ht hw he hkl hh w⟩
theorem b_putfF {index ci k a : Nat} {fs : List Value} {v : Value} {ty : FieldType} (hd : decode M.2.1 pc = .ok (.putfield index, 3)) (hf : xFL M.1.cls index ci k) (ht : xFT ci k true ty) (hini : M.1.name = "<init>") (hcl : M.1.cls = (xcl.getD ci ("", xT_Ag, 0)).1) (hdc : ∀ (C : String) (T : u_T) (N : Nat), xcl[ci]? = some (C, T, N) → (T k).1 = C) (hw : xfit ty v) (he : h[a]? = some (.inr (ci, fs))) (hkl : k < fs.length) (hh : h.set a (.inr (ci, fs.set k v)) = h1) (kk : BW S M (pc + 3) ls st h1 Q) : BW S M pc ls (v :: .ref a :: st) h Q := by
  obtain ⟨r, h9, q, w⟩ := kk
  exact ⟨r, h9, q, x_putfF hd hf ht hini hcl hdc hw he hkl hh w⟩
theorem b_iald {a n : Nat} {f : Nat → Int32} {i : Int32} (hd : decode M.2.1 pc = .ok (.iaload, 1)) (he : h[a]? = some (.inl (0, n, .inl f))) (hin : vp_in i n) (kk : BW S M (pc + 1) ls (.int (f i.toNatClampNeg) :: st) h Q) : BW S M pc ls (.int i :: .ref a :: st) h Q := by
  obtain ⟨r, h9, q, w⟩ := kk
  exact ⟨r, h9, q, x_iald hd he hin w⟩
theorem b_zald {a n : Nat} {f : Nat → Int32} {i : Int32} (hd : decode M.2.1 pc = .ok (.baload, 1)) (he : h[a]? = some (.inl (1, n, .inl f))) (hin : vp_in i n) (kk : BW S M (pc + 1) ls (.int (f i.toNatClampNeg) :: st) h Q) : BW S M pc ls (.int i :: .ref a :: st) h Q := by
  obtain ⟨r, h9, q, w⟩ := kk
  exact ⟨r, h9, q, x_zald hd he hin w⟩
theorem b_alen {a t n : Nat} {x : _} {v : Int32} (hd : decode M.2.1 pc = .ok (.arraylength, 1)) (he : h[a]? = some (.inl (t, n, x))) (ht : t < 5) (hv : Int32.ofNat n = v) (kk : BW S M (pc + 1) ls (.int v :: st) h Q) : BW S M pc ls (.ref a :: st) h Q := by
  obtain ⟨r, h9, q, w⟩ := kk
  exact ⟨r, h9, q, x_alen hd he ht hv w⟩
theorem b_aald {a t n : Nat} {f : Nat → Option Nat} {i : Int32} (hd : decode M.2.1 pc = .ok (.aaload, 1)) (he : h[a]? = some (.inl (t, n, .inr (.inr (.inr (.inr f)))))) (ht : 2 ≤ t ∧ t < 5) (hin : vp_in i n) (kk : BW S M (pc + 1) ls (va_rf (f i.toNatClampNeg) :: st) h Q) : BW S M pc ls (.int i :: .ref a :: st) h Q := by
  obtain ⟨r, h9, q, w⟩ := kk
  exact ⟨r, h9, q, x_aald hd he ht hin w⟩
theorem b_iast {a n : Nat} {f : Nat → Int32} {i x : Int32} (hd : decode M.2.1 pc = .ok (.iastore, 1)) (he : h[a]? = some (.inl (0, n, .inl f))) (hin : vp_in i n) (hh : h.set a (.inl (0, n, .inl (upd f i.toNatClampNeg x))) = h1) (kk : BW S M (pc + 1) ls st h1 Q) : BW S M pc ls (.int x :: .int i :: .ref a :: st) h Q := by
  obtain ⟨r, h9, q, w⟩ := kk
  exact ⟨r, h9, q, x_iast hd he hin hh w⟩
theorem b_zast {a n : Nat} {f : Nat → Int32} {i x y : Int32} (hd : decode M.2.1 pc = .ok (.bastore, 1)) (he : h[a]? = some (.inl (1, n, .inl f))) (hin : vp_in i n) (hxy : vp_nar .boolean x = y) (hh : h.set a (.inl (1, n, .inl (upd f i.toNatClampNeg y))) = h1) (kk : BW S M (pc + 1) ls st h1 Q) : BW S M pc ls (.int x :: .int i :: .ref a :: st) h Q := by
  obtain ⟨r, h9, q, w⟩ := kk
  exact ⟨r, h9, q, x_zast hd he hin hxy hh w⟩
theorem b_sald {i : Int32} (hd : decode M.2.1 pc = .ok (.iaload, 1)) (hin : vp_in i S.1) (kk : BW S M (pc + 1) ls (.int (S.2 i.toNatClampNeg) :: st) h Q) : BW S M pc ls (.int i :: .retAddr 99 :: st) h Q := by
  obtain ⟨r, h9, q, w⟩ := kk
  exact ⟨r, h9, q, x_sald hd hin w⟩
theorem b_slen (hd : decode M.2.1 pc = .ok (.arraylength, 1)) (kk : BW S M (pc + 1) ls (.int (Int32.ofNat S.1) :: st) h Q) : BW S M pc ls (.retAddr 99 :: st) h Q := by
  obtain ⟨r, h9, q, w⟩ := kk
  exact ⟨r, h9, q, x_slen hd w⟩
theorem b_oinit {index a : Nat} (hd : decode M.2.1 pc = .ok (.invokespecial index, 3)) (hl : Cond.methodLink M.1.cls index Lib.objectInit ∈ gtbl ∧ Cond.instanceMethod Lib.objectInit ∈ gtbl ∧ Cond.code Lib.objectInit ⟨#[0xb1]⟩ 1 none ∈ gtbl) (hst : (st.map fun v => v.category).sum ≤ 8) (hrm : 1 ≤ M.2.2.2.2.1 ∧ 20 ≤ M.2.2.2.2.2) (kk : BW S M (pc + 3) ls st h Q) : BW S M pc ls (.ref a :: st) h Q := by
  obtain ⟨r, h9, q, w⟩ := kk
  exact ⟨r, h9, q, x_oinit hd hl hst hrm w⟩
theorem b_callVi {index ci b n : Nat} {fs : List Value} {Mc : XM} {As stk : List Value} {Qc : Int32 → St → Prop} (hd : decode M.2.1 pc = .ok (.invokevirtual index, 3)) (hl : xLV M Mc index ci n) (he : h[b]? = some (.inr (ci, fs))) (hn9 : As.length = n) (hs9 : stk = As.reverse ++ .ref b :: st) (hst : (st.map fun v => v.category).sum ≤ 8) (hM : CM S Mc (.ref b :: As) h (qI Qc)) (kk : ∀ (v : Int32) (τ : St), Qc v τ → BW S M (pc + 3) ls (.int v :: st) (enc τ) Q) : BW S M pc ls stk h Q := by
  obtain ⟨r1, h2, qc0, w1⟩ := hM
  obtain ⟨v, τ, rfl, rfl, qc⟩ := qc0
  obtain ⟨r, h9, q, w⟩ := kk v τ qc
  exact ⟨r, h9, q, x_callV hd hl he hn9 hs9 hst w1 w⟩
theorem b_callVl {index ci b n : Nat} {fs : List Value} {Mc : XM} {As stk : List Value} {Qc : Int64 → St → Prop} (hd : decode M.2.1 pc = .ok (.invokevirtual index, 3)) (hl : xLV M Mc index ci n) (he : h[b]? = some (.inr (ci, fs))) (hn9 : As.length = n) (hs9 : stk = As.reverse ++ .ref b :: st) (hst : (st.map fun v => v.category).sum ≤ 8) (hM : CM S Mc (.ref b :: As) h (qL Qc)) (kk : ∀ (v : Int64) (τ : St), Qc v τ → BW S M (pc + 3) ls (.long v :: st) (enc τ) Q) : BW S M pc ls stk h Q := by
  obtain ⟨r1, h2, qc0, w1⟩ := hM
  obtain ⟨v, τ, rfl, rfl, qc⟩ := qc0
  obtain ⟨r, h9, q, w⟩ := kk v τ qc
  exact ⟨r, h9, q, x_callV hd hl he hn9 hs9 hst w1 w⟩
theorem b_callVv {index ci b n : Nat} {fs : List Value} {Mc : XM} {As stk : List Value} {Qc : St → Prop} (hd : decode M.2.1 pc = .ok (.invokevirtual index, 3)) (hl : xLV M Mc index ci n) (he : h[b]? = some (.inr (ci, fs))) (hn9 : As.length = n) (hs9 : stk = As.reverse ++ .ref b :: st) (hst : (st.map fun v => v.category).sum ≤ 8) (hM : CM S Mc (.ref b :: As) h (qV Qc)) (kk : ∀ (τ : St), Qc τ → BW S M (pc + 3) ls (st) (enc τ) Q) : BW S M pc ls stk h Q := by
  obtain ⟨r1, h2, qc0, w1⟩ := hM
  obtain ⟨τ, rfl, rfl, qc⟩ := qc0
  obtain ⟨r, h9, q, w⟩ := kk τ qc
  exact ⟨r, h9, q, x_callV hd hl he hn9 hs9 hst w1 w⟩
theorem b_callVr {index ci b n : Nat} {fs : List Value} {Mc : XM} {As stk : List Value} {Qc : Option Nat → St → Prop} (hd : decode M.2.1 pc = .ok (.invokevirtual index, 3)) (hl : xLV M Mc index ci n) (he : h[b]? = some (.inr (ci, fs))) (hn9 : As.length = n) (hs9 : stk = As.reverse ++ .ref b :: st) (hst : (st.map fun v => v.category).sum ≤ 8) (hM : CM S Mc (.ref b :: As) h (qR Qc)) (kk : ∀ (v : Option Nat) (τ : St), Qc v τ → BW S M (pc + 3) ls (va_rf v :: st) (enc τ) Q) : BW S M pc ls stk h Q := by
  obtain ⟨r1, h2, qc0, w1⟩ := hM
  obtain ⟨v, τ, rfl, rfl, qc⟩ := qc0
  obtain ⟨r, h9, q, w⟩ := kk v τ qc
  exact ⟨r, h9, q, x_callV hd hl he hn9 hs9 hst w1 w⟩
theorem b_callSi {index n : Nat} {Mc : XM} {As stk : List Value} {Qc : Int32 → St → Prop} (hd : decode M.2.1 pc = .ok (.invokestatic index, 3)) (hl : xLS M Mc index n) (hn9 : As.length = n) (hs9 : stk = As.reverse ++ st) (hst : (st.map fun v => v.category).sum ≤ 8) (hM : CM S Mc As h (qI Qc)) (kk : ∀ (v : Int32) (τ : St), Qc v τ → BW S M (pc + 3) ls (.int v :: st) (enc τ) Q) : BW S M pc ls stk h Q := by
  obtain ⟨r1, h2, qc0, w1⟩ := hM
  obtain ⟨v, τ, rfl, rfl, qc⟩ := qc0
  obtain ⟨r, h9, q, w⟩ := kk v τ qc
  exact ⟨r, h9, q, x_callS hd hl hn9 hs9 hst w1 w⟩
theorem b_callSl {index n : Nat} {Mc : XM} {As stk : List Value} {Qc : Int64 → St → Prop} (hd : decode M.2.1 pc = .ok (.invokestatic index, 3)) (hl : xLS M Mc index n) (hn9 : As.length = n) (hs9 : stk = As.reverse ++ st) (hst : (st.map fun v => v.category).sum ≤ 8) (hM : CM S Mc As h (qL Qc)) (kk : ∀ (v : Int64) (τ : St), Qc v τ → BW S M (pc + 3) ls (.long v :: st) (enc τ) Q) : BW S M pc ls stk h Q := by
  obtain ⟨r1, h2, qc0, w1⟩ := hM
  obtain ⟨v, τ, rfl, rfl, qc⟩ := qc0
  obtain ⟨r, h9, q, w⟩ := kk v τ qc
  exact ⟨r, h9, q, x_callS hd hl hn9 hs9 hst w1 w⟩
theorem b_callSv {index n : Nat} {Mc : XM} {As stk : List Value} {Qc : St → Prop} (hd : decode M.2.1 pc = .ok (.invokestatic index, 3)) (hl : xLS M Mc index n) (hn9 : As.length = n) (hs9 : stk = As.reverse ++ st) (hst : (st.map fun v => v.category).sum ≤ 8) (hM : CM S Mc As h (qV Qc)) (kk : ∀ (τ : St), Qc τ → BW S M (pc + 3) ls (st) (enc τ) Q) : BW S M pc ls stk h Q := by
  obtain ⟨r1, h2, qc0, w1⟩ := hM
  obtain ⟨τ, rfl, rfl, qc⟩ := qc0
  obtain ⟨r, h9, q, w⟩ := kk τ qc
  exact ⟨r, h9, q, x_callS hd hl hn9 hs9 hst w1 w⟩
theorem b_callSr {index n : Nat} {Mc : XM} {As stk : List Value} {Qc : Option Nat → St → Prop} (hd : decode M.2.1 pc = .ok (.invokestatic index, 3)) (hl : xLS M Mc index n) (hn9 : As.length = n) (hs9 : stk = As.reverse ++ st) (hst : (st.map fun v => v.category).sum ≤ 8) (hM : CM S Mc As h (qR Qc)) (kk : ∀ (v : Option Nat) (τ : St), Qc v τ → BW S M (pc + 3) ls (va_rf v :: st) (enc τ) Q) : BW S M pc ls stk h Q := by
  obtain ⟨r1, h2, qc0, w1⟩ := hM
  obtain ⟨v, τ, rfl, rfl, qc⟩ := qc0
  obtain ⟨r, h9, q, w⟩ := kk v τ qc
  exact ⟨r, h9, q, x_callS hd hl hn9 hs9 hst w1 w⟩
theorem b_callSNi {index n : Nat} {Mc : XM} {As stk : List Value} {Qc : Int32 → St → Prop} (hd : decode M.2.1 pc = .ok (.invokestatic index, 3)) (hl : xLSN M Mc index n) (hn9 : As.length = n) (hs9 : stk = As.reverse ++ st) (hst : (st.map fun v => v.category).sum ≤ 8) (hM : CM S Mc As h (qI Qc)) (kk : ∀ (v : Int32) (τ : St), Qc v τ → BW S M (pc + 3) ls (.int v :: st) (enc τ) Q) : BW S M pc ls stk h Q := by
  obtain ⟨r1, h2, qc0, w1⟩ := hM
  obtain ⟨v, τ, rfl, rfl, qc⟩ := qc0
  obtain ⟨r, h9, q, w⟩ := kk v τ qc
  exact ⟨r, h9, q, x_callSN hd hl hn9 hs9 hst w1 w⟩
theorem b_callSNl {index n : Nat} {Mc : XM} {As stk : List Value} {Qc : Int64 → St → Prop} (hd : decode M.2.1 pc = .ok (.invokestatic index, 3)) (hl : xLSN M Mc index n) (hn9 : As.length = n) (hs9 : stk = As.reverse ++ st) (hst : (st.map fun v => v.category).sum ≤ 8) (hM : CM S Mc As h (qL Qc)) (kk : ∀ (v : Int64) (τ : St), Qc v τ → BW S M (pc + 3) ls (.long v :: st) (enc τ) Q) : BW S M pc ls stk h Q := by
  obtain ⟨r1, h2, qc0, w1⟩ := hM
  obtain ⟨v, τ, rfl, rfl, qc⟩ := qc0
  obtain ⟨r, h9, q, w⟩ := kk v τ qc
  exact ⟨r, h9, q, x_callSN hd hl hn9 hs9 hst w1 w⟩
theorem b_callSNv {index n : Nat} {Mc : XM} {As stk : List Value} {Qc : St → Prop} (hd : decode M.2.1 pc = .ok (.invokestatic index, 3)) (hl : xLSN M Mc index n) (hn9 : As.length = n) (hs9 : stk = As.reverse ++ st) (hst : (st.map fun v => v.category).sum ≤ 8) (hM : CM S Mc As h (qV Qc)) (kk : ∀ (τ : St), Qc τ → BW S M (pc + 3) ls (st) (enc τ) Q) : BW S M pc ls stk h Q := by
  obtain ⟨r1, h2, qc0, w1⟩ := hM
  obtain ⟨τ, rfl, rfl, qc⟩ := qc0
  obtain ⟨r, h9, q, w⟩ := kk τ qc
  exact ⟨r, h9, q, x_callSN hd hl hn9 hs9 hst w1 w⟩
theorem b_callSNr {index n : Nat} {Mc : XM} {As stk : List Value} {Qc : Option Nat → St → Prop} (hd : decode M.2.1 pc = .ok (.invokestatic index, 3)) (hl : xLSN M Mc index n) (hn9 : As.length = n) (hs9 : stk = As.reverse ++ st) (hst : (st.map fun v => v.category).sum ≤ 8) (hM : CM S Mc As h (qR Qc)) (kk : ∀ (v : Option Nat) (τ : St), Qc v τ → BW S M (pc + 3) ls (va_rf v :: st) (enc τ) Q) : BW S M pc ls stk h Q := by
  obtain ⟨r1, h2, qc0, w1⟩ := hM
  obtain ⟨v, τ, rfl, rfl, qc⟩ := qc0
  obtain ⟨r, h9, q, w⟩ := kk v τ qc
  exact ⟨r, h9, q, x_callSN hd hl hn9 hs9 hst w1 w⟩
theorem b_callIi {index b n : Nat} {Mc : XM} {As stk : List Value} {Qc : Int32 → St → Prop} (hd : decode M.2.1 pc = .ok (.invokespecial index, 3)) (hl : xLI M Mc index n) (hn9 : As.length = n) (hs9 : stk = As.reverse ++ .ref b :: st) (hst : (st.map fun v => v.category).sum ≤ 8) (hM : CM S Mc (.ref b :: As) h (qI Qc)) (kk : ∀ (v : Int32) (τ : St), Qc v τ → BW S M (pc + 3) ls (.int v :: st) (enc τ) Q) : BW S M pc ls stk h Q := by
  obtain ⟨r1, h2, qc0, w1⟩ := hM
  obtain ⟨v, τ, rfl, rfl, qc⟩ := qc0
  obtain ⟨r, h9, q, w⟩ := kk v τ qc
  exact ⟨r, h9, q, x_callI hd hl hn9 hs9 hst w1 w⟩
theorem b_callIl {index b n : Nat} {Mc : XM} {As stk : List Value} {Qc : Int64 → St → Prop} (hd : decode M.2.1 pc = .ok (.invokespecial index, 3)) (hl : xLI M Mc index n) (hn9 : As.length = n) (hs9 : stk = As.reverse ++ .ref b :: st) (hst : (st.map fun v => v.category).sum ≤ 8) (hM : CM S Mc (.ref b :: As) h (qL Qc)) (kk : ∀ (v : Int64) (τ : St), Qc v τ → BW S M (pc + 3) ls (.long v :: st) (enc τ) Q) : BW S M pc ls stk h Q := by
  obtain ⟨r1, h2, qc0, w1⟩ := hM
  obtain ⟨v, τ, rfl, rfl, qc⟩ := qc0
  obtain ⟨r, h9, q, w⟩ := kk v τ qc
  exact ⟨r, h9, q, x_callI hd hl hn9 hs9 hst w1 w⟩
theorem b_callIv {index b n : Nat} {Mc : XM} {As stk : List Value} {Qc : St → Prop} (hd : decode M.2.1 pc = .ok (.invokespecial index, 3)) (hl : xLI M Mc index n) (hn9 : As.length = n) (hs9 : stk = As.reverse ++ .ref b :: st) (hst : (st.map fun v => v.category).sum ≤ 8) (hM : CM S Mc (.ref b :: As) h (qV Qc)) (kk : ∀ (τ : St), Qc τ → BW S M (pc + 3) ls (st) (enc τ) Q) : BW S M pc ls stk h Q := by
  obtain ⟨r1, h2, qc0, w1⟩ := hM
  obtain ⟨τ, rfl, rfl, qc⟩ := qc0
  obtain ⟨r, h9, q, w⟩ := kk τ qc
  exact ⟨r, h9, q, x_callI hd hl hn9 hs9 hst w1 w⟩
theorem b_callIr {index b n : Nat} {Mc : XM} {As stk : List Value} {Qc : Option Nat → St → Prop} (hd : decode M.2.1 pc = .ok (.invokespecial index, 3)) (hl : xLI M Mc index n) (hn9 : As.length = n) (hs9 : stk = As.reverse ++ .ref b :: st) (hst : (st.map fun v => v.category).sum ≤ 8) (hM : CM S Mc (.ref b :: As) h (qR Qc)) (kk : ∀ (v : Option Nat) (τ : St), Qc v τ → BW S M (pc + 3) ls (va_rf v :: st) (enc τ) Q) : BW S M pc ls stk h Q := by
  obtain ⟨r1, h2, qc0, w1⟩ := hM
  obtain ⟨v, τ, rfl, rfl, qc⟩ := qc0
  obtain ⟨r, h9, q, w⟩ := kk v τ qc
  exact ⟨r, h9, q, x_callI hd hl hn9 hs9 hst w1 w⟩
theorem b_callINi {index b n : Nat} {Mc : XM} {As stk : List Value} {Qc : Int32 → St → Prop} (hd : decode M.2.1 pc = .ok (.invokespecial index, 3)) (hl : xLIN M Mc index n) (hn9 : As.length = n) (hs9 : stk = As.reverse ++ .ref b :: st) (hst : (st.map fun v => v.category).sum ≤ 8) (hM : CM S Mc (.ref b :: As) h (qI Qc)) (kk : ∀ (v : Int32) (τ : St), Qc v τ → BW S M (pc + 3) ls (.int v :: st) (enc τ) Q) : BW S M pc ls stk h Q := by
  obtain ⟨r1, h2, qc0, w1⟩ := hM
  obtain ⟨v, τ, rfl, rfl, qc⟩ := qc0
  obtain ⟨r, h9, q, w⟩ := kk v τ qc
  exact ⟨r, h9, q, x_callIN hd hl hn9 hs9 hst w1 w⟩
theorem b_callINl {index b n : Nat} {Mc : XM} {As stk : List Value} {Qc : Int64 → St → Prop} (hd : decode M.2.1 pc = .ok (.invokespecial index, 3)) (hl : xLIN M Mc index n) (hn9 : As.length = n) (hs9 : stk = As.reverse ++ .ref b :: st) (hst : (st.map fun v => v.category).sum ≤ 8) (hM : CM S Mc (.ref b :: As) h (qL Qc)) (kk : ∀ (v : Int64) (τ : St), Qc v τ → BW S M (pc + 3) ls (.long v :: st) (enc τ) Q) : BW S M pc ls stk h Q := by
  obtain ⟨r1, h2, qc0, w1⟩ := hM
  obtain ⟨v, τ, rfl, rfl, qc⟩ := qc0
  obtain ⟨r, h9, q, w⟩ := kk v τ qc
  exact ⟨r, h9, q, x_callIN hd hl hn9 hs9 hst w1 w⟩
theorem b_callINv {index b n : Nat} {Mc : XM} {As stk : List Value} {Qc : St → Prop} (hd : decode M.2.1 pc = .ok (.invokespecial index, 3)) (hl : xLIN M Mc index n) (hn9 : As.length = n) (hs9 : stk = As.reverse ++ .ref b :: st) (hst : (st.map fun v => v.category).sum ≤ 8) (hM : CM S Mc (.ref b :: As) h (qV Qc)) (kk : ∀ (τ : St), Qc τ → BW S M (pc + 3) ls (st) (enc τ) Q) : BW S M pc ls stk h Q := by
  obtain ⟨r1, h2, qc0, w1⟩ := hM
  obtain ⟨τ, rfl, rfl, qc⟩ := qc0
  obtain ⟨r, h9, q, w⟩ := kk τ qc
  exact ⟨r, h9, q, x_callIN hd hl hn9 hs9 hst w1 w⟩
theorem b_callINr {index b n : Nat} {Mc : XM} {As stk : List Value} {Qc : Option Nat → St → Prop} (hd : decode M.2.1 pc = .ok (.invokespecial index, 3)) (hl : xLIN M Mc index n) (hn9 : As.length = n) (hs9 : stk = As.reverse ++ .ref b :: st) (hst : (st.map fun v => v.category).sum ≤ 8) (hM : CM S Mc (.ref b :: As) h (qR Qc)) (kk : ∀ (v : Option Nat) (τ : St), Qc v τ → BW S M (pc + 3) ls (va_rf v :: st) (enc τ) Q) : BW S M pc ls stk h Q := by
  obtain ⟨r1, h2, qc0, w1⟩ := hM
  obtain ⟨v, τ, rfl, rfl, qc⟩ := qc0
  obtain ⟨r, h9, q, w⟩ := kk v τ qc
  exact ⟨r, h9, q, x_callIN hd hl hn9 hs9 hst w1 w⟩
theorem b_meth {as : List Value} (hy : plainName M.1.cls = true) (hcat : (as.map fun v => v.category).sum ≤ M.2.2.1) (hls : xin M.2.2.1 as = ls) (k : BW S M 0 ls [] h Q) : CM S M as h Q := by
  obtain ⟨r, h9, q, w⟩ := k
  exact ⟨r, h9, q, x_meth hy hcat hls w⟩
theorem b_st {pc' : Nat} {ls' : List (Option Value)} {st' : List Value} (e1 : ls = ls') (e2 : st = st') (k : BW S M pc ls' st' h Q) : BW S M pc ls st h Q := by subst e1; subst e2; exact k
end XBW
end
