section
-- ===== PART A: goes FIRST, ahead of the names: the tables' words, and 'selects' of the private methods out of them =====
/-- a private method of a class that the tables say can be made, by its rows of tables_1 -/
def lw_okq (q : MethodName × Nat) : Prop := (q.1.cls ≠ "java/lang/invoke/MethodHandle" ∧ q.1.cls ≠ "java/lang/invoke/VarHandle") ∧ Cond.instantiable q.1.cls q.2 ∈ tables_1 ∧ Cond.privateMethod q.1 ∈ tables_1 ∧ Cond.instanceMethod q.1 ∈ tables_1
theorem lw_p0 : lw_okq (⟨"TaleHouse$Manuscript", "forgetBreakCosts", "()V"⟩, 11) := ⟨⟨by decide +kernel, by decide +kernel⟩, List.mem_of_getElem? (i := 55) (by decide +kernel), List.mem_of_getElem? (i := 407) (by decide +kernel), List.mem_of_getElem? (i := 408) (by decide +kernel)⟩
theorem lw_p1 : lw_okq (⟨"TaleHouse$Breaks", "weighRest", "(II)V"⟩, 4) := ⟨⟨by decide +kernel, by decide +kernel⟩, List.mem_of_getElem? (i := 63) (by decide +kernel), List.mem_of_getElem? (i := 431) (by decide +kernel), List.mem_of_getElem? (i := 432) (by decide +kernel)⟩
theorem lw_p2 : lw_okq (⟨"TaleHouse$Breaks", "costWith", "(III)I"⟩, 4) := ⟨⟨by decide +kernel, by decide +kernel⟩, List.mem_of_getElem? (i := 63) (by decide +kernel), List.mem_of_getElem? (i := 435) (by decide +kernel), List.mem_of_getElem? (i := 436) (by decide +kernel)⟩
theorem lw_p3 : lw_okq (⟨"TaleHouse$Setting", "weighFrom", "(LTaleHouse$Manuscript;II)V"⟩, 9) := ⟨⟨by decide +kernel, by decide +kernel⟩, List.mem_of_getElem? (i := 121) (by decide +kernel), List.mem_of_getElem? (i := 463) (by decide +kernel), List.mem_of_getElem? (i := 464) (by decide +kernel)⟩
theorem lw_p4 : lw_okq (⟨"TaleHouse$Setting", "leastUncut", "(LTaleHouse$Manuscript;III)I"⟩, 9) := ⟨⟨by decide +kernel, by decide +kernel⟩, List.mem_of_getElem? (i := 121) (by decide +kernel), List.mem_of_getElem? (i := 471) (by decide +kernel), List.mem_of_getElem? (i := 472) (by decide +kernel)⟩
theorem lw_p5 : lw_okq (⟨"TaleHouse$Setting", "costInLines", "(LTaleHouse$Manuscript;III)I"⟩, 9) := ⟨⟨by decide +kernel, by decide +kernel⟩, List.mem_of_getElem? (i := 121) (by decide +kernel), List.mem_of_getElem? (i := 480) (by decide +kernel), List.mem_of_getElem? (i := 481) (by decide +kernel)⟩
theorem lw_p6 : lw_okq (⟨"TaleHouse$Setting", "forgetPlaces", "(II)V"⟩, 9) := ⟨⟨by decide +kernel, by decide +kernel⟩, List.mem_of_getElem? (i := 121) (by decide +kernel), List.mem_of_getElem? (i := 496) (by decide +kernel), List.mem_of_getElem? (i := 497) (by decide +kernel)⟩
theorem lw_p7 : lw_okq (⟨"TaleHouse$Setting", "fewestLeads", "(LTaleHouse$Manuscript;IIII)I"⟩, 9) := ⟨⟨by decide +kernel, by decide +kernel⟩, List.mem_of_getElem? (i := 121) (by decide +kernel), List.mem_of_getElem? (i := 500) (by decide +kernel), List.mem_of_getElem? (i := 501) (by decide +kernel)⟩
theorem lw_p8 : lw_okq (⟨"TaleHouse$Setting", "note", "(IIIII)V"⟩, 9) := ⟨⟨by decide +kernel, by decide +kernel⟩, List.mem_of_getElem? (i := 121) (by decide +kernel), List.mem_of_getElem? (i := 504) (by decide +kernel), List.mem_of_getElem? (i := 505) (by decide +kernel)⟩
theorem lw_p9 : lw_okq (⟨"TaleHouse$Setting", "fewestLines", "(LTaleHouse$Manuscript;III)I"⟩, 9) := ⟨⟨by decide +kernel, by decide +kernel⟩, List.mem_of_getElem? (i := 121) (by decide +kernel), List.mem_of_getElem? (i := 508) (by decide +kernel), List.mem_of_getElem? (i := 509) (by decide +kernel)⟩
theorem lw_p10 : lw_okq (⟨"TaleHouse$Setting", "placeLines", "(LTaleHouse$Manuscript;III)V"⟩, 9) := ⟨⟨by decide +kernel, by decide +kernel⟩, List.mem_of_getElem? (i := 121) (by decide +kernel), List.mem_of_getElem? (i := 512) (by decide +kernel), List.mem_of_getElem? (i := 513) (by decide +kernel)⟩
theorem lw_p11 : lw_okq (⟨"TaleHouse$Tape", "lettersAhead", "()I"⟩, 5) := ⟨⟨by decide +kernel, by decide +kernel⟩, List.mem_of_getElem? (i := 29) (by decide +kernel), List.mem_of_getElem? (i := 561) (by decide +kernel), List.mem_of_getElem? (i := 562) (by decide +kernel)⟩
theorem lw_p12 : lw_okq (⟨"TaleHouse$Tape", "skipBlanks", "()V"⟩, 5) := ⟨⟨by decide +kernel, by decide +kernel⟩, List.mem_of_getElem? (i := 29) (by decide +kernel), List.mem_of_getElem? (i := 565) (by decide +kernel), List.mem_of_getElem? (i := 566) (by decide +kernel)⟩
theorem lw_p13 : lw_okq (⟨"TaleHouse$Tape", "byteAt", "(I)I"⟩, 5) := ⟨⟨by decide +kernel, by decide +kernel⟩, List.mem_of_getElem? (i := 29) (by decide +kernel), List.mem_of_getElem? (i := 569) (by decide +kernel), List.mem_of_getElem? (i := 570) (by decide +kernel)⟩
theorem lw_p14 : lw_okq (⟨"TaleHouse$Tape", "isFactWord", "(I)Z"⟩, 5) := ⟨⟨by decide +kernel, by decide +kernel⟩, List.mem_of_getElem? (i := 29) (by decide +kernel), List.mem_of_getElem? (i := 573) (by decide +kernel), List.mem_of_getElem? (i := 574) (by decide +kernel)⟩
theorem lw_p15 : lw_okq (⟨"TaleHouse$Tape", "isWord", "(Ljava/lang/String;I)Z"⟩, 5) := ⟨⟨by decide +kernel, by decide +kernel⟩, List.mem_of_getElem? (i := 29) (by decide +kernel), List.mem_of_getElem? (i := 578) (by decide +kernel), List.mem_of_getElem? (i := 579) (by decide +kernel)⟩
def lw_privs_1 : List (MethodName × Nat) := [(⟨"TaleHouse$Manuscript", "forgetBreakCosts", "()V"⟩, 11), (⟨"TaleHouse$Breaks", "weighRest", "(II)V"⟩, 4), (⟨"TaleHouse$Breaks", "costWith", "(III)I"⟩, 4), (⟨"TaleHouse$Setting", "weighFrom", "(LTaleHouse$Manuscript;II)V"⟩, 9), (⟨"TaleHouse$Setting", "leastUncut", "(LTaleHouse$Manuscript;III)I"⟩, 9), (⟨"TaleHouse$Setting", "costInLines", "(LTaleHouse$Manuscript;III)I"⟩, 9), (⟨"TaleHouse$Setting", "forgetPlaces", "(II)V"⟩, 9), (⟨"TaleHouse$Setting", "fewestLeads", "(LTaleHouse$Manuscript;IIII)I"⟩, 9), (⟨"TaleHouse$Setting", "note", "(IIIII)V"⟩, 9), (⟨"TaleHouse$Setting", "fewestLines", "(LTaleHouse$Manuscript;III)I"⟩, 9), (⟨"TaleHouse$Setting", "placeLines", "(LTaleHouse$Manuscript;III)V"⟩, 9), (⟨"TaleHouse$Tape", "lettersAhead", "()I"⟩, 5), (⟨"TaleHouse$Tape", "skipBlanks", "()V"⟩, 5), (⟨"TaleHouse$Tape", "byteAt", "(I)I"⟩, 5), (⟨"TaleHouse$Tape", "isFactWord", "(I)Z"⟩, 5), (⟨"TaleHouse$Tape", "isWord", "(Ljava/lang/String;I)Z"⟩, 5)]
theorem lw_r1 : ∀ q ∈ lw_privs_1, lw_okq q := List.forall_mem_cons.mpr ⟨lw_p0, List.forall_mem_cons.mpr ⟨lw_p1, List.forall_mem_cons.mpr ⟨lw_p2, List.forall_mem_cons.mpr ⟨lw_p3, List.forall_mem_cons.mpr ⟨lw_p4, List.forall_mem_cons.mpr ⟨lw_p5, List.forall_mem_cons.mpr ⟨lw_p6, List.forall_mem_cons.mpr ⟨lw_p7, List.forall_mem_cons.mpr ⟨lw_p8, List.forall_mem_cons.mpr ⟨lw_p9, List.forall_mem_cons.mpr ⟨lw_p10, List.forall_mem_cons.mpr ⟨lw_p11, List.forall_mem_cons.mpr ⟨lw_p12, List.forall_mem_cons.mpr ⟨lw_p13, List.forall_mem_cons.mpr ⟨lw_p14, List.forall_mem_cons.mpr ⟨lw_p15, fun _ h => absurd h List.not_mem_nil⟩⟩⟩⟩⟩⟩⟩⟩⟩⟩⟩⟩⟩⟩⟩⟩
theorem lw_p16 : lw_okq (⟨"TaleHouse$Tape", "fail", "(II)V"⟩, 5) := ⟨⟨by decide +kernel, by decide +kernel⟩, List.mem_of_getElem? (i := 29) (by decide +kernel), List.mem_of_getElem? (i := 633) (by decide +kernel), List.mem_of_getElem? (i := 634) (by decide +kernel)⟩
theorem lw_p17 : lw_okq (⟨"TaleHouse$Tape", "digitsAhead", "()I"⟩, 5) := ⟨⟨by decide +kernel, by decide +kernel⟩, List.mem_of_getElem? (i := 29) (by decide +kernel), List.mem_of_getElem? (i := 660) (by decide +kernel), List.mem_of_getElem? (i := 661) (by decide +kernel)⟩
theorem lw_p18 : lw_okq (⟨"TaleHouse$Facts", "numbered", "(I)LTaleHouse$Fact;"⟩, 6) := ⟨⟨by decide +kernel, by decide +kernel⟩, List.mem_of_getElem? (i := 175) (by decide +kernel), List.mem_of_getElem? (i := 701) (by decide +kernel), List.mem_of_getElem? (i := 702) (by decide +kernel)⟩
theorem lw_p19 : lw_okq (⟨"TaleHouse$Fact", "quarrelWithLater", "(LTaleHouse$Fact;)I"⟩, 7) := ⟨⟨by decide +kernel, by decide +kernel⟩, List.mem_of_getElem? (i := 182) (by decide +kernel), List.mem_of_getElem? (i := 718) (by decide +kernel), List.mem_of_getElem? (i := 719) (by decide +kernel)⟩
theorem lw_p20 : lw_okq (⟨"TaleHouse$Facts", "stands", "(IILTaleHouse$Parts;)Z"⟩, 6) := ⟨⟨by decide +kernel, by decide +kernel⟩, List.mem_of_getElem? (i := 175) (by decide +kernel), List.mem_of_getElem? (i := 730) (by decide +kernel), List.mem_of_getElem? (i := 731) (by decide +kernel)⟩
theorem lw_p21 : lw_okq (⟨"TaleHouse$Facts", "findQuarrelsOf", "(IILTaleHouse$Parts;)V"⟩, 6) := ⟨⟨by decide +kernel, by decide +kernel⟩, List.mem_of_getElem? (i := 175) (by decide +kernel), List.mem_of_getElem? (i := 743) (by decide +kernel), List.mem_of_getElem? (i := 744) (by decide +kernel)⟩
theorem lw_p22 : lw_okq (⟨"TaleHouse$Parts", "daysBehind", "(II)I"⟩, 4) := ⟨⟨by decide +kernel, by decide +kernel⟩, List.mem_of_getElem? (i := 156) (by decide +kernel), List.mem_of_getElem? (i := 838) (by decide +kernel), List.mem_of_getElem? (i := 839) (by decide +kernel)⟩
theorem lw_p23 : lw_okq (⟨"TaleHouse$Shelf", "left", "(I)I"⟩, 10) := ⟨⟨by decide +kernel, by decide +kernel⟩, List.mem_of_getElem? (i := 271) (by decide +kernel), List.mem_of_getElem? (i := 913) (by decide +kernel), List.mem_of_getElem? (i := 914) (by decide +kernel)⟩
theorem lw_p24 : lw_okq (⟨"TaleHouseModel", "put", "(I)V"⟩, 52) := ⟨⟨by decide +kernel, by decide +kernel⟩, List.mem_of_getElem? (i := 985) (by decide +kernel), List.mem_of_getElem? (i := 1152) (by decide +kernel), List.mem_of_getElem? (i := 1153) (by decide +kernel)⟩
theorem lw_p25 : lw_okq (⟨"TaleHouseModel", "breaks", "(I)V"⟩, 52) := ⟨⟨by decide +kernel, by decide +kernel⟩, List.mem_of_getElem? (i := 985) (by decide +kernel), List.mem_of_getElem? (i := 1184) (by decide +kernel), List.mem_of_getElem? (i := 1185) (by decide +kernel)⟩
theorem lw_p26 : lw_okq (⟨"TaleHouseModel", "cost", "(III)I"⟩, 52) := ⟨⟨by decide +kernel, by decide +kernel⟩, List.mem_of_getElem? (i := 985) (by decide +kernel), List.mem_of_getElem? (i := 1189) (by decide +kernel), List.mem_of_getElem? (i := 1190) (by decide +kernel)⟩
theorem lw_p27 : lw_okq (⟨"TaleHouseModel", "gone", "(III)I"⟩, 52) := ⟨⟨by decide +kernel, by decide +kernel⟩, List.mem_of_getElem? (i := 985) (by decide +kernel), List.mem_of_getElem? (i := 1197) (by decide +kernel), List.mem_of_getElem? (i := 1198) (by decide +kernel)⟩
theorem lw_p28 : lw_okq (⟨"TaleHouseModel", "stands", "(IIIIII)I"⟩, 52) := ⟨⟨by decide +kernel, by decide +kernel⟩, List.mem_of_getElem? (i := 985) (by decide +kernel), List.mem_of_getElem? (i := 1204) (by decide +kernel), List.mem_of_getElem? (i := 1205) (by decide +kernel)⟩
theorem lw_p29 : lw_okq (⟨"TaleHouseModel", "price", "(IIII)I"⟩, 52) := ⟨⟨by decide +kernel, by decide +kernel⟩, List.mem_of_getElem? (i := 985) (by decide +kernel), List.mem_of_getElem? (i := 1208) (by decide +kernel), List.mem_of_getElem? (i := 1209) (by decide +kernel)⟩
theorem lw_p30 : lw_okq (⟨"TaleHouseModel", "tells", "(I)V"⟩, 52) := ⟨⟨by decide +kernel, by decide +kernel⟩, List.mem_of_getElem? (i := 985) (by decide +kernel), List.mem_of_getElem? (i := 1212) (by decide +kernel), List.mem_of_getElem? (i := 1213) (by decide +kernel)⟩
theorem lw_p31 : lw_okq (⟨"TaleHouseModel", "lays", "(II)V"⟩, 52) := ⟨⟨by decide +kernel, by decide +kernel⟩, List.mem_of_getElem? (i := 985) (by decide +kernel), List.mem_of_getElem? (i := 1216) (by decide +kernel), List.mem_of_getElem? (i := 1217) (by decide +kernel)⟩
def lw_privs_2 : List (MethodName × Nat) := [(⟨"TaleHouse$Tape", "fail", "(II)V"⟩, 5), (⟨"TaleHouse$Tape", "digitsAhead", "()I"⟩, 5), (⟨"TaleHouse$Facts", "numbered", "(I)LTaleHouse$Fact;"⟩, 6), (⟨"TaleHouse$Fact", "quarrelWithLater", "(LTaleHouse$Fact;)I"⟩, 7), (⟨"TaleHouse$Facts", "stands", "(IILTaleHouse$Parts;)Z"⟩, 6), (⟨"TaleHouse$Facts", "findQuarrelsOf", "(IILTaleHouse$Parts;)V"⟩, 6), (⟨"TaleHouse$Parts", "daysBehind", "(II)I"⟩, 4), (⟨"TaleHouse$Shelf", "left", "(I)I"⟩, 10), (⟨"TaleHouseModel", "put", "(I)V"⟩, 52), (⟨"TaleHouseModel", "breaks", "(I)V"⟩, 52), (⟨"TaleHouseModel", "cost", "(III)I"⟩, 52), (⟨"TaleHouseModel", "gone", "(III)I"⟩, 52), (⟨"TaleHouseModel", "stands", "(IIIIII)I"⟩, 52), (⟨"TaleHouseModel", "price", "(IIII)I"⟩, 52), (⟨"TaleHouseModel", "tells", "(I)V"⟩, 52), (⟨"TaleHouseModel", "lays", "(II)V"⟩, 52)]
theorem lw_r2 : ∀ q ∈ lw_privs_2, lw_okq q := List.forall_mem_cons.mpr ⟨lw_p16, List.forall_mem_cons.mpr ⟨lw_p17, List.forall_mem_cons.mpr ⟨lw_p18, List.forall_mem_cons.mpr ⟨lw_p19, List.forall_mem_cons.mpr ⟨lw_p20, List.forall_mem_cons.mpr ⟨lw_p21, List.forall_mem_cons.mpr ⟨lw_p22, List.forall_mem_cons.mpr ⟨lw_p23, List.forall_mem_cons.mpr ⟨lw_p24, List.forall_mem_cons.mpr ⟨lw_p25, List.forall_mem_cons.mpr ⟨lw_p26, List.forall_mem_cons.mpr ⟨lw_p27, List.forall_mem_cons.mpr ⟨lw_p28, List.forall_mem_cons.mpr ⟨lw_p29, List.forall_mem_cons.mpr ⟨lw_p30, List.forall_mem_cons.mpr ⟨lw_p31, fun _ h => absurd h List.not_mem_nil⟩⟩⟩⟩⟩⟩⟩⟩⟩⟩⟩⟩⟩⟩⟩⟩
theorem lw_p32 : lw_okq (⟨"TaleHouseModel", "begins", "()V"⟩, 52) := ⟨⟨by decide +kernel, by decide +kernel⟩, List.mem_of_getElem? (i := 985) (by decide +kernel), List.mem_of_getElem? (i := 1236) (by decide +kernel), List.mem_of_getElem? (i := 1237) (by decide +kernel)⟩
theorem lw_p33 : lw_okq (⟨"TaleHouseModel", "name", "(I)V"⟩, 52) := ⟨⟨by decide +kernel, by decide +kernel⟩, List.mem_of_getElem? (i := 985) (by decide +kernel), List.mem_of_getElem? (i := 1240) (by decide +kernel), List.mem_of_getElem? (i := 1241) (by decide +kernel)⟩
theorem lw_p34 : lw_okq (⟨"TaleHouseModel", "here", "()I"⟩, 52) := ⟨⟨by decide +kernel, by decide +kernel⟩, List.mem_of_getElem? (i := 985) (by decide +kernel), List.mem_of_getElem? (i := 1244) (by decide +kernel), List.mem_of_getElem? (i := 1245) (by decide +kernel)⟩
theorem lw_p35 : lw_okq (⟨"TaleHouseModel", "blame", "(II)V"⟩, 52) := ⟨⟨by decide +kernel, by decide +kernel⟩, List.mem_of_getElem? (i := 985) (by decide +kernel), List.mem_of_getElem? (i := 1251) (by decide +kernel), List.mem_of_getElem? (i := 1252) (by decide +kernel)⟩
theorem lw_p36 : lw_okq (⟨"TaleHouseModel", "wordEnd", "()I"⟩, 52) := ⟨⟨by decide +kernel, by decide +kernel⟩, List.mem_of_getElem? (i := 985) (by decide +kernel), List.mem_of_getElem? (i := 1255) (by decide +kernel), List.mem_of_getElem? (i := 1256) (by decide +kernel)⟩
theorem lw_p37 : lw_okq (⟨"TaleHouseModel", "spells", "(IJI)Z"⟩, 52) := ⟨⟨by decide +kernel, by decide +kernel⟩, List.mem_of_getElem? (i := 985) (by decide +kernel), List.mem_of_getElem? (i := 1260) (by decide +kernel), List.mem_of_getElem? (i := 1261) (by decide +kernel)⟩
theorem lw_p38 : lw_okq (⟨"TaleHouseModel", "passes", "(JI)Z"⟩, 52) := ⟨⟨by decide +kernel, by decide +kernel⟩, List.mem_of_getElem? (i := 985) (by decide +kernel), List.mem_of_getElem? (i := 1268) (by decide +kernel), List.mem_of_getElem? (i := 1269) (by decide +kernel)⟩
theorem lw_p39 : lw_okq (⟨"TaleHouseModel", "digits", "()I"⟩, 52) := ⟨⟨by decide +kernel, by decide +kernel⟩, List.mem_of_getElem? (i := 985) (by decide +kernel), List.mem_of_getElem? (i := 1272) (by decide +kernel), List.mem_of_getElem? (i := 1273) (by decide +kernel)⟩
theorem lw_p40 : lw_okq (⟨"TaleHouseModel", "ends", "()V"⟩, 52) := ⟨⟨by decide +kernel, by decide +kernel⟩, List.mem_of_getElem? (i := 985) (by decide +kernel), List.mem_of_getElem? (i := 1279) (by decide +kernel), List.mem_of_getElem? (i := 1280) (by decide +kernel)⟩
theorem lw_p41 : lw_okq (⟨"TaleHouseModel", "must", "(I)V"⟩, 52) := ⟨⟨by decide +kernel, by decide +kernel⟩, List.mem_of_getElem? (i := 985) (by decide +kernel), List.mem_of_getElem? (i := 1283) (by decide +kernel), List.mem_of_getElem? (i := 1284) (by decide +kernel)⟩
theorem lw_p42 : lw_okq (⟨"TaleHouseModel", "isEdition", "(II)Z"⟩, 52) := ⟨⟨by decide +kernel, by decide +kernel⟩, List.mem_of_getElem? (i := 985) (by decide +kernel), List.mem_of_getElem? (i := 1287) (by decide +kernel), List.mem_of_getElem? (i := 1288) (by decide +kernel)⟩
theorem lw_p43 : lw_okq (⟨"TaleHouseModel", "quarrels0", "(II)I"⟩, 52) := ⟨⟨by decide +kernel, by decide +kernel⟩, List.mem_of_getElem? (i := 985) (by decide +kernel), List.mem_of_getElem? (i := 1302) (by decide +kernel), List.mem_of_getElem? (i := 1303) (by decide +kernel)⟩
theorem lw_p44 : lw_okq (⟨"TaleHouseModel", "isAlike", "(III)Z"⟩, 52) := ⟨⟨by decide +kernel, by decide +kernel⟩, List.mem_of_getElem? (i := 985) (by decide +kernel), List.mem_of_getElem? (i := 1306) (by decide +kernel), List.mem_of_getElem? (i := 1307) (by decide +kernel)⟩
theorem lw_p45 : lw_okq (⟨"TaleHouseModel", "stands", "(II)Z"⟩, 52) := ⟨⟨by decide +kernel, by decide +kernel⟩, List.mem_of_getElem? (i := 985) (by decide +kernel), List.mem_of_getElem? (i := 1314) (by decide +kernel), List.mem_of_getElem? (i := 1315) (by decide +kernel)⟩
theorem lw_p46 : lw_okq (⟨"TaleHouseModel", "number", "(II)I"⟩, 52) := ⟨⟨by decide +kernel, by decide +kernel⟩, List.mem_of_getElem? (i := 985) (by decide +kernel), List.mem_of_getElem? (i := 1330) (by decide +kernel), List.mem_of_getElem? (i := 1331) (by decide +kernel)⟩
theorem lw_p47 : lw_okq (⟨"TaleHouseModel", "lateDays", "(I)I"⟩, 52) := ⟨⟨by decide +kernel, by decide +kernel⟩, List.mem_of_getElem? (i := 985) (by decide +kernel), List.mem_of_getElem? (i := 1349) (by decide +kernel), List.mem_of_getElem? (i := 1350) (by decide +kernel)⟩
def lw_privs_3 : List (MethodName × Nat) := [(⟨"TaleHouseModel", "begins", "()V"⟩, 52), (⟨"TaleHouseModel", "name", "(I)V"⟩, 52), (⟨"TaleHouseModel", "here", "()I"⟩, 52), (⟨"TaleHouseModel", "blame", "(II)V"⟩, 52), (⟨"TaleHouseModel", "wordEnd", "()I"⟩, 52), (⟨"TaleHouseModel", "spells", "(IJI)Z"⟩, 52), (⟨"TaleHouseModel", "passes", "(JI)Z"⟩, 52), (⟨"TaleHouseModel", "digits", "()I"⟩, 52), (⟨"TaleHouseModel", "ends", "()V"⟩, 52), (⟨"TaleHouseModel", "must", "(I)V"⟩, 52), (⟨"TaleHouseModel", "isEdition", "(II)Z"⟩, 52), (⟨"TaleHouseModel", "quarrels0", "(II)I"⟩, 52), (⟨"TaleHouseModel", "isAlike", "(III)Z"⟩, 52), (⟨"TaleHouseModel", "stands", "(II)Z"⟩, 52), (⟨"TaleHouseModel", "number", "(II)I"⟩, 52), (⟨"TaleHouseModel", "lateDays", "(I)I"⟩, 52)]
theorem lw_r3 : ∀ q ∈ lw_privs_3, lw_okq q := List.forall_mem_cons.mpr ⟨lw_p32, List.forall_mem_cons.mpr ⟨lw_p33, List.forall_mem_cons.mpr ⟨lw_p34, List.forall_mem_cons.mpr ⟨lw_p35, List.forall_mem_cons.mpr ⟨lw_p36, List.forall_mem_cons.mpr ⟨lw_p37, List.forall_mem_cons.mpr ⟨lw_p38, List.forall_mem_cons.mpr ⟨lw_p39, List.forall_mem_cons.mpr ⟨lw_p40, List.forall_mem_cons.mpr ⟨lw_p41, List.forall_mem_cons.mpr ⟨lw_p42, List.forall_mem_cons.mpr ⟨lw_p43, List.forall_mem_cons.mpr ⟨lw_p44, List.forall_mem_cons.mpr ⟨lw_p45, List.forall_mem_cons.mpr ⟨lw_p46, List.forall_mem_cons.mpr ⟨lw_p47, fun _ h => absurd h List.not_mem_nil⟩⟩⟩⟩⟩⟩⟩⟩⟩⟩⟩⟩⟩⟩⟩⟩
theorem lw_p48 : lw_okq (⟨"TaleHouseModel", "stays", "(II)I"⟩, 52) := ⟨⟨by decide +kernel, by decide +kernel⟩, List.mem_of_getElem? (i := 985) (by decide +kernel), List.mem_of_getElem? (i := 1385) (by decide +kernel), List.mem_of_getElem? (i := 1386) (by decide +kernel)⟩
def lw_privs_4 : List (MethodName × Nat) := [(⟨"TaleHouseModel", "stays", "(II)I"⟩, 52)]
theorem lw_r4 : ∀ q ∈ lw_privs_4, lw_okq q := List.forall_mem_cons.mpr ⟨lw_p48, fun _ h => absurd h List.not_mem_nil⟩
def lw_privs : List (MethodName × Nat) := lw_privs_1 ++ (lw_privs_2 ++ (lw_privs_3 ++ (lw_privs_4)))
def lw_tbl : List Cond := k2_sels lw_privs ++ tables_1
theorem lw_privs_ok : ∀ q ∈ lw_privs, lw_okq q := by
  show ∀ q ∈ lw_privs_1 ++ (lw_privs_2 ++ (lw_privs_3 ++ (lw_privs_4))), lw_okq q
  exact List.forall_mem_append.mpr ⟨lw_r1, List.forall_mem_append.mpr ⟨lw_r2, List.forall_mem_append.mpr ⟨lw_r3, lw_r4⟩⟩⟩
-- ===== end of PART A; then your names; then what follows =====
end
section
def xR_Ag : String := "TaleHouse$Agreement"
def xT_Ag : u_T := fun k => match k with
  | 0 => ("TaleHouse$Agreement", "percents", "[I", true)
  | 1 => ("TaleHouse$Agreement", "upTo", "[I", true)
  | 2 => ("TaleHouse$Agreement", "steps", "I", false)
  | 3 => ("TaleHouse$Agreement", "late", "I", false)
  | _ => ("TaleHouse$Agreement", "fromPart", "I", false)
def xY_Ag : Nat → FieldType := fun k => match k with
  | 0 => (.array .int)
  | 1 => (.array .int)
  | 2 => .int
  | 3 => .int
  | _ => .int
def xR_As : String := "TaleHouse$Agreements"
def xT_As : u_T := fun k => match k with
  | 0 => ("TaleHouse$Agreements", "agreements", "[LTaleHouse$Agreement;", true)
  | 1 => ("TaleHouse$Agreements", "draft", "LTaleHouse$Agreement;", false)
  | _ => ("TaleHouse$Agreements", "count", "I", false)
def xY_As : Nat → FieldType := fun k => match k with
  | 0 => (.array (.object "TaleHouse$Agreement"))
  | 1 => (.object "TaleHouse$Agreement")
  | _ => .int
def xR_Br : String := "TaleHouse$Breaks"
def xT_Br : u_T := fun k => match k with
  | 0 => ("TaleHouse$Breaks", "least", "[[I", true)
  | 1 => ("TaleHouse$Breaks", "lengths", "[I", false)
  | 2 => ("TaleHouse$Breaks", "count", "I", false)
  | _ => ("TaleHouse$Breaks", "wide", "I", false)
def xY_Br : Nat → FieldType := fun k => match k with
  | 0 => (.array (.array .int))
  | 1 => (.array .int)
  | 2 => .int
  | _ => .int
def xR_Fa : String := "TaleHouse$Fact"
def xT_Fa : u_T := fun k => match k with
  | 0 => ("TaleHouse$Fact", "person", "J", false)
  | 1 => ("TaleHouse$Fact", "kind", "I", false)
  | 2 => ("TaleHouse$Fact", "place", "J", false)
  | 3 => ("TaleHouse$Fact", "day", "I", false)
  | 4 => ("TaleHouse$Fact", "part", "I", false)
  | 5 => ("TaleHouse$Fact", "edition", "I", false)
  | _ => ("TaleHouse$Fact", "struckFrom", "I", false)
def xY_Fa : Nat → FieldType := fun k => match k with
  | 0 => .long
  | 1 => .int
  | 2 => .long
  | 3 => .int
  | 4 => .int
  | 5 => .int
  | _ => .int
def xR_Fs : String := "TaleHouse$Facts"
def xT_Fs : u_T := fun k => match k with
  | 0 => ("TaleHouse$Facts", "facts", "[LTaleHouse$Fact;", true)
  | 1 => ("TaleHouse$Facts", "lesserFound", "[I", true)
  | 2 => ("TaleHouse$Facts", "otherFound", "[I", true)
  | 3 => ("TaleHouse$Facts", "draft", "LTaleHouse$Fact;", false)
  | 4 => ("TaleHouse$Facts", "count", "I", false)
  | _ => ("TaleHouse$Facts", "foundCount", "I", false)
def xY_Fs : Nat → FieldType := fun k => match k with
  | 0 => (.array (.object "TaleHouse$Fact"))
  | 1 => (.array .int)
  | 2 => (.array .int)
  | 3 => (.object "TaleHouse$Fact")
  | 4 => .int
  | _ => .int
def xR_Fo : String := "TaleHouse$Foretelling"
def xT_Fo : u_T := fun k => match k with
  | 0 => ("TaleHouse$Foretelling", "sales", "[I", true)
  | 1 => ("TaleHouse$Foretelling", "rowLots", "[I", true)
  | _ => ("TaleHouse$Foretelling", "count", "I", false)
def xY_Fo : Nat → FieldType := fun k => match k with
  | 0 => (.array .int)
  | 1 => (.array .int)
  | _ => .int
def xR_Mn : String := "TaleHouse$Manuscript"
def xT_Mn : u_T := fun k => match k with
  | 0 => ("TaleHouse$Manuscript", "cuts", "[I", true)
  | 1 => ("TaleHouse$Manuscript", "wordCounts", "[I", true)
  | 2 => ("TaleHouse$Manuscript", "words", "[[I", true)
  | 3 => ("TaleHouse$Manuscript", "breakCosts", "[[I", true)
  | 4 => ("TaleHouse$Manuscript", "weighed", "[Z", true)
  | 5 => ("TaleHouse$Manuscript", "breaks", "LTaleHouse$Breaks;", true)
  | 6 => ("TaleHouse$Manuscript", "count", "I", false)
  | 7 => ("TaleHouse$Manuscript", "wide", "I", false)
  | 8 => ("TaleHouse$Manuscript", "pageLines", "I", false)
  | 9 => ("TaleHouse$Manuscript", "leadPrice", "I", false)
  | _ => ("TaleHouse$Manuscript", "widowPrice", "I", false)
def xY_Mn : Nat → FieldType := fun k => match k with
  | 0 => (.array .int)
  | 1 => (.array .int)
  | 2 => (.array (.array .int))
  | 3 => (.array (.array .int))
  | 4 => (.array .boolean)
  | 5 => (.object "TaleHouse$Breaks")
  | 6 => .int
  | 7 => .int
  | 8 => .int
  | 9 => .int
  | _ => .int
def xR_Pa : String := "TaleHouse$Parts"
def xT_Pa : u_T := fun k => match k with
  | 0 => ("TaleHouse$Parts", "lastEditions", "[I", true)
  | 1 => ("TaleHouse$Parts", "days", "[I", true)
  | 2 => ("TaleHouse$Parts", "comeCount", "I", false)
  | _ => ("TaleHouse$Parts", "startDay", "I", false)
def xY_Pa : Nat → FieldType := fun k => match k with
  | 0 => (.array .int)
  | 1 => (.array .int)
  | 2 => .int
  | _ => .int
def xR_Se : String := "TaleHouse$Setting"
def xT_Se : u_T := fun k => match k with
  | 0 => ("TaleHouse$Setting", "restCost", "[[I", true)
  | 1 => ("TaleHouse$Setting", "openingCost", "[I", true)
  | 2 => ("TaleHouse$Setting", "uncutCost", "[I", true)
  | 3 => ("TaleHouse$Setting", "placed", "[[I", true)
  | 4 => ("TaleHouse$Setting", "lineParagraph", "[I", true)
  | 5 => ("TaleHouse$Setting", "lineFirstWord", "[I", true)
  | 6 => ("TaleHouse$Setting", "lineWords", "[I", true)
  | 7 => ("TaleHouse$Setting", "paragraphCount", "I", false)
  | _ => ("TaleHouse$Setting", "lineCount", "I", false)
def xY_Se : Nat → FieldType := fun k => match k with
  | 0 => (.array (.array .int))
  | 1 => (.array .int)
  | 2 => (.array .int)
  | 3 => (.array (.array .int))
  | 4 => (.array .int)
  | 5 => (.array .int)
  | 6 => (.array .int)
  | 7 => .int
  | _ => .int
def xR_Sh : String := "TaleHouse$Shelf"
def xT_Sh : u_T := fun k => match k with
  | 0 => ("TaleHouse$Shelf", "printed", "[I", true)
  | 1 => ("TaleHouse$Shelf", "sold", "[I", true)
  | 2 => ("TaleHouse$Shelf", "pulped", "[I", true)
  | 3 => ("TaleHouse$Shelf", "bound", "[I", true)
  | 4 => ("TaleHouse$Shelf", "platesKept", "[Z", true)
  | 5 => ("TaleHouse$Shelf", "price", "I", false)
  | 6 => ("TaleHouse$Shelf", "paperPrice", "I", false)
  | 7 => ("TaleHouse$Shelf", "platesPrice", "I", false)
  | 8 => ("TaleHouse$Shelf", "pulpPrice", "I", false)
  | _ => ("TaleHouse$Shelf", "money", "J", false)
def xY_Sh : Nat → FieldType := fun k => match k with
  | 0 => (.array .int)
  | 1 => (.array .int)
  | 2 => (.array .int)
  | 3 => (.array .int)
  | 4 => (.array .boolean)
  | 5 => .int
  | 6 => .int
  | 7 => .int
  | 8 => .int
  | _ => .long
def xR_Tp : String := "TaleHouse$Tape"
def xT_Tp : u_T := fun k => match k with
  | 0 => ("TaleHouse$Tape", "bytes", "[I", true)
  | 1 => ("TaleHouse$Tape", "size", "I", false)
  | 2 => ("TaleHouse$Tape", "at", "I", false)
  | 3 => ("TaleHouse$Tape", "faultKind", "I", false)
  | _ => ("TaleHouse$Tape", "faultPlace", "I", false)
def xY_Tp : Nat → FieldType := fun k => match k with
  | 0 => (.array .int)
  | 1 => .int
  | 2 => .int
  | 3 => .int
  | _ => .int
def xR_TH : String := "TaleHouse"
def xT_TH : u_T := fun k => match k with
  | 0 => ("TaleHouse", "tape", "LTaleHouse$Tape;", true)
  | 1 => ("TaleHouse", "manuscript", "LTaleHouse$Manuscript;", true)
  | 2 => ("TaleHouse", "setting", "LTaleHouse$Setting;", true)
  | 3 => ("TaleHouse", "parts", "LTaleHouse$Parts;", true)
  | 4 => ("TaleHouse", "facts", "LTaleHouse$Facts;", true)
  | 5 => ("TaleHouse", "agreements", "LTaleHouse$Agreements;", true)
  | 6 => ("TaleHouse", "shelf", "LTaleHouse$Shelf;", true)
  | _ => ("TaleHouse", "foretelling", "LTaleHouse$Foretelling;", true)
def xY_TH : Nat → FieldType := fun k => match k with
  | 0 => (.object "TaleHouse$Tape")
  | 1 => (.object "TaleHouse$Manuscript")
  | 2 => (.object "TaleHouse$Setting")
  | 3 => (.object "TaleHouse$Parts")
  | 4 => (.object "TaleHouse$Facts")
  | 5 => (.object "TaleHouse$Agreements")
  | 6 => (.object "TaleHouse$Shelf")
  | _ => (.object "TaleHouse$Foretelling")
def xR_Md : String := "TaleHouseModel"
def xT_Md : u_T := fun k => match k with
  | 0 => ("TaleHouseModel", "tape", "[I", true)
  | 1 => ("TaleHouseModel", "taped", "I", false)
  | 2 => ("TaleHouseModel", "paragraphs", "I", false)
  | 3 => ("TaleHouseModel", "cuts", "[I", true)
  | 4 => ("TaleHouseModel", "many", "[I", true)
  | 5 => ("TaleHouseModel", "words", "[I", true)
  | 6 => ("TaleHouseModel", "wide", "I", false)
  | 7 => ("TaleHouseModel", "paged", "I", false)
  | 8 => ("TaleHouseModel", "lead", "I", false)
  | 9 => ("TaleHouseModel", "widow", "I", false)
  | 10 => ("TaleHouseModel", "rest", "[I", true)
  | 11 => ("TaleHouseModel", "least", "[I", true)
  | 12 => ("TaleHouseModel", "left", "[I", true)
  | 13 => ("TaleHouseModel", "found", "I", false)
  | 14 => ("TaleHouseModel", "isCut", "[Z", true)
  | 15 => ("TaleHouseModel", "leadsOf", "[I", true)
  | 16 => ("TaleHouseModel", "firstOf", "[I", true)
  | 17 => ("TaleHouseModel", "linesOf", "[I", true)
  | 18 => ("TaleHouseModel", "lineOf", "[I", true)
  | 19 => ("TaleHouseModel", "wordOf", "[I", true)
  | 20 => ("TaleHouseModel", "wordsIn", "[I", true)
  | 21 => ("TaleHouseModel", "faultKind", "I", false)
  | 22 => ("TaleHouseModel", "faultPlace", "I", false)
  | 23 => ("TaleHouseModel", "at", "I", false)
  | 24 => ("TaleHouseModel", "size", "I", false)
  | 25 => ("TaleHouseModel", "facts", "I", false)
  | 26 => ("TaleHouseModel", "names", "[I", true)
  | 27 => ("TaleHouseModel", "sizes", "[I", true)
  | 28 => ("TaleHouseModel", "says", "[I", true)
  | 29 => ("TaleHouseModel", "days", "[I", true)
  | 30 => ("TaleHouseModel", "part", "[I", true)
  | 31 => ("TaleHouseModel", "told", "[I", true)
  | 32 => ("TaleHouseModel", "struck", "[I", true)
  | 33 => ("TaleHouseModel", "editions", "[I", true)
  | 34 => ("TaleHouseModel", "pairs", "[I", true)
  | 35 => ("TaleHouseModel", "pairMany", "I", false)
  | 36 => ("TaleHouseModel", "agreements", "I", false)
  | 37 => ("TaleHouseModel", "steps", "[I", true)
  | 38 => ("TaleHouseModel", "stepMany", "[I", true)
  | 39 => ("TaleHouseModel", "late", "[I", true)
  | 40 => ("TaleHouseModel", "from", "[I", true)
  | 41 => ("TaleHouseModel", "start", "I", false)
  | 42 => ("TaleHouseModel", "day", "[I", true)
  | 43 => ("TaleHouseModel", "stocks", "[I", true)
  | 44 => ("TaleHouseModel", "price", "I", false)
  | 45 => ("TaleHouseModel", "paper", "I", false)
  | 46 => ("TaleHouseModel", "plates", "I", false)
  | 47 => ("TaleHouseModel", "pulp", "I", false)
  | 48 => ("TaleHouseModel", "purse", "J", false)
  | 49 => ("TaleHouseModel", "rows", "I", false)
  | 50 => ("TaleHouseModel", "sales", "[I", true)
  | _ => ("TaleHouseModel", "lots", "[I", true)
def xY_Md : Nat → FieldType := fun k => match k with
  | 0 => (.array .int)
  | 1 => .int
  | 2 => .int
  | 3 => (.array .int)
  | 4 => (.array .int)
  | 5 => (.array .int)
  | 6 => .int
  | 7 => .int
  | 8 => .int
  | 9 => .int
  | 10 => (.array .int)
  | 11 => (.array .int)
  | 12 => (.array .int)
  | 13 => .int
  | 14 => (.array .boolean)
  | 15 => (.array .int)
  | 16 => (.array .int)
  | 17 => (.array .int)
  | 18 => (.array .int)
  | 19 => (.array .int)
  | 20 => (.array .int)
  | 21 => .int
  | 22 => .int
  | 23 => .int
  | 24 => .int
  | 25 => .int
  | 26 => (.array .int)
  | 27 => (.array .int)
  | 28 => (.array .int)
  | 29 => (.array .int)
  | 30 => (.array .int)
  | 31 => (.array .int)
  | 32 => (.array .int)
  | 33 => (.array .int)
  | 34 => (.array .int)
  | 35 => .int
  | 36 => .int
  | 37 => (.array .int)
  | 38 => (.array .int)
  | 39 => (.array .int)
  | 40 => (.array .int)
  | 41 => .int
  | 42 => (.array .int)
  | 43 => (.array .int)
  | 44 => .int
  | 45 => .int
  | 46 => .int
  | 47 => .int
  | 48 => .long
  | 49 => .int
  | 50 => (.array .int)
  | _ => (.array .int)
/-- the classes whose objects the world holds: name, fields, how many -/
def xcl : List vw_C := [(xR_Ag, xT_Ag, 5), (xR_As, xT_As, 3), (xR_Br, xT_Br, 4), (xR_Fa, xT_Fa, 7), (xR_Fs, xT_Fs, 6), (xR_Fo, xT_Fo, 3), (xR_Mn, xT_Mn, 11), (xR_Pa, xT_Pa, 4), (xR_Se, xT_Se, 9), (xR_Sh, xT_Sh, 10), (xR_Tp, xT_Tp, 5), (xR_TH, xT_TH, 8), (xR_Md, xT_Md, 52)]
def xty : List (Nat → FieldType) := [xY_Ag, xY_As, xY_Br, xY_Fa, xY_Fs, xY_Fo, xY_Mn, xY_Pa, xY_Se, xY_Sh, xY_Tp, xY_TH, xY_Md]
/-- a method: name, bytes, locals, answer, and the room (frames, words) that its calls take -/
abbrev XM : Type := MethodName × ByteArray × Nat × Option FieldType × Nat × Nat
def m_Ag_init : XM := (⟨"TaleHouse$Agreement", "<init>", "()V"⟩, prog_2_method_1_code, 1, none, 1, 20)
def m_Ag_readFrom : XM := (⟨"TaleHouse$Agreement", "readFrom", "(LTaleHouse$Tape;)V"⟩, prog_2_method_2_code, 4, none, 8, 172)
def m_Ag_percentsOf : XM := (⟨"TaleHouse$Agreement", "percentsOf", "(J)J"⟩, prog_2_method_3_code, 11, (some .long), 1, 23)
def m_As_init : XM := (⟨"TaleHouse$Agreements", "<init>", "()V"⟩, prog_3_method_1_code, 1, none, 2, 40)
def m_As_readDraft : XM := (⟨"TaleHouse$Agreements", "readDraft", "(LTaleHouse$Tape;)Z"⟩, prog_3_method_2_code, 2, (some .boolean), 9, 195)
def m_As_addDraft : XM := (⟨"TaleHouse$Agreements", "addDraft", "(I)I"⟩, prog_3_method_3_code, 2, (some .int), 2, 40)
def m_As_latestFor : XM := (⟨"TaleHouse$Agreements", "latestFor", "(I)I"⟩, prog_3_method_4_code, 4, (some .int), 1, 21)
def m_As_numbered : XM := (⟨"TaleHouse$Agreements", "numbered", "(I)LTaleHouse$Agreement;"⟩, prog_3_method_5_code, 2, (some (.object "TaleHouse$Agreement")), 0, 0)
def m_Br_init : XM := (⟨"TaleHouse$Breaks", "<init>", "()V"⟩, prog_4_method_1_code, 1, none, 1, 20)
def m_Br_weigh : XM := (⟨"TaleHouse$Breaks", "weigh", "([III)V"⟩, prog_4_method_2_code, 6, none, 2, 49)
def m_Br_cost : XM := (⟨"TaleHouse$Breaks", "cost", "(I)I"⟩, prog_4_method_3_code, 2, (some .int), 0, 0)
def m_Br_wordsTaken : XM := (⟨"TaleHouse$Breaks", "wordsTaken", "(II)I"⟩, prog_4_method_4_code, 6, (some .int), 1, 25)
def m_Br_weighRest : XM := (⟨"TaleHouse$Breaks", "weighRest", "(II)V"⟩, prog_4_method_5_code, 5, none, 1, 25)
def m_Br_costWith : XM := (⟨"TaleHouse$Breaks", "costWith", "(III)I"⟩, prog_4_method_6_code, 6, (some .int), 0, 0)
def m_Fa_init : XM := (⟨"TaleHouse$Fact", "<init>", "()V"⟩, prog_5_method_1_code, 1, none, 1, 20)
def m_Fa_readFrom : XM := (⟨"TaleHouse$Fact", "readFrom", "(LTaleHouse$Tape;)V"⟩, prog_5_method_2_code, 2, none, 8, 174)
def m_Fa_standsIn : XM := (⟨"TaleHouse$Fact", "standsIn", "(I)Z"⟩, prog_5_method_3_code, 2, (some .boolean), 0, 0)
def m_Fa_quarrelWith : XM := (⟨"TaleHouse$Fact", "quarrelWith", "(LTaleHouse$Fact;)I"⟩, prog_5_method_4_code, 2, (some .int), 1, 22)
def m_Fa_quarrelWithLater : XM := (⟨"TaleHouse$Fact", "quarrelWithLater", "(LTaleHouse$Fact;)I"⟩, prog_5_method_5_code, 3, (some .int), 0, 0)
def m_Fs_init : XM := (⟨"TaleHouse$Facts", "<init>", "()V"⟩, prog_6_method_1_code, 1, none, 2, 40)
def m_Fs_readDraft : XM := (⟨"TaleHouse$Facts", "readDraft", "(LTaleHouse$Tape;)Z"⟩, prog_6_method_2_code, 2, (some .boolean), 9, 195)
def m_Fs_addDraft : XM := (⟨"TaleHouse$Facts", "addDraft", "(II)I"⟩, prog_6_method_3_code, 3, (some .int), 2, 40)
def m_Fs_strikeFrom : XM := (⟨"TaleHouse$Facts", "strikeFrom", "(IILTaleHouse$Parts;)Z"⟩, prog_6_method_4_code, 5, (some .boolean), 2, 42)
def m_Fs_quarrelOf : XM := (⟨"TaleHouse$Facts", "quarrelOf", "(II)I"⟩, prog_6_method_5_code, 5, (some .int), 2, 43)
def m_Fs_findQuarrels : XM := (⟨"TaleHouse$Facts", "findQuarrels", "(ILTaleHouse$Parts;)I"⟩, prog_6_method_6_code, 4, (some .int), 4, 91)
def m_Fs_foundPair : XM := (⟨"TaleHouse$Facts", "foundPair", "(II)I"⟩, prog_6_method_7_code, 3, (some .int), 0, 0)
def m_Fs_findQuarrelsOf : XM := (⟨"TaleHouse$Facts", "findQuarrelsOf", "(IILTaleHouse$Parts;)V"⟩, prog_6_method_8_code, 5, none, 3, 67)
def m_Fs_stands : XM := (⟨"TaleHouse$Facts", "stands", "(IILTaleHouse$Parts;)Z"⟩, prog_6_method_9_code, 5, (some .boolean), 2, 41)
def m_Fs_numbered : XM := (⟨"TaleHouse$Facts", "numbered", "(I)LTaleHouse$Fact;"⟩, prog_6_method_10_code, 2, (some (.object "TaleHouse$Fact")), 0, 0)
def m_Fo_init : XM := (⟨"TaleHouse$Foretelling", "<init>", "()V"⟩, prog_7_method_1_code, 1, none, 1, 20)
def m_Fo_addRow : XM := (⟨"TaleHouse$Foretelling", "addRow", "(II)I"⟩, prog_7_method_2_code, 3, (some .int), 0, 0)
def m_Fo_worthOf : XM := (⟨"TaleHouse$Foretelling", "worthOf", "(LTaleHouse$Shelf;II)J"⟩, prog_7_method_3_code, 12, (some .long), 2, 42)
def m_Fo_bestCopies : XM := (⟨"TaleHouse$Foretelling", "bestCopies", "(LTaleHouse$Shelf;I)I"⟩, prog_7_method_4_code, 9, (some .int), 3, 73)
def m_Mn_init : XM := (⟨"TaleHouse$Manuscript", "<init>", "()V"⟩, prog_8_method_1_code, 1, none, 2, 40)
def m_Mn_addParagraph : XM := (⟨"TaleHouse$Manuscript", "addParagraph", "(I)I"⟩, prog_8_method_2_code, 2, (some .int), 0, 0)
def m_Mn_addWord : XM := (⟨"TaleHouse$Manuscript", "addWord", "(I)I"⟩, prog_8_method_3_code, 4, (some .int), 0, 0)
def m_Mn_empty : XM := (⟨"TaleHouse$Manuscript", "empty", "()I"⟩, prog_8_method_4_code, 2, (some .int), 0, 0)
def m_Mn_shape : XM := (⟨"TaleHouse$Manuscript", "shape", "(IIII)Z"⟩, prog_8_method_5_code, 5, (some .boolean), 1, 21)
def m_Mn_cutCost : XM := (⟨"TaleHouse$Manuscript", "cutCost", "(I)I"⟩, prog_8_method_6_code, 2, (some .int), 0, 0)
def m_Mn_wordsOf : XM := (⟨"TaleHouse$Manuscript", "wordsOf", "(I)I"⟩, prog_8_method_7_code, 2, (some .int), 0, 0)
def m_Mn_weighBreaks : XM := (⟨"TaleHouse$Manuscript", "weighBreaks", "(I)V"⟩, prog_8_method_8_code, 4, none, 4, 95)
def m_Mn_breakCost : XM := (⟨"TaleHouse$Manuscript", "breakCost", "(II)I"⟩, prog_8_method_9_code, 3, (some .int), 0, 0)
def m_Mn_breaksOf : XM := (⟨"TaleHouse$Manuscript", "breaksOf", "(I)LTaleHouse$Breaks;"⟩, prog_8_method_10_code, 2, (some (.object "TaleHouse$Breaks")), 3, 74)
def m_Mn_widowCost : XM := (⟨"TaleHouse$Manuscript", "widowCost", "(II)I"⟩, prog_8_method_11_code, 4, (some .int), 0, 0)
def m_Mn_forgetBreakCosts : XM := (⟨"TaleHouse$Manuscript", "forgetBreakCosts", "()V"⟩, prog_8_method_12_code, 2, none, 0, 0)
def m_Pa_init : XM := (⟨"TaleHouse$Parts", "<init>", "()V"⟩, prog_9_method_1_code, 1, none, 1, 20)
def m_Pa_haveEdition : XM := (⟨"TaleHouse$Parts", "haveEdition", "(II)Z"⟩, prog_9_method_2_code, 3, (some .boolean), 1, 20)
def m_Pa_allHaveEdition : XM := (⟨"TaleHouse$Parts", "allHaveEdition", "(III)Z"⟩, prog_9_method_3_code, 5, (some .boolean), 2, 42)
def m_Pa_lastEdition : XM := (⟨"TaleHouse$Parts", "lastEdition", "(I)I"⟩, prog_9_method_4_code, 2, (some .int), 1, 20)
def m_Pa_addEdition : XM := (⟨"TaleHouse$Parts", "addEdition", "(I)I"⟩, prog_9_method_5_code, 2, (some .int), 1, 20)
def m_Pa_beginOn : XM := (⟨"TaleHouse$Parts", "beginOn", "(I)Z"⟩, prog_9_method_6_code, 2, (some .boolean), 0, 0)
def m_Pa_arrive : XM := (⟨"TaleHouse$Parts", "arrive", "(II)I"⟩, prog_9_method_7_code, 3, (some .int), 5, 108)
def m_Pa_hasCome : XM := (⟨"TaleHouse$Parts", "hasCome", "(I)Z"⟩, prog_9_method_8_code, 2, (some .boolean), 1, 20)
def m_Pa_daysLate : XM := (⟨"TaleHouse$Parts", "daysLate", "(I)I"⟩, prog_9_method_9_code, 2, (some .int), 4, 87)
def m_Pa_dueDay : XM := (⟨"TaleHouse$Parts", "dueDay", "(I)I"⟩, prog_9_method_10_code, 5, (some .int), 3, 63)
def m_Pa_daysBehind : XM := (⟨"TaleHouse$Parts", "daysBehind", "(II)I"⟩, prog_9_method_11_code, 3, (some .int), 2, 41)
def m_Se_init : XM := (⟨"TaleHouse$Setting", "<init>", "()V"⟩, prog_10_method_1_code, 1, none, 1, 20)
def m_Se_leastCost : XM := (⟨"TaleHouse$Setting", "leastCost", "(LTaleHouse$Manuscript;I)I"⟩, prog_10_method_2_code, 5, (some .int), 5, 118)
def m_Se_placeAll : XM := (⟨"TaleHouse$Setting", "placeAll", "(LTaleHouse$Manuscript;I)V"⟩, prog_10_method_3_code, 9, none, 5, 123)
def m_Se_ofParagraph : XM := (⟨"TaleHouse$Setting", "ofParagraph", "(II)I"⟩, prog_10_method_4_code, 3, (some .int), 0, 0)
def m_Se_ofLine : XM := (⟨"TaleHouse$Setting", "ofLine", "(II)I"⟩, prog_10_method_5_code, 3, (some .int), 0, 0)
def m_Se_weighFrom : XM := (⟨"TaleHouse$Setting", "weighFrom", "(LTaleHouse$Manuscript;II)V"⟩, prog_10_method_6_code, 8, none, 3, 75)
def m_Se_leastUncut : XM := (⟨"TaleHouse$Setting", "leastUncut", "(LTaleHouse$Manuscript;III)I"⟩, prog_10_method_7_code, 8, (some .int), 2, 48)
def m_Se_costInLines : XM := (⟨"TaleHouse$Setting", "costInLines", "(LTaleHouse$Manuscript;III)I"⟩, prog_10_method_8_code, 6, (some .int), 1, 23)
def m_Se_forgetPlaces : XM := (⟨"TaleHouse$Setting", "forgetPlaces", "(II)V"⟩, prog_10_method_9_code, 3, none, 1, 23)
def m_Se_fewestLeads : XM := (⟨"TaleHouse$Setting", "fewestLeads", "(LTaleHouse$Manuscript;IIII)I"⟩, prog_10_method_10_code, 8, (some .int), 3, 75)
def m_Se_fewestLines : XM := (⟨"TaleHouse$Setting", "fewestLines", "(LTaleHouse$Manuscript;III)I"⟩, prog_10_method_11_code, 7, (some .int), 2, 48)
def m_Se_placeLines : XM := (⟨"TaleHouse$Setting", "placeLines", "(LTaleHouse$Manuscript;III)V"⟩, prog_10_method_12_code, 9, none, 4, 95)
def m_Se_note : XM := (⟨"TaleHouse$Setting", "note", "(IIIII)V"⟩, prog_10_method_13_code, 6, none, 0, 0)
def m_Sh_init : XM := (⟨"TaleHouse$Shelf", "<init>", "()V"⟩, prog_11_method_1_code, 1, none, 1, 20)
def m_Sh_changePrices : XM := (⟨"TaleHouse$Shelf", "changePrices", "(IIII)Z"⟩, prog_11_method_2_code, 5, (some .boolean), 0, 0)
def m_Sh_keepPlates : XM := (⟨"TaleHouse$Shelf", "keepPlates", "(IZ)Z"⟩, prog_11_method_3_code, 3, (some .boolean), 1, 20)
def m_Sh_printingCost : XM := (⟨"TaleHouse$Shelf", "printingCost", "(II)I"⟩, prog_11_method_4_code, 3, (some .int), 1, 20)
def m_Sh_addPrinted : XM := (⟨"TaleHouse$Shelf", "addPrinted", "(II)I"⟩, prog_11_method_5_code, 4, (some .int), 2, 42)
def m_Sh_takeSold : XM := (⟨"TaleHouse$Shelf", "takeSold", "(II)I"⟩, prog_11_method_6_code, 3, (some .int), 2, 41)
def m_Sh_takePulped : XM := (⟨"TaleHouse$Shelf", "takePulped", "(I)I"⟩, prog_11_method_7_code, 3, (some .int), 2, 41)
def m_Sh_countOf : XM := (⟨"TaleHouse$Shelf", "countOf", "(II)I"⟩, prog_11_method_8_code, 3, (some .int), 2, 41)
def m_Sh_soldOfPart : XM := (⟨"TaleHouse$Shelf", "soldOfPart", "(I)J"⟩, prog_11_method_9_code, 6, (some .long), 1, 21)
def m_Sh_leastLeft : XM := (⟨"TaleHouse$Shelf", "leastLeft", "(III)I"⟩, prog_11_method_10_code, 6, (some .int), 2, 41)
def m_Sh_bind : XM := (⟨"TaleHouse$Shelf", "bind", "(IIII)V"⟩, prog_11_method_11_code, 7, none, 1, 21)
def m_Sh_left : XM := (⟨"TaleHouse$Shelf", "left", "(I)I"⟩, prog_11_method_12_code, 2, (some .int), 1, 20)
def m_Sh_isSlot : XM := (⟨"TaleHouse$Shelf", "isSlot", "(I)Z"⟩, prog_11_method_13_code, 1, (some .boolean), 0, 0)
def m_Tp_init : XM := (⟨"TaleHouse$Tape", "<init>", "()V"⟩, prog_12_method_1_code, 1, none, 1, 20)
def m_Tp_hasRoom : XM := (⟨"TaleHouse$Tape", "hasRoom", "()Z"⟩, prog_12_method_2_code, 1, (some .boolean), 0, 0)
def m_Tp_append : XM := (⟨"TaleHouse$Tape", "append", "(I)V"⟩, prog_12_method_3_code, 3, none, 0, 0)
def m_Tp_shorten : XM := (⟨"TaleHouse$Tape", "shorten", "(I)Z"⟩, prog_12_method_4_code, 2, (some .boolean), 0, 0)
def m_Tp_discard : XM := (⟨"TaleHouse$Tape", "discard", "()V"⟩, prog_12_method_5_code, 1, none, 0, 0)
def m_Tp_open : XM := (⟨"TaleHouse$Tape", "open", "()V"⟩, prog_12_method_6_code, 1, none, 0, 0)
def m_Tp_failed : XM := (⟨"TaleHouse$Tape", "failed", "()Z"⟩, prog_12_method_7_code, 1, (some .boolean), 0, 0)
def m_Tp_readName : XM := (⟨"TaleHouse$Tape", "readName", "()J"⟩, prog_12_method_8_code, 5, (some .long), 7, 150)
def m_Tp_readNumber : XM := (⟨"TaleHouse$Tape", "readNumber", "(II)I"⟩, prog_12_method_9_code, 6, (some .int), 2, 42)
def m_Tp_passWord : XM := (⟨"TaleHouse$Tape", "passWord", "(Ljava/lang/String;)Z"⟩, prog_12_method_10_code, 3, (some .boolean), 6, 129)
def m_Tp_needWord : XM := (⟨"TaleHouse$Tape", "needWord", "(Ljava/lang/String;)V"⟩, prog_12_method_11_code, 2, none, 7, 151)
def m_Tp_needSign : XM := (⟨"TaleHouse$Tape", "needSign", "(C)V"⟩, prog_12_method_12_code, 2, none, 3, 62)
def m_Tp_needEnd : XM := (⟨"TaleHouse$Tape", "needEnd", "()V"⟩, prog_12_method_13_code, 1, none, 3, 62)
def m_Tp_failNext : XM := (⟨"TaleHouse$Tape", "failNext", "()V"⟩, prog_12_method_14_code, 1, none, 2, 42)
def m_Tp_fail : XM := (⟨"TaleHouse$Tape", "fail", "(II)V"⟩, prog_12_method_15_code, 3, none, 1, 20)
def m_Tp_lettersAhead : XM := (⟨"TaleHouse$Tape", "lettersAhead", "()I"⟩, prog_12_method_16_code, 2, (some .int), 1, 21)
def m_Tp_digitsAhead : XM := (⟨"TaleHouse$Tape", "digitsAhead", "()I"⟩, prog_12_method_17_code, 2, (some .int), 1, 21)
def m_Tp_skipBlanks : XM := (⟨"TaleHouse$Tape", "skipBlanks", "()V"⟩, prog_12_method_18_code, 1, none, 0, 0)
def m_Tp_byteAt : XM := (⟨"TaleHouse$Tape", "byteAt", "(I)I"⟩, prog_12_method_19_code, 2, (some .int), 0, 0)
def m_Tp_isFactWord : XM := (⟨"TaleHouse$Tape", "isFactWord", "(I)Z"⟩, prog_12_method_20_code, 2, (some .boolean), 6, 129)
def m_Tp_isWord : XM := (⟨"TaleHouse$Tape", "isWord", "(Ljava/lang/String;I)Z"⟩, prog_12_method_21_code, 4, (some .boolean), 5, 106)
def m_TH_init : XM := (⟨"TaleHouse", "<init>", "()V"⟩, prog_1_method_1_code, 1, none, 3, 60)
def m_TH_feed : XM := (⟨"TaleHouse", "feed", "(IIIII)I"⟩, prog_1_method_2_code, 6, (some .int), 1, 22)
def m_TH_end : XM := (⟨"TaleHouse", "end", "(I)Z"⟩, prog_1_method_3_code, 2, (some .boolean), 1, 21)
def m_TH_paragraph : XM := (⟨"TaleHouse", "paragraph", "(I)I"⟩, prog_1_method_4_code, 2, (some .int), 1, 21)
def m_TH_word : XM := (⟨"TaleHouse", "word", "(I)I"⟩, prog_1_method_5_code, 2, (some .int), 1, 23)
def m_TH_clear : XM := (⟨"TaleHouse", "clear", "()I"⟩, prog_1_method_6_code, 1, (some .int), 1, 21)
def m_TH_page : XM := (⟨"TaleHouse", "page", "(IIII)Z"⟩, prog_1_method_7_code, 5, (some .boolean), 2, 45)
def m_TH_lines : XM := (⟨"TaleHouse", "lines", "(II)I"⟩, prog_1_method_8_code, 4, (some .int), 5, 118)
def m_TH_fill : XM := (⟨"TaleHouse", "fill", "(I)I"⟩, prog_1_method_9_code, 3, (some .int), 6, 151)
def m_TH_set : XM := (⟨"TaleHouse", "set", "(II)I"⟩, prog_1_method_10_code, 3, (some .int), 1, 22)
def m_TH_line : XM := (⟨"TaleHouse", "line", "(II)I"⟩, prog_1_method_11_code, 3, (some .int), 1, 22)
def m_TH_fact : XM := (⟨"TaleHouse", "fact", "(II)I"⟩, prog_1_method_12_code, 4, (some .int), 10, 216)
def m_TH_fault : XM := (⟨"TaleHouse", "fault", "(I)I"⟩, prog_1_method_13_code, 2, (some .int), 0, 0)
def m_TH_strike : XM := (⟨"TaleHouse", "strike", "(II)Z"⟩, prog_1_method_14_code, 3, (some .boolean), 3, 66)
def m_TH_quarrel : XM := (⟨"TaleHouse", "quarrel", "(II)I"⟩, prog_1_method_15_code, 3, (some .int), 3, 67)
def m_TH_quarrels : XM := (⟨"TaleHouse", "quarrels", "(I)I"⟩, prog_1_method_16_code, 2, (some .int), 5, 114)
def m_TH_found : XM := (⟨"TaleHouse", "found", "(II)I"⟩, prog_1_method_17_code, 3, (some .int), 1, 22)
def m_TH_mend : XM := (⟨"TaleHouse", "mend", "(I)I"⟩, prog_1_method_18_code, 2, (some .int), 2, 41)
def m_TH_agree : XM := (⟨"TaleHouse", "agree", "(I)I"⟩, prog_1_method_19_code, 3, (some .int), 10, 216)
def m_TH_agreed : XM := (⟨"TaleHouse", "agreed", "(I)I"⟩, prog_1_method_20_code, 2, (some .int), 2, 44)
def m_TH_share : XM := (⟨"TaleHouse", "share", "(I)J"⟩, prog_1_method_21_code, 9, (some .long), 5, 108)
def m_TH_start : XM := (⟨"TaleHouse", "start", "(I)Z"⟩, prog_1_method_22_code, 2, (some .boolean), 1, 21)
def m_TH_came : XM := (⟨"TaleHouse", "came", "(II)I"⟩, prog_1_method_23_code, 3, (some .int), 6, 130)
def m_TH_due : XM := (⟨"TaleHouse", "due", "(I)I"⟩, prog_1_method_24_code, 2, (some .int), 4, 87)
def m_TH_prices : XM := (⟨"TaleHouse", "prices", "(IIII)Z"⟩, prog_1_method_25_code, 5, (some .boolean), 1, 24)
def m_TH_keep : XM := (⟨"TaleHouse", "keep", "(IIZ)Z"⟩, prog_1_method_26_code, 4, (some .boolean), 2, 42)
def m_TH_print : XM := (⟨"TaleHouse", "print", "(III)I"⟩, prog_1_method_27_code, 4, (some .int), 3, 65)
def m_TH_sell : XM := (⟨"TaleHouse", "sell", "(III)I"⟩, prog_1_method_28_code, 4, (some .int), 3, 63)
def m_TH_pulp : XM := (⟨"TaleHouse", "pulp", "(II)I"⟩, prog_1_method_29_code, 3, (some .int), 3, 63)
def m_TH_stock : XM := (⟨"TaleHouse", "stock", "(III)I"⟩, prog_1_method_30_code, 4, (some .int), 3, 63)
def m_TH_volume : XM := (⟨"TaleHouse", "volume", "(IIII)I"⟩, prog_1_method_31_code, 6, (some .int), 3, 66)
def m_TH_foretell : XM := (⟨"TaleHouse", "foretell", "(II)I"⟩, prog_1_method_32_code, 3, (some .int), 1, 22)
def m_TH_best : XM := (⟨"TaleHouse", "best", "(II)I"⟩, prog_1_method_33_code, 3, (some .int), 4, 101)
def m_TH_worth : XM := (⟨"TaleHouse", "worth", "(III)J"⟩, prog_1_method_34_code, 4, (some .long), 3, 73)
def m_TH_purse : XM := (⟨"TaleHouse", "purse", "()J"⟩, prog_1_method_35_code, 1, (some .long), 0, 0)
def m_TH_isPart : XM := (⟨"TaleHouse", "isPart", "(I)Z"⟩, prog_1_method_36_code, 1, (some .boolean), 0, 0)
def m_TH_slot : XM := (⟨"TaleHouse", "slot", "(II)I"⟩, prog_1_method_37_code, 2, (some .int), 0, 0)
def m_TH_plus : XM := (⟨"TaleHouse", "plus", "(II)I"⟩, prog_1_method_38_code, 2, (some .int), 0, 0)
def m_Md_is : XM := (⟨"TaleHouseModel", "is", "(III)Z"⟩, prog_14_method_1_code, 3, (some .boolean), 0, 0)
def m_Md_put : XM := (⟨"TaleHouseModel", "put", "(I)V"⟩, prog_14_method_2_code, 3, none, 0, 0)
def m_Md_init : XM := (⟨"TaleHouseModel", "<init>", "()V"⟩, prog_14_method_3_code, 2, none, 1, 20)
def m_Md_feed : XM := (⟨"TaleHouseModel", "feed", "(IIIII)I"⟩, prog_14_method_4_code, 6, (some .int), 1, 22)
def m_Md_end : XM := (⟨"TaleHouseModel", "end", "(I)Z"⟩, prog_14_method_5_code, 2, (some .boolean), 0, 0)
def m_Md_paragraph : XM := (⟨"TaleHouseModel", "paragraph", "(I)I"⟩, prog_14_method_6_code, 2, (some .int), 1, 22)
def m_Md_word : XM := (⟨"TaleHouseModel", "word", "(I)I"⟩, prog_14_method_7_code, 3, (some .int), 1, 22)
def m_Md_clear : XM := (⟨"TaleHouseModel", "clear", "()I"⟩, prog_14_method_8_code, 2, (some .int), 0, 0)
def m_Md_page : XM := (⟨"TaleHouseModel", "page", "(IIII)Z"⟩, prog_14_method_9_code, 5, (some .boolean), 1, 22)
def m_Md_cost : XM := (⟨"TaleHouseModel", "cost", "(III)I"⟩, prog_14_method_10_code, 6, (some .int), 0, 0)
def m_Md_breaks : XM := (⟨"TaleHouseModel", "breaks", "(I)V"⟩, prog_14_method_11_code, 9, none, 1, 25)
def m_Md_lines : XM := (⟨"TaleHouseModel", "lines", "(II)I"⟩, prog_14_method_12_code, 3, (some .int), 2, 53)
def m_Md_at : XM := (⟨"TaleHouseModel", "at", "(III)I"⟩, prog_14_method_13_code, 3, (some .int), 0, 0)
def m_Md_price : XM := (⟨"TaleHouseModel", "price", "(IIII)I"⟩, prog_14_method_14_code, 6, (some .int), 0, 0)
def m_Md_stands6 : XM := (⟨"TaleHouseModel", "stands", "(IIIIII)I"⟩, prog_14_method_15_code, 10, (some .int), 1, 25)
def m_Md_gone : XM := (⟨"TaleHouseModel", "gone", "(III)I"⟩, prog_14_method_16_code, 5, (some .int), 1, 22)
def m_Md_fill : XM := (⟨"TaleHouseModel", "fill", "(I)I"⟩, prog_14_method_17_code, 9, (some .int), 4, 106)
def m_Md_tells : XM := (⟨"TaleHouseModel", "tells", "(I)V"⟩, prog_14_method_18_code, 8, none, 3, 79)
def m_Md_lays : XM := (⟨"TaleHouseModel", "lays", "(II)V"⟩, prog_14_method_19_code, 7, none, 2, 53)
def m_Md_set : XM := (⟨"TaleHouseModel", "set", "(II)I"⟩, prog_14_method_20_code, 3, (some .int), 0, 0)
def m_Md_line : XM := (⟨"TaleHouseModel", "line", "(II)I"⟩, prog_14_method_21_code, 3, (some .int), 0, 0)
def m_Md_blame : XM := (⟨"TaleHouseModel", "blame", "(II)V"⟩, prog_14_method_22_code, 3, none, 0, 0)
def m_Md_isLetter : XM := (⟨"TaleHouseModel", "isLetter", "(I)Z"⟩, prog_14_method_23_code, 1, (some .boolean), 0, 0)
def m_Md_isDigit : XM := (⟨"TaleHouseModel", "isDigit", "(I)Z"⟩, prog_14_method_24_code, 1, (some .boolean), 0, 0)
def m_Md_here : XM := (⟨"TaleHouseModel", "here", "()I"⟩, prog_14_method_25_code, 1, (some .int), 0, 0)
def m_Md_must : XM := (⟨"TaleHouseModel", "must", "(I)V"⟩, prog_14_method_26_code, 2, none, 1, 22)
def m_Md_wordEnd : XM := (⟨"TaleHouseModel", "wordEnd", "()I"⟩, prog_14_method_27_code, 2, (some .int), 1, 20)
def m_Md_spells : XM := (⟨"TaleHouseModel", "spells", "(IJI)Z"⟩, prog_14_method_28_code, 7, (some .boolean), 0, 0)
def m_Md_passes : XM := (⟨"TaleHouseModel", "passes", "(JI)Z"⟩, prog_14_method_29_code, 4, (some .boolean), 2, 41)
def m_Md_digits : XM := (⟨"TaleHouseModel", "digits", "()I"⟩, prog_14_method_30_code, 3, (some .int), 1, 22)
def m_Md_number : XM := (⟨"TaleHouseModel", "number", "(II)I"⟩, prog_14_method_31_code, 5, (some .int), 2, 44)
def m_Md_begins : XM := (⟨"TaleHouseModel", "begins", "()V"⟩, prog_14_method_32_code, 1, none, 0, 0)
def m_Md_ends : XM := (⟨"TaleHouseModel", "ends", "()V"⟩, prog_14_method_33_code, 1, none, 2, 43)
def m_Md_fault : XM := (⟨"TaleHouseModel", "fault", "(I)I"⟩, prog_14_method_34_code, 2, (some .int), 0, 0)
def m_Md_isPart : XM := (⟨"TaleHouseModel", "isPart", "(I)Z"⟩, prog_14_method_35_code, 1, (some .boolean), 0, 0)
def m_Md_isEdition : XM := (⟨"TaleHouseModel", "isEdition", "(II)Z"⟩, prog_14_method_36_code, 3, (some .boolean), 1, 20)
def m_Md_name : XM := (⟨"TaleHouseModel", "name", "(I)V"⟩, prog_14_method_37_code, 4, none, 2, 41)
def m_Md_fact : XM := (⟨"TaleHouseModel", "fact", "(II)I"⟩, prog_14_method_38_code, 3, (some .int), 3, 64)
def m_Md_strike : XM := (⟨"TaleHouseModel", "strike", "(II)Z"⟩, prog_14_method_39_code, 3, (some .boolean), 2, 42)
def m_Md_isAlike : XM := (⟨"TaleHouseModel", "isAlike", "(III)Z"⟩, prog_14_method_40_code, 6, (some .boolean), 0, 0)
def m_Md_quarrels0 : XM := (⟨"TaleHouseModel", "quarrels0", "(II)I"⟩, prog_14_method_41_code, 5, (some .int), 1, 25)
def m_Md_quarrel : XM := (⟨"TaleHouseModel", "quarrel", "(II)I"⟩, prog_14_method_42_code, 3, (some .int), 2, 49)
def m_Md_stands2 : XM := (⟨"TaleHouseModel", "stands", "(II)Z"⟩, prog_14_method_43_code, 4, (some .boolean), 0, 0)
def m_Md_quarrels : XM := (⟨"TaleHouseModel", "quarrels", "(I)I"⟩, prog_14_method_44_code, 4, (some .int), 2, 49)
def m_Md_found : XM := (⟨"TaleHouseModel", "found", "(II)I"⟩, prog_14_method_45_code, 3, (some .int), 1, 22)
def m_Md_mend : XM := (⟨"TaleHouseModel", "mend", "(I)I"⟩, prog_14_method_46_code, 2, (some .int), 1, 20)
def m_Md_agree : XM := (⟨"TaleHouseModel", "agree", "(I)I"⟩, prog_14_method_47_code, 7, (some .int), 3, 68)
def m_Md_agreed : XM := (⟨"TaleHouseModel", "agreed", "(I)I"⟩, prog_14_method_48_code, 4, (some .int), 1, 20)
def m_Md_share : XM := (⟨"TaleHouseModel", "share", "(I)J"⟩, prog_14_method_49_code, 12, (some .long), 3, 65)
def m_Md_lateDays : XM := (⟨"TaleHouseModel", "lateDays", "(I)I"⟩, prog_14_method_50_code, 2, (some .int), 2, 44)
def m_Md_due : XM := (⟨"TaleHouseModel", "due", "(I)I"⟩, prog_14_method_51_code, 5, (some .int), 1, 20)
def m_Md_start : XM := (⟨"TaleHouseModel", "start", "(I)Z"⟩, prog_14_method_52_code, 4, (some .boolean), 1, 22)
def m_Md_came : XM := (⟨"TaleHouseModel", "came", "(II)I"⟩, prog_14_method_53_code, 3, (some .int), 3, 65)
def m_Md_prices : XM := (⟨"TaleHouseModel", "prices", "(IIII)Z"⟩, prog_14_method_54_code, 5, (some .boolean), 1, 22)
def m_Md_row : XM := (⟨"TaleHouseModel", "row", "(II)I"⟩, prog_14_method_55_code, 2, (some .int), 0, 0)
def m_Md_stays : XM := (⟨"TaleHouseModel", "stays", "(II)I"⟩, prog_14_method_56_code, 4, (some .int), 1, 21)
def m_Md_keep : XM := (⟨"TaleHouseModel", "keep", "(IIZ)Z"⟩, prog_14_method_57_code, 4, (some .boolean), 2, 42)
def m_Md_print : XM := (⟨"TaleHouseModel", "print", "(III)I"⟩, prog_14_method_58_code, 5, (some .int), 2, 42)
def m_Md_sell : XM := (⟨"TaleHouseModel", "sell", "(III)I"⟩, prog_14_method_59_code, 4, (some .int), 2, 44)
def m_Md_pulp : XM := (⟨"TaleHouseModel", "pulp", "(II)I"⟩, prog_14_method_60_code, 4, (some .int), 2, 44)
def m_Md_stock : XM := (⟨"TaleHouseModel", "stock", "(III)I"⟩, prog_14_method_61_code, 4, (some .int), 2, 44)
def m_Md_volume : XM := (⟨"TaleHouseModel", "volume", "(IIII)I"⟩, prog_14_method_62_code, 7, (some .int), 2, 44)
def m_Md_foretell : XM := (⟨"TaleHouseModel", "foretell", "(II)I"⟩, prog_14_method_63_code, 3, (some .int), 1, 22)
def m_Md_worth : XM := (⟨"TaleHouseModel", "worth", "(III)J"⟩, prog_14_method_64_code, 11, (some .long), 2, 42)
def m_Md_best : XM := (⟨"TaleHouseModel", "best", "(II)I"⟩, prog_14_method_65_code, 7, (some .int), 3, 72)
def m_Md_purse : XM := (⟨"TaleHouseModel", "purse", "()J"⟩, prog_14_method_66_code, 1, (some .long), 0, 0)
def m_Jm_maxI : XM := (⟨"java/lang/Math", "max", "(II)I"⟩, prog_15_method_65_code, 2, (some .int), 0, 0)
def m_Jm_maxJ : XM := (⟨"java/lang/Math", "max", "(JJ)J"⟩, prog_15_method_66_code, 4, (some .long), 0, 0)
def m_Jm_minI : XM := (⟨"java/lang/Math", "min", "(II)I"⟩, prog_15_method_69_code, 2, (some .int), 0, 0)
def m_Jm_minJ : XM := (⟨"java/lang/Math", "min", "(JJ)J"⟩, prog_15_method_70_code, 4, (some .long), 0, 0)
def m_Js_length : XM := (⟨"java/lang/String", "length", "()I"⟩, prog_16_method_54_code, 1, (some .int), 1, 20)
def m_Js_charAt : XM := (⟨"java/lang/String", "charAt", "(I)C"⟩, prog_16_method_56_code, 2, (some .char), 4, 85)
def m_Js_coder : XM := (⟨"java/lang/String", "coder", "()B"⟩, prog_16_method_152_code, 1, (some .byte), 0, 0)
def m_Js_isLatin1 : XM := (⟨"java/lang/String", "isLatin1", "()Z"⟩, prog_16_method_154_code, 1, (some .boolean), 0, 0)
def m_Js_checkIndex : XM := (⟨"java/lang/String", "checkIndex", "(II)V"⟩, prog_16_method_155_code, 2, none, 1, 22)
def m_Jl_charAt : XM := (⟨"java/lang/StringLatin1", "charAt", "([BI)C"⟩, prog_17_method_2_code, 2, (some .char), 2, 43)
def m_Ja_fill : XM := (⟨"java/util/Arrays", "fill", "([II)V"⟩, prog_19_method_103_code, 4, none, 0, 0)
def m_Lw_law : XM := (x, code, 4, some .boolean, 11, 239)
end
section
/-! THE SMALL HEAP. A list of cells; a cell's place is its number; a reference is a number. An array bears its kind's number where va_E has a class. -/
abbrev XH : Type := List va_E
/-- the world's constants: where the world begins; class numbers and slots; array classes by kind; addresses of what is older (String constants, the script) -/
abbrev XK : Type := Nat × va_G × (Nat → ClassId) × (Nat → Nat)
def xv (K : XK) : Value → Value
  | .ref a => .ref (K.1 + a)
  | .retAddr k => .ref (K.2.2.2 k)
  | v => v
def xf (K : XK) (r : Option Nat) : Option Nat := r.map (fun a => K.1 + a)
def xa (K : XK) : ((Nat → Int32) ⊕ (Nat → Int64) ⊕ (Nat → UInt32) ⊕ (Nat → UInt64) ⊕ (Nat → Option Nat)) → ((Nat → Int32) ⊕ (Nat → Int64) ⊕ (Nat → UInt32) ⊕ (Nat → UInt64) ⊕ (Nat → Option Nat))
  | .inr (.inr (.inr (.inr f))) => .inr (.inr (.inr (.inr (fun i => xf K (f i)))))
  | a => a
def xe (K : XK) : va_E → va_E
  | .inl (t, n, a) => .inl (K.2.2.1 t, n, xa K a)
  | .inr (ci, fs) => .inr (ci, fs.map (xv K))
def xw (K : XK) (h : XH) : va_W := h.mapIdx (fun i e => (K.1 + i, xe K e))
def xs1 : va_E → Nat
  | .inl (_, n, _) => n
  | .inr (_, fs) => fs.length
def xsz (h : XH) : Nat := (h.map xs1).sum
theorem xv_cat (K : XK) (v : Value) : (xv K v).category = v.category := by cases v <;> rfl
theorem xv_cats (K : XK) (st : List Value) : ((st.map (xv K)).map fun v => v.category).sum = (st.map fun v => v.category).sum := by
  rw [List.map_map]
  congr 1
  apply List.map_congr_left
  intro v _
  exact xv_cat K v
theorem xw_get {K : XK} {h : XH} {i : Nat} {e : va_E} (hi : h[i]? = some e) : (xw K h)[i]? = some (K.1 + i, xe K e) := by
  simp [xw, List.getElem?_mapIdx, hi]
theorem xw_get' {K : XK} {h : XH} {i : Nat} {q : Nat × va_E} (hq : (xw K h)[i]? = some q) : q.1 = K.1 + i ∧ ∃ e, h[i]? = some e ∧ q.2 = xe K e := by
  simp only [xw, List.getElem?_mapIdx, Option.map_eq_some_iff] at hq
  obtain ⟨e, h1, h2⟩ := hq
  subst h2
  exact ⟨rfl, e, h1, rfl⟩
theorem xw_set {K : XK} {h : XH} (i : Nat) (e : va_E) : xw K (h.set i e) = (xw K h).set i (K.1 + i, xe K e) := by
  apply List.ext_getElem?
  intro j
  by_cases hj : i = j
  · subst hj
    by_cases hl : i < h.length
    · simp [xw, List.getElem?_mapIdx, List.getElem?_set_self, hl]
    · simp [xw, List.getElem?_mapIdx, List.getElem?_set, hl]
  · simp [xw, List.getElem?_mapIdx, List.getElem?_set_ne hj]
theorem xw_push {K : XK} {h : XH} (e : va_E) : xw K (h ++ [e]) = xw K h ++ [(K.1 + h.length, xe K e)] := by
  simp [xw, List.mapIdx_append]
theorem xw_D {K : XK} {h : XH} : va_D (fun q => K.1 ≤ q) (xw K h) := by
  refine ⟨fun i j p q hi hj e => ?_, fun k q hk => ?_⟩
  · have h1 := (xw_get' hi).1
    have h2 := (xw_get' hj).1
    omega
  · have h1 := (xw_get' hk).1
    show K.1 ≤ q.1
    omega
theorem xsz_set {h : XH} {i : Nat} {e e' : va_E} (hi : h[i]? = some e) (he : xs1 e' = xs1 e) : xsz (h.set i e') = xsz h := by
  unfold xsz
  rw [List.map_set]
  congr 1
  apply List.ext_getElem?
  intro j
  by_cases hj : i = j
  · subst hj
    have hl := (List.getElem?_eq_some_iff.mp hi).1
    rw [List.getElem?_set_self (by rw [List.length_map]; exact hl), List.getElem?_map, hi, he]
    rfl
  · rw [List.getElem?_set_ne hj]
theorem xsz_push {h : XH} (e : va_E) : xsz (h ++ [e]) = xsz h + xs1 e := by simp [xsz]
/-- the concrete heap holds the small one -/
def XR (K : XK) (h : XH) (H : Heap) : Prop := H.size = K.1 + h.length ∧ va_P K.2.1 xcl (xw K h) H
/-- a place of the locals: none where nothing is said -/
def lvX (K : XK) (L : Array Slot) (nL : Nat) (ls : List (Option Value)) : Prop := L.size = nL ∧ lv_wf L ∧ ∀ (i : Nat) (v : Value), ls[i]? = some (some v) → L[i]? = some (.val (xv K v))
/-- storing: what stood there goes, and a long one place ahead -/
def xk (ls : List (Option Value)) : Nat → List (Option Value)
  | 0 => ls
  | j + 1 => match ls[j]? with
    | some (some w) => if w.category = 2 then ls.set j none else ls
    | _ => ls
def xst (ls : List (Option Value)) (i : Nat) (v : Value) : List (Option Value) := (xk ls i).set i (some v)
def xst2 (ls : List (Option Value)) (i : Nat) (v : Value) : List (Option Value) := (xst ls i v).set (i + 1) none
theorem xst_get {ls : List (Option Value)} {i k : Nat} {v w : Value} (h : (xst ls i v)[k]? = some (some w)) : (k = i ∧ w = v) ∨ (k ≠ i ∧ ls[k]? = some (some w) ∧ ¬ (k + 1 = i ∧ w.category = 2)) := by
  unfold xst at h
  by_cases hk : k = i
  · subst hk
    by_cases hl : k < (xk ls k).length
    · rw [List.getElem?_set_self hl] at h
      cases h
      exact Or.inl ⟨rfl, rfl⟩
    · rw [List.getElem?_eq_none (by rw [List.length_set]; omega)] at h
      cases h
  · rw [List.getElem?_set_ne (fun e => hk e.symm)] at h
    refine Or.inr ⟨hk, ?_⟩
    cases i with
    | zero => exact ⟨h, fun q => by omega⟩
    | succ j =>
      simp only [xk] at h
      split at h
      · rename_i w0 hw0
        split at h
        · by_cases hkj : k = j
          · subst hkj
            by_cases hl : k < ls.length
            · rw [List.getElem?_set_self hl] at h
              cases h
            · rw [List.getElem?_eq_none (by rw [List.length_set]; omega)] at h
              cases h
          · rw [List.getElem?_set_ne (fun e => hkj e.symm)] at h
            exact ⟨h, fun q => hkj (by omega)⟩
        · rename_i hc
          refine ⟨h, fun q => ?_⟩
          have : k = j := by omega
          subst this
          rw [hw0] at h
          cases h
          exact hc q.2
      · rename_i hx
        refine ⟨h, fun q => ?_⟩
        have : k = j := by omega
        subst this
        exact hx _ h
theorem lvX_store1 {K : XK} {L : Array Slot} {nL : Nat} {ls : List (Option Value)} {i : Nat} {v : Value} (h : lvX K L nL ls) (hi : i < nL) (hc : v.category = 1) : ∃ L', storeLocals L i (xv K v) = some L' ∧ lvX K L' nL (xst ls i v) := by
  let all : List (Nat × Value) := (List.range nL).filterMap (fun k => match ls[k]? with | some (some w) => some (k, xv K w) | _ => none)
  have hh : lv_has L nL all := by
    refine ⟨h.1, h.2.1, fun q hq => ?_⟩
    obtain ⟨k, -, hk⟩ := List.mem_filterMap.mp hq
    split at hk
    · rename_i w hw
      cases hk
      exact h.2.2 k w hw
    · cases hk
  obtain ⟨L', h1, h2⟩ := lv_store1 (i := i) (v := xv K v) hh hi (by rw [xv_cat]; exact hc)
  refine ⟨L', h1, h2.1, h2.2.1, fun k w hk => ?_⟩
  rcases xst_get hk with ⟨rfl, rfl⟩ | ⟨g1, g2, g3⟩
  · exact h2.2.2 (k, xv K w) List.mem_cons_self
  · refine h2.2.2 (k, xv K w) (List.mem_cons_of_mem _ (List.mem_filter.mpr ⟨?_, ?_⟩))
    · refine List.mem_filterMap.mpr ⟨k, List.mem_range.mpr ?_, by simp [g2]⟩
      have := h.2.2 k w g2
      rw [← h.1]
      exact (Array.getElem?_eq_some_iff.mp this).1
    · rw [xv_cat]
      simp only [Bool.and_eq_true, Bool.not_eq_true', beq_eq_false_iff_ne, ne_eq, Bool.and_eq_false_iff]
      refine ⟨g1, ?_⟩
      by_cases q : k + 1 = i
      · exact Or.inr (fun z => g3 ⟨q, z⟩)
      · exact Or.inl q
theorem lvX_store2 {K : XK} {L : Array Slot} {nL : Nat} {ls : List (Option Value)} {i : Nat} {v : Value} (h : lvX K L nL ls) (hi : i + 1 < nL) (hc : v.category = 2) : ∃ L', storeLocals L i (xv K v) = some L' ∧ lvX K L' nL (xst2 ls i v) := by
  let all : List (Nat × Value) := (List.range nL).filterMap (fun k => match ls[k]? with | some (some w) => some (k, xv K w) | _ => none)
  have hh : lv_has L nL all := by
    refine ⟨h.1, h.2.1, fun q hq => ?_⟩
    obtain ⟨k, -, hk⟩ := List.mem_filterMap.mp hq
    split at hk
    · rename_i w hw
      cases hk
      exact h.2.2 k w hw
    · cases hk
  obtain ⟨L', h1, h2⟩ := lv_store2 (i := i) (v := xv K v) hh hi (by rw [xv_cat]; exact hc)
  refine ⟨L', h1, h2.1, h2.2.1, fun k w hk => ?_⟩
  have hk1 : k ≠ i + 1 ∧ (xst ls i v)[k]? = some (some w) := by
    unfold xst2 at hk
    by_cases q : k = i + 1
    · subst q
      by_cases hl : i + 1 < (xst ls i v).length
      · rw [List.getElem?_set_self hl] at hk
        cases hk
      · rw [List.getElem?_eq_none (by rw [List.length_set]; omega)] at hk
        cases hk
    · rw [List.getElem?_set_ne (fun e => q e.symm)] at hk
      exact ⟨q, hk⟩
  rcases xst_get hk1.2 with ⟨rfl, rfl⟩ | ⟨g1, g2, g3⟩
  · exact h2.2.2 (k, xv K w) List.mem_cons_self
  · refine h2.2.2 (k, xv K w) (List.mem_cons_of_mem _ (List.mem_filter.mpr ⟨?_, ?_⟩))
    · refine List.mem_filterMap.mpr ⟨k, List.mem_range.mpr ?_, by simp [g2]⟩
      have := h.2.2 k w g2
      rw [← h.1]
      exact (Array.getElem?_eq_some_iff.mp this).1
    · rw [xv_cat]
      simp only [Bool.and_eq_true, Bool.not_eq_true', beq_eq_false_iff_ne, ne_eq, Bool.and_eq_false_iff]
      refine ⟨g1, hk1.1, ?_⟩
      by_cases q : k + 1 = i
      · exact Or.inr (fun z => g3 ⟨q, z⟩)
      · exact Or.inl q
theorem lvX_at {K : XK} {L : Array Slot} {nL : Nat} {ls : List (Option Value)} (h : lvX K L nL ls) {i : Nat} {v : Value} (hi : ls[i]? = some (some v)) : L[i]? = some (.val (xv K v)) := h.2.2 i v hi
end
section
/-! WHAT IS GIVEN AT A METHOD'S ENTRY, AND THE JUDGEMENT. -/
def gtbl : List Cond := lw_tbl.filter goodWord
theorem gt_of {w : Cond} (h : w ∈ lw_tbl) (hg : goodWord w = true) : w ∈ gtbl := List.mem_filter.mpr ⟨h, hg⟩
theorem gt_in {w : Cond} (i : Nat) (h : tables_1[i]? = some w) (hg : goodWord w = true) : w ∈ gtbl := gt_of (List.mem_append_right _ (List.mem_of_getElem? h)) hg
theorem gt_pv {w : Cond} (i : Nat) (h : (k2_sels lw_privs)[i]? = some w) (hg : goodWord w = true) : w ∈ gtbl := gt_of (List.mem_append_left _ (List.mem_of_getElem? h)) hg
theorem gt_good : GoodIn gtbl gtbl := fun w h => ⟨h, good_of_word (List.mem_filter.mp h).2⟩
/-- the array kinds: 0 int, 1 boolean, 2 int[], 3 Fact, 4 Agreement -/
def xkd : Nat → FieldType
  | 0 => .int
  | 1 => .boolean
  | 2 => .array .int
  | 3 => .object xR_Fa
  | _ => .object xR_Ag
def xtys (K : XK) : List (ClassId × FieldType) := [(K.2.2.1 0, .int), (K.2.2.1 1, .boolean), (K.2.2.1 2, .array .int), (K.2.2.1 3, .object xR_Fa), (K.2.2.1 4, .object xR_Ag)]
def xnst : Cond → Bool
  | .fieldLinkNest .. => true
  | .methodLinkNest .. => true
  | _ => false
/-- the String constants' places: class, entry, text, number -/
def xstr : List (String × Nat × String × Nat) := [("TaleHouse$Tape", 67, "born", 0), ("TaleHouse$Tape", 69, "dead", 1), ("TaleHouse$Tape", 71, "in", 2), ("TaleHouse$Tape", 73, "on", 3), ("TaleHouse$Fact", 31, "born", 0), ("TaleHouse$Fact", 40, "dead", 1), ("TaleHouse$Fact", 42, "in", 2), ("TaleHouse$Fact", 48, "on", 3), ("TaleHouse$Agreement", 33, "percent", 4), ("TaleHouse$Agreement", 39, "late", 5), ("TaleHouse$Agreement", 54, "to", 6)]
def xlen : List Nat := [4, 4, 2, 2, 7, 4, 2]
def xbyt : List (List Int32) := [[98, 111, 114, 110], [100, 101, 97, 100], [105, 110], [111, 110], [112, 101, 114, 99, 101, 110, 116], [108, 97, 116, 101], [116, 111]]
/-- the script: its length and its ints -/
abbrev XS : Type := Nat × (Nat → Int32)
def xAi (U : State) : Prop := (Cond.arrayOver (.array .int)).before #[] U = true
theorem xAi.same {u U : State} (hv : U.vm = u.vm) (h : xAi u) : xAi U := by
  have h1 : (Cond.arrayOver (.array .int)).before #[] u = true := h
  show (Cond.arrayOver (.array .int)).before #[] U = true
  simp only [Cond.before, Cond.holds, Cond.value] at h1 ⊢
  rw [hv]
  exact h1
theorem xAi.moved {u U : State} (hvm : u.vm.Alike U.vm) (h : xAi u) : xAi U := by
  have h1 : (Cond.arrayOver (.array .int)).before #[] u = true := h
  show (Cond.arrayOver (.array .int)).before #[] U = true
  simp only [Cond.before, Cond.holds, Cond.value, beq_iff_eq, Option.bind_eq_some_iff, Option.map_eq_some_iff] at h1 ⊢
  obtain ⟨comp, h1, c, h2, k, h3, h4⟩ := h1
  obtain ⟨k', hk', he⟩ := hvm.2.2 _ _ h3
  refine ⟨comp, by rw [hvm.findClass]; exact h1, c, ?_, k', hk', ?_⟩
  · have e1 := va_idx_bare U.vm comp
    have e2 := va_idx_bare u.vm comp
    first | rw [hvm.bare_eq] at e1 | rw [← hvm.bare_eq] at e1
    exact e1.symm.trans (e2.trans h2)
  · rw [hvm.findClass, he]
    exact h4
/-- what is given of the tables and of the older cells -/
def xE (K : XK) (S : XS) (U : State) : Prop :=
  va_K K.2.1 xcl (xtys K) U ∧ (∀ w ∈ tables_1, xnst w = true → va_Nw w U) ∧ (∀ q ∈ xstr, vk_R q.1 q.2.1 q.2.2.1 (K.2.2.2 q.2.2.2) U) ∧
  (va_AO xR_Fa U ∧ va_AO xR_Ag U ∧ xAi U) ∧ (∃ adV : Nat → Nat, vk_S 7 xlen xbyt K.2.2.2 adV (fun q => K.1 ≤ q) U U.heap) ∧ va_Z "java/lang/String" "COMPACT_STRINGS" "Z" (.int 1) (fun q => K.1 ≤ q) U U.heap ∧
  va_X (K.2.2.2 99) S.1 S.2 U U.heap ∧ K.2.2.2 99 < K.1
theorem xE.to {K : XK} {S : XS} {s U : State} (hW : s.WarmedH U.vm) (hh : ∀ q : Nat, q < s.heap.size → ¬ K.1 ≤ q → U.heap[q]? = s.heap[q]?) (h : xE K S s) : xE K S U := by
  obtain ⟨h1, h2, h3, ⟨h4, h5, h6⟩, ⟨adV, h7⟩, h8, h9, h10⟩ := h
  refine ⟨va_K.moved hW.alike h1, fun w hw hn => ?_, fun q hq => (h3 q hq).warm hW, ⟨h4.moved hW.alike, h5.moved hW.alike, h6.moved hW.alike⟩, ⟨adV, (h7.moved hW.alike).kept hh⟩, (h8.moved hW.alike).kept hh, (h9.moved hW.alike).kept (hh _ ?_ (by omega)), h10⟩
  · have h := h2 w hw hn
    cases w <;> first | exact va_Nw.warmF hW h | exact va_Nw.warmM hW h | cases hn
  · obtain ⟨scr, g1, -⟩ := h9
    exact (Array.getElem?_eq_some_iff.mp g1).1
theorem xE.same {K : XK} {S : XS} {s U : State} (hv : U.vm = s.vm) (hh : U.heap = s.heap) (h : xE K S s) : xE K S U := by
  have hA : s.vm.Alike U.vm := by rw [hv]; exact Vm.Alike.refl _
  obtain ⟨h1, h2, h3, ⟨h4, h5, h6⟩, ⟨adV, h7⟩, h8, h9, h10⟩ := h
  refine ⟨va_K.moved hA h1, fun w hw hn => ?_, fun q hq => (h3 q hq).same hv, ⟨h4.moved hA, h5.moved hA, h6.moved hA⟩, ⟨adV, ?_⟩, ?_, ?_, h10⟩
  · have h := h2 w hw hn
    cases w <;> first | exact va_Nw.same rfl hv.symm h | cases hn
  · rw [hh]; exact h7.moved hA
  · rw [hh]; exact h8.moved hA
  · rw [hh]; exact h9.moved hA
def xQ (K : XK) (r : Option Value) (h' : XH) : Array Value → State → Outcome → State → Prop := fun _ st oc t =>
  oc = .returned (r.map (xv K)) ∧ XR K h' t.heap ∧ va_F (fun q => K.1 ≤ q) st t
def xP (K : XK) (S : XS) (as : List Value) (h : XH) : Array Value → State → Prop := fun v U => v = (as.map (xv K)).toArray ∧ XR K h U.heap ∧ xE K S U ∧ K.1 ≤ U.heap.size
abbrev xws (M : XM) : List Cond := .code M.1 M.2.1 M.2.2.1 M.2.2.2.1 :: gtbl
abbrev xrm (M : XM) (mc ms : Nat) : Room := { frames := M.2.2.2.2.1, cells := mc, slots := ms, locals := M.2.2.2.2.2 }
/-- method M, called with as over the small heap h, answers r over h' -/
def AM (S : XS) (M : XM) (as : List Value) (h : XH) (r : Option Value) (h' : XH) : Prop :=
  (h.length ≤ h'.length ∧ xsz h ≤ xsz h') ∧ ∀ (l : Launch) (K : XK), Met l M.1 (xws M) (xrm M (h'.length - h.length) (xsz h' - xsz h)) (xP K S as h) (xQ K r h') (h'.length - h.length) (xsz h' - xsz h) (fun q => K.1 ≤ q)
/-- what a method's walk stands on -/
def xC (K : XK) (S : XS) (M : XM) (p : Program) (s : State) (m : MethodId) (args : Array Value) (meth : Method) (c : Code) : Prop :=
  p.tables.exec = Jvm.exec ∧ c.code = M.2.1 ∧ meth.sig.returnType = M.2.2.2.1 ∧ c.maxLocals = M.2.2.1 ∧ s.vm.findClass M.1.cls = some m.cls ∧ (∀ w ∈ gtbl, w.before args s = true) ∧ meth.locks = false ∧ meth.name = M.1.name ∧ xE K S s ∧ K.1 ≤ s.heap.size
/-- from here on method M comes to its end, with r over h' -/
def AW (S : XS) (M : XM) (pc : Nat) (ls : List (Option Value)) (st : List Value) (h : XH) (r : Option Value) (h' : XH) : Prop :=
  (h.length ≤ h'.length ∧ xsz h ≤ xsz h') ∧
  ∀ (l : Launch) (K : XK) (p : Program) (e : Env) (s : State) (m : MethodId) (args : Array Value) (below : List Frame) (meth : Method) (c : Code) (n0 z0 : Nat) (H : Heap) (locs : List Loc) (L : Array Slot),
    xC K S M p s m args meth c → n0 ≤ h.length → z0 ≤ xsz h → XR K h H → va_S (fun q => K.1 ≤ q) s.heap H locs → lvX K L M.2.2.1 ls →
    W p l e (xrm M (h'.length - n0) (xsz h' - z0)) s m args below meth c H locs (h.length - n0) (xsz h - z0) (MQ below (xQ K r h') args s (h'.length - n0) (xsz h' - z0) (fun q => K.1 ≤ q)) (F0 m pc L (st.map (xv K)))
end
section
/-! ROWS: AN INSTRUCTION, OVER THE SMALL HEAP. -/
section XRW
variable {S : XS} {M : XM} {pc : Nat} {ls : List (Option Value)} {st : List Value} {h : XH} {r : Option Value} {h' : XH}
theorem x_iconst {n : Int} {v : Int32} (hd : decode M.2.1 pc = .ok (.iconst n, 1)) (hv : Int32.ofInt n = v) (k : AW S M (pc + 1) ls (.int v :: st) h r h') : AW S M pc ls (st) h r h' :=
  ⟨k.1, fun l K p e s m args below meth c n0 z0 H locs L C hn hz hR hS hL => lv_iconst C.1 C.2.1 hd hv (k.2 l K p e s m args below meth c n0 z0 H locs L C hn hz hR hS hL)⟩
theorem x_bipush {n : Int} {v : Int32} (hd : decode M.2.1 pc = .ok (.bipush n, 2)) (hv : (Int8.ofInt n).toInt32 = v) (k : AW S M (pc + 2) ls (.int v :: st) h r h') : AW S M pc ls (st) h r h' :=
  ⟨k.1, fun l K p e s m args below meth c n0 z0 H locs L C hn hz hR hS hL => lv_bipush C.1 C.2.1 hd hv (k.2 l K p e s m args below meth c n0 z0 H locs L C hn hz hR hS hL)⟩
theorem x_sipush {n : Int} {v : Int32} (hd : decode M.2.1 pc = .ok (.sipush n, 3)) (hv : (Int16.ofInt n).toInt32 = v) (k : AW S M (pc + 3) ls (.int v :: st) h r h') : AW S M pc ls (st) h r h' :=
  ⟨k.1, fun l K p e s m args below meth c n0 z0 H locs L C hn hz hR hS hL => lv_sipush C.1 C.2.1 hd hv (k.2 l K p e s m args below meth c n0 z0 H locs L C hn hz hR hS hL)⟩
theorem x_lconst {n : Fin 2} {v : Int64} (hd : decode M.2.1 pc = .ok (.lconst n, 1)) (hv : Int64.ofNat (n : Nat) = v) (k : AW S M (pc + 1) ls (.long v :: st) h r h') : AW S M pc ls (st) h r h' :=
  ⟨k.1, fun l K p e s m args below meth c n0 z0 H locs L C hn hz hR hS hL => lv_lconst C.1 C.2.1 hd hv (k.2 l K p e s m args below meth c n0 z0 H locs L C hn hz hR hS hL)⟩
theorem x_anull  (hd : decode M.2.1 pc = .ok (.aconst_null, 1))  (k : AW S M (pc + 1) ls (.null :: st) h r h') : AW S M pc ls (st) h r h' :=
  ⟨k.1, fun l K p e s m args below meth c n0 z0 H locs L C hn hz hR hS hL => lv_null C.1 C.2.1 hd  (k.2 l K p e s m args below meth c n0 z0 H locs L C hn hz hR hS hL)⟩
theorem x_iload_n {k0 : Fin 4} {i : Nat} {x : Int32} (hd : decode M.2.1 pc = .ok (.iload_n k0, 1)) (hi : (k0 : Nat) = i) (hl : ls[i]? = some (some (.int x))) (k : AW S M (pc + 1) ls (.int x :: st) h r h') : AW S M pc ls (st) h r h' :=
  ⟨k.1, fun l K p e s m args below meth c n0 z0 H locs L C hn hz hR hS hL => lv_iload_n C.1 C.2.1 hd hi (lvX_at hL hl) (k.2 l K p e s m args below meth c n0 z0 H locs L C hn hz hR hS hL)⟩
theorem x_iload {i : Nat} {x : Int32} (hd : decode M.2.1 pc = .ok (.iload i, 2)) (hl : ls[i]? = some (some (.int x))) (k : AW S M (pc + 2) ls (.int x :: st) h r h') : AW S M pc ls (st) h r h' :=
  ⟨k.1, fun l K p e s m args below meth c n0 z0 H locs L C hn hz hR hS hL => lv_iload C.1 C.2.1 hd (lvX_at hL hl) (k.2 l K p e s m args below meth c n0 z0 H locs L C hn hz hR hS hL)⟩
theorem x_lload_n {k0 : Fin 4} {i : Nat} {x : Int64} (hd : decode M.2.1 pc = .ok (.lload_n k0, 1)) (hi : (k0 : Nat) = i) (hl : ls[i]? = some (some (.long x))) (k : AW S M (pc + 1) ls (.long x :: st) h r h') : AW S M pc ls (st) h r h' :=
  ⟨k.1, fun l K p e s m args below meth c n0 z0 H locs L C hn hz hR hS hL => lv_lload_n C.1 C.2.1 hd hi (lvX_at hL hl) (k.2 l K p e s m args below meth c n0 z0 H locs L C hn hz hR hS hL)⟩
theorem x_lload {i : Nat} {x : Int64} (hd : decode M.2.1 pc = .ok (.lload i, 2)) (hl : ls[i]? = some (some (.long x))) (k : AW S M (pc + 2) ls (.long x :: st) h r h') : AW S M pc ls (st) h r h' :=
  ⟨k.1, fun l K p e s m args below meth c n0 z0 H locs L C hn hz hR hS hL => lv_lload C.1 C.2.1 hd (lvX_at hL hl) (k.2 l K p e s m args below meth c n0 z0 H locs L C hn hz hR hS hL)⟩
theorem x_aload_n {k0 : Fin 4} {i : Nat} {x : Nat} (hd : decode M.2.1 pc = .ok (.aload_n k0, 1)) (hi : (k0 : Nat) = i) (hl : ls[i]? = some (some (.ref x))) (k : AW S M (pc + 1) ls (.ref x :: st) h r h') : AW S M pc ls (st) h r h' :=
  ⟨k.1, fun l K p e s m args below meth c n0 z0 H locs L C hn hz hR hS hL => lv_aload_n C.1 C.2.1 hd hi (lvX_at hL hl) (k.2 l K p e s m args below meth c n0 z0 H locs L C hn hz hR hS hL)⟩
theorem x_aload_nS {k0 : Fin 4} {i : Nat} {x : Nat} (hd : decode M.2.1 pc = .ok (.aload_n k0, 1)) (hi : (k0 : Nat) = i) (hl : ls[i]? = some (some (.retAddr x))) (k : AW S M (pc + 1) ls (.retAddr x :: st) h r h') : AW S M pc ls (st) h r h' :=
  ⟨k.1, fun l K p e s m args below meth c n0 z0 H locs L C hn hz hR hS hL => lv_aload_n C.1 C.2.1 hd hi (lvX_at hL hl) (k.2 l K p e s m args below meth c n0 z0 H locs L C hn hz hR hS hL)⟩
theorem x_aload_nN {k0 : Fin 4} {i : Nat} (hd : decode M.2.1 pc = .ok (.aload_n k0, 1)) (hi : (k0 : Nat) = i) (hl : ls[i]? = some (some .null)) (k : AW S M (pc + 1) ls (.null :: st) h r h') : AW S M pc ls (st) h r h' :=
  ⟨k.1, fun l K p e s m args below meth c n0 z0 H locs L C hn hz hR hS hL => lv_aload_nN C.1 C.2.1 hd hi (lvX_at hL hl) (k.2 l K p e s m args below meth c n0 z0 H locs L C hn hz hR hS hL)⟩
theorem x_aload {i : Nat} {x : Nat} (hd : decode M.2.1 pc = .ok (.aload i, 2)) (hl : ls[i]? = some (some (.ref x))) (k : AW S M (pc + 2) ls (.ref x :: st) h r h') : AW S M pc ls (st) h r h' :=
  ⟨k.1, fun l K p e s m args below meth c n0 z0 H locs L C hn hz hR hS hL => lv_aload C.1 C.2.1 hd (lvX_at hL hl) (k.2 l K p e s m args below meth c n0 z0 H locs L C hn hz hR hS hL)⟩
theorem x_aloadS {i : Nat} {x : Nat} (hd : decode M.2.1 pc = .ok (.aload i, 2)) (hl : ls[i]? = some (some (.retAddr x))) (k : AW S M (pc + 2) ls (.retAddr x :: st) h r h') : AW S M pc ls (st) h r h' :=
  ⟨k.1, fun l K p e s m args below meth c n0 z0 H locs L C hn hz hR hS hL => lv_aload C.1 C.2.1 hd (lvX_at hL hl) (k.2 l K p e s m args below meth c n0 z0 H locs L C hn hz hR hS hL)⟩
theorem x_aloadN {i : Nat} (hd : decode M.2.1 pc = .ok (.aload i, 2)) (hl : ls[i]? = some (some .null)) (k : AW S M (pc + 2) ls (.null :: st) h r h') : AW S M pc ls (st) h r h' :=
  ⟨k.1, fun l K p e s m args below meth c n0 z0 H locs L C hn hz hR hS hL => lv_aloadN C.1 C.2.1 hd (lvX_at hL hl) (k.2 l K p e s m args below meth c n0 z0 H locs L C hn hz hR hS hL)⟩
theorem x_iadd {x y : Int32} (hd : decode M.2.1 pc = .ok (.iadd, 1))  (k : AW S M (pc + 1) ls (.int (x + y) :: st) h r h') : AW S M pc ls (.int y :: .int x :: st) h r h' :=
  ⟨k.1, fun l K p e s m args below meth c n0 z0 H locs L C hn hz hR hS hL => lv_iadd C.1 C.2.1 hd  (k.2 l K p e s m args below meth c n0 z0 H locs L C hn hz hR hS hL)⟩
theorem x_isub {x y : Int32} (hd : decode M.2.1 pc = .ok (.isub, 1))  (k : AW S M (pc + 1) ls (.int (x - y) :: st) h r h') : AW S M pc ls (.int y :: .int x :: st) h r h' :=
  ⟨k.1, fun l K p e s m args below meth c n0 z0 H locs L C hn hz hR hS hL => lv_isub C.1 C.2.1 hd  (k.2 l K p e s m args below meth c n0 z0 H locs L C hn hz hR hS hL)⟩
theorem x_imul {x y : Int32} (hd : decode M.2.1 pc = .ok (.imul, 1))  (k : AW S M (pc + 1) ls (.int (x * y) :: st) h r h') : AW S M pc ls (.int y :: .int x :: st) h r h' :=
  ⟨k.1, fun l K p e s m args below meth c n0 z0 H locs L C hn hz hR hS hL => lv_imul C.1 C.2.1 hd  (k.2 l K p e s m args below meth c n0 z0 H locs L C hn hz hR hS hL)⟩
theorem x_iand {x y : Int32} (hd : decode M.2.1 pc = .ok (.iand, 1))  (k : AW S M (pc + 1) ls (.int (x &&& y) :: st) h r h') : AW S M pc ls (.int y :: .int x :: st) h r h' :=
  ⟨k.1, fun l K p e s m args below meth c n0 z0 H locs L C hn hz hR hS hL => lv_iand C.1 C.2.1 hd  (k.2 l K p e s m args below meth c n0 z0 H locs L C hn hz hR hS hL)⟩
theorem x_ishr {x y : Int32} (hd : decode M.2.1 pc = .ok (.ishr, 1))  (k : AW S M (pc + 1) ls (.int (x >>> (y &&& 31)) :: st) h r h') : AW S M pc ls (.int y :: .int x :: st) h r h' :=
  ⟨k.1, fun l K p e s m args below meth c n0 z0 H locs L C hn hz hR hS hL => lv_ishr C.1 C.2.1 hd  (k.2 l K p e s m args below meth c n0 z0 H locs L C hn hz hR hS hL)⟩
theorem x_iushr {x y : Int32} (hd : decode M.2.1 pc = .ok (.iushr, 1))  (k : AW S M (pc + 1) ls (.int ((x.toUInt32 >>> (y.toUInt32 &&& Int32.toUInt32 31)).toInt32) :: st) h r h') : AW S M pc ls (.int y :: .int x :: st) h r h' :=
  ⟨k.1, fun l K p e s m args below meth c n0 z0 H locs L C hn hz hR hS hL => lv_iushr C.1 C.2.1 hd rfl (k.2 l K p e s m args below meth c n0 z0 H locs L C hn hz hR hS hL)⟩
theorem x_idiv {x y : Int32} (hd : decode M.2.1 pc = .ok (.idiv, 1)) (hne : ¬ y = 0) (k : AW S M (pc + 1) ls (.int (x / y) :: st) h r h') : AW S M pc ls (.int y :: .int x :: st) h r h' :=
  ⟨k.1, fun l K p e s m args below meth c n0 z0 H locs L C hn hz hR hS hL => lv_idiv C.1 C.2.1 hd hne (k.2 l K p e s m args below meth c n0 z0 H locs L C hn hz hR hS hL)⟩
theorem x_irem {x y : Int32} (hd : decode M.2.1 pc = .ok (.irem, 1)) (hne : ¬ y = 0) (k : AW S M (pc + 1) ls (.int (x - x / y * y) :: st) h r h') : AW S M pc ls (.int y :: .int x :: st) h r h' :=
  ⟨k.1, fun l K p e s m args below meth c n0 z0 H locs L C hn hz hR hS hL => lv_irem C.1 C.2.1 hd hne (k.2 l K p e s m args below meth c n0 z0 H locs L C hn hz hR hS hL)⟩
theorem x_ladd {x y : Int64} (hd : decode M.2.1 pc = .ok (.ladd, 1))  (k : AW S M (pc + 1) ls (.long (x + y) :: st) h r h') : AW S M pc ls (.long y :: .long x :: st) h r h' :=
  ⟨k.1, fun l K p e s m args below meth c n0 z0 H locs L C hn hz hR hS hL => lv_ladd C.1 C.2.1 hd  (k.2 l K p e s m args below meth c n0 z0 H locs L C hn hz hR hS hL)⟩
theorem x_lsub {x y : Int64} (hd : decode M.2.1 pc = .ok (.lsub, 1))  (k : AW S M (pc + 1) ls (.long (x - y) :: st) h r h') : AW S M pc ls (.long y :: .long x :: st) h r h' :=
  ⟨k.1, fun l K p e s m args below meth c n0 z0 H locs L C hn hz hR hS hL => lv_lsub C.1 C.2.1 hd  (k.2 l K p e s m args below meth c n0 z0 H locs L C hn hz hR hS hL)⟩
theorem x_lmul {x y : Int64} (hd : decode M.2.1 pc = .ok (.lmul, 1))  (k : AW S M (pc + 1) ls (.long (x * y) :: st) h r h') : AW S M pc ls (.long y :: .long x :: st) h r h' :=
  ⟨k.1, fun l K p e s m args below meth c n0 z0 H locs L C hn hz hR hS hL => lv_lmul C.1 C.2.1 hd  (k.2 l K p e s m args below meth c n0 z0 H locs L C hn hz hR hS hL)⟩
theorem x_land {x y : Int64} (hd : decode M.2.1 pc = .ok (.land, 1))  (k : AW S M (pc + 1) ls (.long (x &&& y) :: st) h r h') : AW S M pc ls (.long y :: .long x :: st) h r h' :=
  ⟨k.1, fun l K p e s m args below meth c n0 z0 H locs L C hn hz hR hS hL => lv_land C.1 C.2.1 hd  (k.2 l K p e s m args below meth c n0 z0 H locs L C hn hz hR hS hL)⟩
theorem x_ldiv {x y : Int64} (hd : decode M.2.1 pc = .ok (.ldiv, 1)) (hne : ¬ y = 0) (k : AW S M (pc + 1) ls (.long (x / y) :: st) h r h') : AW S M pc ls (.long y :: .long x :: st) h r h' :=
  ⟨k.1, fun l K p e s m args below meth c n0 z0 H locs L C hn hz hR hS hL => lv_ldiv C.1 C.2.1 hd hne (k.2 l K p e s m args below meth c n0 z0 H locs L C hn hz hR hS hL)⟩
theorem x_lshr {x : Int64} {y : Int32} (hd : decode M.2.1 pc = .ok (.lshr, 1))  (k : AW S M (pc + 1) ls (.long (x >>> (y.toInt64 &&& 63)) :: st) h r h') : AW S M pc ls (.int y :: .long x :: st) h r h' :=
  ⟨k.1, fun l K p e s m args below meth c n0 z0 H locs L C hn hz hR hS hL => lv_lshr C.1 C.2.1 hd rfl (k.2 l K p e s m args below meth c n0 z0 H locs L C hn hz hR hS hL)⟩
theorem x_i2l {x : Int32} (hd : decode M.2.1 pc = .ok (.i2l, 1))  (k : AW S M (pc + 1) ls (.long x.toInt64 :: st) h r h') : AW S M pc ls (.int x :: st) h r h' :=
  ⟨k.1, fun l K p e s m args below meth c n0 z0 H locs L C hn hz hR hS hL => lv_i2l C.1 C.2.1 hd rfl (k.2 l K p e s m args below meth c n0 z0 H locs L C hn hz hR hS hL)⟩
theorem x_l2i {x : Int64} (hd : decode M.2.1 pc = .ok (.l2i, 1))  (k : AW S M (pc + 1) ls (.int x.toInt32 :: st) h r h') : AW S M pc ls (.long x :: st) h r h' :=
  ⟨k.1, fun l K p e s m args below meth c n0 z0 H locs L C hn hz hR hS hL => lv_l2i C.1 C.2.1 hd rfl (k.2 l K p e s m args below meth c n0 z0 H locs L C hn hz hR hS hL)⟩
theorem x_lcmp {x y : Int64} (hd : decode M.2.1 pc = .ok (.lcmp, 1))  (k : AW S M (pc + 1) ls (.int (lg_cmp x y) :: st) h r h') : AW S M pc ls (.long y :: .long x :: st) h r h' :=
  ⟨k.1, fun l K p e s m args below meth c n0 z0 H locs L C hn hz hR hS hL => W.lcmp C.1 C.2.1 hd  (k.2 l K p e s m args below meth c n0 z0 H locs L C hn hz hR hS hL)⟩
theorem x_dup {v : Value} (hd : decode M.2.1 pc = .ok (.dup, 1)) (hv : v.category = 1) (k : AW S M (pc + 1) ls (v :: v :: st) h r h') : AW S M pc ls (v :: st) h r h' :=
  ⟨k.1, fun l K p e s m args below meth c n0 z0 H locs L C hn hz hR hS hL => lv_dup C.1 C.2.1 hd (by rw [xv_cat]; exact hv) (k.2 l K p e s m args below meth c n0 z0 H locs L C hn hz hR hS hL)⟩
theorem x_pop {v : Value} (hd : decode M.2.1 pc = .ok (.pop, 1)) (hv : v.category = 1) (k : AW S M (pc + 1) ls (st) h r h') : AW S M pc ls (v :: st) h r h' :=
  ⟨k.1, fun l K p e s m args below meth c n0 z0 H locs L C hn hz hR hS hL => lv_pop C.1 C.2.1 hd (by rw [xv_cat]; exact hv) (k.2 l K p e s m args below meth c n0 z0 H locs L C hn hz hR hS hL)⟩
theorem x_dup2 {v w : Value} (hd : decode M.2.1 pc = .ok (.dup2, 1)) (hv : v.category = 1) (hw : w.category = 1) (k : AW S M (pc + 1) ls (v :: w :: v :: w :: st) h r h') : AW S M pc ls (v :: w :: st) h r h' :=
  ⟨k.1, fun l K p e s m args below meth c n0 z0 H locs L C hn hz hR hS hL => lv_dup2_11 C.1 C.2.1 hd (by rw [xv_cat]; exact hv) (by rw [xv_cat]; exact hw) (k.2 l K p e s m args below meth c n0 z0 H locs L C hn hz hR hS hL)⟩
theorem x_istore_n {k0 : Fin 4} {i : Nat} {x : Int32} {ls' : List (Option Value)} (hd : decode M.2.1 pc = .ok (.istore_n k0, 1)) (hi : (k0 : Nat) = i) (hn9 : i < M.2.2.1) (hl : xst ls i (.int x) = ls') (k : AW S M (pc + 1) ls' st h r h') : AW S M pc ls (.int x :: st) h r h' := by
  refine ⟨k.1, fun l K p e s m args below meth c n0 z0 H locs L C hn hz hR hS hL => ?_⟩
  obtain ⟨L', e1, h1⟩ := lvX_store1 (v := .int x) hL hn9 rfl
  rw [hl] at h1
  have e1 : storeLocals L i (.int x) = some L' := e1
  rw [← hi] at e1
  have hx := C.1
  have hb := C.2.1
  intro T hT X
  obtain ⟨t, a, b⟩ := k.2 l K p e s m args below meth c n0 z0 H locs L' C hn hz hR hS h1 T hT X
  refine ⟨t, ?_, b⟩
  jvm_step X.here [X.here.top, ↓top_set X.here.top, hx, hb, hd, e1, xv]
  exact a
theorem x_lstore_n {k0 : Fin 4} {i : Nat} {x : Int64} {ls' : List (Option Value)} (hd : decode M.2.1 pc = .ok (.lstore_n k0, 1)) (hi : (k0 : Nat) = i) (hn9 : i + 1 < M.2.2.1) (hl : xst2 ls i (.long x) = ls') (k : AW S M (pc + 1) ls' st h r h') : AW S M pc ls (.long x :: st) h r h' := by
  refine ⟨k.1, fun l K p e s m args below meth c n0 z0 H locs L C hn hz hR hS hL => ?_⟩
  obtain ⟨L', e1, h1⟩ := lvX_store2 (v := .long x) hL hn9 rfl
  rw [hl] at h1
  have e1 : storeLocals L i (.long x) = some L' := e1
  rw [← hi] at e1
  have hx := C.1
  have hb := C.2.1
  intro T hT X
  obtain ⟨t, a, b⟩ := k.2 l K p e s m args below meth c n0 z0 H locs L' C hn hz hR hS h1 T hT X
  refine ⟨t, ?_, b⟩
  jvm_step X.here [X.here.top, ↓top_set X.here.top, hx, hb, hd, e1, xv]
  exact a
theorem x_astore_n {k0 : Fin 4} {i : Nat} {x : Nat} {ls' : List (Option Value)} (hd : decode M.2.1 pc = .ok (.astore_n k0, 1)) (hi : (k0 : Nat) = i) (hn9 : i < M.2.2.1) (hl : xst ls i (.ref x) = ls') (k : AW S M (pc + 1) ls' st h r h') : AW S M pc ls (.ref x :: st) h r h' := by
  refine ⟨k.1, fun l K p e s m args below meth c n0 z0 H locs L C hn hz hR hS hL => ?_⟩
  obtain ⟨L', e1, h1⟩ := lvX_store1 (v := .ref x) hL hn9 rfl
  rw [hl] at h1
  have e1 : storeLocals L i (.ref (K.1 + x)) = some L' := e1
  rw [← hi] at e1
  have hx := C.1
  have hb := C.2.1
  intro T hT X
  obtain ⟨t, a, b⟩ := k.2 l K p e s m args below meth c n0 z0 H locs L' C hn hz hR hS h1 T hT X
  refine ⟨t, ?_, b⟩
  jvm_step X.here [X.here.top, ↓top_set X.here.top, hx, hb, hd, e1, xv, Value.isRef]
  exact a
theorem x_astore_nN {k0 : Fin 4} {i : Nat} {ls' : List (Option Value)} (hd : decode M.2.1 pc = .ok (.astore_n k0, 1)) (hi : (k0 : Nat) = i) (hn9 : i < M.2.2.1) (hl : xst ls i (.null) = ls') (k : AW S M (pc + 1) ls' st h r h') : AW S M pc ls (.null :: st) h r h' := by
  refine ⟨k.1, fun l K p e s m args below meth c n0 z0 H locs L C hn hz hR hS hL => ?_⟩
  obtain ⟨L', e1, h1⟩ := lvX_store1 (v := .null) hL hn9 rfl
  rw [hl] at h1
  have e1 : storeLocals L i (.null) = some L' := e1
  rw [← hi] at e1
  have hx := C.1
  have hb := C.2.1
  intro T hT X
  obtain ⟨t, a, b⟩ := k.2 l K p e s m args below meth c n0 z0 H locs L' C hn hz hR hS h1 T hT X
  refine ⟨t, ?_, b⟩
  jvm_step X.here [X.here.top, ↓top_set X.here.top, hx, hb, hd, e1, xv, Value.isRef]
  exact a
theorem x_istore {i : Nat} {x : Int32} {ls' : List (Option Value)} (hd : decode M.2.1 pc = .ok (.istore i, 2))  (hn9 : i < M.2.2.1) (hl : xst ls i (.int x) = ls') (k : AW S M (pc + 2) ls' st h r h') : AW S M pc ls (.int x :: st) h r h' := by
  refine ⟨k.1, fun l K p e s m args below meth c n0 z0 H locs L C hn hz hR hS hL => ?_⟩
  obtain ⟨L', e1, h1⟩ := lvX_store1 (v := .int x) hL hn9 rfl
  rw [hl] at h1
  have e1 : storeLocals L i (.int x) = some L' := e1
  skip
  have hx := C.1
  have hb := C.2.1
  intro T hT X
  obtain ⟨t, a, b⟩ := k.2 l K p e s m args below meth c n0 z0 H locs L' C hn hz hR hS h1 T hT X
  refine ⟨t, ?_, b⟩
  jvm_step X.here [X.here.top, ↓top_set X.here.top, hx, hb, hd, e1, xv]
  exact a
theorem x_lstore {i : Nat} {x : Int64} {ls' : List (Option Value)} (hd : decode M.2.1 pc = .ok (.lstore i, 2))  (hn9 : i + 1 < M.2.2.1) (hl : xst2 ls i (.long x) = ls') (k : AW S M (pc + 2) ls' st h r h') : AW S M pc ls (.long x :: st) h r h' := by
  refine ⟨k.1, fun l K p e s m args below meth c n0 z0 H locs L C hn hz hR hS hL => ?_⟩
  obtain ⟨L', e1, h1⟩ := lvX_store2 (v := .long x) hL hn9 rfl
  rw [hl] at h1
  have e1 : storeLocals L i (.long x) = some L' := e1
  skip
  have hx := C.1
  have hb := C.2.1
  intro T hT X
  obtain ⟨t, a, b⟩ := k.2 l K p e s m args below meth c n0 z0 H locs L' C hn hz hR hS h1 T hT X
  refine ⟨t, ?_, b⟩
  jvm_step X.here [X.here.top, ↓top_set X.here.top, hx, hb, hd, e1, xv]
  exact a
theorem x_astore {i : Nat} {x : Nat} {ls' : List (Option Value)} (hd : decode M.2.1 pc = .ok (.astore i, 2))  (hn9 : i < M.2.2.1) (hl : xst ls i (.ref x) = ls') (k : AW S M (pc + 2) ls' st h r h') : AW S M pc ls (.ref x :: st) h r h' := by
  refine ⟨k.1, fun l K p e s m args below meth c n0 z0 H locs L C hn hz hR hS hL => ?_⟩
  obtain ⟨L', e1, h1⟩ := lvX_store1 (v := .ref x) hL hn9 rfl
  rw [hl] at h1
  have e1 : storeLocals L i (.ref (K.1 + x)) = some L' := e1
  skip
  have hx := C.1
  have hb := C.2.1
  intro T hT X
  obtain ⟨t, a, b⟩ := k.2 l K p e s m args below meth c n0 z0 H locs L' C hn hz hR hS h1 T hT X
  refine ⟨t, ?_, b⟩
  jvm_step X.here [X.here.top, ↓top_set X.here.top, hx, hb, hd, e1, xv, Value.isRef]
  exact a
theorem x_astoreN {i : Nat} {ls' : List (Option Value)} (hd : decode M.2.1 pc = .ok (.astore i, 2))  (hn9 : i < M.2.2.1) (hl : xst ls i (.null) = ls') (k : AW S M (pc + 2) ls' st h r h') : AW S M pc ls (.null :: st) h r h' := by
  refine ⟨k.1, fun l K p e s m args below meth c n0 z0 H locs L C hn hz hR hS hL => ?_⟩
  obtain ⟨L', e1, h1⟩ := lvX_store1 (v := .null) hL hn9 rfl
  rw [hl] at h1
  have e1 : storeLocals L i (.null) = some L' := e1
  skip
  have hx := C.1
  have hb := C.2.1
  intro T hT X
  obtain ⟨t, a, b⟩ := k.2 l K p e s m args below meth c n0 z0 H locs L' C hn hz hR hS h1 T hT X
  refine ⟨t, ?_, b⟩
  jvm_step X.here [X.here.top, ↓top_set X.here.top, hx, hb, hd, e1, xv, Value.isRef]
  exact a
theorem x_iinc {i : Nat} {n : Int} {x v : Int32} {ls' : List (Option Value)} (hd : decode M.2.1 pc = .ok (.iinc i n, 3)) (hx0 : ls[i]? = some (some (.int x))) (hv : x + Int32.ofInt n = v) (hn9 : i < M.2.2.1) (hl : xst ls i (.int v) = ls') (k : AW S M (pc + 3) ls' st h r h') : AW S M pc ls st h r h' := by
  refine ⟨k.1, fun l K p e s m args below meth c n0 z0 H locs L C hn hz hR hS hL => ?_⟩
  subst hv
  obtain ⟨L', e1, h1⟩ := lvX_store1 (v := .int (x + Int32.ofInt n)) hL hn9 rfl
  rw [hl] at h1
  have e1 : storeLocals L i (.int (x + Int32.ofInt n)) = some L' := e1
  have hg : L[i]? = some (.val (.int x)) := lvX_at hL hx0
  have hx := C.1
  have hb := C.2.1
  intro T hT X
  obtain ⟨t, a, b⟩ := k.2 l K p e s m args below meth c n0 z0 H locs L' C hn hz hR hS h1 T hT X
  refine ⟨t, ?_, b⟩
  jvm_step X.here [X.here.top, ↓top_set X.here.top, hx, hb, hd, hg, e1]
  exact a
theorem x_if_eq {x : Int32} {off : Int} {tgt : Nat} (hd : decode M.2.1 pc = .ok (.ifCond .eq off, 3)) (ht : (pc : Int) + off = (tgt : Int)) (kt : x = 0 → AW S M tgt ls st h r h') (kf : ¬ x = 0 → AW S M (pc + 3) ls st h r h') : AW S M pc ls (.int x :: st) h r h' :=
  ⟨by by_cases q : x = 0
      · exact (kt q).1
      · exact (kf q).1, fun l K p e s m args below meth c n0 z0 H locs L C hn hz hR hS hL => lv_if_eq C.1 C.2.1 hd ht (fun q => (kt q).2 l K p e s m args below meth c n0 z0 H locs L C hn hz hR hS hL) (fun q => (kf q).2 l K p e s m args below meth c n0 z0 H locs L C hn hz hR hS hL)⟩
theorem x_icmp_eq {x y : Int32} {off : Int} {tgt : Nat} (hd : decode M.2.1 pc = .ok (.if_icmp .eq off, 3)) (ht : (pc : Int) + off = (tgt : Int)) (kt : x = y → AW S M tgt ls st h r h') (kf : ¬ x = y → AW S M (pc + 3) ls st h r h') : AW S M pc ls (.int y :: .int x :: st) h r h' :=
  ⟨by by_cases q : x = y
      · exact (kt q).1
      · exact (kf q).1, fun l K p e s m args below meth c n0 z0 H locs L C hn hz hR hS hL => lv_icmp_eq C.1 C.2.1 hd ht (fun q => (kt q).2 l K p e s m args below meth c n0 z0 H locs L C hn hz hR hS hL) (fun q => (kf q).2 l K p e s m args below meth c n0 z0 H locs L C hn hz hR hS hL)⟩
theorem x_if_ne {x : Int32} {off : Int} {tgt : Nat} (hd : decode M.2.1 pc = .ok (.ifCond .ne off, 3)) (ht : (pc : Int) + off = (tgt : Int)) (kt : ¬ x = 0 → AW S M tgt ls st h r h') (kf : x = 0 → AW S M (pc + 3) ls st h r h') : AW S M pc ls (.int x :: st) h r h' :=
  ⟨by by_cases q : x = 0
      · exact (kf q).1
      · exact (kt q).1, fun l K p e s m args below meth c n0 z0 H locs L C hn hz hR hS hL => lv_if_ne C.1 C.2.1 hd ht (fun q => (kt q).2 l K p e s m args below meth c n0 z0 H locs L C hn hz hR hS hL) (fun q => (kf q).2 l K p e s m args below meth c n0 z0 H locs L C hn hz hR hS hL)⟩
theorem x_icmp_ne {x y : Int32} {off : Int} {tgt : Nat} (hd : decode M.2.1 pc = .ok (.if_icmp .ne off, 3)) (ht : (pc : Int) + off = (tgt : Int)) (kt : ¬ x = y → AW S M tgt ls st h r h') (kf : x = y → AW S M (pc + 3) ls st h r h') : AW S M pc ls (.int y :: .int x :: st) h r h' :=
  ⟨by by_cases q : x = y
      · exact (kf q).1
      · exact (kt q).1, fun l K p e s m args below meth c n0 z0 H locs L C hn hz hR hS hL => lv_icmp_ne C.1 C.2.1 hd ht (fun q => (kt q).2 l K p e s m args below meth c n0 z0 H locs L C hn hz hR hS hL) (fun q => (kf q).2 l K p e s m args below meth c n0 z0 H locs L C hn hz hR hS hL)⟩
theorem x_if_lt {x : Int32} {off : Int} {tgt : Nat} (hd : decode M.2.1 pc = .ok (.ifCond .lt off, 3)) (ht : (pc : Int) + off = (tgt : Int)) (kt : x < 0 → AW S M tgt ls st h r h') (kf : ¬ x < 0 → AW S M (pc + 3) ls st h r h') : AW S M pc ls (.int x :: st) h r h' :=
  ⟨by by_cases q : x < 0
      · exact (kt q).1
      · exact (kf q).1, fun l K p e s m args below meth c n0 z0 H locs L C hn hz hR hS hL => lv_if_lt C.1 C.2.1 hd ht (fun q => (kt q).2 l K p e s m args below meth c n0 z0 H locs L C hn hz hR hS hL) (fun q => (kf q).2 l K p e s m args below meth c n0 z0 H locs L C hn hz hR hS hL)⟩
theorem x_icmp_lt {x y : Int32} {off : Int} {tgt : Nat} (hd : decode M.2.1 pc = .ok (.if_icmp .lt off, 3)) (ht : (pc : Int) + off = (tgt : Int)) (kt : x < y → AW S M tgt ls st h r h') (kf : ¬ x < y → AW S M (pc + 3) ls st h r h') : AW S M pc ls (.int y :: .int x :: st) h r h' :=
  ⟨by by_cases q : x < y
      · exact (kt q).1
      · exact (kf q).1, fun l K p e s m args below meth c n0 z0 H locs L C hn hz hR hS hL => lv_icmp_lt C.1 C.2.1 hd ht (fun q => (kt q).2 l K p e s m args below meth c n0 z0 H locs L C hn hz hR hS hL) (fun q => (kf q).2 l K p e s m args below meth c n0 z0 H locs L C hn hz hR hS hL)⟩
theorem x_if_ge {x : Int32} {off : Int} {tgt : Nat} (hd : decode M.2.1 pc = .ok (.ifCond .ge off, 3)) (ht : (pc : Int) + off = (tgt : Int)) (kt : 0 ≤ x → AW S M tgt ls st h r h') (kf : ¬ 0 ≤ x → AW S M (pc + 3) ls st h r h') : AW S M pc ls (.int x :: st) h r h' :=
  ⟨by by_cases q : 0 ≤ x
      · exact (kt q).1
      · exact (kf q).1, fun l K p e s m args below meth c n0 z0 H locs L C hn hz hR hS hL => lv_if_ge C.1 C.2.1 hd ht (fun q => (kt q).2 l K p e s m args below meth c n0 z0 H locs L C hn hz hR hS hL) (fun q => (kf q).2 l K p e s m args below meth c n0 z0 H locs L C hn hz hR hS hL)⟩
theorem x_icmp_ge {x y : Int32} {off : Int} {tgt : Nat} (hd : decode M.2.1 pc = .ok (.if_icmp .ge off, 3)) (ht : (pc : Int) + off = (tgt : Int)) (kt : y ≤ x → AW S M tgt ls st h r h') (kf : ¬ y ≤ x → AW S M (pc + 3) ls st h r h') : AW S M pc ls (.int y :: .int x :: st) h r h' :=
  ⟨by by_cases q : y ≤ x
      · exact (kt q).1
      · exact (kf q).1, fun l K p e s m args below meth c n0 z0 H locs L C hn hz hR hS hL => lv_icmp_ge C.1 C.2.1 hd ht (fun q => (kt q).2 l K p e s m args below meth c n0 z0 H locs L C hn hz hR hS hL) (fun q => (kf q).2 l K p e s m args below meth c n0 z0 H locs L C hn hz hR hS hL)⟩
theorem x_if_gt {x : Int32} {off : Int} {tgt : Nat} (hd : decode M.2.1 pc = .ok (.ifCond .gt off, 3)) (ht : (pc : Int) + off = (tgt : Int)) (kt : 0 < x → AW S M tgt ls st h r h') (kf : ¬ 0 < x → AW S M (pc + 3) ls st h r h') : AW S M pc ls (.int x :: st) h r h' :=
  ⟨by by_cases q : 0 < x
      · exact (kt q).1
      · exact (kf q).1, fun l K p e s m args below meth c n0 z0 H locs L C hn hz hR hS hL => lv_if_gt C.1 C.2.1 hd ht (fun q => (kt q).2 l K p e s m args below meth c n0 z0 H locs L C hn hz hR hS hL) (fun q => (kf q).2 l K p e s m args below meth c n0 z0 H locs L C hn hz hR hS hL)⟩
theorem x_icmp_gt {x y : Int32} {off : Int} {tgt : Nat} (hd : decode M.2.1 pc = .ok (.if_icmp .gt off, 3)) (ht : (pc : Int) + off = (tgt : Int)) (kt : y < x → AW S M tgt ls st h r h') (kf : ¬ y < x → AW S M (pc + 3) ls st h r h') : AW S M pc ls (.int y :: .int x :: st) h r h' :=
  ⟨by by_cases q : y < x
      · exact (kt q).1
      · exact (kf q).1, fun l K p e s m args below meth c n0 z0 H locs L C hn hz hR hS hL => lv_icmp_gt C.1 C.2.1 hd ht (fun q => (kt q).2 l K p e s m args below meth c n0 z0 H locs L C hn hz hR hS hL) (fun q => (kf q).2 l K p e s m args below meth c n0 z0 H locs L C hn hz hR hS hL)⟩
theorem x_if_le {x : Int32} {off : Int} {tgt : Nat} (hd : decode M.2.1 pc = .ok (.ifCond .le off, 3)) (ht : (pc : Int) + off = (tgt : Int)) (kt : x ≤ 0 → AW S M tgt ls st h r h') (kf : ¬ x ≤ 0 → AW S M (pc + 3) ls st h r h') : AW S M pc ls (.int x :: st) h r h' :=
  ⟨by by_cases q : x ≤ 0
      · exact (kt q).1
      · exact (kf q).1, fun l K p e s m args below meth c n0 z0 H locs L C hn hz hR hS hL => lv_if_le C.1 C.2.1 hd ht (fun q => (kt q).2 l K p e s m args below meth c n0 z0 H locs L C hn hz hR hS hL) (fun q => (kf q).2 l K p e s m args below meth c n0 z0 H locs L C hn hz hR hS hL)⟩
theorem x_icmp_le {x y : Int32} {off : Int} {tgt : Nat} (hd : decode M.2.1 pc = .ok (.if_icmp .le off, 3)) (ht : (pc : Int) + off = (tgt : Int)) (kt : x ≤ y → AW S M tgt ls st h r h') (kf : ¬ x ≤ y → AW S M (pc + 3) ls st h r h') : AW S M pc ls (.int y :: .int x :: st) h r h' :=
  ⟨by by_cases q : x ≤ y
      · exact (kt q).1
      · exact (kf q).1, fun l K p e s m args below meth c n0 z0 H locs L C hn hz hR hS hL => lv_icmp_le C.1 C.2.1 hd ht (fun q => (kt q).2 l K p e s m args below meth c n0 z0 H locs L C hn hz hR hS hL) (fun q => (kf q).2 l K p e s m args below meth c n0 z0 H locs L C hn hz hR hS hL)⟩
theorem x_goto {off : Int} {tgt : Nat} (hd : decode M.2.1 pc = .ok (.goto off, 3)) (ht : (pc : Int) + off = (tgt : Int)) (k : AW S M tgt ls st h r h') : AW S M pc ls st h r h' :=
  ⟨k.1, fun l K p e s m args below meth c n0 z0 H locs L C hn hz hR hS hL => lv_goto C.1 C.2.1 hd ht (k.2 l K p e s m args below meth c n0 z0 H locs L C hn hz hR hS hL)⟩
theorem x_ifnull {x : Nat} {off : Int} (hd : decode M.2.1 pc = .ok (.ifnull off, 3)) (k : AW S M (pc + 3) ls st h r h') : AW S M pc ls (.ref x :: st) h r h' :=
  ⟨k.1, fun l K p e s m args below meth c n0 z0 H locs L C hn hz hR hS hL => lv_ifnull C.1 C.2.1 hd (k.2 l K p e s m args below meth c n0 z0 H locs L C hn hz hR hS hL)⟩
theorem x_ifnullN {off : Int} {tgt : Nat} (hd : decode M.2.1 pc = .ok (.ifnull off, 3)) (ht : (pc : Int) + off = (tgt : Int)) (k : AW S M (tgt) ls st h r h') : AW S M pc ls (.null :: st) h r h' :=
  ⟨k.1, fun l K p e s m args below meth c n0 z0 H locs L C hn hz hR hS hL => lv_ifnullN C.1 C.2.1 hd ht (k.2 l K p e s m args below meth c n0 z0 H locs L C hn hz hR hS hL)⟩
theorem x_ifnonnull {x : Nat} {off : Int} {tgt : Nat} (hd : decode M.2.1 pc = .ok (.ifnonnull off, 3)) (ht : (pc : Int) + off = (tgt : Int)) (k : AW S M (tgt) ls st h r h') : AW S M pc ls (.ref x :: st) h r h' :=
  ⟨k.1, fun l K p e s m args below meth c n0 z0 H locs L C hn hz hR hS hL => lv_ifnonnull C.1 C.2.1 hd ht (k.2 l K p e s m args below meth c n0 z0 H locs L C hn hz hR hS hL)⟩
theorem x_ifnonnullN {off : Int} (hd : decode M.2.1 pc = .ok (.ifnonnull off, 3)) (k : AW S M (pc + 3) ls st h r h') : AW S M pc ls (.null :: st) h r h' :=
  ⟨k.1, fun l K p e s m args below meth c n0 z0 H locs L C hn hz hR hS hL => lv_ifnonnullN C.1 C.2.1 hd (k.2 l K p e s m args below meth c n0 z0 H locs L C hn hz hR hS hL)⟩
theorem x_tableOut {dflt lo hi : Int} {offs : Array Int} {len : Nat} {x : Int32} {tgt : Nat} (hd : decode M.2.1 pc = .ok (.tableswitch dflt lo hi offs, len)) (hx : x.toInt < lo ∨ hi < x.toInt) (ht : (pc : Int) + dflt = (tgt : Int)) (k : AW S M tgt ls st h r h') : AW S M pc ls (.int x :: st) h r h' :=
  ⟨k.1, fun l K p e s m args below meth c n0 z0 H locs L C hn hz hR hS hL => lv_tableOut C.1 C.2.1 hd hx ht (k.2 l K p e s m args below meth c n0 z0 H locs L C hn hz hR hS hL)⟩
theorem x_tableIn {dflt lo hi : Int} {offs : Array Int} {len : Nat} {x : Int32} {off : Int} {tgt : Nat} (hd : decode M.2.1 pc = .ok (.tableswitch dflt lo hi offs, len)) (h1 : ¬ x.toInt < lo) (h2 : ¬ hi < x.toInt) (ho : offs[(x.toInt - lo).toNat]? = some off) (ht : (pc : Int) + off = (tgt : Int)) (k : AW S M tgt ls st h r h') : AW S M pc ls (.int x :: st) h r h' :=
  ⟨k.1, fun l K p e s m args below meth c n0 z0 H locs L C hn hz hR hS hL => lv_tableIn C.1 C.2.1 hd h1 h2 ho ht (k.2 l K p e s m args below meth c n0 z0 H locs L C hn hz hR hS hL)⟩
theorem x_ldc {index : Nat} {v : Int32} (hd : decode M.2.1 pc = .ok (.ldc index, 2)) (hw : Cond.constant M.1.cls index v ∈ gtbl) (k : AW S M (pc + 2) ls (.int v :: st) h r h') : AW S M pc ls st h r h' :=
  ⟨k.1, fun l K p e s m args below meth c n0 z0 H locs L C hn hz hR hS hL => lv_ldc C.1 C.2.1 C.2.2.2.2.1 (C.2.2.2.2.2.1 _ hw) hd (k.2 l K p e s m args below meth c n0 z0 H locs L C hn hz hR hS hL)⟩
theorem x_ldcw {index : Nat} {v : Int32} (hd : decode M.2.1 pc = .ok (.ldc_w index, 3)) (hw : Cond.constant M.1.cls index v ∈ gtbl) (k : AW S M (pc + 3) ls (.int v :: st) h r h') : AW S M pc ls st h r h' :=
  ⟨k.1, fun l K p e s m args below meth c n0 z0 H locs L C hn hz hR hS hL => lv_ldcw C.1 C.2.1 C.2.2.2.2.1 (C.2.2.2.2.2.1 _ hw) hd (k.2 l K p e s m args below meth c n0 z0 H locs L C hn hz hR hS hL)⟩
theorem x_ldc2 {index : Nat} {v : Int64} (hd : decode M.2.1 pc = .ok (.ldc2_w index, 3)) (hw : Cond.constantLong M.1.cls index v ∈ gtbl) (k : AW S M (pc + 3) ls (.long v :: st) h r h') : AW S M pc ls st h r h' :=
  ⟨k.1, fun l K p e s m args below meth c n0 z0 H locs L C hn hz hR hS hL => lv_ldc2 C.1 C.2.1 C.2.2.2.2.1 (C.2.2.2.2.2.1 _ hw) hd (k.2 l K p e s m args below meth c n0 z0 H locs L C hn hz hR hS hL)⟩
theorem x_ldcS {index n : Nat} {tx : String} (hd : decode M.2.1 pc = .ok (.ldc index, 2)) (hw : (M.1.cls, index, tx, n) ∈ xstr) (k : AW S M (pc + 2) ls (.retAddr n :: st) h r h') : AW S M pc ls st h r h' :=
  ⟨k.1, fun l K p e s m args below meth c n0 z0 H locs L C hn hz hR hS hL => va_ldcS C.1 C.2.1 C.2.2.2.2.1 (C.2.2.2.2.2.2.2.2.1.2.2.1 _ hw) hd (k.2 l K p e s m args below meth c n0 z0 H locs L C hn hz hR hS hL)⟩
theorem x_iret {x : Int32} {ty : FieldType} (hd : decode M.2.1 pc = .ok (.ireturn, 1)) (hr : M.2.2.2.1 = some ty) (hn9 : narrow ty (.int x) = .int x) : AW S M pc ls [.int x] h (some (.int x)) h :=
  ⟨⟨Nat.le_refl _, Nat.le_refl _⟩, fun l K p e s m args below meth c n0 z0 H locs L C hn hz hR hS hL => W.zret C.1 C.2.1 (C.2.2.1.trans hr) hn9 (fun t ht hW => ⟨rfl, by rw [ht]; exact hR, hS.F ht⟩) hS.2.2 hd C.2.2.2.2.2.2.1⟩
theorem x_lret {x : Int64} (hd : decode M.2.1 pc = .ok (.lreturn, 1)) (hr : M.2.2.2.1 = some .long) : AW S M pc ls [.long x] h (some (.long x)) h :=
  ⟨⟨Nat.le_refl _, Nat.le_refl _⟩, fun l K p e s m args below meth c n0 z0 H locs L C hn hz hR hS hL => W.lret C.1 C.2.1 (C.2.2.1.trans hr) (fun t ht hW => ⟨rfl, by rw [ht]; exact hR, hS.F ht⟩) hS.2.2 hd C.2.2.2.2.2.2.1⟩
theorem x_vret (hd : decode M.2.1 pc = .ok (.return_, 1)) (hr : M.2.2.2.1 = none) : AW S M pc ls [] h none h :=
  ⟨⟨Nat.le_refl _, Nat.le_refl _⟩, fun l K p e s m args below meth c n0 z0 H locs L C hn hz hR hS hL => W.vret C.1 C.2.1 (C.2.2.1.trans hr) (fun t ht hW => ⟨rfl, by rw [ht]; exact hR, hS.F ht⟩) hS.2.2 hd C.2.2.2.2.2.2.1⟩
theorem x_aret {x : Nat} {C9 : String} (hd : decode M.2.1 pc = .ok (.areturn, 1)) (hr : M.2.2.2.1 = some (.object C9)) : AW S M pc ls [.ref x] h (some (.ref x)) h :=
  ⟨⟨Nat.le_refl _, Nat.le_refl _⟩, fun l K p e s m args below meth c n0 z0 H locs L C hn hz hR hS hL => W.aret C.1 C.2.1 (C.2.2.1.trans hr) (Or.inl ⟨_, rfl⟩) (Or.inr ⟨_, rfl⟩) (fun t ht hW => ⟨rfl, by rw [ht]; exact hR, hS.F ht⟩) hS.2.2 hd C.2.2.2.2.2.2.1⟩
theorem x_aretN {C9 : String} (hd : decode M.2.1 pc = .ok (.areturn, 1)) (hr : M.2.2.2.1 = some (.object C9)) : AW S M pc ls [.null] h (some .null) h :=
  ⟨⟨Nat.le_refl _, Nat.le_refl _⟩, fun l K p e s m args below meth c n0 z0 H locs L C hn hz hR hS hL => W.aret C.1 C.2.1 (C.2.2.1.trans hr) (Or.inl ⟨_, rfl⟩) (Or.inl rfl) (fun t ht hW => ⟨rfl, by rw [ht]; exact hR, hS.F ht⟩) hS.2.2 hd C.2.2.2.2.2.2.1⟩
end XRW
end
section
/-! ROWS OVER THE SMALL HEAP'S CELLS: fields, arrays. -/
/-- what a program decides of each class: its words stand in the tables, its fields' types, their names apart -/
def xok (ci : Nat) (C : String) (T : u_T) (N : Nat) (ty0 : Nat → FieldType) : Prop := (∀ w ∈ u_ws C T N, w ∈ gtbl) ∧ (∀ k, k < N → parseFieldDescriptor (T k).2.2.1 = some (ty0 k)) ∧ (∀ a, a < N → ∀ b, b < N → a ≠ b → (T a).2.1 ≠ (T b).2.1)
/-- the link of a field: its class's number and the field's place -/
def xFL (own : String) (index ci k : Nat) : Prop := ∃ (C : String) (T : u_T) (N : Nat) (ty0 : Nat → FieldType), xcl[ci]? = some (C, T, N) ∧ k < N ∧ Cond.fieldLink own index (T k).1 (T k).2.1 (T k).2.2.1 ∈ gtbl ∧ xok ci C T N ty0
def xFN (own : String) (index ci k : Nat) : Prop := ∃ (C : String) (T : u_T) (N : Nat) (ty0 : Nat → FieldType) (host : String), xcl[ci]? = some (C, T, N) ∧ k < N ∧ Cond.fieldLinkNest own index (T k).1 (T k).2.1 (T k).2.2.1 host ∈ tables_1 ∧ xok ci C T N ty0
/-- a value that may stand in a field of this type -/
def xfit (ty : FieldType) (v : Value) : Prop := ∀ K : XK, narrow ty (xv K v) = xv K v ∧ fits ty (xv K v) = true
def xFT (ci k : Nat) (fin : Bool) (ty : FieldType) : Prop := ∃ (C : String) (T : u_T) (N : Nat), xcl[ci]? = some (C, T, N) ∧ (T k).2.2.2 = fin ∧ parseFieldDescriptor (T k).2.2.1 = some ty
theorem XR.set {K : XK} {h : XH} {H H1 : Heap} {a : Nat} {e0 e : va_E} (hR : XR K h H) (he : h[a]? = some e0) (z : H1.size = H.size) (hat : va_at K.2.1 xcl (K.1 + a, xe K e) H1) (oq : ∀ q : Nat, q ≠ K.1 + a → H1[q]? = H[q]?) : XR K (h.set a e) H1 := by
  refine ⟨by rw [List.length_set, z]; exact hR.1, ?_⟩
  rw [xw_set]
  exact hR.2.set xw_D (xw_get he) hat oq
section XHR
variable {S : XS} {M : XM} {pc : Nat} {ls : List (Option Value)} {st : List Value} {h h1 : XH} {r : Option Value} {h' : XH}
theorem x_getf {index ci k a : Nat} {fs : List Value} {v : Value} (hd : decode M.2.1 pc = .ok (.getfield index, 3)) (hf : xFL M.1.cls index ci k) (he : h[a]? = some (.inr (ci, fs))) (hv : fs[k]? = some v) (kk : AW S M (pc + 3) ls (v :: st) h r h') : AW S M pc ls (.ref a :: st) h r h' := by
  refine ⟨kk.1, fun l K p e s m args below meth c n0 z0 H locs L C hn hz hR hS hL => ?_⟩
  obtain ⟨C9, T, N, ty0, hc, hk, hl, ho⟩ := hf
  exact va_get (D := K.2.1) (C := C9) (T := T) (N := N) (ci := ci) (a := K.1 + a) (fs := fs.map (xv K)) (v := xv K v) C.1 C.2.1 C.2.2.2.2.2.1 ho.1 C.2.2.2.2.1 C.2.2.2.2.2.2.2.2.1.1 hR.2 a (xw_get he) hc k hk (C.2.2.2.2.2.1 _ hl) (fun _ q => q) (by rw [List.getElem?_map, hv]; rfl) hd (kk.2 l K p e s m args below meth c n0 z0 H locs L C hn hz hR hS hL)
theorem x_getfN {index ci k a : Nat} {fs : List Value} {v : Value} (hd : decode M.2.1 pc = .ok (.getfield index, 3)) (hf : xFN M.1.cls index ci k) (he : h[a]? = some (.inr (ci, fs))) (hv : fs[k]? = some v) (kk : AW S M (pc + 3) ls (v :: st) h r h') : AW S M pc ls (.ref a :: st) h r h' := by
  refine ⟨kk.1, fun l K p e s m args below meth c n0 z0 H locs L C hn hz hR hS hL => ?_⟩
  obtain ⟨C9, T, N, ty0, host, hc, hk, hl, ho⟩ := hf
  exact va_getN (D := K.2.1) (C := C9) (T := T) (N := N) (ci := ci) (a := K.1 + a) (fs := fs.map (xv K)) (v := xv K v) C.1 C.2.1 C.2.2.2.2.2.1 ho.1 C.2.2.2.2.1 C.2.2.2.2.2.2.2.2.1.1 hR.2 a (xw_get he) hc k hk (va_Nw.use rfl (C.2.2.2.2.2.2.2.2.1.2.1 _ hl rfl)) (fun _ q => q) (by rw [List.getElem?_map, hv]; rfl) hd (kk.2 l K p e s m args below meth c n0 z0 H locs L C hn hz hR hS hL)
theorem xsl {h : XH} {a ci k : Nat} {fs : List Value} {v : Value} (he : h[a]? = some (.inr (ci, fs))) : (h.set a (.inr (ci, fs.set k v))).length = h.length ∧ xsz (h.set a (.inr (ci, fs.set k v))) = xsz h := ⟨List.length_set, xsz_set he (by show (fs.set k v).length = fs.length; exact List.length_set)⟩
theorem xgo {pc1 : Nat} {ls1 : List (Option Value)} {st1 : List Value} (k : AW S M pc1 ls1 st1 h1 r h') (e1 : h1.length = h.length) (e2 : xsz h1 = xsz h) {l : Launch} {K : XK} {p : Program} {e : Env} {s : State} {m : MethodId} {args : Array Value} {below : List Frame} {meth : Method} {c : Code} {n0 z0 : Nat} {H : Heap} {locs : List Loc} {L : Array Slot}
    (C : xC K S M p s m args meth c) (hn : n0 ≤ h.length) (hz : z0 ≤ xsz h) (hR : XR K h1 H) (hS : va_S (fun q => K.1 ≤ q) s.heap H locs) (hL : lvX K L M.2.2.1 ls1) :
    W p l e (xrm M (h'.length - n0) (xsz h' - z0)) s m args below meth c H locs (h.length - n0) (xsz h - z0) (MQ below (xQ K r h') args s (h'.length - n0) (xsz h' - z0) (fun q => K.1 ≤ q)) (F0 m pc1 L (st1.map (xv K))) := by
  rw [← e1, ← e2]
  exact k.2 l K p e s m args below meth c n0 z0 H locs L C (by rw [e1]; exact hn) (by rw [e2]; exact hz) hR hS hL
theorem x_putf {index ci k a : Nat} {fs : List Value} {v : Value} {ty : FieldType} (hd : decode M.2.1 pc = .ok (.putfield index, 3)) (hf : xFL M.1.cls index ci k) (ht : xFT ci k false ty) (hw : xfit ty v) (he : h[a]? = some (.inr (ci, fs))) (hkl : k < fs.length) (hh : h.set a (.inr (ci, fs.set k v)) = h1) (kk : AW S M (pc + 3) ls st h1 r h') : AW S M pc ls (v :: .ref a :: st) h r h' := by
  subst hh
  obtain ⟨e1, e2⟩ := xsl (k := k) (v := v) he
  refine ⟨by rw [← e1, ← e2]; exact kk.1, fun l K p e s m args below meth c n0 z0 H locs L C hn hz hR hS hL => ?_⟩
  obtain ⟨C9, T, N, ty0, hc, hk, hl, ho⟩ := hf
  obtain ⟨C8, T8, N8, hc8, hfin, hdt⟩ := ht
  obtain ⟨rfl, rfl, rfl⟩ : C8 = C9 ∧ T8 = T ∧ N8 = N := by
    have q := Option.some.inj (hc8.symm.trans hc)
    exact ⟨congrArg (fun z => z.1) q, congrArg (fun z => z.2.1) q, congrArg (fun z => z.2.2) q⟩
  have hts := C.2.2.2.2.2.1
  have hK := C.2.2.2.2.2.2.2.2.1.1
  have hin := ho.1
  have hap := va_apart (own := M.1.cls) hts hin ty0 ho.2.1 ho.2.2 hK hc
  obtain ⟨r0, g1, cell, q1, q2, q3, q4⟩ := hR.2 a _ (xw_get he)
  have hr : r0 = (C8, T8, N8) := Option.some.inj (g1.symm.trans hc)
  subst hr
  obtain ⟨hSl, hfc, kC, hkC, hkind⟩ := hK.1 ci _ hc
  obtain ⟨cf, kf, fi, f, hi, hsl⟩ := hSl k hk
  have hlay := hts _ (hin _ (u_in_lay hk))
  unfold u_lay at hlay
  rw [if_neg (by rw [hfin]; decide)] at hlay
  have hst := (u_facts hfc hkC (u_lays hts hin hk) hi).1
  have h6 := u_store hfc hkC hkind hlay hi hdt (hw K).1 (hw K).2
  refine W.putK C.1 C.2.1 (f := f) (v := xv K v) (a := K.1 + a) ⟨C.2.2.2.2.1, hts _ hl, ⟨_, _, _, hi⟩, hst⟩ (by rw [q2]; exact h6) q1 q3 (by rw [hsl]; exact k2_hasslot (q4 k hk)) rfl rfl hd fun H' w1 w2 w3 => ?_
  rw [hsl] at w1 ⊢
  have hR1 : XR K (h.set a (.inr (ci, fs.set k v))) H' := hR.set he w2 ⟨_, hc, t_OB.to (V := updV (vp_V (fs.map (xv K))) k (xv K v)) ⟨_, w1, q2, q3, t_set q4 hap hk (xv K v)⟩ (fun j _ => by rw [vp_updV_set (by rw [List.length_map]; exact hkl) (xv K v) j, List.map_set])⟩ w3
  exact xgo kk e1 e2 C hn hz hR1 (hS.put w2 w3 (Nat.le_add_right _ _)) hL
theorem x_putfN {index ci k a : Nat} {fs : List Value} {v : Value} {ty : FieldType} (hd : decode M.2.1 pc = .ok (.putfield index, 3)) (hf : xFN M.1.cls index ci k) (ht : xFT ci k false ty) (hw : xfit ty v) (he : h[a]? = some (.inr (ci, fs))) (hkl : k < fs.length) (hh : h.set a (.inr (ci, fs.set k v)) = h1) (kk : AW S M (pc + 3) ls st h1 r h') : AW S M pc ls (v :: .ref a :: st) h r h' := by
  subst hh
  obtain ⟨e1, e2⟩ := xsl (k := k) (v := v) he
  refine ⟨by rw [← e1, ← e2]; exact kk.1, fun l K p e s m args below meth c n0 z0 H locs L C hn hz hR hS hL => ?_⟩
  obtain ⟨C9, T, N, ty0, host, hc, hk, hl, ho⟩ := hf
  obtain ⟨C8, T8, N8, hc8, hfin, hdt⟩ := ht
  obtain ⟨rfl, rfl, rfl⟩ : C8 = C9 ∧ T8 = T ∧ N8 = N := by
    have q := Option.some.inj (hc8.symm.trans hc)
    exact ⟨congrArg (fun z => z.1) q, congrArg (fun z => z.2.1) q, congrArg (fun z => z.2.2) q⟩
  have hts := C.2.2.2.2.2.1
  have hK := C.2.2.2.2.2.2.2.2.1.1
  have hin := ho.1
  have hap := va_apart (own := M.1.cls) hts hin ty0 ho.2.1 ho.2.2 hK hc
  obtain ⟨r0, g1, cell, q1, q2, q3, q4⟩ := hR.2 a _ (xw_get he)
  have hr : r0 = (C8, T8, N8) := Option.some.inj (g1.symm.trans hc)
  subst hr
  obtain ⟨hSl, hfc, kC, hkC, hkind⟩ := hK.1 ci _ hc
  obtain ⟨cf, kf, fi, f, hi, hsl⟩ := hSl k hk
  have hlay := hts _ (hin _ (u_in_lay hk))
  unfold u_lay at hlay
  rw [if_neg (by rw [hfin]; decide)] at hlay
  have hst := (u_facts hfc hkC (u_lays hts hin hk) hi).1
  have h6 := u_store hfc hkC hkind hlay hi hdt (hw K).1 (hw K).2
  refine va_WputK C.1 C.2.1 (f := f) (v := xv K v) (a := K.1 + a) C.2.2.2.2.1 (va_Nw.use rfl (C.2.2.2.2.2.2.2.2.1.2.1 _ hl rfl)) hi hst (by rw [q2]; exact h6) q1 q3 (by rw [hsl]; exact k2_hasslot (q4 k hk)) rfl rfl hd fun H' w1 w2 w3 => ?_
  rw [hsl] at w1 ⊢
  have hR1 : XR K (h.set a (.inr (ci, fs.set k v))) H' := hR.set he w2 ⟨_, hc, t_OB.to (V := updV (vp_V (fs.map (xv K))) k (xv K v)) ⟨_, w1, q2, q3, t_set q4 hap hk (xv K v)⟩ (fun j _ => by rw [vp_updV_set (by rw [List.length_map]; exact hkl) (xv K v) j, List.map_set])⟩ w3
  exact xgo kk e1 e2 C hn hz hR1 (hS.put w2 w3 (Nat.le_add_right _ _)) hL
theorem x_putfF {index ci k a : Nat} {fs : List Value} {v : Value} {ty : FieldType} (hd : decode M.2.1 pc = .ok (.putfield index, 3)) (hf : xFL M.1.cls index ci k) (ht : xFT ci k true ty) (hini : M.1.name = "<init>") (hcl : M.1.cls = (xcl.getD ci ("", xT_Ag, 0)).1) (hdc : ∀ (C : String) (T : u_T) (N : Nat), xcl[ci]? = some (C, T, N) → (T k).1 = C) (hw : xfit ty v) (he : h[a]? = some (.inr (ci, fs))) (hkl : k < fs.length) (hh : h.set a (.inr (ci, fs.set k v)) = h1) (kk : AW S M (pc + 3) ls st h1 r h') : AW S M pc ls (v :: .ref a :: st) h r h' := by
  subst hh
  obtain ⟨e1, e2⟩ := xsl (k := k) (v := v) he
  refine ⟨by rw [← e1, ← e2]; exact kk.1, fun l K p e s m args below meth c n0 z0 H locs L C hn hz hR hS hL => ?_⟩
  obtain ⟨C9, T, N, ty0, hc, hk, hl, ho⟩ := hf
  obtain ⟨C8, T8, N8, hc8, hfin, hdt⟩ := ht
  obtain ⟨rfl, rfl, rfl⟩ : C8 = C9 ∧ T8 = T ∧ N8 = N := by
    have q := Option.some.inj (hc8.symm.trans hc)
    exact ⟨congrArg (fun z => z.1) q, congrArg (fun z => z.2.1) q, congrArg (fun z => z.2.2) q⟩
  have hts := C.2.2.2.2.2.1
  have hK := C.2.2.2.2.2.2.2.2.1.1
  have hin := ho.1
  have hap := va_apart (own := M.1.cls) hts hin ty0 ho.2.1 ho.2.2 hK hc
  obtain ⟨r0, g1, cell, q1, q2, q3, q4⟩ := hR.2 a _ (xw_get he)
  have hr : r0 = (C8, T8, N8) := Option.some.inj (g1.symm.trans hc)
  subst hr
  obtain ⟨hSl, hfc, kC, hkC, hkind⟩ := hK.1 ci _ hc
  obtain ⟨cf, kf, fi, f, hi, hsl⟩ := hSl k hk
  have hlay := hts _ (hin _ (u_in_lay hk))
  unfold u_lay at hlay
  rw [if_pos hfin] at hlay
  have hst := (u_facts hfc hkC (u_lays hts hin hk) hi).1
  have hdecl : (T8 k).1 = M.1.cls := by
    rw [hdc C8 T8 N8 hc, hcl, List.getD_eq_getElem?_getD, hc]
    rfl
  have hcf : m.cls = cf := by
    obtain ⟨_, _, c', _, _, _, -, -, hf', -, -, -, hown2, -⟩ := Cond.laysFinal_spec hlay
    have e1 : c' = cf := by have := hi.symm.trans hf'; simp at this; exact this.1.symm
    rw [hdecl] at hown2
    rw [← e1]; exact Option.some.inj (C.2.2.2.2.1.symm.trans hown2)
  have h6 := u_fits hfc hkC hkind (Or.inr hlay) hi hdt (hw K).1 (hw K).2
  refine W.putFinK C.1 C.2.1 (f := f) (v := xv K v) (a := K.1 + a) C.2.2.2.2.1 (hts _ hl) hi hst hcf (C.2.2.2.2.2.2.2.1.trans hini) (by rw [q2]; exact h6) q1 q3 (by rw [hsl]; exact k2_hasslot (q4 k hk)) rfl rfl hd fun H' w1 w2 w3 => ?_
  rw [hsl] at w1 ⊢
  have hR1 : XR K (h.set a (.inr (ci, fs.set k v))) H' := hR.set he w2 ⟨_, hc, t_OB.to (V := updV (vp_V (fs.map (xv K))) k (xv K v)) ⟨_, w1, q2, q3, t_set q4 hap hk (xv K v)⟩ (fun j _ => by rw [vp_updV_set (by rw [List.length_map]; exact hkl) (xv K v) j, List.map_set])⟩ w3
  exact xgo kk e1 e2 C hn hz hR1 (hS.put w2 w3 (Nat.le_add_right _ _)) hL
/-- the arrays: a read, a store, the length -/
theorem x_iald {a n : Nat} {f : Nat → Int32} {i : Int32} (hd : decode M.2.1 pc = .ok (.iaload, 1)) (he : h[a]? = some (.inl (0, n, .inl f))) (hin : vp_in i n) (kk : AW S M (pc + 1) ls (.int (f i.toNatClampNeg) :: st) h r h') : AW S M pc ls (.int i :: .ref a :: st) h r h' :=
  ⟨kk.1, fun l K p e s m args below meth c n0 z0 H locs L C hn hz hR hS hL => va_iald (a := K.1 + a) C.1 C.2.1 C.2.2.2.2.2.2.2.2.1.1 hR.2 a 0 (xw_get he) rfl hin hd (kk.2 l K p e s m args below meth c n0 z0 H locs L C hn hz hR hS hL)⟩
theorem x_zald {a n : Nat} {f : Nat → Int32} {i : Int32} (hd : decode M.2.1 pc = .ok (.baload, 1)) (he : h[a]? = some (.inl (1, n, .inl f))) (hin : vp_in i n) (kk : AW S M (pc + 1) ls (.int (f i.toNatClampNeg) :: st) h r h') : AW S M pc ls (.int i :: .ref a :: st) h r h' :=
  ⟨kk.1, fun l K p e s m args below meth c n0 z0 H locs L C hn hz hR hS hL => va_zald (a := K.1 + a) C.1 C.2.1 C.2.2.2.2.2.2.2.2.1.1 hR.2 a 1 (xw_get he) rfl hin hd (kk.2 l K p e s m args below meth c n0 z0 H locs L C hn hz hR hS hL)⟩
theorem x_alen {a t n : Nat} {x : _} {v : Int32} (hd : decode M.2.1 pc = .ok (.arraylength, 1)) (he : h[a]? = some (.inl (t, n, x))) (ht : t < 5) (hv : Int32.ofNat n = v) (kk : AW S M (pc + 1) ls (.int v :: st) h r h') : AW S M pc ls (.ref a :: st) h r h' :=
  ⟨kk.1, fun l K p e s m args below meth c n0 z0 H locs L C hn hz hR hS hL => va_alen (a := K.1 + a) (ty := xkd t) C.1 C.2.1 C.2.2.2.2.2.2.2.2.1.1 hR.2 a t (xw_get he) (by match t, ht with | 0, _ => rfl | 1, _ => rfl | 2, _ => rfl | 3, _ => rfl | 4, _ => rfl) hv hd (kk.2 l K p e s m args below meth c n0 z0 H locs L C hn hz hR hS hL)⟩
/-- a reference out of an array of objects (3, 4) or of rows (2) -/
theorem x_aald {a t n : Nat} {f : Nat → Option Nat} {i : Int32} (hd : decode M.2.1 pc = .ok (.aaload, 1)) (he : h[a]? = some (.inl (t, n, .inr (.inr (.inr (.inr f)))))) (ht : 2 ≤ t ∧ t < 5) (hin : vp_in i n) (kk : AW S M (pc + 1) ls (va_rf (f i.toNatClampNeg) :: st) h r h') : AW S M pc ls (.int i :: .ref a :: st) h r h' := by
  refine ⟨kk.1, fun l K p e s m args below meth c n0 z0 H locs L C hn hz hR hS hL => ?_⟩
  have hlt : i.toNatClampNeg < n := Nat.not_le.mp fun q => hin (Or.inr q)
  have hty : (xtys K)[t]? = some (K.2.2.1 t, xkd t) := by
    obtain ⟨h1, h2⟩ := ht
    match t, h2 with
    | 2, _ => rfl
    | 3, _ => rfl
    | 4, _ => rfl
    | 0, _ => omega
    | 1, _ => omega
  have hrf : (xkd t).isReference = true := by
    obtain ⟨h1, h2⟩ := ht
    match t, h2 with
    | 2, _ => rfl
    | 3, _ => rfl
    | 4, _ => rfl
    | 0, _ => omega
    | 1, _ => omega
  have q := kk.2 l K p e s m args below meth c n0 z0 H locs L C hn hz hR hS hL
  have e1 : xv K (va_rf (f i.toNatClampNeg)) = va_rf (xf K (f i.toNatClampNeg)) := by cases f i.toNatClampNeg <;> rfl
  rw [List.map_cons, e1] at q
  exact W.aald (v := va_rf (xf K (f i.toNatClampNeg))) (ty := xkd t) C.1 C.2.1 (hR.2 a _ (xw_get he)) ((C.2.2.2.2.2.2.2.2.1.1.2 t _ hty).1 n (fun j => va_rf (xf K (f j)))) hrf (fun q => by cases q) (by show ¬ (i < 0 ∨ (arrV _ _ _).slots.size ≤ _); rw [arrV_size]; exact hin) (by show (arrV _ _ _).slots[_]? = _; rw [arrV_read _ _ hlt]) rfl rfl hd q
theorem xsa {h : XH} {a t n : Nat} {x y : _} (he : h[a]? = some (.inl (t, n, x))) : (h.set a (.inl (t, n, y))).length = h.length ∧ xsz (h.set a (.inl (t, n, y))) = xsz h := ⟨List.length_set, xsz_set he rfl⟩
theorem x_iast {a n : Nat} {f : Nat → Int32} {i x : Int32} (hd : decode M.2.1 pc = .ok (.iastore, 1)) (he : h[a]? = some (.inl (0, n, .inl f))) (hin : vp_in i n) (hh : h.set a (.inl (0, n, .inl (upd f i.toNatClampNeg x))) = h1) (kk : AW S M (pc + 1) ls st h1 r h') : AW S M pc ls (.int x :: .int i :: .ref a :: st) h r h' := by
  subst hh
  obtain ⟨e1, e2⟩ := xsa (y := .inl (upd f i.toNatClampNeg x)) he
  refine ⟨by rw [← e1, ← e2]; exact kk.1, fun l K p e s m args below meth c n0 z0 H locs L C hn hz hR hS hL => ?_⟩
  refine W.iast (a := K.1 + a) C.1 C.2.1 (hR.2 a _ (xw_get he)) ((C.2.2.2.2.2.2.2.2.1.1.2 0 _ rfl).1 n (fun j => .int (f j))) (fun q => by cases q) (by show ¬ (i < 0 ∨ (arrV _ _ _).slots.size ≤ _); rw [arrV_size]; exact hin) rfl rfl hd fun H1 w1 w2 w3 => ?_
  have hR1 : XR K (h.set a (.inl (0, n, .inl (upd f i.toNatClampNeg x)))) H1 := by
    refine hR.set he w2 ?_ w3
    show H1[K.1 + a]? = some (vp_cell (K.2.2.1 0) (n, .inl (upd f i.toNatClampNeg x)))
    rw [w1]
    show some ((vp_cell (K.2.2.1 0) (n, .inl f)).setSlot _ _) = _
    rw [vp_cell_i, vp_cell_i, arrV_store]
    congr 2
    funext q
    by_cases hq : q = i.toNatClampNeg
    · subst hq
      simp [updV, upd]
    · simp [updV, upd, hq]
  exact xgo kk e1 e2 C hn hz hR1 (hS.put w2 w3 (Nat.le_add_right _ _)) hL
theorem x_zast {a n : Nat} {f : Nat → Int32} {i x y : Int32} (hd : decode M.2.1 pc = .ok (.bastore, 1)) (he : h[a]? = some (.inl (1, n, .inl f))) (hin : vp_in i n) (hxy : vp_nar .boolean x = y) (hh : h.set a (.inl (1, n, .inl (upd f i.toNatClampNeg y))) = h1) (kk : AW S M (pc + 1) ls st h1 r h') : AW S M pc ls (.int x :: .int i :: .ref a :: st) h r h' := by
  subst hh
  subst hxy
  obtain ⟨e1, e2⟩ := xsa (y := .inl (upd f i.toNatClampNeg (vp_nar .boolean x))) he
  refine ⟨by rw [← e1, ← e2]; exact kk.1, fun l K p e s m args below meth c n0 z0 H locs L C hn hz hR hS hL => ?_⟩
  refine W.zast (a := K.1 + a) C.1 C.2.1 (hR.2 a _ (xw_get he)) ((C.2.2.2.2.2.2.2.2.1.1.2 1 _ rfl).1 n (fun j => .int (f j))) (fun q => by cases q) (by show ¬ (i < 0 ∨ (arrV _ _ _).slots.size ≤ _); rw [arrV_size]; exact hin) rfl rfl hd fun H1 w1 w2 w3 => ?_
  have hR1 : XR K (h.set a (.inl (1, n, .inl (upd f i.toNatClampNeg (vp_nar .boolean x))))) H1 := by
    refine hR.set he w2 ?_ w3
    show H1[K.1 + a]? = some (vp_cell (K.2.2.1 1) (n, .inl (upd f i.toNatClampNeg (vp_nar .boolean x))))
    rw [w1]
    show some ((vp_cell (K.2.2.1 1) (n, .inl f)).setSlot _ _) = _
    rw [vp_cell_i, vp_cell_i, arrV_store]
    congr 2
    funext q
    by_cases hq : q = i.toNatClampNeg
    · subst hq
      simp [updV, upd, vp_nar]
      try rfl
    · simp [updV, upd, hq]
  exact xgo kk e1 e2 C hn hz hR1 (hS.put w2 w3 (Nat.le_add_right _ _)) hL
/-- the script -/
theorem x_sald {i : Int32} (hd : decode M.2.1 pc = .ok (.iaload, 1)) (hin : vp_in i S.1) (kk : AW S M (pc + 1) ls (.int (S.2 i.toNatClampNeg) :: st) h r h') : AW S M pc ls (.int i :: .retAddr 99 :: st) h r h' :=
  ⟨kk.1, fun l K p e s m args below meth c n0 z0 H locs L C hn hz hR hS hL => va_sld (b := K.2.2.2 99) C.1 C.2.1 C.2.2.2.2.2.2.2.2.1.2.2.2.2.2.2.1 (Nat.lt_of_lt_of_le C.2.2.2.2.2.2.2.2.1.2.2.2.2.2.2.2 C.2.2.2.2.2.2.2.2.2) (Nat.not_le.mpr C.2.2.2.2.2.2.2.2.1.2.2.2.2.2.2.2) hS hin hd (kk.2 l K p e s m args below meth c n0 z0 H locs L C hn hz hR hS hL)⟩
theorem x_slen (hd : decode M.2.1 pc = .ok (.arraylength, 1)) (kk : AW S M (pc + 1) ls (.int (Int32.ofNat S.1) :: st) h r h') : AW S M pc ls (.retAddr 99 :: st) h r h' :=
  ⟨kk.1, fun l K p e s m args below meth c n0 z0 H locs L C hn hz hR hS hL => va_slen (b := K.2.2.2 99) C.1 C.2.1 C.2.2.2.2.2.2.2.2.1.2.2.2.2.2.2.1 (Nat.lt_of_lt_of_le C.2.2.2.2.2.2.2.2.1.2.2.2.2.2.2.2 C.2.2.2.2.2.2.2.2.2) (Nat.not_le.mpr C.2.2.2.2.2.2.2.2.1.2.2.2.2.2.2.2) hS hd (kk.2 l K p e s m args below meth c n0 z0 H locs L C hn hz hR hS hL)⟩
end XHR
end
section
/-! CALLS, AND A METHOD'S CONTRACT OUT OF ITS WALK. -/
theorem xP_blind {K : XK} {S : XS} {as : List Value} {h : XH} : FrameBlind (xP K S as h) := fun a U g mk q => ⟨q.1, q.2.1, xE.same (s := U) (U := U.calling g mk a) rfl rfl q.2.2.1, q.2.2.2⟩
section XCR
variable {S : XS} {M : XM} {pc : Nat} {ls : List (Option Value)} {st : List Value} {h h1 : XH} {r rv : Option Value} {h' : XH}
theorem xP_at {l : Launch} {K : XK} {p : Program} {s : State} {m : MethodId} {args : Array Value} {meth : Method} {c : Code} {H : Heap} {locs : List Loc} {as : List Value} (C : xC K S M p s m args meth c) (hR : XR K h H) (hS : va_S (fun q => K.1 ≤ q) s.heap H locs) :
    ∀ U : State, U.heap = H → s.WarmedH U.vm → xP K S as h (as.map (xv K)).toArray U := fun U hU hW =>
  ⟨rfl, by rw [hU]; exact hR, C.2.2.2.2.2.2.2.2.1.to hW (fun q q1 q2 => by rw [hU]; exact hS.2.1 q q1 q2), by rw [hU, hR.1]; exact Nat.le_add_right _ _⟩
theorem xrun {l : Launch} {K : XK} {p : Program} {e : Env} {s : State} {m : MethodId} {args a : Array Value} {below : List Frame} {meth : Method} {c : Code} {n0 z0 : Nat} {H : Heap} {locs : List Loc} {L : Array Slot} {st0 : List Value}
    (C : xC K S M p s m args meth c) (hn : n0 ≤ h.length) (hz : z0 ≤ xsz h) (hl1 : h.length ≤ h1.length ∧ xsz h ≤ xsz h1) (hS : va_S (fun q => K.1 ≤ q) s.heap H locs) (hL : lvX K L M.2.2.1 ls)
    (hrun : va_Run p l e (xrm M (h'.length - n0) (xsz h' - z0)) s m args below meth c H locs (h.length - n0) (xsz h - z0) (h1.length - h.length) (xsz h1 - xsz h) (F0 m pc L st0) (st.map (xv K)) (xQ K rv h1 a) (fun q => K.1 ≤ q))
    (kk : AW S M (pc + 3) ls (rv.toList ++ st) h1 r h') :
    W p l e (xrm M (h'.length - n0) (xsz h' - z0)) s m args below meth c H locs (h.length - n0) (xsz h - z0) (MQ below (xQ K r h') args s (h'.length - n0) (xsz h' - z0) (fun q => K.1 ≤ q)) (F0 m pc L st0) := by
  intro T hT X
  obtain ⟨v, s0, t, T', L9, g0, X', hL9, e1, e2, ⟨hv, hR1, hF⟩, go⟩ := hrun T hT X
  have hv : v = rv.map (xv K) := by injection hv
  subst hv
  rw [show h.length - n0 + (h1.length - h.length) = h1.length - n0 by omega, show xsz h - z0 + (xsz h1 - xsz h) = xsz h1 - z0 by omega] at X'
  have hS1 : va_S (fun q => K.1 ≤ q) s.heap T'.heap (locs ++ L9) := by
    refine ⟨?_, fun q q1 q2 => ?_, fun q hq => ?_⟩
    · rw [e1]; exact Nat.le_trans hS.1 (by rw [← g0]; exact hF.1)
    · rw [e1, hF.2 q (by rw [g0]; exact Nat.lt_of_lt_of_le q1 hS.1) q2, g0]; exact hS.2.1 q q1 q2
    · rcases List.mem_append.mp hq with h9 | h9
      · exact hS.2.2 q h9
      · exact hL9 q h9
  obtain ⟨t2, a1, b1⟩ := kk.2 l K p e s m args below meth c n0 z0 T'.heap (locs ++ L9) L C (by omega) (by omega) (by rw [e1]; exact hR1) hS1 hL T' rfl X'
  refine ⟨t2, go t2 ?_, b1⟩
  have hstk : (rv.map (xv K)).toList ++ st.map (xv K) = (rv.toList ++ st).map (xv K) := by cases rv <;> simp
  rw [hstk]
  exact a1
/-- what the tables say of a call -/
def xLk (M Mc : XM) (n : Nat) : Prop := Cond.initialized Mc.1.cls ∈ gtbl ∧ Cond.code Mc.1 Mc.2.1 Mc.2.2.1 Mc.2.2.2.1 ∈ gtbl ∧ (Mc.1.cls ≠ "java/lang/invoke/MethodHandle" ∧ Mc.1.cls ≠ "java/lang/invoke/VarHandle" ∧ (parseMethodDescriptor Mc.1.desc).map (fun d => d.parameters.length) = some n) ∧ (Mc.2.2.2.2.1 + 1 ≤ M.2.2.2.2.1 ∧ 8 + (Mc.2.2.1 + 11) + Mc.2.2.2.2.2 ≤ M.2.2.2.2.2)
def xLV (M Mc : XM) (index ci n : Nat) : Prop := xLk M Mc n ∧ Cond.methodLink M.1.cls index Mc.1 ∈ gtbl ∧ Cond.instanceMethod Mc.1 ∈ gtbl ∧ Cond.selects Mc.1.cls Mc.1 Mc.1 ∈ gtbl ∧ ∃ (T : u_T) (N : Nat), xcl[ci]? = some (Mc.1.cls, T, N)
def xLS (M Mc : XM) (index n : Nat) : Prop := xLk M Mc n ∧ Cond.methodLink M.1.cls index Mc.1 ∈ gtbl ∧ Cond.static Mc.1 ∈ gtbl
def xLSN (M Mc : XM) (index n : Nat) : Prop := xLk M Mc n ∧ (∃ host, Cond.methodLinkNest M.1.cls index Mc.1 host ∈ tables_1) ∧ Cond.static Mc.1 ∈ gtbl
def xLI (M Mc : XM) (index n : Nat) : Prop := xLk M Mc n ∧ Cond.methodLink M.1.cls index Mc.1 ∈ gtbl ∧ Cond.instanceMethod Mc.1 ∈ gtbl ∧ Mc.1.name = "<init>" ∧ Mc.2.2.2.1 = none
def xLIN (M Mc : XM) (index n : Nat) : Prop := xLk M Mc n ∧ (∃ host, Cond.methodLinkNest M.1.cls index Mc.1 host ∈ tables_1) ∧ Cond.instanceMethod Mc.1 ∈ gtbl ∧ Mc.1.name = "<init>" ∧ Mc.2.2.2.1 = none
theorem xGW {Mc : XM} (h : Cond.code Mc.1 Mc.2.1 Mc.2.2.1 Mc.2.2.2.1 ∈ gtbl) : GoodIn gtbl (xws Mc) := fun w hw => by
  rcases List.mem_cons.mp hw with rfl | q
  · exact gt_good _ h
  · exact gt_good _ q
theorem x_callV {index ci b n : Nat} {fs : List Value} {Mc : XM} {As stk : List Value} (hd : decode M.2.1 pc = .ok (.invokevirtual index, 3)) (hl : xLV M Mc index ci n) (he : h[b]? = some (.inr (ci, fs))) (hn9 : As.length = n) (hs9 : stk = As.reverse ++ .ref b :: st) (hst : (st.map fun v => v.category).sum ≤ 8) (hM : AM S Mc (.ref b :: As) h rv h1) (kk : AW S M (pc + 3) ls (rv.toList ++ st) h1 r h') : AW S M pc ls stk h r h' := by
  subst hs9
  refine ⟨⟨Nat.le_trans hM.1.1 kk.1.1, Nat.le_trans hM.1.2 kk.1.2⟩, fun l K p e s m args below meth c n0 z0 H locs L C hn hz hR hS hL => ?_⟩
  obtain ⟨⟨l1, l2, l3, l4⟩, l5, l6, l7, T, N, l8⟩ := hl
  have hts := C.2.2.2.2.2.1
  have k1 := kk.1
  have m1 := hM.1
  refine xrun C hn hz hM.1 hS hL (va_runV (As := As.map (xv K)) (rest := st.map (xv K)) (b := K.1 + b) (C := Mc.1.cls) ⟨C.1, C.2.1, C.2.2.2.1, C.2.2.2.2.1, hts⟩ (hM.2 l K) ⟨callB_of n hts (xGW l2) rfl rfl rfl (hts _ l1) (hts _ l5) l3 l4, hts _ l6, hts _ l7⟩ ⟨xP_blind, va_recv (ci := ci) (q0 := b) C.2.2.2.2.2.2.2.2.1.1 hR.2 l8 (xw_get he), xP_at (l := l) (as := .ref b :: As) C hR hS⟩ rfl (by rw [List.length_map]; exact hn9) hL.1 ?_ (lv_room (by rw [xv_cats]; exact hst)) hd ⟨?_, ?_⟩) kk
  · show List.map (xv K) (As.reverse ++ .ref b :: st) = _
    rw [List.map_append, List.map_reverse]
    rfl
  · show h.length - n0 + (h1.length - h.length) ≤ h'.length - n0
    omega
  · show xsz h - z0 + (xsz h1 - xsz h) ≤ xsz h' - z0
    omega
theorem x_callS {index n : Nat} {Mc : XM} {As stk : List Value} (hd : decode M.2.1 pc = .ok (.invokestatic index, 3)) (hl : xLS M Mc index n) (hn9 : As.length = n) (hs9 : stk = As.reverse ++ st) (hst : (st.map fun v => v.category).sum ≤ 8) (hM : AM S Mc As h rv h1) (kk : AW S M (pc + 3) ls (rv.toList ++ st) h1 r h') : AW S M pc ls stk h r h' := by
  subst hs9
  refine ⟨⟨Nat.le_trans hM.1.1 kk.1.1, Nat.le_trans hM.1.2 kk.1.2⟩, fun l K p e s m args below meth c n0 z0 H locs L C hn hz hR hS hL => ?_⟩
  obtain ⟨⟨l1, l2, l3, l4⟩, l5, l6⟩ := hl
  have hts := C.2.2.2.2.2.1
  have k1 := kk.1
  have m1 := hM.1
  refine xrun C hn hz hM.1 hS hL (va_runS (As := As.map (xv K)) (rest := st.map (xv K)) ⟨C.1, C.2.1, C.2.2.2.1, C.2.2.2.2.1, hts⟩ (hM.2 l K) ⟨callB_of n hts (xGW l2) rfl rfl rfl (hts _ l1) (hts _ l5) l3 l4, hts _ l6⟩ ⟨xP_blind, xP_at (l := l) (as := As) C hR hS⟩ rfl (by rw [List.length_map]; exact hn9) hL.1 ?_ (lv_room (by rw [xv_cats]; exact hst)) hd ⟨?_, ?_⟩) kk
  · show List.map (xv K) (As.reverse ++ st) = _
    rw [List.map_append, List.map_reverse]
  · show h.length - n0 + (h1.length - h.length) ≤ h'.length - n0
    omega
  · show xsz h - z0 + (xsz h1 - xsz h) ≤ xsz h' - z0
    omega
theorem x_callSN {index n : Nat} {Mc : XM} {As stk : List Value} (hd : decode M.2.1 pc = .ok (.invokestatic index, 3)) (hl : xLSN M Mc index n) (hn9 : As.length = n) (hs9 : stk = As.reverse ++ st) (hst : (st.map fun v => v.category).sum ≤ 8) (hM : AM S Mc As h rv h1) (kk : AW S M (pc + 3) ls (rv.toList ++ st) h1 r h') : AW S M pc ls stk h r h' := by
  subst hs9
  refine ⟨⟨Nat.le_trans hM.1.1 kk.1.1, Nat.le_trans hM.1.2 kk.1.2⟩, fun l K p e s m args below meth c n0 z0 H locs L C hn hz hR hS hL => ?_⟩
  obtain ⟨⟨l1, l2, l3, l4⟩, ⟨host, l5⟩, l6⟩ := hl
  have hts := C.2.2.2.2.2.1
  have k1 := kk.1
  have m1 := hM.1
  refine xrun C hn hz hM.1 hS hL (va_runSN (As := As.map (xv K)) (rest := st.map (xv K)) ⟨C.1, C.2.1, C.2.2.2.1, C.2.2.2.2.1, hts⟩ (hM.2 l K) ⟨va_cnB n hts (xGW l2) rfl rfl rfl (C.2.2.2.2.2.2.2.2.1.2.1 _ l5 rfl) (hts _ l1) l3 l4, hts _ l6, trivial⟩ ⟨xP_blind, xP_at (l := l) (as := As) C hR hS⟩ rfl (by rw [List.length_map]; exact hn9) hL.1 ?_ (lv_room (by rw [xv_cats]; exact hst)) hd ⟨?_, ?_⟩) kk
  · show List.map (xv K) (As.reverse ++ st) = _
    rw [List.map_append, List.map_reverse]
  · show h.length - n0 + (h1.length - h.length) ≤ h'.length - n0
    omega
  · show xsz h - z0 + (xsz h1 - xsz h) ≤ xsz h' - z0
    omega
theorem x_callI {index b n : Nat} {Mc : XM} {As stk : List Value} (hd : decode M.2.1 pc = .ok (.invokespecial index, 3)) (hl : xLI M Mc index n) (hn9 : As.length = n) (hs9 : stk = As.reverse ++ .ref b :: st) (hst : (st.map fun v => v.category).sum ≤ 8) (hM : AM S Mc (.ref b :: As) h rv h1) (kk : AW S M (pc + 3) ls (rv.toList ++ st) h1 r h') : AW S M pc ls stk h r h' := by
  subst hs9
  refine ⟨⟨Nat.le_trans hM.1.1 kk.1.1, Nat.le_trans hM.1.2 kk.1.2⟩, fun l K p e s m args below meth c n0 z0 H locs L C hn hz hR hS hL => ?_⟩
  obtain ⟨⟨l1, l2, l3, l4⟩, l5, l6, l7, l8⟩ := hl
  have hts := C.2.2.2.2.2.1
  have k1 := kk.1
  have m1 := hM.1
  refine xrun C hn hz hM.1 hS hL (va_runI (As := As.map (xv K)) (rest := st.map (xv K)) (b := K.1 + b) ⟨C.1, C.2.1, C.2.2.2.1, C.2.2.2.2.1, hts⟩ (hM.2 l K) ⟨callB_of n hts (xGW l2) (by rw [← l8]) rfl rfl (hts _ l1) (hts _ l5) l3 l4, l7, hts _ l6⟩ ⟨xP_blind, xP_at (l := l) (as := .ref b :: As) C hR hS⟩ rfl (by rw [List.length_map]; exact hn9) hL.1 ?_ (lv_room (by rw [xv_cats]; exact hst)) hd ⟨?_, ?_⟩) kk
  · show List.map (xv K) (As.reverse ++ .ref b :: st) = _
    rw [List.map_append, List.map_reverse]
    rfl
  · show h.length - n0 + (h1.length - h.length) ≤ h'.length - n0
    omega
  · show xsz h - z0 + (xsz h1 - xsz h) ≤ xsz h' - z0
    omega
theorem x_callIN {index b n : Nat} {Mc : XM} {As stk : List Value} (hd : decode M.2.1 pc = .ok (.invokespecial index, 3)) (hl : xLIN M Mc index n) (hn9 : As.length = n) (hs9 : stk = As.reverse ++ .ref b :: st) (hst : (st.map fun v => v.category).sum ≤ 8) (hM : AM S Mc (.ref b :: As) h rv h1) (kk : AW S M (pc + 3) ls (rv.toList ++ st) h1 r h') : AW S M pc ls stk h r h' := by
  subst hs9
  refine ⟨⟨Nat.le_trans hM.1.1 kk.1.1, Nat.le_trans hM.1.2 kk.1.2⟩, fun l K p e s m args below meth c n0 z0 H locs L C hn hz hR hS hL => ?_⟩
  obtain ⟨⟨l1, l2, l3, l4⟩, ⟨host, l5⟩, l6, l7, l8⟩ := hl
  have hts := C.2.2.2.2.2.1
  have k1 := kk.1
  have m1 := hM.1
  refine xrun C hn hz hM.1 hS hL (va_runIN (As := As.map (xv K)) (rest := st.map (xv K)) (b := K.1 + b) ⟨C.1, C.2.1, C.2.2.2.1, C.2.2.2.2.1, hts⟩ (hM.2 l K) ⟨va_cnB n hts (xGW l2) (by rw [← l8]) rfl rfl (C.2.2.2.2.2.2.2.2.1.2.1 _ l5 rfl) (hts _ l1) l3 l4, l7, hts _ l6⟩ ⟨xP_blind, xP_at (l := l) (as := .ref b :: As) C hR hS⟩ rfl (by rw [List.length_map]; exact hn9) hL.1 ?_ (lv_room (by rw [xv_cats]; exact hst)) hd ⟨?_, ?_⟩) kk
  · show List.map (xv K) (As.reverse ++ .ref b :: st) = _
    rw [List.map_append, List.map_reverse]
    rfl
  · show h.length - n0 + (h1.length - h.length) ≤ h'.length - n0
    omega
  · show xsz h - z0 + (xsz h1 - xsz h) ≤ xsz h' - z0
    omega
/-- Object.<init> -/
theorem x_oinit {index a : Nat} (hd : decode M.2.1 pc = .ok (.invokespecial index, 3)) (hl : Cond.methodLink M.1.cls index Lib.objectInit ∈ gtbl ∧ Cond.instanceMethod Lib.objectInit ∈ gtbl ∧ Cond.code Lib.objectInit ⟨#[0xb1]⟩ 1 none ∈ gtbl) (hst : (st.map fun v => v.category).sum ≤ 8) (hrm : 1 ≤ M.2.2.2.2.1 ∧ 20 ≤ M.2.2.2.2.2) (kk : AW S M (pc + 3) ls st h r h') : AW S M pc ls (.ref a :: st) h r h' := by
  refine ⟨kk.1, fun l K p e s m args below meth c n0 z0 H locs L C hn hz hR hS hL => ?_⟩
  have hts := C.2.2.2.2.2.1
  refine W.objInit (a := K.1 + a) (rest := st.map (xv K)) C.1 C.2.1 C.2.2.2.2.1 (hts _ hl.1) (hts _ hl.2.1) (hts _ hl.2.2) rfl (hL.1.trans C.2.2.2.1.symm) rfl hd hrm.1 ?_ (kk.2 l K p e s m args below meth c n0 z0 H locs L C hn hz hR hS hL)
  show 2 * 0 + ((st.map (xv K)).map fun v => v.category).sum + 12 ≤ M.2.2.2.2.2
  rw [xv_cats]
  omega
/-- a method's locals at its entry -/
def xin (nL : Nat) (as : List Value) : List (Option Value) := (as.flatMap (fun v => if v.category = 2 then [some v, none] else [some v])) ++ List.replicate (nL - (as.map fun v => v.category).sum) none
theorem xin_args (K : XK) : ∀ (as : List Value) (o : Nat) (i : Nat) (v : Value), (as.flatMap (fun v => if v.category = 2 then [some v, none] else [some v]))[i]? = some (some v) → (o + i, xv K v) ∈ lv_args o (as.map (xv K)) := by
  intro as
  induction as with
  | nil => intro o i v h; simp at h
  | cons a as ih =>
    intro o i v h
    rw [List.flatMap_cons] at h
    rw [List.map_cons, lv_args, xv_cat]
    by_cases hc : a.category = 2
    · rw [if_pos hc] at h ⊢
      match i, h with
      | 0, h =>
        have h : some (some a) = some (some v) := h
        cases h
        exact List.mem_cons_self
      | 1, h =>
        have h : some (none : Option Value) = some (some v) := h
        cases h
      | i + 2, h =>
        have := ih (o + 2) i v h
        rw [show o + 2 + i = o + (i + 2) by omega] at this
        exact List.mem_cons_of_mem _ this
    · rw [if_neg hc] at h ⊢
      match i, h with
      | 0, h =>
        have h : some (some a) = some (some v) := h
        cases h
        exact List.mem_cons_self
      | i + 1, h =>
        have := ih (o + 1) i v h
        rw [show o + 1 + i = o + (i + 1) by omega] at this
        exact List.mem_cons_of_mem _ this
theorem xin_len (K : XK) (as : List Value) : (lg_sl (as.map (xv K))).length = (as.map fun v => v.category).sum := by
  induction as with
  | nil => rfl
  | cons a as ih =>
    have hc := lv_cat a
    have e : lg_sl ((a :: as).map (xv K)) = lg_sl [xv K a] ++ lg_sl (as.map (xv K)) := by simp [lg_sl]
    rw [e, List.length_append, ih, List.map_cons, List.sum_cons]
    congr 1
    rcases hc with h | h
    · simp [lg_sl, xv_cat, h]
    · simp [lg_sl, xv_cat, h]
/-- THE CONTRACT -/
theorem x_meth {as : List Value} {ls : List (Option Value)} (hy : plainName M.1.cls = true) (hcat : (as.map fun v => v.category).sum ≤ M.2.2.1) (hls : xin M.2.2.1 as = ls) (k : AW S M 0 ls [] h r h') : AM S M as h r h' := by
  subst hls
  refine ⟨k.1, fun l K => ?_⟩
  refine Met.ofW (cc := M.2.1) (maxL := M.2.2.1) (ret := M.2.2.2.1) hy rfl ?_
  intro p e s m args below meth c s1 B hml hv
  obtain ⟨rfl, hR, hE, hsz⟩ := hv
  have hts := atoms_spec (ws := xws M) B.pre
  have hC : xC K S M p s m ((as.map (xv K)).toArray) meth c := ⟨B.exec, B.bytes, B.returns, hml, findClass_of_methodNamed B.named, fun w hw => hts w (List.mem_cons_of_mem _ hw), B.notSynchronized, (name_of_methodNamed B.named B.method).1, hE, hsz⟩
  have hle : (lg_sl (as.map (xv K))).length ≤ M.2.2.1 := by rw [xin_len]; exact hcat
  have hl := lv_entry (as.map (xv K)) (n := M.2.2.1) hle
  rw [lg_entry_eq]
  generalize (lg_sl (as.map (xv K)) ++ List.replicate (M.2.2.1 - (lg_sl (as.map (xv K))).length) Slot.unset).toArray = L at hl ⊢
  have hL : lvX K L M.2.2.1 (xin M.2.2.1 as) := by
    refine ⟨hl.1, hl.2.1, fun i v hi => ?_⟩
    refine hl.2.2 (i, xv K v) ?_
    unfold xin at hi
    by_cases hlt : i < (as.flatMap (fun v => if v.category = 2 then [some v, none] else [some v])).length
    · rw [List.getElem?_append_left hlt] at hi
      have := xin_args K as 0 i v hi
      rw [Nat.zero_add] at this
      exact this
    · rw [List.getElem?_append_right (by omega)] at hi
      have := List.eq_of_mem_replicate (List.mem_of_getElem? hi)
      cases this
  have q := k.2 l K p e s m ((as.map (xv K)).toArray) below meth c h.length (xsz h) s.heap [] L hC (Nat.le_refl _) (Nat.le_refl _) hR va_S.rf hL
  rw [Nat.sub_self, Nat.sub_self] at q
  exact q
end XCR
end
section
/-! THE STATE OF CLASS AND REFERENCE, AND ITS CELLS. -/
abbrev SX : Type := (Nat → Int32) × (Nat → Nat → Int32) × (Nat → Nat → Nat → Int32) × Int64 × Option Nat × (Nat → Option Nat) × (Nat → Option Nat) × Nat × Nat × (Nat → va_E) × Nat
abbrev SY : Type := (Nat → Int32) × (Nat → Nat → Int32) × Int64
abbrev St : Type := SX × SY
/-- the class: its numbers, its arrays, its arrays of arrays, the money, the row that is weighed, the two arrays of objects, the two drafts, the objects made, how many came behind the start -/
def gX (σ : St) (k : Nat) : Int32 := σ.1.1 k
def gA (σ : St) (k : Nat) : Nat → Int32 := σ.1.2.1 k
def gB (σ : St) (k i : Nat) : Nat → Int32 := σ.1.2.2.1 k i
def gP (σ : St) : Int64 := σ.1.2.2.2.1
def gN (σ : St) : Option Nat := σ.1.2.2.2.2.1
def gF (σ : St) : Nat → Option Nat := σ.1.2.2.2.2.2.1
def gG (σ : St) : Nat → Option Nat := σ.1.2.2.2.2.2.2.1
def gf (σ : St) : Nat := σ.1.2.2.2.2.2.2.2.1
def gg (σ : St) : Nat := σ.1.2.2.2.2.2.2.2.2.1
def gD (σ : St) : Nat → va_E := σ.1.2.2.2.2.2.2.2.2.2.1
def gn (σ : St) : Nat := σ.1.2.2.2.2.2.2.2.2.2.2
/-- the reference: its numbers, its arrays, its purse -/
def gY (σ : St) (k : Nat) : Int32 := σ.2.1 k
def gC (σ : St) (k : Nat) : Nat → Int32 := σ.2.2.1 k
def gQ (σ : St) : Int64 := σ.2.2.2
def sX (σ : St) (k : Nat) (v : Int32) : St := ((va_up σ.1.1 k v, σ.1.2), σ.2)
def sA (σ : St) (k : Nat) (f : Nat → Int32) : St := ((σ.1.1, va_up σ.1.2.1 k f, σ.1.2.2), σ.2)
def sB (σ : St) (k i : Nat) (f : Nat → Int32) : St := ((σ.1.1, σ.1.2.1, va_up σ.1.2.2.1 k (va_up (σ.1.2.2.1 k) i f), σ.1.2.2.2), σ.2)
def sP (σ : St) (v : Int64) : St := ((σ.1.1, σ.1.2.1, σ.1.2.2.1, v, σ.1.2.2.2.2), σ.2)
def sN (σ : St) (v : Option Nat) : St := ((σ.1.1, σ.1.2.1, σ.1.2.2.1, σ.1.2.2.2.1, v, σ.1.2.2.2.2.2), σ.2)
def sF (σ : St) (v : Nat → Option Nat) : St := ((σ.1.1, σ.1.2.1, σ.1.2.2.1, σ.1.2.2.2.1, σ.1.2.2.2.2.1, v, σ.1.2.2.2.2.2.2), σ.2)
def sG (σ : St) (v : Nat → Option Nat) : St := ((σ.1.1, σ.1.2.1, σ.1.2.2.1, σ.1.2.2.2.1, σ.1.2.2.2.2.1, σ.1.2.2.2.2.2.1, v, σ.1.2.2.2.2.2.2.2), σ.2)
def sf (σ : St) (v : Nat) : St := ((σ.1.1, σ.1.2.1, σ.1.2.2.1, σ.1.2.2.2.1, σ.1.2.2.2.2.1, σ.1.2.2.2.2.2.1, σ.1.2.2.2.2.2.2.1, v, σ.1.2.2.2.2.2.2.2.2), σ.2)
def sg (σ : St) (v : Nat) : St := ((σ.1.1, σ.1.2.1, σ.1.2.2.1, σ.1.2.2.2.1, σ.1.2.2.2.2.1, σ.1.2.2.2.2.2.1, σ.1.2.2.2.2.2.2.1, σ.1.2.2.2.2.2.2.2.1, v, σ.1.2.2.2.2.2.2.2.2.2), σ.2)
def sD (σ : St) (q : Nat) (c : va_E) : St := ((σ.1.1, σ.1.2.1, σ.1.2.2.1, σ.1.2.2.2.1, σ.1.2.2.2.2.1, σ.1.2.2.2.2.2.1, σ.1.2.2.2.2.2.2.1, σ.1.2.2.2.2.2.2.2.1, σ.1.2.2.2.2.2.2.2.2.1, va_up σ.1.2.2.2.2.2.2.2.2.2.1 q c, σ.1.2.2.2.2.2.2.2.2.2.2), σ.2)
/-- one cell more -/
def sM (σ : St) (c : va_E) : St := ((σ.1.1, σ.1.2.1, σ.1.2.2.1, σ.1.2.2.2.1, σ.1.2.2.2.2.1, σ.1.2.2.2.2.2.1, σ.1.2.2.2.2.2.2.1, σ.1.2.2.2.2.2.2.2.1, σ.1.2.2.2.2.2.2.2.2.1, va_up σ.1.2.2.2.2.2.2.2.2.2.1 (185 + gn σ) c, gn σ + 1), σ.2)
def sY (σ : St) (k : Nat) (v : Int32) : St := (σ.1, (va_up σ.2.1 k v, σ.2.2))
def sC (σ : St) (k : Nat) (f : Nat → Int32) : St := (σ.1, (σ.2.1, va_up σ.2.2.1 k f, σ.2.2.2))
def sQ (σ : St) (v : Int64) : St := (σ.1, (σ.2.1, σ.2.2.1, v))
/-- a row of an array of arrays; which row a reference is -/
def xri (n b : Nat) : Nat → Option Nat := fun i => if i < n then some (b + i) else none
def xrw (b : Nat) (r : Option Nat) : Option Nat := r.map (fun p => b + p)
def en0 (σ : St) : XH := [.inr (11, [.ref 1, .ref 3, .ref 82, .ref 131, .ref 134, .ref 139, .ref 144, .ref 150]), .inr (10, [.ref 2, .int (gX σ 0), .int (gX σ 1), .int (gX σ 2), .int (gX σ 3)]), .inl (0, 200, .inl (gA σ 0)), .inr (6, [.ref 4, .ref 5, .ref 6, .ref 27, .ref 48, .ref 49, .int (gX σ 4), .int (gX σ 5), .int (gX σ 6), .int (gX σ 7), .int (gX σ 8)]), .inl (0, 20, .inl (gA σ 1)), .inl (0, 20, .inl (gA σ 2)), .inl (2, 20, .inr (.inr (.inr (.inr (xri 20 7)))))]
def en1 (σ : St) : XH := (List.range 20).map (fun i => (.inl (0, 30, .inl (gB σ 0 i)) : va_E))
def en2 (σ : St) : XH := [.inl (2, 20, .inr (.inr (.inr (.inr (xri 20 28)))))]
def en3 (σ : St) : XH := (List.range 20).map (fun i => (.inl (0, 31, .inl (gB σ 1 i)) : va_E))
def en4 (σ : St) : XH := [.inl (1, 20, .inl (gA σ 3)), .inr (2, [.ref 50, va_rf (xrw 7 (gN σ)), .int (gX σ 9), .int (gX σ 10)]), .inl (2, 31, .inr (.inr (.inr (.inr (xri 31 51)))))]
def en5 (σ : St) : XH := (List.range 31).map (fun i => (.inl (0, 31, .inl (gB σ 2 i)) : va_E))
def en6 (σ : St) : XH := [.inr (8, [.ref 83, .ref 105, .ref 106, .ref 107, .ref 128, .ref 129, .ref 130, .int (gX σ 11), .int (gX σ 12)]), .inl (2, 21, .inr (.inr (.inr (.inr (xri 21 84)))))]
def en7 (σ : St) : XH := (List.range 21).map (fun i => (.inl (0, 121, .inl (gB σ 3 i)) : va_E))
def en8 (σ : St) : XH := [.inl (0, 21, .inl (gA σ 4)), .inl (0, 121, .inl (gA σ 5)), .inl (2, 20, .inr (.inr (.inr (.inr (xri 20 108)))))]
def en9 (σ : St) : XH := (List.range 20).map (fun i => (.inl (0, 4, .inl (gB σ 4 i)) : va_E))
def en10 (σ : St) : XH := [.inl (0, 120, .inl (gA σ 6)), .inl (0, 120, .inl (gA σ 7)), .inl (0, 120, .inl (gA σ 8)), .inr (7, [.ref 132, .ref 133, .int (gX σ 13), .int (gX σ 14)]), .inl (0, 24, .inl (gA σ 9)), .inl (0, 24, .inl (gA σ 10)), .inr (4, [.ref 135, .ref 136, .ref 137, .ref (gf σ), .int (gX σ 15), .int (gX σ 16)]), .inl (3, 60, .inr (.inr (.inr (.inr (gF σ))))), .inl (0, 1770, .inl (gA σ 11)), .inl (0, 1770, .inl (gA σ 12)), gD σ 138, .inr (1, [.ref 140, .ref (gg σ), .int (gX σ 17)]), .inl (4, 12, .inr (.inr (.inr (.inr (gG σ))))), gD σ 141, gD σ 142, gD σ 143, .inr (9, [.ref 145, .ref 146, .ref 147, .ref 148, .ref 149, .int (gX σ 18), .int (gX σ 19), .int (gX σ 20), .int (gX σ 21), .long (gP σ)]), .inl (0, 96, .inl (gA σ 13)), .inl (0, 96, .inl (gA σ 14)), .inl (0, 96, .inl (gA σ 15)), .inl (0, 96, .inl (gA σ 16)), .inl (1, 96, .inl (gA σ 17)), .inr (5, [.ref 151, .ref 152, .int (gX σ 22)]), .inl (0, 8, .inl (gA σ 18)), .inl (0, 8, .inl (gA σ 19)), .inr (12, [.ref 154, .int (gY σ 0), .int (gY σ 1), .ref 155, .ref 156, .ref 157, .int (gY σ 2), .int (gY σ 3), .int (gY σ 4), .int (gY σ 5), .ref 158, .ref 159, .ref 160, .int (gY σ 6), .ref 161, .ref 162, .ref 163, .ref 164, .ref 165, .ref 166, .ref 167, .int (gY σ 7), .int (gY σ 8), .int (gY σ 9), .int (gY σ 10), .int (gY σ 11), .ref 168, .ref 169, .ref 170, .ref 171, .ref 172, .ref 173, .ref 174, .ref 175, .ref 176, .int (gY σ 12), .int (gY σ 13), .ref 177, .ref 178, .ref 179, .ref 180, .int (gY σ 14), .ref 181, .ref 182, .int (gY σ 15), .int (gY σ 16), .int (gY σ 17), .int (gY σ 18), .long (gQ σ), .int (gY σ 19), .ref 183, .ref 184]), .inl (0, 200, .inl (gC σ 0)), .inl (0, 20, .inl (gC σ 1)), .inl (0, 20, .inl (gC σ 2)), .inl (0, 600, .inl (gC σ 3)), .inl (0, 961, .inl (gC σ 4)), .inl (0, 620, .inl (gC σ 5)), .inl (0, 5082, .inl (gC σ 6)), .inl (1, 20, .inl (gC σ 7)), .inl (0, 20, .inl (gC σ 8)), .inl (0, 20, .inl (gC σ 9)), .inl (0, 20, .inl (gC σ 10)), .inl (0, 120, .inl (gC σ 11)), .inl (0, 120, .inl (gC σ 12)), .inl (0, 120, .inl (gC σ 13)), .inl (0, 1220, .inl (gC σ 14)), .inl (0, 122, .inl (gC σ 15)), .inl (0, 61, .inl (gC σ 16)), .inl (0, 61, .inl (gC σ 17)), .inl (0, 61, .inl (gC σ 18)), .inl (0, 61, .inl (gC σ 19)), .inl (0, 61, .inl (gC σ 20)), .inl (0, 24, .inl (gC σ 21)), .inl (0, 3600, .inl (gC σ 22)), .inl (0, 130, .inl (gC σ 23)), .inl (0, 13, .inl (gC σ 24)), .inl (0, 13, .inl (gC σ 25)), .inl (0, 13, .inl (gC σ 26)), .inl (0, 24, .inl (gC σ 27)), .inl (0, 480, .inl (gC σ 28)), .inl (0, 8, .inl (gC σ 29)), .inl (0, 8, .inl (gC σ 30))]
def enc (σ : St) : XH := en0 σ ++ (en1 σ ++ (en2 σ ++ (en3 σ ++ (en4 σ ++ (en5 σ ++ (en6 σ ++ (en7 σ ++ (en8 σ ++ (en9 σ ++ (en10 σ ++ ((List.range (gn σ)).map (fun i => gD σ (185 + i)))))))))))))
set_option maxRecDepth 100000 in
theorem eg_0 (σ : St) : (enc σ)[0]? = some (.inr (11, [.ref 1, .ref 3, .ref 82, .ref 131, .ref 134, .ref 139, .ref 144, .ref 150])) := rfl
set_option maxRecDepth 100000 in
theorem eg_1 (σ : St) : (enc σ)[1]? = some (.inr (10, [.ref 2, .int (gX σ 0), .int (gX σ 1), .int (gX σ 2), .int (gX σ 3)])) := rfl
set_option maxRecDepth 100000 in
theorem eg_2 (σ : St) : (enc σ)[2]? = some (.inl (0, 200, .inl (gA σ 0))) := rfl
set_option maxRecDepth 100000 in
theorem eg_3 (σ : St) : (enc σ)[3]? = some (.inr (6, [.ref 4, .ref 5, .ref 6, .ref 27, .ref 48, .ref 49, .int (gX σ 4), .int (gX σ 5), .int (gX σ 6), .int (gX σ 7), .int (gX σ 8)])) := rfl
set_option maxRecDepth 100000 in
theorem eg_4 (σ : St) : (enc σ)[4]? = some (.inl (0, 20, .inl (gA σ 1))) := rfl
set_option maxRecDepth 100000 in
theorem eg_5 (σ : St) : (enc σ)[5]? = some (.inl (0, 20, .inl (gA σ 2))) := rfl
set_option maxRecDepth 100000 in
theorem eg_6 (σ : St) : (enc σ)[6]? = some (.inl (2, 20, .inr (.inr (.inr (.inr (xri 20 7)))))) := rfl
set_option maxRecDepth 100000 in
theorem eg_27 (σ : St) : (enc σ)[27]? = some (.inl (2, 20, .inr (.inr (.inr (.inr (xri 20 28)))))) := rfl
set_option maxRecDepth 100000 in
theorem eg_48 (σ : St) : (enc σ)[48]? = some (.inl (1, 20, .inl (gA σ 3))) := rfl
set_option maxRecDepth 100000 in
theorem eg_49 (σ : St) : (enc σ)[49]? = some (.inr (2, [.ref 50, va_rf (xrw 7 (gN σ)), .int (gX σ 9), .int (gX σ 10)])) := rfl
set_option maxRecDepth 100000 in
theorem eg_50 (σ : St) : (enc σ)[50]? = some (.inl (2, 31, .inr (.inr (.inr (.inr (xri 31 51)))))) := rfl
set_option maxRecDepth 100000 in
theorem eg_82 (σ : St) : (enc σ)[82]? = some (.inr (8, [.ref 83, .ref 105, .ref 106, .ref 107, .ref 128, .ref 129, .ref 130, .int (gX σ 11), .int (gX σ 12)])) := rfl
set_option maxRecDepth 100000 in
theorem eg_83 (σ : St) : (enc σ)[83]? = some (.inl (2, 21, .inr (.inr (.inr (.inr (xri 21 84)))))) := rfl
set_option maxRecDepth 100000 in
theorem eg_105 (σ : St) : (enc σ)[105]? = some (.inl (0, 21, .inl (gA σ 4))) := rfl
set_option maxRecDepth 100000 in
theorem eg_106 (σ : St) : (enc σ)[106]? = some (.inl (0, 121, .inl (gA σ 5))) := rfl
set_option maxRecDepth 100000 in
theorem eg_107 (σ : St) : (enc σ)[107]? = some (.inl (2, 20, .inr (.inr (.inr (.inr (xri 20 108)))))) := rfl
set_option maxRecDepth 100000 in
theorem eg_128 (σ : St) : (enc σ)[128]? = some (.inl (0, 120, .inl (gA σ 6))) := rfl
set_option maxRecDepth 100000 in
theorem eg_129 (σ : St) : (enc σ)[129]? = some (.inl (0, 120, .inl (gA σ 7))) := rfl
set_option maxRecDepth 100000 in
theorem eg_130 (σ : St) : (enc σ)[130]? = some (.inl (0, 120, .inl (gA σ 8))) := rfl
set_option maxRecDepth 100000 in
theorem eg_131 (σ : St) : (enc σ)[131]? = some (.inr (7, [.ref 132, .ref 133, .int (gX σ 13), .int (gX σ 14)])) := rfl
set_option maxRecDepth 100000 in
theorem eg_132 (σ : St) : (enc σ)[132]? = some (.inl (0, 24, .inl (gA σ 9))) := rfl
set_option maxRecDepth 100000 in
theorem eg_133 (σ : St) : (enc σ)[133]? = some (.inl (0, 24, .inl (gA σ 10))) := rfl
set_option maxRecDepth 100000 in
theorem eg_134 (σ : St) : (enc σ)[134]? = some (.inr (4, [.ref 135, .ref 136, .ref 137, .ref (gf σ), .int (gX σ 15), .int (gX σ 16)])) := rfl
set_option maxRecDepth 100000 in
theorem eg_135 (σ : St) : (enc σ)[135]? = some (.inl (3, 60, .inr (.inr (.inr (.inr (gF σ)))))) := rfl
set_option maxRecDepth 100000 in
theorem eg_136 (σ : St) : (enc σ)[136]? = some (.inl (0, 1770, .inl (gA σ 11))) := rfl
set_option maxRecDepth 100000 in
theorem eg_137 (σ : St) : (enc σ)[137]? = some (.inl (0, 1770, .inl (gA σ 12))) := rfl
set_option maxRecDepth 100000 in
theorem eg_138 (σ : St) : (enc σ)[138]? = some (gD σ 138) := rfl
set_option maxRecDepth 100000 in
theorem eg_139 (σ : St) : (enc σ)[139]? = some (.inr (1, [.ref 140, .ref (gg σ), .int (gX σ 17)])) := rfl
set_option maxRecDepth 100000 in
theorem eg_140 (σ : St) : (enc σ)[140]? = some (.inl (4, 12, .inr (.inr (.inr (.inr (gG σ)))))) := rfl
set_option maxRecDepth 100000 in
theorem eg_141 (σ : St) : (enc σ)[141]? = some (gD σ 141) := rfl
set_option maxRecDepth 100000 in
theorem eg_142 (σ : St) : (enc σ)[142]? = some (gD σ 142) := rfl
set_option maxRecDepth 100000 in
theorem eg_143 (σ : St) : (enc σ)[143]? = some (gD σ 143) := rfl
set_option maxRecDepth 100000 in
theorem eg_144 (σ : St) : (enc σ)[144]? = some (.inr (9, [.ref 145, .ref 146, .ref 147, .ref 148, .ref 149, .int (gX σ 18), .int (gX σ 19), .int (gX σ 20), .int (gX σ 21), .long (gP σ)])) := rfl
set_option maxRecDepth 100000 in
theorem eg_145 (σ : St) : (enc σ)[145]? = some (.inl (0, 96, .inl (gA σ 13))) := rfl
set_option maxRecDepth 100000 in
theorem eg_146 (σ : St) : (enc σ)[146]? = some (.inl (0, 96, .inl (gA σ 14))) := rfl
set_option maxRecDepth 100000 in
theorem eg_147 (σ : St) : (enc σ)[147]? = some (.inl (0, 96, .inl (gA σ 15))) := rfl
set_option maxRecDepth 100000 in
theorem eg_148 (σ : St) : (enc σ)[148]? = some (.inl (0, 96, .inl (gA σ 16))) := rfl
set_option maxRecDepth 100000 in
theorem eg_149 (σ : St) : (enc σ)[149]? = some (.inl (1, 96, .inl (gA σ 17))) := rfl
set_option maxRecDepth 100000 in
theorem eg_150 (σ : St) : (enc σ)[150]? = some (.inr (5, [.ref 151, .ref 152, .int (gX σ 22)])) := rfl
set_option maxRecDepth 100000 in
theorem eg_151 (σ : St) : (enc σ)[151]? = some (.inl (0, 8, .inl (gA σ 18))) := rfl
set_option maxRecDepth 100000 in
theorem eg_152 (σ : St) : (enc σ)[152]? = some (.inl (0, 8, .inl (gA σ 19))) := rfl
set_option maxRecDepth 100000 in
theorem eg_153 (σ : St) : (enc σ)[153]? = some (.inr (12, [.ref 154, .int (gY σ 0), .int (gY σ 1), .ref 155, .ref 156, .ref 157, .int (gY σ 2), .int (gY σ 3), .int (gY σ 4), .int (gY σ 5), .ref 158, .ref 159, .ref 160, .int (gY σ 6), .ref 161, .ref 162, .ref 163, .ref 164, .ref 165, .ref 166, .ref 167, .int (gY σ 7), .int (gY σ 8), .int (gY σ 9), .int (gY σ 10), .int (gY σ 11), .ref 168, .ref 169, .ref 170, .ref 171, .ref 172, .ref 173, .ref 174, .ref 175, .ref 176, .int (gY σ 12), .int (gY σ 13), .ref 177, .ref 178, .ref 179, .ref 180, .int (gY σ 14), .ref 181, .ref 182, .int (gY σ 15), .int (gY σ 16), .int (gY σ 17), .int (gY σ 18), .long (gQ σ), .int (gY σ 19), .ref 183, .ref 184])) := rfl
set_option maxRecDepth 100000 in
theorem eg_154 (σ : St) : (enc σ)[154]? = some (.inl (0, 200, .inl (gC σ 0))) := rfl
set_option maxRecDepth 100000 in
theorem eg_155 (σ : St) : (enc σ)[155]? = some (.inl (0, 20, .inl (gC σ 1))) := rfl
set_option maxRecDepth 100000 in
theorem eg_156 (σ : St) : (enc σ)[156]? = some (.inl (0, 20, .inl (gC σ 2))) := rfl
set_option maxRecDepth 100000 in
theorem eg_157 (σ : St) : (enc σ)[157]? = some (.inl (0, 600, .inl (gC σ 3))) := rfl
set_option maxRecDepth 100000 in
theorem eg_158 (σ : St) : (enc σ)[158]? = some (.inl (0, 961, .inl (gC σ 4))) := rfl
set_option maxRecDepth 100000 in
theorem eg_159 (σ : St) : (enc σ)[159]? = some (.inl (0, 620, .inl (gC σ 5))) := rfl
set_option maxRecDepth 100000 in
theorem eg_160 (σ : St) : (enc σ)[160]? = some (.inl (0, 5082, .inl (gC σ 6))) := rfl
set_option maxRecDepth 100000 in
theorem eg_161 (σ : St) : (enc σ)[161]? = some (.inl (1, 20, .inl (gC σ 7))) := rfl
set_option maxRecDepth 100000 in
theorem eg_162 (σ : St) : (enc σ)[162]? = some (.inl (0, 20, .inl (gC σ 8))) := rfl
set_option maxRecDepth 100000 in
theorem eg_163 (σ : St) : (enc σ)[163]? = some (.inl (0, 20, .inl (gC σ 9))) := rfl
set_option maxRecDepth 100000 in
theorem eg_164 (σ : St) : (enc σ)[164]? = some (.inl (0, 20, .inl (gC σ 10))) := rfl
set_option maxRecDepth 100000 in
theorem eg_165 (σ : St) : (enc σ)[165]? = some (.inl (0, 120, .inl (gC σ 11))) := rfl
set_option maxRecDepth 100000 in
theorem eg_166 (σ : St) : (enc σ)[166]? = some (.inl (0, 120, .inl (gC σ 12))) := rfl
set_option maxRecDepth 100000 in
theorem eg_167 (σ : St) : (enc σ)[167]? = some (.inl (0, 120, .inl (gC σ 13))) := rfl
set_option maxRecDepth 100000 in
theorem eg_168 (σ : St) : (enc σ)[168]? = some (.inl (0, 1220, .inl (gC σ 14))) := rfl
set_option maxRecDepth 100000 in
theorem eg_169 (σ : St) : (enc σ)[169]? = some (.inl (0, 122, .inl (gC σ 15))) := rfl
set_option maxRecDepth 100000 in
theorem eg_170 (σ : St) : (enc σ)[170]? = some (.inl (0, 61, .inl (gC σ 16))) := rfl
set_option maxRecDepth 100000 in
theorem eg_171 (σ : St) : (enc σ)[171]? = some (.inl (0, 61, .inl (gC σ 17))) := rfl
set_option maxRecDepth 100000 in
theorem eg_172 (σ : St) : (enc σ)[172]? = some (.inl (0, 61, .inl (gC σ 18))) := rfl
set_option maxRecDepth 100000 in
theorem eg_173 (σ : St) : (enc σ)[173]? = some (.inl (0, 61, .inl (gC σ 19))) := rfl
set_option maxRecDepth 100000 in
theorem eg_174 (σ : St) : (enc σ)[174]? = some (.inl (0, 61, .inl (gC σ 20))) := rfl
set_option maxRecDepth 100000 in
theorem eg_175 (σ : St) : (enc σ)[175]? = some (.inl (0, 24, .inl (gC σ 21))) := rfl
set_option maxRecDepth 100000 in
theorem eg_176 (σ : St) : (enc σ)[176]? = some (.inl (0, 3600, .inl (gC σ 22))) := rfl
set_option maxRecDepth 100000 in
theorem eg_177 (σ : St) : (enc σ)[177]? = some (.inl (0, 130, .inl (gC σ 23))) := rfl
set_option maxRecDepth 100000 in
theorem eg_178 (σ : St) : (enc σ)[178]? = some (.inl (0, 13, .inl (gC σ 24))) := rfl
set_option maxRecDepth 100000 in
theorem eg_179 (σ : St) : (enc σ)[179]? = some (.inl (0, 13, .inl (gC σ 25))) := rfl
set_option maxRecDepth 100000 in
theorem eg_180 (σ : St) : (enc σ)[180]? = some (.inl (0, 13, .inl (gC σ 26))) := rfl
set_option maxRecDepth 100000 in
theorem eg_181 (σ : St) : (enc σ)[181]? = some (.inl (0, 24, .inl (gC σ 27))) := rfl
set_option maxRecDepth 100000 in
theorem eg_182 (σ : St) : (enc σ)[182]? = some (.inl (0, 480, .inl (gC σ 28))) := rfl
set_option maxRecDepth 100000 in
theorem eg_183 (σ : St) : (enc σ)[183]? = some (.inl (0, 8, .inl (gC σ 29))) := rfl
set_option maxRecDepth 100000 in
theorem eg_184 (σ : St) : (enc σ)[184]? = some (.inl (0, 8, .inl (gC σ 30))) := rfl
set_option maxRecDepth 100000 in
theorem es_1_1 (σ : St) (v : Int32) : (enc σ).set 1 (.inr (10, [.ref 2, .int v, .int (gX σ 1), .int (gX σ 2), .int (gX σ 3)])) = enc (sX σ 0 v) := rfl
set_option maxRecDepth 100000 in
theorem es_1_2 (σ : St) (v : Int32) : (enc σ).set 1 (.inr (10, [.ref 2, .int (gX σ 0), .int v, .int (gX σ 2), .int (gX σ 3)])) = enc (sX σ 1 v) := rfl
set_option maxRecDepth 100000 in
theorem es_1_3 (σ : St) (v : Int32) : (enc σ).set 1 (.inr (10, [.ref 2, .int (gX σ 0), .int (gX σ 1), .int v, .int (gX σ 3)])) = enc (sX σ 2 v) := rfl
set_option maxRecDepth 100000 in
theorem es_1_4 (σ : St) (v : Int32) : (enc σ).set 1 (.inr (10, [.ref 2, .int (gX σ 0), .int (gX σ 1), .int (gX σ 2), .int v])) = enc (sX σ 3 v) := rfl
set_option maxRecDepth 100000 in
theorem es_2 (σ : St) (f : Nat → Int32) : (enc σ).set 2 (.inl (0, 200, .inl f)) = enc (sA σ 0 f) := rfl
set_option maxRecDepth 100000 in
theorem es_3_6 (σ : St) (v : Int32) : (enc σ).set 3 (.inr (6, [.ref 4, .ref 5, .ref 6, .ref 27, .ref 48, .ref 49, .int v, .int (gX σ 5), .int (gX σ 6), .int (gX σ 7), .int (gX σ 8)])) = enc (sX σ 4 v) := rfl
set_option maxRecDepth 100000 in
theorem es_3_7 (σ : St) (v : Int32) : (enc σ).set 3 (.inr (6, [.ref 4, .ref 5, .ref 6, .ref 27, .ref 48, .ref 49, .int (gX σ 4), .int v, .int (gX σ 6), .int (gX σ 7), .int (gX σ 8)])) = enc (sX σ 5 v) := rfl
set_option maxRecDepth 100000 in
theorem es_3_8 (σ : St) (v : Int32) : (enc σ).set 3 (.inr (6, [.ref 4, .ref 5, .ref 6, .ref 27, .ref 48, .ref 49, .int (gX σ 4), .int (gX σ 5), .int v, .int (gX σ 7), .int (gX σ 8)])) = enc (sX σ 6 v) := rfl
set_option maxRecDepth 100000 in
theorem es_3_9 (σ : St) (v : Int32) : (enc σ).set 3 (.inr (6, [.ref 4, .ref 5, .ref 6, .ref 27, .ref 48, .ref 49, .int (gX σ 4), .int (gX σ 5), .int (gX σ 6), .int v, .int (gX σ 8)])) = enc (sX σ 7 v) := rfl
set_option maxRecDepth 100000 in
theorem es_3_10 (σ : St) (v : Int32) : (enc σ).set 3 (.inr (6, [.ref 4, .ref 5, .ref 6, .ref 27, .ref 48, .ref 49, .int (gX σ 4), .int (gX σ 5), .int (gX σ 6), .int (gX σ 7), .int v])) = enc (sX σ 8 v) := rfl
set_option maxRecDepth 100000 in
theorem es_4 (σ : St) (f : Nat → Int32) : (enc σ).set 4 (.inl (0, 20, .inl f)) = enc (sA σ 1 f) := rfl
set_option maxRecDepth 100000 in
theorem es_5 (σ : St) (f : Nat → Int32) : (enc σ).set 5 (.inl (0, 20, .inl f)) = enc (sA σ 2 f) := rfl
set_option maxRecDepth 100000 in
theorem es_48 (σ : St) (f : Nat → Int32) : (enc σ).set 48 (.inl (1, 20, .inl f)) = enc (sA σ 3 f) := rfl
set_option maxRecDepth 100000 in
theorem es_49_1 (σ : St) (v : Option Nat) : (enc σ).set 49 (.inr (2, [.ref 50, va_rf (xrw 7 v), .int (gX σ 9), .int (gX σ 10)])) = enc (sN σ v) := rfl
set_option maxRecDepth 100000 in
theorem es_49_2 (σ : St) (v : Int32) : (enc σ).set 49 (.inr (2, [.ref 50, va_rf (xrw 7 (gN σ)), .int v, .int (gX σ 10)])) = enc (sX σ 9 v) := rfl
set_option maxRecDepth 100000 in
theorem es_49_3 (σ : St) (v : Int32) : (enc σ).set 49 (.inr (2, [.ref 50, va_rf (xrw 7 (gN σ)), .int (gX σ 9), .int v])) = enc (sX σ 10 v) := rfl
set_option maxRecDepth 100000 in
theorem es_82_7 (σ : St) (v : Int32) : (enc σ).set 82 (.inr (8, [.ref 83, .ref 105, .ref 106, .ref 107, .ref 128, .ref 129, .ref 130, .int v, .int (gX σ 12)])) = enc (sX σ 11 v) := rfl
set_option maxRecDepth 100000 in
theorem es_82_8 (σ : St) (v : Int32) : (enc σ).set 82 (.inr (8, [.ref 83, .ref 105, .ref 106, .ref 107, .ref 128, .ref 129, .ref 130, .int (gX σ 11), .int v])) = enc (sX σ 12 v) := rfl
set_option maxRecDepth 100000 in
theorem es_105 (σ : St) (f : Nat → Int32) : (enc σ).set 105 (.inl (0, 21, .inl f)) = enc (sA σ 4 f) := rfl
set_option maxRecDepth 100000 in
theorem es_106 (σ : St) (f : Nat → Int32) : (enc σ).set 106 (.inl (0, 121, .inl f)) = enc (sA σ 5 f) := rfl
set_option maxRecDepth 100000 in
theorem es_128 (σ : St) (f : Nat → Int32) : (enc σ).set 128 (.inl (0, 120, .inl f)) = enc (sA σ 6 f) := rfl
set_option maxRecDepth 100000 in
theorem es_129 (σ : St) (f : Nat → Int32) : (enc σ).set 129 (.inl (0, 120, .inl f)) = enc (sA σ 7 f) := rfl
set_option maxRecDepth 100000 in
theorem es_130 (σ : St) (f : Nat → Int32) : (enc σ).set 130 (.inl (0, 120, .inl f)) = enc (sA σ 8 f) := rfl
set_option maxRecDepth 100000 in
theorem es_131_2 (σ : St) (v : Int32) : (enc σ).set 131 (.inr (7, [.ref 132, .ref 133, .int v, .int (gX σ 14)])) = enc (sX σ 13 v) := rfl
set_option maxRecDepth 100000 in
theorem es_131_3 (σ : St) (v : Int32) : (enc σ).set 131 (.inr (7, [.ref 132, .ref 133, .int (gX σ 13), .int v])) = enc (sX σ 14 v) := rfl
set_option maxRecDepth 100000 in
theorem es_132 (σ : St) (f : Nat → Int32) : (enc σ).set 132 (.inl (0, 24, .inl f)) = enc (sA σ 9 f) := rfl
set_option maxRecDepth 100000 in
theorem es_133 (σ : St) (f : Nat → Int32) : (enc σ).set 133 (.inl (0, 24, .inl f)) = enc (sA σ 10 f) := rfl
set_option maxRecDepth 100000 in
theorem es_134_3 (σ : St) (v : Nat) : (enc σ).set 134 (.inr (4, [.ref 135, .ref 136, .ref 137, .ref v, .int (gX σ 15), .int (gX σ 16)])) = enc (sf σ v) := rfl
set_option maxRecDepth 100000 in
theorem es_134_4 (σ : St) (v : Int32) : (enc σ).set 134 (.inr (4, [.ref 135, .ref 136, .ref 137, .ref (gf σ), .int v, .int (gX σ 16)])) = enc (sX σ 15 v) := rfl
set_option maxRecDepth 100000 in
theorem es_134_5 (σ : St) (v : Int32) : (enc σ).set 134 (.inr (4, [.ref 135, .ref 136, .ref 137, .ref (gf σ), .int (gX σ 15), .int v])) = enc (sX σ 16 v) := rfl
set_option maxRecDepth 100000 in
theorem es_135 (σ : St) (f : Nat → Option Nat) : (enc σ).set 135 (.inl (3, 60, .inr (.inr (.inr (.inr f))))) = enc (sF σ f) := rfl
set_option maxRecDepth 100000 in
theorem es_136 (σ : St) (f : Nat → Int32) : (enc σ).set 136 (.inl (0, 1770, .inl f)) = enc (sA σ 11 f) := rfl
set_option maxRecDepth 100000 in
theorem es_137 (σ : St) (f : Nat → Int32) : (enc σ).set 137 (.inl (0, 1770, .inl f)) = enc (sA σ 12 f) := rfl
set_option maxRecDepth 100000 in
theorem es_139_1 (σ : St) (v : Nat) : (enc σ).set 139 (.inr (1, [.ref 140, .ref v, .int (gX σ 17)])) = enc (sg σ v) := rfl
set_option maxRecDepth 100000 in
theorem es_139_2 (σ : St) (v : Int32) : (enc σ).set 139 (.inr (1, [.ref 140, .ref (gg σ), .int v])) = enc (sX σ 17 v) := rfl
set_option maxRecDepth 100000 in
theorem es_140 (σ : St) (f : Nat → Option Nat) : (enc σ).set 140 (.inl (4, 12, .inr (.inr (.inr (.inr f))))) = enc (sG σ f) := rfl
set_option maxRecDepth 100000 in
theorem es_144_5 (σ : St) (v : Int32) : (enc σ).set 144 (.inr (9, [.ref 145, .ref 146, .ref 147, .ref 148, .ref 149, .int v, .int (gX σ 19), .int (gX σ 20), .int (gX σ 21), .long (gP σ)])) = enc (sX σ 18 v) := rfl
set_option maxRecDepth 100000 in
theorem es_144_6 (σ : St) (v : Int32) : (enc σ).set 144 (.inr (9, [.ref 145, .ref 146, .ref 147, .ref 148, .ref 149, .int (gX σ 18), .int v, .int (gX σ 20), .int (gX σ 21), .long (gP σ)])) = enc (sX σ 19 v) := rfl
set_option maxRecDepth 100000 in
theorem es_144_7 (σ : St) (v : Int32) : (enc σ).set 144 (.inr (9, [.ref 145, .ref 146, .ref 147, .ref 148, .ref 149, .int (gX σ 18), .int (gX σ 19), .int v, .int (gX σ 21), .long (gP σ)])) = enc (sX σ 20 v) := rfl
set_option maxRecDepth 100000 in
theorem es_144_8 (σ : St) (v : Int32) : (enc σ).set 144 (.inr (9, [.ref 145, .ref 146, .ref 147, .ref 148, .ref 149, .int (gX σ 18), .int (gX σ 19), .int (gX σ 20), .int v, .long (gP σ)])) = enc (sX σ 21 v) := rfl
set_option maxRecDepth 100000 in
theorem es_144_9 (σ : St) (v : Int64) : (enc σ).set 144 (.inr (9, [.ref 145, .ref 146, .ref 147, .ref 148, .ref 149, .int (gX σ 18), .int (gX σ 19), .int (gX σ 20), .int (gX σ 21), .long v])) = enc (sP σ v) := rfl
set_option maxRecDepth 100000 in
theorem es_145 (σ : St) (f : Nat → Int32) : (enc σ).set 145 (.inl (0, 96, .inl f)) = enc (sA σ 13 f) := rfl
set_option maxRecDepth 100000 in
theorem es_146 (σ : St) (f : Nat → Int32) : (enc σ).set 146 (.inl (0, 96, .inl f)) = enc (sA σ 14 f) := rfl
set_option maxRecDepth 100000 in
theorem es_147 (σ : St) (f : Nat → Int32) : (enc σ).set 147 (.inl (0, 96, .inl f)) = enc (sA σ 15 f) := rfl
set_option maxRecDepth 100000 in
theorem es_148 (σ : St) (f : Nat → Int32) : (enc σ).set 148 (.inl (0, 96, .inl f)) = enc (sA σ 16 f) := rfl
set_option maxRecDepth 100000 in
theorem es_149 (σ : St) (f : Nat → Int32) : (enc σ).set 149 (.inl (1, 96, .inl f)) = enc (sA σ 17 f) := rfl
set_option maxRecDepth 100000 in
theorem es_150_2 (σ : St) (v : Int32) : (enc σ).set 150 (.inr (5, [.ref 151, .ref 152, .int v])) = enc (sX σ 22 v) := rfl
set_option maxRecDepth 100000 in
theorem es_151 (σ : St) (f : Nat → Int32) : (enc σ).set 151 (.inl (0, 8, .inl f)) = enc (sA σ 18 f) := rfl
set_option maxRecDepth 100000 in
theorem es_152 (σ : St) (f : Nat → Int32) : (enc σ).set 152 (.inl (0, 8, .inl f)) = enc (sA σ 19 f) := rfl
set_option maxRecDepth 100000 in
theorem es_153_1 (σ : St) (v : Int32) : (enc σ).set 153 (.inr (12, [.ref 154, .int v, .int (gY σ 1), .ref 155, .ref 156, .ref 157, .int (gY σ 2), .int (gY σ 3), .int (gY σ 4), .int (gY σ 5), .ref 158, .ref 159, .ref 160, .int (gY σ 6), .ref 161, .ref 162, .ref 163, .ref 164, .ref 165, .ref 166, .ref 167, .int (gY σ 7), .int (gY σ 8), .int (gY σ 9), .int (gY σ 10), .int (gY σ 11), .ref 168, .ref 169, .ref 170, .ref 171, .ref 172, .ref 173, .ref 174, .ref 175, .ref 176, .int (gY σ 12), .int (gY σ 13), .ref 177, .ref 178, .ref 179, .ref 180, .int (gY σ 14), .ref 181, .ref 182, .int (gY σ 15), .int (gY σ 16), .int (gY σ 17), .int (gY σ 18), .long (gQ σ), .int (gY σ 19), .ref 183, .ref 184])) = enc (sY σ 0 v) := rfl
set_option maxRecDepth 100000 in
theorem es_153_2 (σ : St) (v : Int32) : (enc σ).set 153 (.inr (12, [.ref 154, .int (gY σ 0), .int v, .ref 155, .ref 156, .ref 157, .int (gY σ 2), .int (gY σ 3), .int (gY σ 4), .int (gY σ 5), .ref 158, .ref 159, .ref 160, .int (gY σ 6), .ref 161, .ref 162, .ref 163, .ref 164, .ref 165, .ref 166, .ref 167, .int (gY σ 7), .int (gY σ 8), .int (gY σ 9), .int (gY σ 10), .int (gY σ 11), .ref 168, .ref 169, .ref 170, .ref 171, .ref 172, .ref 173, .ref 174, .ref 175, .ref 176, .int (gY σ 12), .int (gY σ 13), .ref 177, .ref 178, .ref 179, .ref 180, .int (gY σ 14), .ref 181, .ref 182, .int (gY σ 15), .int (gY σ 16), .int (gY σ 17), .int (gY σ 18), .long (gQ σ), .int (gY σ 19), .ref 183, .ref 184])) = enc (sY σ 1 v) := rfl
set_option maxRecDepth 100000 in
theorem es_153_6 (σ : St) (v : Int32) : (enc σ).set 153 (.inr (12, [.ref 154, .int (gY σ 0), .int (gY σ 1), .ref 155, .ref 156, .ref 157, .int v, .int (gY σ 3), .int (gY σ 4), .int (gY σ 5), .ref 158, .ref 159, .ref 160, .int (gY σ 6), .ref 161, .ref 162, .ref 163, .ref 164, .ref 165, .ref 166, .ref 167, .int (gY σ 7), .int (gY σ 8), .int (gY σ 9), .int (gY σ 10), .int (gY σ 11), .ref 168, .ref 169, .ref 170, .ref 171, .ref 172, .ref 173, .ref 174, .ref 175, .ref 176, .int (gY σ 12), .int (gY σ 13), .ref 177, .ref 178, .ref 179, .ref 180, .int (gY σ 14), .ref 181, .ref 182, .int (gY σ 15), .int (gY σ 16), .int (gY σ 17), .int (gY σ 18), .long (gQ σ), .int (gY σ 19), .ref 183, .ref 184])) = enc (sY σ 2 v) := rfl
set_option maxRecDepth 100000 in
theorem es_153_7 (σ : St) (v : Int32) : (enc σ).set 153 (.inr (12, [.ref 154, .int (gY σ 0), .int (gY σ 1), .ref 155, .ref 156, .ref 157, .int (gY σ 2), .int v, .int (gY σ 4), .int (gY σ 5), .ref 158, .ref 159, .ref 160, .int (gY σ 6), .ref 161, .ref 162, .ref 163, .ref 164, .ref 165, .ref 166, .ref 167, .int (gY σ 7), .int (gY σ 8), .int (gY σ 9), .int (gY σ 10), .int (gY σ 11), .ref 168, .ref 169, .ref 170, .ref 171, .ref 172, .ref 173, .ref 174, .ref 175, .ref 176, .int (gY σ 12), .int (gY σ 13), .ref 177, .ref 178, .ref 179, .ref 180, .int (gY σ 14), .ref 181, .ref 182, .int (gY σ 15), .int (gY σ 16), .int (gY σ 17), .int (gY σ 18), .long (gQ σ), .int (gY σ 19), .ref 183, .ref 184])) = enc (sY σ 3 v) := rfl
set_option maxRecDepth 100000 in
theorem es_153_8 (σ : St) (v : Int32) : (enc σ).set 153 (.inr (12, [.ref 154, .int (gY σ 0), .int (gY σ 1), .ref 155, .ref 156, .ref 157, .int (gY σ 2), .int (gY σ 3), .int v, .int (gY σ 5), .ref 158, .ref 159, .ref 160, .int (gY σ 6), .ref 161, .ref 162, .ref 163, .ref 164, .ref 165, .ref 166, .ref 167, .int (gY σ 7), .int (gY σ 8), .int (gY σ 9), .int (gY σ 10), .int (gY σ 11), .ref 168, .ref 169, .ref 170, .ref 171, .ref 172, .ref 173, .ref 174, .ref 175, .ref 176, .int (gY σ 12), .int (gY σ 13), .ref 177, .ref 178, .ref 179, .ref 180, .int (gY σ 14), .ref 181, .ref 182, .int (gY σ 15), .int (gY σ 16), .int (gY σ 17), .int (gY σ 18), .long (gQ σ), .int (gY σ 19), .ref 183, .ref 184])) = enc (sY σ 4 v) := rfl
set_option maxRecDepth 100000 in
theorem es_153_9 (σ : St) (v : Int32) : (enc σ).set 153 (.inr (12, [.ref 154, .int (gY σ 0), .int (gY σ 1), .ref 155, .ref 156, .ref 157, .int (gY σ 2), .int (gY σ 3), .int (gY σ 4), .int v, .ref 158, .ref 159, .ref 160, .int (gY σ 6), .ref 161, .ref 162, .ref 163, .ref 164, .ref 165, .ref 166, .ref 167, .int (gY σ 7), .int (gY σ 8), .int (gY σ 9), .int (gY σ 10), .int (gY σ 11), .ref 168, .ref 169, .ref 170, .ref 171, .ref 172, .ref 173, .ref 174, .ref 175, .ref 176, .int (gY σ 12), .int (gY σ 13), .ref 177, .ref 178, .ref 179, .ref 180, .int (gY σ 14), .ref 181, .ref 182, .int (gY σ 15), .int (gY σ 16), .int (gY σ 17), .int (gY σ 18), .long (gQ σ), .int (gY σ 19), .ref 183, .ref 184])) = enc (sY σ 5 v) := rfl
set_option maxRecDepth 100000 in
theorem es_153_13 (σ : St) (v : Int32) : (enc σ).set 153 (.inr (12, [.ref 154, .int (gY σ 0), .int (gY σ 1), .ref 155, .ref 156, .ref 157, .int (gY σ 2), .int (gY σ 3), .int (gY σ 4), .int (gY σ 5), .ref 158, .ref 159, .ref 160, .int v, .ref 161, .ref 162, .ref 163, .ref 164, .ref 165, .ref 166, .ref 167, .int (gY σ 7), .int (gY σ 8), .int (gY σ 9), .int (gY σ 10), .int (gY σ 11), .ref 168, .ref 169, .ref 170, .ref 171, .ref 172, .ref 173, .ref 174, .ref 175, .ref 176, .int (gY σ 12), .int (gY σ 13), .ref 177, .ref 178, .ref 179, .ref 180, .int (gY σ 14), .ref 181, .ref 182, .int (gY σ 15), .int (gY σ 16), .int (gY σ 17), .int (gY σ 18), .long (gQ σ), .int (gY σ 19), .ref 183, .ref 184])) = enc (sY σ 6 v) := rfl
set_option maxRecDepth 100000 in
theorem es_153_21 (σ : St) (v : Int32) : (enc σ).set 153 (.inr (12, [.ref 154, .int (gY σ 0), .int (gY σ 1), .ref 155, .ref 156, .ref 157, .int (gY σ 2), .int (gY σ 3), .int (gY σ 4), .int (gY σ 5), .ref 158, .ref 159, .ref 160, .int (gY σ 6), .ref 161, .ref 162, .ref 163, .ref 164, .ref 165, .ref 166, .ref 167, .int v, .int (gY σ 8), .int (gY σ 9), .int (gY σ 10), .int (gY σ 11), .ref 168, .ref 169, .ref 170, .ref 171, .ref 172, .ref 173, .ref 174, .ref 175, .ref 176, .int (gY σ 12), .int (gY σ 13), .ref 177, .ref 178, .ref 179, .ref 180, .int (gY σ 14), .ref 181, .ref 182, .int (gY σ 15), .int (gY σ 16), .int (gY σ 17), .int (gY σ 18), .long (gQ σ), .int (gY σ 19), .ref 183, .ref 184])) = enc (sY σ 7 v) := rfl
set_option maxRecDepth 100000 in
theorem es_153_22 (σ : St) (v : Int32) : (enc σ).set 153 (.inr (12, [.ref 154, .int (gY σ 0), .int (gY σ 1), .ref 155, .ref 156, .ref 157, .int (gY σ 2), .int (gY σ 3), .int (gY σ 4), .int (gY σ 5), .ref 158, .ref 159, .ref 160, .int (gY σ 6), .ref 161, .ref 162, .ref 163, .ref 164, .ref 165, .ref 166, .ref 167, .int (gY σ 7), .int v, .int (gY σ 9), .int (gY σ 10), .int (gY σ 11), .ref 168, .ref 169, .ref 170, .ref 171, .ref 172, .ref 173, .ref 174, .ref 175, .ref 176, .int (gY σ 12), .int (gY σ 13), .ref 177, .ref 178, .ref 179, .ref 180, .int (gY σ 14), .ref 181, .ref 182, .int (gY σ 15), .int (gY σ 16), .int (gY σ 17), .int (gY σ 18), .long (gQ σ), .int (gY σ 19), .ref 183, .ref 184])) = enc (sY σ 8 v) := rfl
set_option maxRecDepth 100000 in
theorem es_153_23 (σ : St) (v : Int32) : (enc σ).set 153 (.inr (12, [.ref 154, .int (gY σ 0), .int (gY σ 1), .ref 155, .ref 156, .ref 157, .int (gY σ 2), .int (gY σ 3), .int (gY σ 4), .int (gY σ 5), .ref 158, .ref 159, .ref 160, .int (gY σ 6), .ref 161, .ref 162, .ref 163, .ref 164, .ref 165, .ref 166, .ref 167, .int (gY σ 7), .int (gY σ 8), .int v, .int (gY σ 10), .int (gY σ 11), .ref 168, .ref 169, .ref 170, .ref 171, .ref 172, .ref 173, .ref 174, .ref 175, .ref 176, .int (gY σ 12), .int (gY σ 13), .ref 177, .ref 178, .ref 179, .ref 180, .int (gY σ 14), .ref 181, .ref 182, .int (gY σ 15), .int (gY σ 16), .int (gY σ 17), .int (gY σ 18), .long (gQ σ), .int (gY σ 19), .ref 183, .ref 184])) = enc (sY σ 9 v) := rfl
set_option maxRecDepth 100000 in
theorem es_153_24 (σ : St) (v : Int32) : (enc σ).set 153 (.inr (12, [.ref 154, .int (gY σ 0), .int (gY σ 1), .ref 155, .ref 156, .ref 157, .int (gY σ 2), .int (gY σ 3), .int (gY σ 4), .int (gY σ 5), .ref 158, .ref 159, .ref 160, .int (gY σ 6), .ref 161, .ref 162, .ref 163, .ref 164, .ref 165, .ref 166, .ref 167, .int (gY σ 7), .int (gY σ 8), .int (gY σ 9), .int v, .int (gY σ 11), .ref 168, .ref 169, .ref 170, .ref 171, .ref 172, .ref 173, .ref 174, .ref 175, .ref 176, .int (gY σ 12), .int (gY σ 13), .ref 177, .ref 178, .ref 179, .ref 180, .int (gY σ 14), .ref 181, .ref 182, .int (gY σ 15), .int (gY σ 16), .int (gY σ 17), .int (gY σ 18), .long (gQ σ), .int (gY σ 19), .ref 183, .ref 184])) = enc (sY σ 10 v) := rfl
set_option maxRecDepth 100000 in
theorem es_153_25 (σ : St) (v : Int32) : (enc σ).set 153 (.inr (12, [.ref 154, .int (gY σ 0), .int (gY σ 1), .ref 155, .ref 156, .ref 157, .int (gY σ 2), .int (gY σ 3), .int (gY σ 4), .int (gY σ 5), .ref 158, .ref 159, .ref 160, .int (gY σ 6), .ref 161, .ref 162, .ref 163, .ref 164, .ref 165, .ref 166, .ref 167, .int (gY σ 7), .int (gY σ 8), .int (gY σ 9), .int (gY σ 10), .int v, .ref 168, .ref 169, .ref 170, .ref 171, .ref 172, .ref 173, .ref 174, .ref 175, .ref 176, .int (gY σ 12), .int (gY σ 13), .ref 177, .ref 178, .ref 179, .ref 180, .int (gY σ 14), .ref 181, .ref 182, .int (gY σ 15), .int (gY σ 16), .int (gY σ 17), .int (gY σ 18), .long (gQ σ), .int (gY σ 19), .ref 183, .ref 184])) = enc (sY σ 11 v) := rfl
set_option maxRecDepth 100000 in
theorem es_153_35 (σ : St) (v : Int32) : (enc σ).set 153 (.inr (12, [.ref 154, .int (gY σ 0), .int (gY σ 1), .ref 155, .ref 156, .ref 157, .int (gY σ 2), .int (gY σ 3), .int (gY σ 4), .int (gY σ 5), .ref 158, .ref 159, .ref 160, .int (gY σ 6), .ref 161, .ref 162, .ref 163, .ref 164, .ref 165, .ref 166, .ref 167, .int (gY σ 7), .int (gY σ 8), .int (gY σ 9), .int (gY σ 10), .int (gY σ 11), .ref 168, .ref 169, .ref 170, .ref 171, .ref 172, .ref 173, .ref 174, .ref 175, .ref 176, .int v, .int (gY σ 13), .ref 177, .ref 178, .ref 179, .ref 180, .int (gY σ 14), .ref 181, .ref 182, .int (gY σ 15), .int (gY σ 16), .int (gY σ 17), .int (gY σ 18), .long (gQ σ), .int (gY σ 19), .ref 183, .ref 184])) = enc (sY σ 12 v) := rfl
set_option maxRecDepth 100000 in
theorem es_153_36 (σ : St) (v : Int32) : (enc σ).set 153 (.inr (12, [.ref 154, .int (gY σ 0), .int (gY σ 1), .ref 155, .ref 156, .ref 157, .int (gY σ 2), .int (gY σ 3), .int (gY σ 4), .int (gY σ 5), .ref 158, .ref 159, .ref 160, .int (gY σ 6), .ref 161, .ref 162, .ref 163, .ref 164, .ref 165, .ref 166, .ref 167, .int (gY σ 7), .int (gY σ 8), .int (gY σ 9), .int (gY σ 10), .int (gY σ 11), .ref 168, .ref 169, .ref 170, .ref 171, .ref 172, .ref 173, .ref 174, .ref 175, .ref 176, .int (gY σ 12), .int v, .ref 177, .ref 178, .ref 179, .ref 180, .int (gY σ 14), .ref 181, .ref 182, .int (gY σ 15), .int (gY σ 16), .int (gY σ 17), .int (gY σ 18), .long (gQ σ), .int (gY σ 19), .ref 183, .ref 184])) = enc (sY σ 13 v) := rfl
set_option maxRecDepth 100000 in
theorem es_153_41 (σ : St) (v : Int32) : (enc σ).set 153 (.inr (12, [.ref 154, .int (gY σ 0), .int (gY σ 1), .ref 155, .ref 156, .ref 157, .int (gY σ 2), .int (gY σ 3), .int (gY σ 4), .int (gY σ 5), .ref 158, .ref 159, .ref 160, .int (gY σ 6), .ref 161, .ref 162, .ref 163, .ref 164, .ref 165, .ref 166, .ref 167, .int (gY σ 7), .int (gY σ 8), .int (gY σ 9), .int (gY σ 10), .int (gY σ 11), .ref 168, .ref 169, .ref 170, .ref 171, .ref 172, .ref 173, .ref 174, .ref 175, .ref 176, .int (gY σ 12), .int (gY σ 13), .ref 177, .ref 178, .ref 179, .ref 180, .int v, .ref 181, .ref 182, .int (gY σ 15), .int (gY σ 16), .int (gY σ 17), .int (gY σ 18), .long (gQ σ), .int (gY σ 19), .ref 183, .ref 184])) = enc (sY σ 14 v) := rfl
set_option maxRecDepth 100000 in
theorem es_153_44 (σ : St) (v : Int32) : (enc σ).set 153 (.inr (12, [.ref 154, .int (gY σ 0), .int (gY σ 1), .ref 155, .ref 156, .ref 157, .int (gY σ 2), .int (gY σ 3), .int (gY σ 4), .int (gY σ 5), .ref 158, .ref 159, .ref 160, .int (gY σ 6), .ref 161, .ref 162, .ref 163, .ref 164, .ref 165, .ref 166, .ref 167, .int (gY σ 7), .int (gY σ 8), .int (gY σ 9), .int (gY σ 10), .int (gY σ 11), .ref 168, .ref 169, .ref 170, .ref 171, .ref 172, .ref 173, .ref 174, .ref 175, .ref 176, .int (gY σ 12), .int (gY σ 13), .ref 177, .ref 178, .ref 179, .ref 180, .int (gY σ 14), .ref 181, .ref 182, .int v, .int (gY σ 16), .int (gY σ 17), .int (gY σ 18), .long (gQ σ), .int (gY σ 19), .ref 183, .ref 184])) = enc (sY σ 15 v) := rfl
set_option maxRecDepth 100000 in
theorem es_153_45 (σ : St) (v : Int32) : (enc σ).set 153 (.inr (12, [.ref 154, .int (gY σ 0), .int (gY σ 1), .ref 155, .ref 156, .ref 157, .int (gY σ 2), .int (gY σ 3), .int (gY σ 4), .int (gY σ 5), .ref 158, .ref 159, .ref 160, .int (gY σ 6), .ref 161, .ref 162, .ref 163, .ref 164, .ref 165, .ref 166, .ref 167, .int (gY σ 7), .int (gY σ 8), .int (gY σ 9), .int (gY σ 10), .int (gY σ 11), .ref 168, .ref 169, .ref 170, .ref 171, .ref 172, .ref 173, .ref 174, .ref 175, .ref 176, .int (gY σ 12), .int (gY σ 13), .ref 177, .ref 178, .ref 179, .ref 180, .int (gY σ 14), .ref 181, .ref 182, .int (gY σ 15), .int v, .int (gY σ 17), .int (gY σ 18), .long (gQ σ), .int (gY σ 19), .ref 183, .ref 184])) = enc (sY σ 16 v) := rfl
set_option maxRecDepth 100000 in
theorem es_153_46 (σ : St) (v : Int32) : (enc σ).set 153 (.inr (12, [.ref 154, .int (gY σ 0), .int (gY σ 1), .ref 155, .ref 156, .ref 157, .int (gY σ 2), .int (gY σ 3), .int (gY σ 4), .int (gY σ 5), .ref 158, .ref 159, .ref 160, .int (gY σ 6), .ref 161, .ref 162, .ref 163, .ref 164, .ref 165, .ref 166, .ref 167, .int (gY σ 7), .int (gY σ 8), .int (gY σ 9), .int (gY σ 10), .int (gY σ 11), .ref 168, .ref 169, .ref 170, .ref 171, .ref 172, .ref 173, .ref 174, .ref 175, .ref 176, .int (gY σ 12), .int (gY σ 13), .ref 177, .ref 178, .ref 179, .ref 180, .int (gY σ 14), .ref 181, .ref 182, .int (gY σ 15), .int (gY σ 16), .int v, .int (gY σ 18), .long (gQ σ), .int (gY σ 19), .ref 183, .ref 184])) = enc (sY σ 17 v) := rfl
set_option maxRecDepth 100000 in
theorem es_153_47 (σ : St) (v : Int32) : (enc σ).set 153 (.inr (12, [.ref 154, .int (gY σ 0), .int (gY σ 1), .ref 155, .ref 156, .ref 157, .int (gY σ 2), .int (gY σ 3), .int (gY σ 4), .int (gY σ 5), .ref 158, .ref 159, .ref 160, .int (gY σ 6), .ref 161, .ref 162, .ref 163, .ref 164, .ref 165, .ref 166, .ref 167, .int (gY σ 7), .int (gY σ 8), .int (gY σ 9), .int (gY σ 10), .int (gY σ 11), .ref 168, .ref 169, .ref 170, .ref 171, .ref 172, .ref 173, .ref 174, .ref 175, .ref 176, .int (gY σ 12), .int (gY σ 13), .ref 177, .ref 178, .ref 179, .ref 180, .int (gY σ 14), .ref 181, .ref 182, .int (gY σ 15), .int (gY σ 16), .int (gY σ 17), .int v, .long (gQ σ), .int (gY σ 19), .ref 183, .ref 184])) = enc (sY σ 18 v) := rfl
set_option maxRecDepth 100000 in
theorem es_153_48 (σ : St) (v : Int64) : (enc σ).set 153 (.inr (12, [.ref 154, .int (gY σ 0), .int (gY σ 1), .ref 155, .ref 156, .ref 157, .int (gY σ 2), .int (gY σ 3), .int (gY σ 4), .int (gY σ 5), .ref 158, .ref 159, .ref 160, .int (gY σ 6), .ref 161, .ref 162, .ref 163, .ref 164, .ref 165, .ref 166, .ref 167, .int (gY σ 7), .int (gY σ 8), .int (gY σ 9), .int (gY σ 10), .int (gY σ 11), .ref 168, .ref 169, .ref 170, .ref 171, .ref 172, .ref 173, .ref 174, .ref 175, .ref 176, .int (gY σ 12), .int (gY σ 13), .ref 177, .ref 178, .ref 179, .ref 180, .int (gY σ 14), .ref 181, .ref 182, .int (gY σ 15), .int (gY σ 16), .int (gY σ 17), .int (gY σ 18), .long v, .int (gY σ 19), .ref 183, .ref 184])) = enc (sQ σ v) := rfl
set_option maxRecDepth 100000 in
theorem es_153_49 (σ : St) (v : Int32) : (enc σ).set 153 (.inr (12, [.ref 154, .int (gY σ 0), .int (gY σ 1), .ref 155, .ref 156, .ref 157, .int (gY σ 2), .int (gY σ 3), .int (gY σ 4), .int (gY σ 5), .ref 158, .ref 159, .ref 160, .int (gY σ 6), .ref 161, .ref 162, .ref 163, .ref 164, .ref 165, .ref 166, .ref 167, .int (gY σ 7), .int (gY σ 8), .int (gY σ 9), .int (gY σ 10), .int (gY σ 11), .ref 168, .ref 169, .ref 170, .ref 171, .ref 172, .ref 173, .ref 174, .ref 175, .ref 176, .int (gY σ 12), .int (gY σ 13), .ref 177, .ref 178, .ref 179, .ref 180, .int (gY σ 14), .ref 181, .ref 182, .int (gY σ 15), .int (gY σ 16), .int (gY σ 17), .int (gY σ 18), .long (gQ σ), .int v, .ref 183, .ref 184])) = enc (sY σ 19 v) := rfl
set_option maxRecDepth 100000 in
theorem es_154 (σ : St) (f : Nat → Int32) : (enc σ).set 154 (.inl (0, 200, .inl f)) = enc (sC σ 0 f) := rfl
set_option maxRecDepth 100000 in
theorem es_155 (σ : St) (f : Nat → Int32) : (enc σ).set 155 (.inl (0, 20, .inl f)) = enc (sC σ 1 f) := rfl
set_option maxRecDepth 100000 in
theorem es_156 (σ : St) (f : Nat → Int32) : (enc σ).set 156 (.inl (0, 20, .inl f)) = enc (sC σ 2 f) := rfl
set_option maxRecDepth 100000 in
theorem es_157 (σ : St) (f : Nat → Int32) : (enc σ).set 157 (.inl (0, 600, .inl f)) = enc (sC σ 3 f) := rfl
set_option maxRecDepth 100000 in
theorem es_158 (σ : St) (f : Nat → Int32) : (enc σ).set 158 (.inl (0, 961, .inl f)) = enc (sC σ 4 f) := rfl
set_option maxRecDepth 100000 in
theorem es_159 (σ : St) (f : Nat → Int32) : (enc σ).set 159 (.inl (0, 620, .inl f)) = enc (sC σ 5 f) := rfl
set_option maxRecDepth 100000 in
theorem es_160 (σ : St) (f : Nat → Int32) : (enc σ).set 160 (.inl (0, 5082, .inl f)) = enc (sC σ 6 f) := rfl
set_option maxRecDepth 100000 in
theorem es_161 (σ : St) (f : Nat → Int32) : (enc σ).set 161 (.inl (1, 20, .inl f)) = enc (sC σ 7 f) := rfl
set_option maxRecDepth 100000 in
theorem es_162 (σ : St) (f : Nat → Int32) : (enc σ).set 162 (.inl (0, 20, .inl f)) = enc (sC σ 8 f) := rfl
set_option maxRecDepth 100000 in
theorem es_163 (σ : St) (f : Nat → Int32) : (enc σ).set 163 (.inl (0, 20, .inl f)) = enc (sC σ 9 f) := rfl
set_option maxRecDepth 100000 in
theorem es_164 (σ : St) (f : Nat → Int32) : (enc σ).set 164 (.inl (0, 20, .inl f)) = enc (sC σ 10 f) := rfl
set_option maxRecDepth 100000 in
theorem es_165 (σ : St) (f : Nat → Int32) : (enc σ).set 165 (.inl (0, 120, .inl f)) = enc (sC σ 11 f) := rfl
set_option maxRecDepth 100000 in
theorem es_166 (σ : St) (f : Nat → Int32) : (enc σ).set 166 (.inl (0, 120, .inl f)) = enc (sC σ 12 f) := rfl
set_option maxRecDepth 100000 in
theorem es_167 (σ : St) (f : Nat → Int32) : (enc σ).set 167 (.inl (0, 120, .inl f)) = enc (sC σ 13 f) := rfl
set_option maxRecDepth 100000 in
theorem es_168 (σ : St) (f : Nat → Int32) : (enc σ).set 168 (.inl (0, 1220, .inl f)) = enc (sC σ 14 f) := rfl
set_option maxRecDepth 100000 in
theorem es_169 (σ : St) (f : Nat → Int32) : (enc σ).set 169 (.inl (0, 122, .inl f)) = enc (sC σ 15 f) := rfl
set_option maxRecDepth 100000 in
theorem es_170 (σ : St) (f : Nat → Int32) : (enc σ).set 170 (.inl (0, 61, .inl f)) = enc (sC σ 16 f) := rfl
set_option maxRecDepth 100000 in
theorem es_171 (σ : St) (f : Nat → Int32) : (enc σ).set 171 (.inl (0, 61, .inl f)) = enc (sC σ 17 f) := rfl
set_option maxRecDepth 100000 in
theorem es_172 (σ : St) (f : Nat → Int32) : (enc σ).set 172 (.inl (0, 61, .inl f)) = enc (sC σ 18 f) := rfl
set_option maxRecDepth 100000 in
theorem es_173 (σ : St) (f : Nat → Int32) : (enc σ).set 173 (.inl (0, 61, .inl f)) = enc (sC σ 19 f) := rfl
set_option maxRecDepth 100000 in
theorem es_174 (σ : St) (f : Nat → Int32) : (enc σ).set 174 (.inl (0, 61, .inl f)) = enc (sC σ 20 f) := rfl
set_option maxRecDepth 100000 in
theorem es_175 (σ : St) (f : Nat → Int32) : (enc σ).set 175 (.inl (0, 24, .inl f)) = enc (sC σ 21 f) := rfl
set_option maxRecDepth 100000 in
theorem es_176 (σ : St) (f : Nat → Int32) : (enc σ).set 176 (.inl (0, 3600, .inl f)) = enc (sC σ 22 f) := rfl
set_option maxRecDepth 100000 in
theorem es_177 (σ : St) (f : Nat → Int32) : (enc σ).set 177 (.inl (0, 130, .inl f)) = enc (sC σ 23 f) := rfl
set_option maxRecDepth 100000 in
theorem es_178 (σ : St) (f : Nat → Int32) : (enc σ).set 178 (.inl (0, 13, .inl f)) = enc (sC σ 24 f) := rfl
set_option maxRecDepth 100000 in
theorem es_179 (σ : St) (f : Nat → Int32) : (enc σ).set 179 (.inl (0, 13, .inl f)) = enc (sC σ 25 f) := rfl
set_option maxRecDepth 100000 in
theorem es_180 (σ : St) (f : Nat → Int32) : (enc σ).set 180 (.inl (0, 13, .inl f)) = enc (sC σ 26 f) := rfl
set_option maxRecDepth 100000 in
theorem es_181 (σ : St) (f : Nat → Int32) : (enc σ).set 181 (.inl (0, 24, .inl f)) = enc (sC σ 27 f) := rfl
set_option maxRecDepth 100000 in
theorem es_182 (σ : St) (f : Nat → Int32) : (enc σ).set 182 (.inl (0, 480, .inl f)) = enc (sC σ 28 f) := rfl
set_option maxRecDepth 100000 in
theorem es_183 (σ : St) (f : Nat → Int32) : (enc σ).set 183 (.inl (0, 8, .inl f)) = enc (sC σ 29 f) := rfl
set_option maxRecDepth 100000 in
theorem es_184 (σ : St) (f : Nat → Int32) : (enc σ).set 184 (.inl (0, 8, .inl f)) = enc (sC σ 30 f) := rfl
end
section
/-! ROWS OF ARRAYS OF ARRAYS; OBJECTS THAT ARE MADE. -/
theorem xmid_get {α : Type} {A B : List α} {f : Nat → α} {n i a : Nat} (hA : A.length = a) (hi : i < n) : (A ++ ((List.range n).map f ++ B))[a + i]? = some (f i) := by
  subst hA
  rw [List.getElem?_append_right (Nat.le_add_right _ _), Nat.add_sub_cancel_left, List.getElem?_append_left (by simp [hi]), List.getElem?_map, List.getElem?_range hi]
  rfl
theorem xmap_set {α : Type} {f : Nat → α} {n i : Nat} {c : α} : ((List.range n).map f).set i c = (List.range n).map (fun j => if j = i then c else f j) := by
  apply List.ext_getElem?
  intro j
  by_cases hj : j < n
  · by_cases e : i = j
    · subst e
      rw [List.getElem?_set_self (by simp [hj]), List.getElem?_map, List.getElem?_range hj]
      simp
    · rw [List.getElem?_set_ne e, List.getElem?_map, List.getElem?_map, List.getElem?_range hj]
      simp [Ne.symm e]
  · rw [List.getElem?_eq_none (by simp; omega), List.getElem?_eq_none (by simp; omega)]
theorem xmid_set {α : Type} {A B : List α} {f : Nat → α} {n i a : Nat} {c : α} (hA : A.length = a) (hi : i < n) : (A ++ ((List.range n).map f ++ B)).set (a + i) c = A ++ ((List.range n).map (fun j => if j = i then c else f j) ++ B) := by
  subst hA
  rw [List.set_append_right _ _ (Nat.le_add_right _ _), Nat.add_sub_cancel_left, List.set_append_left _ _ (by simp [hi]), xmap_set]
def ep0 (σ : St) : XH := en0 σ
def eb0 (σ : St) : XH := en2 σ ++ (en3 σ ++ (en4 σ ++ (en5 σ ++ (en6 σ ++ (en7 σ ++ (en8 σ ++ (en9 σ ++ (en10 σ ++ ((List.range (gn σ)).map (fun i => gD σ (185 + i)))))))))))
set_option maxRecDepth 100000 in
theorem ea0 (σ : St) : enc σ = ep0 σ ++ ((List.range 20).map (fun i => (.inl (0, 30, .inl (gB σ 0 i)) : va_E)) ++ eb0 σ) := rfl
theorem er0 (σ : St) {i : Nat} (hi : i < 20) : (enc σ)[7 + i]? = some (.inl (0, 30, .inl (gB σ 0 i))) := by
  rw [ea0 σ]
  exact xmid_get (A := ep0 σ) (f := fun i => (.inl (0, 30, .inl (gB σ 0 i)) : va_E)) rfl hi
set_option maxRecDepth 100000 in
theorem et0 (σ : St) {i : Nat} (hi : i < 20) (f : Nat → Int32) : (enc σ).set (7 + i) (.inl (0, 30, .inl f)) = enc (sB σ 0 i f) := by
  rw [ea0 σ, ea0 (sB σ 0 i f), xmid_set (A := ep0 σ) (a := 7) (f := fun i => (.inl (0, 30, .inl (gB σ 0 i)) : va_E)) rfl hi]
  have e1 : ep0 (sB σ 0 i f) = ep0 σ := rfl
  have e2 : eb0 (sB σ 0 i f) = eb0 σ := rfl
  rw [e1, e2]
  congr 2
  apply List.map_congr_left
  intro j _
  show _ = (.inl (0, 30, .inl (va_up (gB σ 0) i f j)) : va_E)
  unfold va_up
  split <;> rfl
def ep1 (σ : St) : XH := en0 σ ++ (en1 σ ++ (en2 σ))
def eb1 (σ : St) : XH := en4 σ ++ (en5 σ ++ (en6 σ ++ (en7 σ ++ (en8 σ ++ (en9 σ ++ (en10 σ ++ ((List.range (gn σ)).map (fun i => gD σ (185 + i)))))))))
set_option maxRecDepth 100000 in
theorem ea1 (σ : St) : enc σ = ep1 σ ++ ((List.range 20).map (fun i => (.inl (0, 31, .inl (gB σ 1 i)) : va_E)) ++ eb1 σ) := rfl
theorem er1 (σ : St) {i : Nat} (hi : i < 20) : (enc σ)[28 + i]? = some (.inl (0, 31, .inl (gB σ 1 i))) := by
  rw [ea1 σ]
  exact xmid_get (A := ep1 σ) (f := fun i => (.inl (0, 31, .inl (gB σ 1 i)) : va_E)) rfl hi
set_option maxRecDepth 100000 in
theorem et1 (σ : St) {i : Nat} (hi : i < 20) (f : Nat → Int32) : (enc σ).set (28 + i) (.inl (0, 31, .inl f)) = enc (sB σ 1 i f) := by
  rw [ea1 σ, ea1 (sB σ 1 i f), xmid_set (A := ep1 σ) (a := 28) (f := fun i => (.inl (0, 31, .inl (gB σ 1 i)) : va_E)) rfl hi]
  have e1 : ep1 (sB σ 1 i f) = ep1 σ := rfl
  have e2 : eb1 (sB σ 1 i f) = eb1 σ := rfl
  rw [e1, e2]
  congr 2
  apply List.map_congr_left
  intro j _
  show _ = (.inl (0, 31, .inl (va_up (gB σ 1) i f j)) : va_E)
  unfold va_up
  split <;> rfl
def ep2 (σ : St) : XH := en0 σ ++ (en1 σ ++ (en2 σ ++ (en3 σ ++ (en4 σ))))
def eb2 (σ : St) : XH := en6 σ ++ (en7 σ ++ (en8 σ ++ (en9 σ ++ (en10 σ ++ ((List.range (gn σ)).map (fun i => gD σ (185 + i)))))))
set_option maxRecDepth 100000 in
theorem ea2 (σ : St) : enc σ = ep2 σ ++ ((List.range 31).map (fun i => (.inl (0, 31, .inl (gB σ 2 i)) : va_E)) ++ eb2 σ) := rfl
theorem er2 (σ : St) {i : Nat} (hi : i < 31) : (enc σ)[51 + i]? = some (.inl (0, 31, .inl (gB σ 2 i))) := by
  rw [ea2 σ]
  exact xmid_get (A := ep2 σ) (f := fun i => (.inl (0, 31, .inl (gB σ 2 i)) : va_E)) rfl hi
set_option maxRecDepth 100000 in
theorem et2 (σ : St) {i : Nat} (hi : i < 31) (f : Nat → Int32) : (enc σ).set (51 + i) (.inl (0, 31, .inl f)) = enc (sB σ 2 i f) := by
  rw [ea2 σ, ea2 (sB σ 2 i f), xmid_set (A := ep2 σ) (a := 51) (f := fun i => (.inl (0, 31, .inl (gB σ 2 i)) : va_E)) rfl hi]
  have e1 : ep2 (sB σ 2 i f) = ep2 σ := rfl
  have e2 : eb2 (sB σ 2 i f) = eb2 σ := rfl
  rw [e1, e2]
  congr 2
  apply List.map_congr_left
  intro j _
  show _ = (.inl (0, 31, .inl (va_up (gB σ 2) i f j)) : va_E)
  unfold va_up
  split <;> rfl
def ep3 (σ : St) : XH := en0 σ ++ (en1 σ ++ (en2 σ ++ (en3 σ ++ (en4 σ ++ (en5 σ ++ (en6 σ))))))
def eb3 (σ : St) : XH := en8 σ ++ (en9 σ ++ (en10 σ ++ ((List.range (gn σ)).map (fun i => gD σ (185 + i)))))
set_option maxRecDepth 100000 in
theorem ea3 (σ : St) : enc σ = ep3 σ ++ ((List.range 21).map (fun i => (.inl (0, 121, .inl (gB σ 3 i)) : va_E)) ++ eb3 σ) := rfl
theorem er3 (σ : St) {i : Nat} (hi : i < 21) : (enc σ)[84 + i]? = some (.inl (0, 121, .inl (gB σ 3 i))) := by
  rw [ea3 σ]
  exact xmid_get (A := ep3 σ) (f := fun i => (.inl (0, 121, .inl (gB σ 3 i)) : va_E)) rfl hi
set_option maxRecDepth 100000 in
theorem et3 (σ : St) {i : Nat} (hi : i < 21) (f : Nat → Int32) : (enc σ).set (84 + i) (.inl (0, 121, .inl f)) = enc (sB σ 3 i f) := by
  rw [ea3 σ, ea3 (sB σ 3 i f), xmid_set (A := ep3 σ) (a := 84) (f := fun i => (.inl (0, 121, .inl (gB σ 3 i)) : va_E)) rfl hi]
  have e1 : ep3 (sB σ 3 i f) = ep3 σ := rfl
  have e2 : eb3 (sB σ 3 i f) = eb3 σ := rfl
  rw [e1, e2]
  congr 2
  apply List.map_congr_left
  intro j _
  show _ = (.inl (0, 121, .inl (va_up (gB σ 3) i f j)) : va_E)
  unfold va_up
  split <;> rfl
def ep4 (σ : St) : XH := en0 σ ++ (en1 σ ++ (en2 σ ++ (en3 σ ++ (en4 σ ++ (en5 σ ++ (en6 σ ++ (en7 σ ++ (en8 σ))))))))
def eb4 (σ : St) : XH := en10 σ ++ ((List.range (gn σ)).map (fun i => gD σ (185 + i)))
set_option maxRecDepth 100000 in
theorem ea4 (σ : St) : enc σ = ep4 σ ++ ((List.range 20).map (fun i => (.inl (0, 4, .inl (gB σ 4 i)) : va_E)) ++ eb4 σ) := rfl
theorem er4 (σ : St) {i : Nat} (hi : i < 20) : (enc σ)[108 + i]? = some (.inl (0, 4, .inl (gB σ 4 i))) := by
  rw [ea4 σ]
  exact xmid_get (A := ep4 σ) (f := fun i => (.inl (0, 4, .inl (gB σ 4 i)) : va_E)) rfl hi
set_option maxRecDepth 100000 in
theorem et4 (σ : St) {i : Nat} (hi : i < 20) (f : Nat → Int32) : (enc σ).set (108 + i) (.inl (0, 4, .inl f)) = enc (sB σ 4 i f) := by
  rw [ea4 σ, ea4 (sB σ 4 i f), xmid_set (A := ep4 σ) (a := 108) (f := fun i => (.inl (0, 4, .inl (gB σ 4 i)) : va_E)) rfl hi]
  have e1 : ep4 (sB σ 4 i f) = ep4 σ := rfl
  have e2 : eb4 (sB σ 4 i f) = eb4 σ := rfl
  rw [e1, e2]
  congr 2
  apply List.map_congr_left
  intro j _
  show _ = (.inl (0, 4, .inl (va_up (gB σ 4) i f j)) : va_E)
  unfold va_up
  split <;> rfl
end
section
/-- the numbers of the objects that are made -/
def isd (σ : St) (q : Nat) : Prop := q = 138 ∨ q = 141 ∨ q = 142 ∨ q = 143 ∨ (185 ≤ q ∧ q < 185 + gn σ)
def ef (σ : St) : XH := en0 σ ++ (en1 σ ++ (en2 σ ++ (en3 σ ++ (en4 σ ++ (en5 σ ++ (en6 σ ++ (en7 σ ++ (en8 σ ++ (en9 σ ++ (en10 σ))))))))))
set_option maxRecDepth 100000 in
theorem ef_enc (σ : St) : enc σ = ef σ ++ ((List.range (gn σ)).map (fun i => gD σ (185 + i)) ++ []) := by
  rw [List.append_nil]
  rfl
set_option maxRecDepth 100000 in
theorem ef_len (σ : St) : (ef σ).length = 185 := rfl
theorem ed (σ : St) {q : Nat} (hq : isd σ q) : (enc σ)[q]? = some (gD σ q) := by
  unfold isd at hq
  rcases hq with rfl | rfl | rfl | rfl | ⟨h1, h2⟩
  · exact eg_138 σ
  · exact eg_141 σ
  · exact eg_142 σ
  · exact eg_143 σ
  · obtain ⟨i, rfl⟩ : ∃ i, q = 185 + i := ⟨q - 185, by omega⟩
    rw [ef_enc σ]
    exact xmid_get (f := fun i => gD σ (185 + i)) (ef_len σ) (by omega)
set_option maxRecDepth 100000 in
theorem et_138 (σ : St) (c : va_E) : (ef σ).set 138 c = ef (sD σ 138 c) := rfl
set_option maxRecDepth 100000 in
theorem et_141 (σ : St) (c : va_E) : (ef σ).set 141 c = ef (sD σ 141 c) := rfl
set_option maxRecDepth 100000 in
theorem et_142 (σ : St) (c : va_E) : (ef σ).set 142 c = ef (sD σ 142 c) := rfl
set_option maxRecDepth 100000 in
theorem et_143 (σ : St) (c : va_E) : (ef σ).set 143 c = ef (sD σ 143 c) := rfl
set_option maxRecDepth 100000 in
theorem ef_sD (σ : St) {q : Nat} (c : va_E) (h : 185 ≤ q) : ef (sD σ q c) = ef σ := by
  have e : ∀ d, d < 185 → gD (sD σ q c) d = gD σ d := fun d hd => by
    show va_up (gD σ) q c d = gD σ d
    unfold va_up
    rw [if_neg (by omega)]
  have h10 : en10 (sD σ q c) = en10 σ := by
    unfold en10
    rw [e 138 (by omega), e 141 (by omega), e 142 (by omega), e 143 (by omega)]
    rfl
  have h0 : en0 (sD σ q c) = en0 σ := rfl
  have h1 : en1 (sD σ q c) = en1 σ := rfl
  have h2 : en2 (sD σ q c) = en2 σ := rfl
  have h3 : en3 (sD σ q c) = en3 σ := rfl
  have h4 : en4 (sD σ q c) = en4 σ := rfl
  have h5 : en5 (sD σ q c) = en5 σ := rfl
  have h6 : en6 (sD σ q c) = en6 σ := rfl
  have h7 : en7 (sD σ q c) = en7 σ := rfl
  have h8 : en8 (sD σ q c) = en8 σ := rfl
  have h9 : en9 (sD σ q c) = en9 σ := rfl
  unfold ef
  rw [h0, h1, h2, h3, h4, h5, h6, h7, h8, h9, h10]
set_option maxRecDepth 100000 in
theorem esd (σ : St) {q : Nat} (hq : isd σ q) (c : va_E) : (enc σ).set q c = enc (sD σ q c) := by
  unfold isd at hq
  have key : ∀ d, d < 185 → (ef σ).set d c = ef (sD σ d c) → (enc σ).set d c = enc (sD σ d c) := fun d hd h => by
    rw [ef_enc σ, ef_enc (sD σ d c), List.set_append_left _ _ (by rw [ef_len]; exact hd), h]
    congr 2
    show _ = (List.range (gn σ)).map _
    apply List.map_congr_left
    intro j _
    show _ = va_up (gD σ) d c (185 + j)
    unfold va_up
    rw [if_neg (by omega)]
  rcases hq with rfl | rfl | rfl | rfl | ⟨h1, h2⟩
  · exact key 138 (by omega) (et_138 σ c)
  · exact key 141 (by omega) (et_141 σ c)
  · exact key 142 (by omega) (et_142 σ c)
  · exact key 143 (by omega) (et_143 σ c)
  · obtain ⟨i, rfl⟩ : ∃ i, q = 185 + i := ⟨q - 185, by omega⟩
    rw [ef_enc σ, ef_enc (sD σ (185 + i) c), xmid_set (f := fun i => gD σ (185 + i)) (ef_len σ) (by omega), ef_sD σ c (by omega)]
    congr 2
    show _ = (List.range (gn σ)).map _
    apply List.map_congr_left
    intro j _
    show _ = va_up (gD σ) (185 + i) c (185 + j)
    unfold va_up
    by_cases e : j = i
    · subst e; simp
    · rw [if_neg e, if_neg (by omega)]
set_option maxRecDepth 100000 in
theorem ef_same (σ τ : St) (h : (σ.1.1, σ.1.2.1, σ.1.2.2.1, σ.1.2.2.2.1, σ.1.2.2.2.2.1, σ.1.2.2.2.2.2.1, σ.1.2.2.2.2.2.2.1, σ.1.2.2.2.2.2.2.2.1, σ.1.2.2.2.2.2.2.2.2.1, σ.1.2.2.2.2.2.2.2.2.2.1, σ.2) = (τ.1.1, τ.1.2.1, τ.1.2.2.1, τ.1.2.2.2.1, τ.1.2.2.2.2.1, τ.1.2.2.2.2.2.1, τ.1.2.2.2.2.2.2.1, τ.1.2.2.2.2.2.2.2.1, τ.1.2.2.2.2.2.2.2.2.1, τ.1.2.2.2.2.2.2.2.2.2.1, τ.2)) : ef σ = ef τ := by
  obtain ⟨⟨a1, a2, a3, a4, a5, a6, a7, a8, a9, a10, a11⟩, b1⟩ := σ
  obtain ⟨⟨c1, c2, c3, c4, c5, c6, c7, c8, c9, c10, c11⟩, d1⟩ := τ
  simp only [Prod.mk.injEq] at h
  obtain ⟨rfl, rfl, rfl, rfl, rfl, rfl, rfl, rfl, rfl, rfl, rfl⟩ := h
  rfl
set_option maxRecDepth 100000 in
theorem esm (σ : St) (c : va_E) : enc σ ++ [c] = enc (sM σ c) := by
  have e1 : ef (sM σ c) = ef σ := by
    have h : ef (sM σ c) = ef (sD σ (185 + gn σ) c) := ef_same _ _ rfl
    rw [h, ef_sD σ c (by omega)]
  rw [ef_enc σ, ef_enc (sM σ c), e1, List.append_nil, List.append_nil, List.append_assoc]
  congr 1
  show _ = (List.range (gn σ + 1)).map _
  rw [List.range_succ, List.map_append]
  congr 1
  · apply List.map_congr_left
    intro j hj
    have := List.mem_range.mp hj
    show _ = va_up (gD σ) (185 + gn σ) c (185 + j)
    unfold va_up
    rw [if_neg (by omega)]
  · show _ = [va_up (gD σ) (185 + gn σ) c (185 + gn σ)]
    unfold va_up
    rw [if_pos rfl]
theorem enc_len (σ : St) : (enc σ).length = 185 + gn σ := by
  rw [ef_enc σ, List.length_append, ef_len, List.append_nil, List.length_map, List.length_range]
end
section
/-! THE SAME ROWS WITH AN END THAT IS ASKED FOR: Q of the answer and the last heap. -/
def BW (S : XS) (M : XM) (pc : Nat) (ls : List (Option Value)) (st : List Value) (h : XH) (Q : Option Value → XH → Prop) : Prop := ∃ (r : Option Value) (h' : XH), Q r h' ∧ AW S M pc ls st h r h'
def CM (S : XS) (M : XM) (as : List Value) (h : XH) (Q : Option Value → XH → Prop) : Prop := ∃ (r : Option Value) (h' : XH), Q r h' ∧ AM S M as h r h'
def qI (Q : Int32 → St → Prop) : Option Value → XH → Prop := fun r h' => ∃ (v : Int32) (τ : St), r = some (.int v) ∧ h' = enc τ ∧ Q v τ
def qL (Q : Int64 → St → Prop) : Option Value → XH → Prop := fun r h' => ∃ (v : Int64) (τ : St), r = some (.long v) ∧ h' = enc τ ∧ Q v τ
def qV (Q : St → Prop) : Option Value → XH → Prop := fun r h' => ∃ τ : St, r = none ∧ h' = enc τ ∧ Q τ
def qR (Q : Option Nat → St → Prop) : Option Value → XH → Prop := fun r h' => ∃ (v : Option Nat) (τ : St), r = some (va_rf v) ∧ h' = enc τ ∧ Q v τ
theorem CM.mono {S : XS} {M : XM} {as : List Value} {h : XH} {Q Q' : Option Value → XH → Prop} (c : CM S M as h Q) (hq : ∀ r h', Q r h' → Q' r h') : CM S M as h Q' := by
  obtain ⟨r, h', q, w⟩ := c
  exact ⟨r, h', hq _ _ q, w⟩
theorem CM.monoI {S : XS} {M : XM} {as : List Value} {h : XH} {Q Q' : Int32 → St → Prop} (c : CM S M as h (qI Q)) (hq : ∀ v τ, Q v τ → Q' v τ) : CM S M as h (qI Q') := c.mono (fun _ _ ⟨v, τ, e1, e2, q⟩ => ⟨v, τ, e1, e2, hq v τ q⟩)
theorem CM.monoL {S : XS} {M : XM} {as : List Value} {h : XH} {Q Q' : Int64 → St → Prop} (c : CM S M as h (qL Q)) (hq : ∀ v τ, Q v τ → Q' v τ) : CM S M as h (qL Q') := c.mono (fun _ _ ⟨v, τ, e1, e2, q⟩ => ⟨v, τ, e1, e2, hq v τ q⟩)
theorem CM.monoV {S : XS} {M : XM} {as : List Value} {h : XH} {Q Q' : St → Prop} (c : CM S M as h (qV Q)) (hq : ∀ τ, Q τ → Q' τ) : CM S M as h (qV Q') := c.mono (fun _ _ ⟨τ, e1, e2, q⟩ => ⟨τ, e1, e2, hq τ q⟩)
theorem CM.monoR {S : XS} {M : XM} {as : List Value} {h : XH} {Q Q' : Option Nat → St → Prop} (c : CM S M as h (qR Q)) (hq : ∀ v τ, Q v τ → Q' v τ) : CM S M as h (qR Q') := c.mono (fun _ _ ⟨v, τ, e1, e2, q⟩ => ⟨v, τ, e1, e2, hq v τ q⟩)
section XBW
variable {S : XS} {M : XM} {pc : Nat} {ls : List (Option Value)} {st : List Value} {h h1 : XH} {Q : Option Value → XH → Prop}
theorem b_iconst {n : Int} {v : Int32} (hd : decode M.2.1 pc = .ok (.iconst n, 1)) (hv : Int32.ofInt n = v) (k : BW S M (pc + 1) ls (.int v :: st) h Q) : BW S M pc ls (st) h Q := by
  obtain ⟨r, h9, q, w⟩ := k
  exact ⟨r, h9, q, x_iconst hd hv w⟩
theorem b_bipush {n : Int} {v : Int32} (hd : decode M.2.1 pc = .ok (.bipush n, 2)) (hv : (Int8.ofInt n).toInt32 = v) (k : BW S M (pc + 2) ls (.int v :: st) h Q) : BW S M pc ls (st) h Q := by
  obtain ⟨r, h9, q, w⟩ := k
  exact ⟨r, h9, q, x_bipush hd hv w⟩
theorem b_sipush {n : Int} {v : Int32} (hd : decode M.2.1 pc = .ok (.sipush n, 3)) (hv : (Int16.ofInt n).toInt32 = v) (k : BW S M (pc + 3) ls (.int v :: st) h Q) : BW S M pc ls (st) h Q := by
  obtain ⟨r, h9, q, w⟩ := k
  exact ⟨r, h9, q, x_sipush hd hv w⟩
theorem b_lconst {n : Fin 2} {v : Int64} (hd : decode M.2.1 pc = .ok (.lconst n, 1)) (hv : Int64.ofNat (n : Nat) = v) (k : BW S M (pc + 1) ls (.long v :: st) h Q) : BW S M pc ls (st) h Q := by
  obtain ⟨r, h9, q, w⟩ := k
  exact ⟨r, h9, q, x_lconst hd hv w⟩
theorem b_anull  (hd : decode M.2.1 pc = .ok (.aconst_null, 1))  (k : BW S M (pc + 1) ls (.null :: st) h Q) : BW S M pc ls (st) h Q := by
  obtain ⟨r, h9, q, w⟩ := k
  exact ⟨r, h9, q, x_anull hd w⟩
theorem b_iload_n {k0 : Fin 4} {i : Nat} {x : Int32} (hd : decode M.2.1 pc = .ok (.iload_n k0, 1)) (hi : (k0 : Nat) = i) (hl : ls[i]? = some (some (.int x))) (k : BW S M (pc + 1) ls (.int x :: st) h Q) : BW S M pc ls (st) h Q := by
  obtain ⟨r, h9, q, w⟩ := k
  exact ⟨r, h9, q, x_iload_n hd hi hl w⟩
theorem b_iload {i : Nat} {x : Int32} (hd : decode M.2.1 pc = .ok (.iload i, 2)) (hl : ls[i]? = some (some (.int x))) (k : BW S M (pc + 2) ls (.int x :: st) h Q) : BW S M pc ls (st) h Q := by
  obtain ⟨r, h9, q, w⟩ := k
  exact ⟨r, h9, q, x_iload hd hl w⟩
theorem b_lload_n {k0 : Fin 4} {i : Nat} {x : Int64} (hd : decode M.2.1 pc = .ok (.lload_n k0, 1)) (hi : (k0 : Nat) = i) (hl : ls[i]? = some (some (.long x))) (k : BW S M (pc + 1) ls (.long x :: st) h Q) : BW S M pc ls (st) h Q := by
  obtain ⟨r, h9, q, w⟩ := k
  exact ⟨r, h9, q, x_lload_n hd hi hl w⟩
theorem b_lload {i : Nat} {x : Int64} (hd : decode M.2.1 pc = .ok (.lload i, 2)) (hl : ls[i]? = some (some (.long x))) (k : BW S M (pc + 2) ls (.long x :: st) h Q) : BW S M pc ls (st) h Q := by
  obtain ⟨r, h9, q, w⟩ := k
  exact ⟨r, h9, q, x_lload hd hl w⟩
theorem b_aload_n {k0 : Fin 4} {i : Nat} {x : Nat} (hd : decode M.2.1 pc = .ok (.aload_n k0, 1)) (hi : (k0 : Nat) = i) (hl : ls[i]? = some (some (.ref x))) (k : BW S M (pc + 1) ls (.ref x :: st) h Q) : BW S M pc ls (st) h Q := by
  obtain ⟨r, h9, q, w⟩ := k
  exact ⟨r, h9, q, x_aload_n hd hi hl w⟩
theorem b_aload_nS {k0 : Fin 4} {i : Nat} {x : Nat} (hd : decode M.2.1 pc = .ok (.aload_n k0, 1)) (hi : (k0 : Nat) = i) (hl : ls[i]? = some (some (.retAddr x))) (k : BW S M (pc + 1) ls (.retAddr x :: st) h Q) : BW S M pc ls (st) h Q := by
  obtain ⟨r, h9, q, w⟩ := k
  exact ⟨r, h9, q, x_aload_nS hd hi hl w⟩
theorem b_aload_nN {k0 : Fin 4} {i : Nat} (hd : decode M.2.1 pc = .ok (.aload_n k0, 1)) (hi : (k0 : Nat) = i) (hl : ls[i]? = some (some .null)) (k : BW S M (pc + 1) ls (.null :: st) h Q) : BW S M pc ls (st) h Q := by
  obtain ⟨r, h9, q, w⟩ := k
  exact ⟨r, h9, q, x_aload_nN hd hi hl w⟩
theorem b_aload {i : Nat} {x : Nat} (hd : decode M.2.1 pc = .ok (.aload i, 2)) (hl : ls[i]? = some (some (.ref x))) (k : BW S M (pc + 2) ls (.ref x :: st) h Q) : BW S M pc ls (st) h Q := by
  obtain ⟨r, h9, q, w⟩ := k
  exact ⟨r, h9, q, x_aload hd hl w⟩
theorem b_aloadS {i : Nat} {x : Nat} (hd : decode M.2.1 pc = .ok (.aload i, 2)) (hl : ls[i]? = some (some (.retAddr x))) (k : BW S M (pc + 2) ls (.retAddr x :: st) h Q) : BW S M pc ls (st) h Q := by
  obtain ⟨r, h9, q, w⟩ := k
  exact ⟨r, h9, q, x_aloadS hd hl w⟩
theorem b_aloadN {i : Nat} (hd : decode M.2.1 pc = .ok (.aload i, 2)) (hl : ls[i]? = some (some .null)) (k : BW S M (pc + 2) ls (.null :: st) h Q) : BW S M pc ls (st) h Q := by
  obtain ⟨r, h9, q, w⟩ := k
  exact ⟨r, h9, q, x_aloadN hd hl w⟩
theorem b_iadd {x y : Int32} (hd : decode M.2.1 pc = .ok (.iadd, 1))  (k : BW S M (pc + 1) ls (.int (x + y) :: st) h Q) : BW S M pc ls (.int y :: .int x :: st) h Q := by
  obtain ⟨r, h9, q, w⟩ := k
  exact ⟨r, h9, q, x_iadd hd w⟩
theorem b_isub {x y : Int32} (hd : decode M.2.1 pc = .ok (.isub, 1))  (k : BW S M (pc + 1) ls (.int (x - y) :: st) h Q) : BW S M pc ls (.int y :: .int x :: st) h Q := by
  obtain ⟨r, h9, q, w⟩ := k
  exact ⟨r, h9, q, x_isub hd w⟩
theorem b_imul {x y : Int32} (hd : decode M.2.1 pc = .ok (.imul, 1))  (k : BW S M (pc + 1) ls (.int (x * y) :: st) h Q) : BW S M pc ls (.int y :: .int x :: st) h Q := by
  obtain ⟨r, h9, q, w⟩ := k
  exact ⟨r, h9, q, x_imul hd w⟩
theorem b_iand {x y : Int32} (hd : decode M.2.1 pc = .ok (.iand, 1))  (k : BW S M (pc + 1) ls (.int (x &&& y) :: st) h Q) : BW S M pc ls (.int y :: .int x :: st) h Q := by
  obtain ⟨r, h9, q, w⟩ := k
  exact ⟨r, h9, q, x_iand hd w⟩
theorem b_ishr {x y : Int32} (hd : decode M.2.1 pc = .ok (.ishr, 1))  (k : BW S M (pc + 1) ls (.int (x >>> (y &&& 31)) :: st) h Q) : BW S M pc ls (.int y :: .int x :: st) h Q := by
  obtain ⟨r, h9, q, w⟩ := k
  exact ⟨r, h9, q, x_ishr hd w⟩
theorem b_iushr {x y : Int32} (hd : decode M.2.1 pc = .ok (.iushr, 1))  (k : BW S M (pc + 1) ls (.int ((x.toUInt32 >>> (y.toUInt32 &&& Int32.toUInt32 31)).toInt32) :: st) h Q) : BW S M pc ls (.int y :: .int x :: st) h Q := by
  obtain ⟨r, h9, q, w⟩ := k
  exact ⟨r, h9, q, x_iushr hd w⟩
theorem b_idiv {x y : Int32} (hd : decode M.2.1 pc = .ok (.idiv, 1)) (hne : ¬ y = 0) (k : BW S M (pc + 1) ls (.int (x / y) :: st) h Q) : BW S M pc ls (.int y :: .int x :: st) h Q := by
  obtain ⟨r, h9, q, w⟩ := k
  exact ⟨r, h9, q, x_idiv hd hne w⟩
theorem b_irem {x y : Int32} (hd : decode M.2.1 pc = .ok (.irem, 1)) (hne : ¬ y = 0) (k : BW S M (pc + 1) ls (.int (x - x / y * y) :: st) h Q) : BW S M pc ls (.int y :: .int x :: st) h Q := by
  obtain ⟨r, h9, q, w⟩ := k
  exact ⟨r, h9, q, x_irem hd hne w⟩
theorem b_ladd {x y : Int64} (hd : decode M.2.1 pc = .ok (.ladd, 1))  (k : BW S M (pc + 1) ls (.long (x + y) :: st) h Q) : BW S M pc ls (.long y :: .long x :: st) h Q := by
  obtain ⟨r, h9, q, w⟩ := k
  exact ⟨r, h9, q, x_ladd hd w⟩
theorem b_lsub {x y : Int64} (hd : decode M.2.1 pc = .ok (.lsub, 1))  (k : BW S M (pc + 1) ls (.long (x - y) :: st) h Q) : BW S M pc ls (.long y :: .long x :: st) h Q := by
  obtain ⟨r, h9, q, w⟩ := k
  exact ⟨r, h9, q, x_lsub hd w⟩
theorem b_lmul {x y : Int64} (hd : decode M.2.1 pc = .ok (.lmul, 1))  (k : BW S M (pc + 1) ls (.long (x * y) :: st) h Q) : BW S M pc ls (.long y :: .long x :: st) h Q := by
  obtain ⟨r, h9, q, w⟩ := k
  exact ⟨r, h9, q, x_lmul hd w⟩
theorem b_land {x y : Int64} (hd : decode M.2.1 pc = .ok (.land, 1))  (k : BW S M (pc + 1) ls (.long (x &&& y) :: st) h Q) : BW S M pc ls (.long y :: .long x :: st) h Q := by
  obtain ⟨r, h9, q, w⟩ := k
  exact ⟨r, h9, q, x_land hd w⟩
theorem b_ldiv {x y : Int64} (hd : decode M.2.1 pc = .ok (.ldiv, 1)) (hne : ¬ y = 0) (k : BW S M (pc + 1) ls (.long (x / y) :: st) h Q) : BW S M pc ls (.long y :: .long x :: st) h Q := by
  obtain ⟨r, h9, q, w⟩ := k
  exact ⟨r, h9, q, x_ldiv hd hne w⟩
theorem b_lshr {x : Int64} {y : Int32} (hd : decode M.2.1 pc = .ok (.lshr, 1))  (k : BW S M (pc + 1) ls (.long (x >>> (y.toInt64 &&& 63)) :: st) h Q) : BW S M pc ls (.int y :: .long x :: st) h Q := by
  obtain ⟨r, h9, q, w⟩ := k
  exact ⟨r, h9, q, x_lshr hd w⟩
theorem b_i2l {x : Int32} (hd : decode M.2.1 pc = .ok (.i2l, 1))  (k : BW S M (pc + 1) ls (.long x.toInt64 :: st) h Q) : BW S M pc ls (.int x :: st) h Q := by
  obtain ⟨r, h9, q, w⟩ := k
  exact ⟨r, h9, q, x_i2l hd w⟩
theorem b_l2i {x : Int64} (hd : decode M.2.1 pc = .ok (.l2i, 1))  (k : BW S M (pc + 1) ls (.int x.toInt32 :: st) h Q) : BW S M pc ls (.long x :: st) h Q := by
  obtain ⟨r, h9, q, w⟩ := k
  exact ⟨r, h9, q, x_l2i hd w⟩
theorem b_lcmp {x y : Int64} (hd : decode M.2.1 pc = .ok (.lcmp, 1))  (k : BW S M (pc + 1) ls (.int (lg_cmp x y) :: st) h Q) : BW S M pc ls (.long y :: .long x :: st) h Q := by
  obtain ⟨r, h9, q, w⟩ := k
  exact ⟨r, h9, q, x_lcmp hd w⟩
theorem b_dup {v : Value} (hd : decode M.2.1 pc = .ok (.dup, 1)) (hv : v.category = 1) (k : BW S M (pc + 1) ls (v :: v :: st) h Q) : BW S M pc ls (v :: st) h Q := by
  obtain ⟨r, h9, q, w⟩ := k
  exact ⟨r, h9, q, x_dup hd hv w⟩
theorem b_pop {v : Value} (hd : decode M.2.1 pc = .ok (.pop, 1)) (hv : v.category = 1) (k : BW S M (pc + 1) ls (st) h Q) : BW S M pc ls (v :: st) h Q := by
  obtain ⟨r, h9, q, w⟩ := k
  exact ⟨r, h9, q, x_pop hd hv w⟩
theorem b_dup2 {v w : Value} (hd : decode M.2.1 pc = .ok (.dup2, 1)) (hv : v.category = 1) (hw : w.category = 1) (k : BW S M (pc + 1) ls (v :: w :: v :: w :: st) h Q) : BW S M pc ls (v :: w :: st) h Q := by
  obtain ⟨r, h9, q, w⟩ := k
  exact ⟨r, h9, q, x_dup2 hd hv hw w⟩
theorem b_istore_n {k0 : Fin 4} {i : Nat} {x : Int32} {ls' : List (Option Value)} (hd : decode M.2.1 pc = .ok (.istore_n k0, 1)) (hi : (k0 : Nat) = i) (hn9 : i < M.2.2.1) (hl : xst ls i (.int x) = ls') (k : BW S M (pc + 1) ls' st h Q) : BW S M pc ls (.int x :: st) h Q := by
  obtain ⟨r, h9, q, w⟩ := k
  exact ⟨r, h9, q, x_istore_n hd hi hn9 hl w⟩
theorem b_lstore_n {k0 : Fin 4} {i : Nat} {x : Int64} {ls' : List (Option Value)} (hd : decode M.2.1 pc = .ok (.lstore_n k0, 1)) (hi : (k0 : Nat) = i) (hn9 : i + 1 < M.2.2.1) (hl : xst2 ls i (.long x) = ls') (k : BW S M (pc + 1) ls' st h Q) : BW S M pc ls (.long x :: st) h Q := by
  obtain ⟨r, h9, q, w⟩ := k
  exact ⟨r, h9, q, x_lstore_n hd hi hn9 hl w⟩
theorem b_astore_n {k0 : Fin 4} {i : Nat} {x : Nat} {ls' : List (Option Value)} (hd : decode M.2.1 pc = .ok (.astore_n k0, 1)) (hi : (k0 : Nat) = i) (hn9 : i < M.2.2.1) (hl : xst ls i (.ref x) = ls') (k : BW S M (pc + 1) ls' st h Q) : BW S M pc ls (.ref x :: st) h Q := by
  obtain ⟨r, h9, q, w⟩ := k
  exact ⟨r, h9, q, x_astore_n hd hi hn9 hl w⟩
theorem b_astore_nN {k0 : Fin 4} {i : Nat} {ls' : List (Option Value)} (hd : decode M.2.1 pc = .ok (.astore_n k0, 1)) (hi : (k0 : Nat) = i) (hn9 : i < M.2.2.1) (hl : xst ls i (.null) = ls') (k : BW S M (pc + 1) ls' st h Q) : BW S M pc ls (.null :: st) h Q := by
  obtain ⟨r, h9, q, w⟩ := k
  exact ⟨r, h9, q, x_astore_nN hd hi hn9 hl w⟩
theorem b_istore {i : Nat} {x : Int32} {ls' : List (Option Value)} (hd : decode M.2.1 pc = .ok (.istore i, 2))  (hn9 : i < M.2.2.1) (hl : xst ls i (.int x) = ls') (k : BW S M (pc + 2) ls' st h Q) : BW S M pc ls (.int x :: st) h Q := by
  obtain ⟨r, h9, q, w⟩ := k
  exact ⟨r, h9, q, x_istore hd hn9 hl w⟩
theorem b_lstore {i : Nat} {x : Int64} {ls' : List (Option Value)} (hd : decode M.2.1 pc = .ok (.lstore i, 2))  (hn9 : i + 1 < M.2.2.1) (hl : xst2 ls i (.long x) = ls') (k : BW S M (pc + 2) ls' st h Q) : BW S M pc ls (.long x :: st) h Q := by
  obtain ⟨r, h9, q, w⟩ := k
  exact ⟨r, h9, q, x_lstore hd hn9 hl w⟩
theorem b_astore {i : Nat} {x : Nat} {ls' : List (Option Value)} (hd : decode M.2.1 pc = .ok (.astore i, 2))  (hn9 : i < M.2.2.1) (hl : xst ls i (.ref x) = ls') (k : BW S M (pc + 2) ls' st h Q) : BW S M pc ls (.ref x :: st) h Q := by
  obtain ⟨r, h9, q, w⟩ := k
  exact ⟨r, h9, q, x_astore hd hn9 hl w⟩
theorem b_astoreN {i : Nat} {ls' : List (Option Value)} (hd : decode M.2.1 pc = .ok (.astore i, 2))  (hn9 : i < M.2.2.1) (hl : xst ls i (.null) = ls') (k : BW S M (pc + 2) ls' st h Q) : BW S M pc ls (.null :: st) h Q := by
  obtain ⟨r, h9, q, w⟩ := k
  exact ⟨r, h9, q, x_astoreN hd hn9 hl w⟩
theorem b_iinc {i : Nat} {n : Int} {x v : Int32} {ls' : List (Option Value)} (hd : decode M.2.1 pc = .ok (.iinc i n, 3)) (hx0 : ls[i]? = some (some (.int x))) (hv : x + Int32.ofInt n = v) (hn9 : i < M.2.2.1) (hl : xst ls i (.int v) = ls') (k : BW S M (pc + 3) ls' st h Q) : BW S M pc ls st h Q := by
  obtain ⟨r, h9, q, w⟩ := k
  exact ⟨r, h9, q, x_iinc hd hx0 hv hn9 hl w⟩
theorem b_if_eq {x : Int32} {off : Int} {tgt : Nat} (hd : decode M.2.1 pc = .ok (.ifCond .eq off, 3)) (ht : (pc : Int) + off = (tgt : Int)) (kt : x = 0 → BW S M tgt ls st h Q) (kf : ¬ x = 0 → BW S M (pc + 3) ls st h Q) : BW S M pc ls (.int x :: st) h Q := by
  by_cases c9 : x = 0
  · obtain ⟨r, h9, q, w⟩ := kt c9
    exact ⟨r, h9, q, x_if_eq hd ht (fun _ => w) (fun z => absurd c9 z)⟩
  · obtain ⟨r, h9, q, w⟩ := kf c9
    exact ⟨r, h9, q, x_if_eq hd ht (fun z => absurd z c9) (fun _ => w)⟩
theorem b_icmp_eq {x y : Int32} {off : Int} {tgt : Nat} (hd : decode M.2.1 pc = .ok (.if_icmp .eq off, 3)) (ht : (pc : Int) + off = (tgt : Int)) (kt : x = y → BW S M tgt ls st h Q) (kf : ¬ x = y → BW S M (pc + 3) ls st h Q) : BW S M pc ls (.int y :: .int x :: st) h Q := by
  by_cases c9 : x = y
  · obtain ⟨r, h9, q, w⟩ := kt c9
    exact ⟨r, h9, q, x_icmp_eq hd ht (fun _ => w) (fun z => absurd c9 z)⟩
  · obtain ⟨r, h9, q, w⟩ := kf c9
    exact ⟨r, h9, q, x_icmp_eq hd ht (fun z => absurd z c9) (fun _ => w)⟩
theorem b_if_ne {x : Int32} {off : Int} {tgt : Nat} (hd : decode M.2.1 pc = .ok (.ifCond .ne off, 3)) (ht : (pc : Int) + off = (tgt : Int)) (kt : ¬ x = 0 → BW S M tgt ls st h Q) (kf : x = 0 → BW S M (pc + 3) ls st h Q) : BW S M pc ls (.int x :: st) h Q := by
  by_cases c9 : x = 0
  · obtain ⟨r, h9, q, w⟩ := kf c9
    exact ⟨r, h9, q, x_if_ne hd ht (fun z => absurd c9 z) (fun _ => w)⟩
  · obtain ⟨r, h9, q, w⟩ := kt c9
    exact ⟨r, h9, q, x_if_ne hd ht (fun _ => w) (fun z => absurd z c9)⟩
theorem b_icmp_ne {x y : Int32} {off : Int} {tgt : Nat} (hd : decode M.2.1 pc = .ok (.if_icmp .ne off, 3)) (ht : (pc : Int) + off = (tgt : Int)) (kt : ¬ x = y → BW S M tgt ls st h Q) (kf : x = y → BW S M (pc + 3) ls st h Q) : BW S M pc ls (.int y :: .int x :: st) h Q := by
  by_cases c9 : x = y
  · obtain ⟨r, h9, q, w⟩ := kf c9
    exact ⟨r, h9, q, x_icmp_ne hd ht (fun z => absurd c9 z) (fun _ => w)⟩
  · obtain ⟨r, h9, q, w⟩ := kt c9
    exact ⟨r, h9, q, x_icmp_ne hd ht (fun _ => w) (fun z => absurd z c9)⟩
theorem b_if_lt {x : Int32} {off : Int} {tgt : Nat} (hd : decode M.2.1 pc = .ok (.ifCond .lt off, 3)) (ht : (pc : Int) + off = (tgt : Int)) (kt : x < 0 → BW S M tgt ls st h Q) (kf : ¬ x < 0 → BW S M (pc + 3) ls st h Q) : BW S M pc ls (.int x :: st) h Q := by
  by_cases c9 : x < 0
  · obtain ⟨r, h9, q, w⟩ := kt c9
    exact ⟨r, h9, q, x_if_lt hd ht (fun _ => w) (fun z => absurd c9 z)⟩
  · obtain ⟨r, h9, q, w⟩ := kf c9
    exact ⟨r, h9, q, x_if_lt hd ht (fun z => absurd z c9) (fun _ => w)⟩
theorem b_icmp_lt {x y : Int32} {off : Int} {tgt : Nat} (hd : decode M.2.1 pc = .ok (.if_icmp .lt off, 3)) (ht : (pc : Int) + off = (tgt : Int)) (kt : x < y → BW S M tgt ls st h Q) (kf : ¬ x < y → BW S M (pc + 3) ls st h Q) : BW S M pc ls (.int y :: .int x :: st) h Q := by
  by_cases c9 : x < y
  · obtain ⟨r, h9, q, w⟩ := kt c9
    exact ⟨r, h9, q, x_icmp_lt hd ht (fun _ => w) (fun z => absurd c9 z)⟩
  · obtain ⟨r, h9, q, w⟩ := kf c9
    exact ⟨r, h9, q, x_icmp_lt hd ht (fun z => absurd z c9) (fun _ => w)⟩
theorem b_if_ge {x : Int32} {off : Int} {tgt : Nat} (hd : decode M.2.1 pc = .ok (.ifCond .ge off, 3)) (ht : (pc : Int) + off = (tgt : Int)) (kt : 0 ≤ x → BW S M tgt ls st h Q) (kf : ¬ 0 ≤ x → BW S M (pc + 3) ls st h Q) : BW S M pc ls (.int x :: st) h Q := by
  by_cases c9 : 0 ≤ x
  · obtain ⟨r, h9, q, w⟩ := kt c9
    exact ⟨r, h9, q, x_if_ge hd ht (fun _ => w) (fun z => absurd c9 z)⟩
  · obtain ⟨r, h9, q, w⟩ := kf c9
    exact ⟨r, h9, q, x_if_ge hd ht (fun z => absurd z c9) (fun _ => w)⟩
theorem b_icmp_ge {x y : Int32} {off : Int} {tgt : Nat} (hd : decode M.2.1 pc = .ok (.if_icmp .ge off, 3)) (ht : (pc : Int) + off = (tgt : Int)) (kt : y ≤ x → BW S M tgt ls st h Q) (kf : ¬ y ≤ x → BW S M (pc + 3) ls st h Q) : BW S M pc ls (.int y :: .int x :: st) h Q := by
  by_cases c9 : y ≤ x
  · obtain ⟨r, h9, q, w⟩ := kt c9
    exact ⟨r, h9, q, x_icmp_ge hd ht (fun _ => w) (fun z => absurd c9 z)⟩
  · obtain ⟨r, h9, q, w⟩ := kf c9
    exact ⟨r, h9, q, x_icmp_ge hd ht (fun z => absurd z c9) (fun _ => w)⟩
theorem b_if_gt {x : Int32} {off : Int} {tgt : Nat} (hd : decode M.2.1 pc = .ok (.ifCond .gt off, 3)) (ht : (pc : Int) + off = (tgt : Int)) (kt : 0 < x → BW S M tgt ls st h Q) (kf : ¬ 0 < x → BW S M (pc + 3) ls st h Q) : BW S M pc ls (.int x :: st) h Q := by
  by_cases c9 : 0 < x
  · obtain ⟨r, h9, q, w⟩ := kt c9
    exact ⟨r, h9, q, x_if_gt hd ht (fun _ => w) (fun z => absurd c9 z)⟩
  · obtain ⟨r, h9, q, w⟩ := kf c9
    exact ⟨r, h9, q, x_if_gt hd ht (fun z => absurd z c9) (fun _ => w)⟩
theorem b_icmp_gt {x y : Int32} {off : Int} {tgt : Nat} (hd : decode M.2.1 pc = .ok (.if_icmp .gt off, 3)) (ht : (pc : Int) + off = (tgt : Int)) (kt : y < x → BW S M tgt ls st h Q) (kf : ¬ y < x → BW S M (pc + 3) ls st h Q) : BW S M pc ls (.int y :: .int x :: st) h Q := by
  by_cases c9 : y < x
  · obtain ⟨r, h9, q, w⟩ := kt c9
    exact ⟨r, h9, q, x_icmp_gt hd ht (fun _ => w) (fun z => absurd c9 z)⟩
  · obtain ⟨r, h9, q, w⟩ := kf c9
    exact ⟨r, h9, q, x_icmp_gt hd ht (fun z => absurd z c9) (fun _ => w)⟩
theorem b_if_le {x : Int32} {off : Int} {tgt : Nat} (hd : decode M.2.1 pc = .ok (.ifCond .le off, 3)) (ht : (pc : Int) + off = (tgt : Int)) (kt : x ≤ 0 → BW S M tgt ls st h Q) (kf : ¬ x ≤ 0 → BW S M (pc + 3) ls st h Q) : BW S M pc ls (.int x :: st) h Q := by
  by_cases c9 : x ≤ 0
  · obtain ⟨r, h9, q, w⟩ := kt c9
    exact ⟨r, h9, q, x_if_le hd ht (fun _ => w) (fun z => absurd c9 z)⟩
  · obtain ⟨r, h9, q, w⟩ := kf c9
    exact ⟨r, h9, q, x_if_le hd ht (fun z => absurd z c9) (fun _ => w)⟩
theorem b_icmp_le {x y : Int32} {off : Int} {tgt : Nat} (hd : decode M.2.1 pc = .ok (.if_icmp .le off, 3)) (ht : (pc : Int) + off = (tgt : Int)) (kt : x ≤ y → BW S M tgt ls st h Q) (kf : ¬ x ≤ y → BW S M (pc + 3) ls st h Q) : BW S M pc ls (.int y :: .int x :: st) h Q := by
  by_cases c9 : x ≤ y
  · obtain ⟨r, h9, q, w⟩ := kt c9
    exact ⟨r, h9, q, x_icmp_le hd ht (fun _ => w) (fun z => absurd c9 z)⟩
  · obtain ⟨r, h9, q, w⟩ := kf c9
    exact ⟨r, h9, q, x_icmp_le hd ht (fun z => absurd z c9) (fun _ => w)⟩
theorem b_goto {off : Int} {tgt : Nat} (hd : decode M.2.1 pc = .ok (.goto off, 3)) (ht : (pc : Int) + off = (tgt : Int)) (k : BW S M tgt ls st h Q) : BW S M pc ls st h Q := by
  obtain ⟨r, h9, q, w⟩ := k
  exact ⟨r, h9, q, x_goto hd ht w⟩
theorem b_ifnull {x : Nat} {off : Int} (hd : decode M.2.1 pc = .ok (.ifnull off, 3)) (k : BW S M (pc + 3) ls st h Q) : BW S M pc ls (.ref x :: st) h Q := by
  obtain ⟨r, h9, q, w⟩ := k
  exact ⟨r, h9, q, x_ifnull hd w⟩
theorem b_ifnullN {off : Int} {tgt : Nat} (hd : decode M.2.1 pc = .ok (.ifnull off, 3)) (ht : (pc : Int) + off = (tgt : Int)) (k : BW S M (tgt) ls st h Q) : BW S M pc ls (.null :: st) h Q := by
  obtain ⟨r, h9, q, w⟩ := k
  exact ⟨r, h9, q, x_ifnullN hd ht w⟩
theorem b_ifnonnull {x : Nat} {off : Int} {tgt : Nat} (hd : decode M.2.1 pc = .ok (.ifnonnull off, 3)) (ht : (pc : Int) + off = (tgt : Int)) (k : BW S M (tgt) ls st h Q) : BW S M pc ls (.ref x :: st) h Q := by
  obtain ⟨r, h9, q, w⟩ := k
  exact ⟨r, h9, q, x_ifnonnull hd ht w⟩
theorem b_ifnonnullN {off : Int} (hd : decode M.2.1 pc = .ok (.ifnonnull off, 3)) (k : BW S M (pc + 3) ls st h Q) : BW S M pc ls (.null :: st) h Q := by
  obtain ⟨r, h9, q, w⟩ := k
  exact ⟨r, h9, q, x_ifnonnullN hd w⟩
theorem b_tableOut {dflt lo hi : Int} {offs : Array Int} {len : Nat} {x : Int32} {tgt : Nat} (hd : decode M.2.1 pc = .ok (.tableswitch dflt lo hi offs, len)) (hx : x.toInt < lo ∨ hi < x.toInt) (ht : (pc : Int) + dflt = (tgt : Int)) (k : BW S M tgt ls st h Q) : BW S M pc ls (.int x :: st) h Q := by
  obtain ⟨r, h9, q, w⟩ := k
  exact ⟨r, h9, q, x_tableOut hd hx ht w⟩
theorem b_tableIn {dflt lo hi : Int} {offs : Array Int} {len : Nat} {x : Int32} {off : Int} {tgt : Nat} (hd : decode M.2.1 pc = .ok (.tableswitch dflt lo hi offs, len)) (h1 : ¬ x.toInt < lo) (h2 : ¬ hi < x.toInt) (ho : offs[(x.toInt - lo).toNat]? = some off) (ht : (pc : Int) + off = (tgt : Int)) (k : BW S M tgt ls st h Q) : BW S M pc ls (.int x :: st) h Q := by
  obtain ⟨r, h9, q, w⟩ := k
  exact ⟨r, h9, q, x_tableIn hd h1 h2 ho ht w⟩
theorem b_ldc {index : Nat} {v : Int32} (hd : decode M.2.1 pc = .ok (.ldc index, 2)) (hw : Cond.constant M.1.cls index v ∈ gtbl) (k : BW S M (pc + 2) ls (.int v :: st) h Q) : BW S M pc ls st h Q := by
  obtain ⟨r, h9, q, w⟩ := k
  exact ⟨r, h9, q, x_ldc hd hw w⟩
theorem b_ldcw {index : Nat} {v : Int32} (hd : decode M.2.1 pc = .ok (.ldc_w index, 3)) (hw : Cond.constant M.1.cls index v ∈ gtbl) (k : BW S M (pc + 3) ls (.int v :: st) h Q) : BW S M pc ls st h Q := by
  obtain ⟨r, h9, q, w⟩ := k
  exact ⟨r, h9, q, x_ldcw hd hw w⟩
theorem b_ldc2 {index : Nat} {v : Int64} (hd : decode M.2.1 pc = .ok (.ldc2_w index, 3)) (hw : Cond.constantLong M.1.cls index v ∈ gtbl) (k : BW S M (pc + 3) ls (.long v :: st) h Q) : BW S M pc ls st h Q := by
  obtain ⟨r, h9, q, w⟩ := k
  exact ⟨r, h9, q, x_ldc2 hd hw w⟩
theorem b_ldcS {index n : Nat} {tx : String} (hd : decode M.2.1 pc = .ok (.ldc index, 2)) (hw : (M.1.cls, index, tx, n) ∈ xstr) (k : BW S M (pc + 2) ls (.retAddr n :: st) h Q) : BW S M pc ls st h Q := by
  obtain ⟨r, h9, q, w⟩ := k
  exact ⟨r, h9, q, x_ldcS hd hw w⟩
theorem b_iret {x : Int32} {ty : FieldType} (hd : decode M.2.1 pc = .ok (.ireturn, 1)) (hr : M.2.2.2.1 = some ty) (hn9 : narrow ty (.int x) = .int x) (q : Q (some (.int x)) h) : BW S M pc ls [.int x] h Q := ⟨_, _, q, x_iret hd hr hn9⟩
theorem b_lret {x : Int64} (hd : decode M.2.1 pc = .ok (.lreturn, 1)) (hr : M.2.2.2.1 = some .long) (q : Q (some (.long x)) h) : BW S M pc ls [.long x] h Q := ⟨_, _, q, x_lret hd hr⟩
theorem b_vret (hd : decode M.2.1 pc = .ok (.return_, 1)) (hr : M.2.2.2.1 = none) (q : Q none h) : BW S M pc ls [] h Q := ⟨_, _, q, x_vret hd hr⟩
theorem b_aret {x : Nat} {C9 : String} (hd : decode M.2.1 pc = .ok (.areturn, 1)) (hr : M.2.2.2.1 = some (.object C9)) (q : Q (some (.ref x)) h) : BW S M pc ls [.ref x] h Q := ⟨_, _, q, x_aret hd hr⟩
theorem b_aretN {C9 : String} (hd : decode M.2.1 pc = .ok (.areturn, 1)) (hr : M.2.2.2.1 = some (.object C9)) (q : Q (some .null) h) : BW S M pc ls [.null] h Q := ⟨_, _, q, x_aretN hd hr⟩
theorem b_getf {index ci k a : Nat} {fs : List Value} {v : Value} (hd : decode M.2.1 pc = .ok (.getfield index, 3)) (hf : xFL M.1.cls index ci k) (he : h[a]? = some (.inr (ci, fs))) (hv : fs[k]? = some v) (kk : BW S M (pc + 3) ls (v :: st) h Q) : BW S M pc ls (.ref a :: st) h Q := by
  obtain ⟨r, h9, q, w⟩ := kk
  exact ⟨r, h9, q, x_getf hd hf he hv w⟩
theorem b_getfN {index ci k a : Nat} {fs : List Value} {v : Value} (hd : decode M.2.1 pc = .ok (.getfield index, 3)) (hf : xFN M.1.cls index ci k) (he : h[a]? = some (.inr (ci, fs))) (hv : fs[k]? = some v) (kk : BW S M (pc + 3) ls (v :: st) h Q) : BW S M pc ls (.ref a :: st) h Q := by
  obtain ⟨r, h9, q, w⟩ := kk
  exact ⟨r, h9, q, x_getfN hd hf he hv w⟩
theorem b_putf {index ci k a : Nat} {fs : List Value} {v : Value} {ty : FieldType} (hd : decode M.2.1 pc = .ok (.putfield index, 3)) (hf : xFL M.1.cls index ci k) (ht : xFT ci k false ty) (hw : xfit ty v) (he : h[a]? = some (.inr (ci, fs))) (hkl : k < fs.length) (hh : h.set a (.inr (ci, fs.set k v)) = h1) (kk : BW S M (pc + 3) ls st h1 Q) : BW S M pc ls (v :: .ref a :: st) h Q := by
  obtain ⟨r, h9, q, w⟩ := kk
  exact ⟨r, h9, q, x_putf hd hf ht hw he hkl hh w⟩
theorem b_putfN {index ci k a : Nat} {fs : List Value} {v : Value} {ty : FieldType} (hd : decode M.2.1 pc = .ok (.putfield index, 3)) (hf : xFN M.1.cls index ci k) (ht : xFT ci k false ty) (hw : xfit ty v) (he : h[a]? = some (.inr (ci, fs))) (hkl : k < fs.length) (hh : h.set a (.inr (ci, fs.set k v)) = h1) (kk : BW S M (pc + 3) ls st h1 Q) : BW S M pc ls (v :: .ref a :: st) h Q := by
  obtain ⟨r, h9, q, w⟩ := kk
  exact ⟨r, h9, q, x_putfN hd hf ht hw he hkl hh w⟩
theorem b_putfF {index ci k a : Nat} {fs : List Value} {v : Value} {ty : FieldType} (hd : decode M.2.1 pc = .ok (.putfield index, 3)) (hf : xFL M.1.cls index ci k) (ht : xFT ci k true ty) (hini : M.1.name = "<init>") (hcl : M.1.cls = (xcl.getD ci ("", xT_Ag, 0)).1) (hdc : ∀ (C : String) (T : u_T) (N : Nat), xcl[ci]? = some (C, T, N) → (T k).1 = C) (hw : xfit ty v) (he : h[a]? = some (.inr (ci, fs))) (hkl : k < fs.length) (hh : h.set a (.inr (ci, fs.set k v)) = h1) (kk : BW S M (pc + 3) ls st h1 Q) : BW S M pc ls (v :: .ref a :: st) h Q := by
  obtain ⟨r, h9, q, w⟩ := kk
  exact ⟨r, h9, q, x_putfF hd hf ht hini hcl hdc hw he hkl hh w⟩
theorem b_iald {a n : Nat} {f : Nat → Int32} {i : Int32} (hd : decode M.2.1 pc = .ok (.iaload, 1)) (he : h[a]? = some (.inl (0, n, .inl f))) (hin : vp_in i n) (kk : BW S M (pc + 1) ls (.int (f i.toNatClampNeg) :: st) h Q) : BW S M pc ls (.int i :: .ref a :: st) h Q := by
  obtain ⟨r, h9, q, w⟩ := kk
  exact ⟨r, h9, q, x_iald hd he hin w⟩
theorem b_zald {a n : Nat} {f : Nat → Int32} {i : Int32} (hd : decode M.2.1 pc = .ok (.baload, 1)) (he : h[a]? = some (.inl (1, n, .inl f))) (hin : vp_in i n) (kk : BW S M (pc + 1) ls (.int (f i.toNatClampNeg) :: st) h Q) : BW S M pc ls (.int i :: .ref a :: st) h Q := by
  obtain ⟨r, h9, q, w⟩ := kk
  exact ⟨r, h9, q, x_zald hd he hin w⟩
theorem b_alen {a t n : Nat} {x : _} {v : Int32} (hd : decode M.2.1 pc = .ok (.arraylength, 1)) (he : h[a]? = some (.inl (t, n, x))) (ht : t < 5) (hv : Int32.ofNat n = v) (kk : BW S M (pc + 1) ls (.int v :: st) h Q) : BW S M pc ls (.ref a :: st) h Q := by
  obtain ⟨r, h9, q, w⟩ := kk
  exact ⟨r, h9, q, x_alen hd he ht hv w⟩
theorem b_aald {a t n : Nat} {f : Nat → Option Nat} {i : Int32} (hd : decode M.2.1 pc = .ok (.aaload, 1)) (he : h[a]? = some (.inl (t, n, .inr (.inr (.inr (.inr f)))))) (ht : 2 ≤ t ∧ t < 5) (hin : vp_in i n) (kk : BW S M (pc + 1) ls (va_rf (f i.toNatClampNeg) :: st) h Q) : BW S M pc ls (.int i :: .ref a :: st) h Q := by
  obtain ⟨r, h9, q, w⟩ := kk
  exact ⟨r, h9, q, x_aald hd he ht hin w⟩
theorem b_iast {a n : Nat} {f : Nat → Int32} {i x : Int32} (hd : decode M.2.1 pc = .ok (.iastore, 1)) (he : h[a]? = some (.inl (0, n, .inl f))) (hin : vp_in i n) (hh : h.set a (.inl (0, n, .inl (upd f i.toNatClampNeg x))) = h1) (kk : BW S M (pc + 1) ls st h1 Q) : BW S M pc ls (.int x :: .int i :: .ref a :: st) h Q := by
  obtain ⟨r, h9, q, w⟩ := kk
  exact ⟨r, h9, q, x_iast hd he hin hh w⟩
theorem b_zast {a n : Nat} {f : Nat → Int32} {i x y : Int32} (hd : decode M.2.1 pc = .ok (.bastore, 1)) (he : h[a]? = some (.inl (1, n, .inl f))) (hin : vp_in i n) (hxy : vp_nar .boolean x = y) (hh : h.set a (.inl (1, n, .inl (upd f i.toNatClampNeg y))) = h1) (kk : BW S M (pc + 1) ls st h1 Q) : BW S M pc ls (.int x :: .int i :: .ref a :: st) h Q := by
  obtain ⟨r, h9, q, w⟩ := kk
  exact ⟨r, h9, q, x_zast hd he hin hxy hh w⟩
theorem b_sald {i : Int32} (hd : decode M.2.1 pc = .ok (.iaload, 1)) (hin : vp_in i S.1) (kk : BW S M (pc + 1) ls (.int (S.2 i.toNatClampNeg) :: st) h Q) : BW S M pc ls (.int i :: .retAddr 99 :: st) h Q := by
  obtain ⟨r, h9, q, w⟩ := kk
  exact ⟨r, h9, q, x_sald hd hin w⟩
theorem b_slen (hd : decode M.2.1 pc = .ok (.arraylength, 1)) (kk : BW S M (pc + 1) ls (.int (Int32.ofNat S.1) :: st) h Q) : BW S M pc ls (.retAddr 99 :: st) h Q := by
  obtain ⟨r, h9, q, w⟩ := kk
  exact ⟨r, h9, q, x_slen hd w⟩
theorem b_oinit {index a : Nat} (hd : decode M.2.1 pc = .ok (.invokespecial index, 3)) (hl : Cond.methodLink M.1.cls index Lib.objectInit ∈ gtbl ∧ Cond.instanceMethod Lib.objectInit ∈ gtbl ∧ Cond.code Lib.objectInit ⟨#[0xb1]⟩ 1 none ∈ gtbl) (hst : (st.map fun v => v.category).sum ≤ 8) (hrm : 1 ≤ M.2.2.2.2.1 ∧ 20 ≤ M.2.2.2.2.2) (kk : BW S M (pc + 3) ls st h Q) : BW S M pc ls (.ref a :: st) h Q := by
  obtain ⟨r, h9, q, w⟩ := kk
  exact ⟨r, h9, q, x_oinit hd hl hst hrm w⟩
theorem b_callVi {index ci b n : Nat} {fs : List Value} {Mc : XM} {As stk : List Value} {Qc : Int32 → St → Prop} (hd : decode M.2.1 pc = .ok (.invokevirtual index, 3)) (hl : xLV M Mc index ci n) (he : h[b]? = some (.inr (ci, fs))) (hn9 : As.length = n) (hs9 : stk = As.reverse ++ .ref b :: st) (hst : (st.map fun v => v.category).sum ≤ 8) (hM : CM S Mc (.ref b :: As) h (qI Qc)) (kk : ∀ (v : Int32) (τ : St), Qc v τ → BW S M (pc + 3) ls (.int v :: st) (enc τ) Q) : BW S M pc ls stk h Q := by
  obtain ⟨r1, h2, qc0, w1⟩ := hM
  obtain ⟨v, τ, rfl, rfl, qc⟩ := qc0
  obtain ⟨r, h9, q, w⟩ := kk v τ qc
  exact ⟨r, h9, q, x_callV hd hl he hn9 hs9 hst w1 w⟩
theorem b_callVl {index ci b n : Nat} {fs : List Value} {Mc : XM} {As stk : List Value} {Qc : Int64 → St → Prop} (hd : decode M.2.1 pc = .ok (.invokevirtual index, 3)) (hl : xLV M Mc index ci n) (he : h[b]? = some (.inr (ci, fs))) (hn9 : As.length = n) (hs9 : stk = As.reverse ++ .ref b :: st) (hst : (st.map fun v => v.category).sum ≤ 8) (hM : CM S Mc (.ref b :: As) h (qL Qc)) (kk : ∀ (v : Int64) (τ : St), Qc v τ → BW S M (pc + 3) ls (.long v :: st) (enc τ) Q) : BW S M pc ls stk h Q := by
  obtain ⟨r1, h2, qc0, w1⟩ := hM
  obtain ⟨v, τ, rfl, rfl, qc⟩ := qc0
  obtain ⟨r, h9, q, w⟩ := kk v τ qc
  exact ⟨r, h9, q, x_callV hd hl he hn9 hs9 hst w1 w⟩
theorem b_callVv {index ci b n : Nat} {fs : List Value} {Mc : XM} {As stk : List Value} {Qc : St → Prop} (hd : decode M.2.1 pc = .ok (.invokevirtual index, 3)) (hl : xLV M Mc index ci n) (he : h[b]? = some (.inr (ci, fs))) (hn9 : As.length = n) (hs9 : stk = As.reverse ++ .ref b :: st) (hst : (st.map fun v => v.category).sum ≤ 8) (hM : CM S Mc (.ref b :: As) h (qV Qc)) (kk : ∀ (τ : St), Qc τ → BW S M (pc + 3) ls (st) (enc τ) Q) : BW S M pc ls stk h Q := by
  obtain ⟨r1, h2, qc0, w1⟩ := hM
  obtain ⟨τ, rfl, rfl, qc⟩ := qc0
  obtain ⟨r, h9, q, w⟩ := kk τ qc
  exact ⟨r, h9, q, x_callV hd hl he hn9 hs9 hst w1 w⟩
theorem b_callVr {index ci b n : Nat} {fs : List Value} {Mc : XM} {As stk : List Value} {Qc : Option Nat → St → Prop} (hd : decode M.2.1 pc = .ok (.invokevirtual index, 3)) (hl : xLV M Mc index ci n) (he : h[b]? = some (.inr (ci, fs))) (hn9 : As.length = n) (hs9 : stk = As.reverse ++ .ref b :: st) (hst : (st.map fun v => v.category).sum ≤ 8) (hM : CM S Mc (.ref b :: As) h (qR Qc)) (kk : ∀ (v : Option Nat) (τ : St), Qc v τ → BW S M (pc + 3) ls (va_rf v :: st) (enc τ) Q) : BW S M pc ls stk h Q := by
  obtain ⟨r1, h2, qc0, w1⟩ := hM
  obtain ⟨v, τ, rfl, rfl, qc⟩ := qc0
  obtain ⟨r, h9, q, w⟩ := kk v τ qc
  exact ⟨r, h9, q, x_callV hd hl he hn9 hs9 hst w1 w⟩
theorem b_callSi {index n : Nat} {Mc : XM} {As stk : List Value} {Qc : Int32 → St → Prop} (hd : decode M.2.1 pc = .ok (.invokestatic index, 3)) (hl : xLS M Mc index n) (hn9 : As.length = n) (hs9 : stk = As.reverse ++ st) (hst : (st.map fun v => v.category).sum ≤ 8) (hM : CM S Mc As h (qI Qc)) (kk : ∀ (v : Int32) (τ : St), Qc v τ → BW S M (pc + 3) ls (.int v :: st) (enc τ) Q) : BW S M pc ls stk h Q := by
  obtain ⟨r1, h2, qc0, w1⟩ := hM
  obtain ⟨v, τ, rfl, rfl, qc⟩ := qc0
  obtain ⟨r, h9, q, w⟩ := kk v τ qc
  exact ⟨r, h9, q, x_callS hd hl hn9 hs9 hst w1 w⟩
theorem b_callSl {index n : Nat} {Mc : XM} {As stk : List Value} {Qc : Int64 → St → Prop} (hd : decode M.2.1 pc = .ok (.invokestatic index, 3)) (hl : xLS M Mc index n) (hn9 : As.length = n) (hs9 : stk = As.reverse ++ st) (hst : (st.map fun v => v.category).sum ≤ 8) (hM : CM S Mc As h (qL Qc)) (kk : ∀ (v : Int64) (τ : St), Qc v τ → BW S M (pc + 3) ls (.long v :: st) (enc τ) Q) : BW S M pc ls stk h Q := by
  obtain ⟨r1, h2, qc0, w1⟩ := hM
  obtain ⟨v, τ, rfl, rfl, qc⟩ := qc0
  obtain ⟨r, h9, q, w⟩ := kk v τ qc
  exact ⟨r, h9, q, x_callS hd hl hn9 hs9 hst w1 w⟩
theorem b_callSv {index n : Nat} {Mc : XM} {As stk : List Value} {Qc : St → Prop} (hd : decode M.2.1 pc = .ok (.invokestatic index, 3)) (hl : xLS M Mc index n) (hn9 : As.length = n) (hs9 : stk = As.reverse ++ st) (hst : (st.map fun v => v.category).sum ≤ 8) (hM : CM S Mc As h (qV Qc)) (kk : ∀ (τ : St), Qc τ → BW S M (pc + 3) ls (st) (enc τ) Q) : BW S M pc ls stk h Q := by
  obtain ⟨r1, h2, qc0, w1⟩ := hM
  obtain ⟨τ, rfl, rfl, qc⟩ := qc0
  obtain ⟨r, h9, q, w⟩ := kk τ qc
  exact ⟨r, h9, q, x_callS hd hl hn9 hs9 hst w1 w⟩
theorem b_callSr {index n : Nat} {Mc : XM} {As stk : List Value} {Qc : Option Nat → St → Prop} (hd : decode M.2.1 pc = .ok (.invokestatic index, 3)) (hl : xLS M Mc index n) (hn9 : As.length = n) (hs9 : stk = As.reverse ++ st) (hst : (st.map fun v => v.category).sum ≤ 8) (hM : CM S Mc As h (qR Qc)) (kk : ∀ (v : Option Nat) (τ : St), Qc v τ → BW S M (pc + 3) ls (va_rf v :: st) (enc τ) Q) : BW S M pc ls stk h Q := by
  obtain ⟨r1, h2, qc0, w1⟩ := hM
  obtain ⟨v, τ, rfl, rfl, qc⟩ := qc0
  obtain ⟨r, h9, q, w⟩ := kk v τ qc
  exact ⟨r, h9, q, x_callS hd hl hn9 hs9 hst w1 w⟩
theorem b_callSNi {index n : Nat} {Mc : XM} {As stk : List Value} {Qc : Int32 → St → Prop} (hd : decode M.2.1 pc = .ok (.invokestatic index, 3)) (hl : xLSN M Mc index n) (hn9 : As.length = n) (hs9 : stk = As.reverse ++ st) (hst : (st.map fun v => v.category).sum ≤ 8) (hM : CM S Mc As h (qI Qc)) (kk : ∀ (v : Int32) (τ : St), Qc v τ → BW S M (pc + 3) ls (.int v :: st) (enc τ) Q) : BW S M pc ls stk h Q := by
  obtain ⟨r1, h2, qc0, w1⟩ := hM
  obtain ⟨v, τ, rfl, rfl, qc⟩ := qc0
  obtain ⟨r, h9, q, w⟩ := kk v τ qc
  exact ⟨r, h9, q, x_callSN hd hl hn9 hs9 hst w1 w⟩
theorem b_callSNl {index n : Nat} {Mc : XM} {As stk : List Value} {Qc : Int64 → St → Prop} (hd : decode M.2.1 pc = .ok (.invokestatic index, 3)) (hl : xLSN M Mc index n) (hn9 : As.length = n) (hs9 : stk = As.reverse ++ st) (hst : (st.map fun v => v.category).sum ≤ 8) (hM : CM S Mc As h (qL Qc)) (kk : ∀ (v : Int64) (τ : St), Qc v τ → BW S M (pc + 3) ls (.long v :: st) (enc τ) Q) : BW S M pc ls stk h Q := by
  obtain ⟨r1, h2, qc0, w1⟩ := hM
  obtain ⟨v, τ, rfl, rfl, qc⟩ := qc0
  obtain ⟨r, h9, q, w⟩ := kk v τ qc
  exact ⟨r, h9, q, x_callSN hd hl hn9 hs9 hst w1 w⟩
theorem b_callSNv {index n : Nat} {Mc : XM} {As stk : List Value} {Qc : St → Prop} (hd : decode M.2.1 pc = .ok (.invokestatic index, 3)) (hl : xLSN M Mc index n) (hn9 : As.length = n) (hs9 : stk = As.reverse ++ st) (hst : (st.map fun v => v.category).sum ≤ 8) (hM : CM S Mc As h (qV Qc)) (kk : ∀ (τ : St), Qc τ → BW S M (pc + 3) ls (st) (enc τ) Q) : BW S M pc ls stk h Q := by
  obtain ⟨r1, h2, qc0, w1⟩ := hM
  obtain ⟨τ, rfl, rfl, qc⟩ := qc0
  obtain ⟨r, h9, q, w⟩ := kk τ qc
  exact ⟨r, h9, q, x_callSN hd hl hn9 hs9 hst w1 w⟩
theorem b_callSNr {index n : Nat} {Mc : XM} {As stk : List Value} {Qc : Option Nat → St → Prop} (hd : decode M.2.1 pc = .ok (.invokestatic index, 3)) (hl : xLSN M Mc index n) (hn9 : As.length = n) (hs9 : stk = As.reverse ++ st) (hst : (st.map fun v => v.category).sum ≤ 8) (hM : CM S Mc As h (qR Qc)) (kk : ∀ (v : Option Nat) (τ : St), Qc v τ → BW S M (pc + 3) ls (va_rf v :: st) (enc τ) Q) : BW S M pc ls stk h Q := by
  obtain ⟨r1, h2, qc0, w1⟩ := hM
  obtain ⟨v, τ, rfl, rfl, qc⟩ := qc0
  obtain ⟨r, h9, q, w⟩ := kk v τ qc
  exact ⟨r, h9, q, x_callSN hd hl hn9 hs9 hst w1 w⟩
theorem b_callIi {index b n : Nat} {Mc : XM} {As stk : List Value} {Qc : Int32 → St → Prop} (hd : decode M.2.1 pc = .ok (.invokespecial index, 3)) (hl : xLI M Mc index n) (hn9 : As.length = n) (hs9 : stk = As.reverse ++ .ref b :: st) (hst : (st.map fun v => v.category).sum ≤ 8) (hM : CM S Mc (.ref b :: As) h (qI Qc)) (kk : ∀ (v : Int32) (τ : St), Qc v τ → BW S M (pc + 3) ls (.int v :: st) (enc τ) Q) : BW S M pc ls stk h Q := by
  obtain ⟨r1, h2, qc0, w1⟩ := hM
  obtain ⟨v, τ, rfl, rfl, qc⟩ := qc0
  obtain ⟨r, h9, q, w⟩ := kk v τ qc
  exact ⟨r, h9, q, x_callI hd hl hn9 hs9 hst w1 w⟩
theorem b_callIl {index b n : Nat} {Mc : XM} {As stk : List Value} {Qc : Int64 → St → Prop} (hd : decode M.2.1 pc = .ok (.invokespecial index, 3)) (hl : xLI M Mc index n) (hn9 : As.length = n) (hs9 : stk = As.reverse ++ .ref b :: st) (hst : (st.map fun v => v.category).sum ≤ 8) (hM : CM S Mc (.ref b :: As) h (qL Qc)) (kk : ∀ (v : Int64) (τ : St), Qc v τ → BW S M (pc + 3) ls (.long v :: st) (enc τ) Q) : BW S M pc ls stk h Q := by
  obtain ⟨r1, h2, qc0, w1⟩ := hM
  obtain ⟨v, τ, rfl, rfl, qc⟩ := qc0
  obtain ⟨r, h9, q, w⟩ := kk v τ qc
  exact ⟨r, h9, q, x_callI hd hl hn9 hs9 hst w1 w⟩
theorem b_callIv {index b n : Nat} {Mc : XM} {As stk : List Value} {Qc : St → Prop} (hd : decode M.2.1 pc = .ok (.invokespecial index, 3)) (hl : xLI M Mc index n) (hn9 : As.length = n) (hs9 : stk = As.reverse ++ .ref b :: st) (hst : (st.map fun v => v.category).sum ≤ 8) (hM : CM S Mc (.ref b :: As) h (qV Qc)) (kk : ∀ (τ : St), Qc τ → BW S M (pc + 3) ls (st) (enc τ) Q) : BW S M pc ls stk h Q := by
  obtain ⟨r1, h2, qc0, w1⟩ := hM
  obtain ⟨τ, rfl, rfl, qc⟩ := qc0
  obtain ⟨r, h9, q, w⟩ := kk τ qc
  exact ⟨r, h9, q, x_callI hd hl hn9 hs9 hst w1 w⟩
theorem b_callIr {index b n : Nat} {Mc : XM} {As stk : List Value} {Qc : Option Nat → St → Prop} (hd : decode M.2.1 pc = .ok (.invokespecial index, 3)) (hl : xLI M Mc index n) (hn9 : As.length = n) (hs9 : stk = As.reverse ++ .ref b :: st) (hst : (st.map fun v => v.category).sum ≤ 8) (hM : CM S Mc (.ref b :: As) h (qR Qc)) (kk : ∀ (v : Option Nat) (τ : St), Qc v τ → BW S M (pc + 3) ls (va_rf v :: st) (enc τ) Q) : BW S M pc ls stk h Q := by
  obtain ⟨r1, h2, qc0, w1⟩ := hM
  obtain ⟨v, τ, rfl, rfl, qc⟩ := qc0
  obtain ⟨r, h9, q, w⟩ := kk v τ qc
  exact ⟨r, h9, q, x_callI hd hl hn9 hs9 hst w1 w⟩
theorem b_callINi {index b n : Nat} {Mc : XM} {As stk : List Value} {Qc : Int32 → St → Prop} (hd : decode M.2.1 pc = .ok (.invokespecial index, 3)) (hl : xLIN M Mc index n) (hn9 : As.length = n) (hs9 : stk = As.reverse ++ .ref b :: st) (hst : (st.map fun v => v.category).sum ≤ 8) (hM : CM S Mc (.ref b :: As) h (qI Qc)) (kk : ∀ (v : Int32) (τ : St), Qc v τ → BW S M (pc + 3) ls (.int v :: st) (enc τ) Q) : BW S M pc ls stk h Q := by
  obtain ⟨r1, h2, qc0, w1⟩ := hM
  obtain ⟨v, τ, rfl, rfl, qc⟩ := qc0
  obtain ⟨r, h9, q, w⟩ := kk v τ qc
  exact ⟨r, h9, q, x_callIN hd hl hn9 hs9 hst w1 w⟩
theorem b_callINl {index b n : Nat} {Mc : XM} {As stk : List Value} {Qc : Int64 → St → Prop} (hd : decode M.2.1 pc = .ok (.invokespecial index, 3)) (hl : xLIN M Mc index n) (hn9 : As.length = n) (hs9 : stk = As.reverse ++ .ref b :: st) (hst : (st.map fun v => v.category).sum ≤ 8) (hM : CM S Mc (.ref b :: As) h (qL Qc)) (kk : ∀ (v : Int64) (τ : St), Qc v τ → BW S M (pc + 3) ls (.long v :: st) (enc τ) Q) : BW S M pc ls stk h Q := by
  obtain ⟨r1, h2, qc0, w1⟩ := hM
  obtain ⟨v, τ, rfl, rfl, qc⟩ := qc0
  obtain ⟨r, h9, q, w⟩ := kk v τ qc
  exact ⟨r, h9, q, x_callIN hd hl hn9 hs9 hst w1 w⟩
theorem b_callINv {index b n : Nat} {Mc : XM} {As stk : List Value} {Qc : St → Prop} (hd : decode M.2.1 pc = .ok (.invokespecial index, 3)) (hl : xLIN M Mc index n) (hn9 : As.length = n) (hs9 : stk = As.reverse ++ .ref b :: st) (hst : (st.map fun v => v.category).sum ≤ 8) (hM : CM S Mc (.ref b :: As) h (qV Qc)) (kk : ∀ (τ : St), Qc τ → BW S M (pc + 3) ls (st) (enc τ) Q) : BW S M pc ls stk h Q := by
  obtain ⟨r1, h2, qc0, w1⟩ := hM
  obtain ⟨τ, rfl, rfl, qc⟩ := qc0
  obtain ⟨r, h9, q, w⟩ := kk τ qc
  exact ⟨r, h9, q, x_callIN hd hl hn9 hs9 hst w1 w⟩
theorem b_callINr {index b n : Nat} {Mc : XM} {As stk : List Value} {Qc : Option Nat → St → Prop} (hd : decode M.2.1 pc = .ok (.invokespecial index, 3)) (hl : xLIN M Mc index n) (hn9 : As.length = n) (hs9 : stk = As.reverse ++ .ref b :: st) (hst : (st.map fun v => v.category).sum ≤ 8) (hM : CM S Mc (.ref b :: As) h (qR Qc)) (kk : ∀ (v : Option Nat) (τ : St), Qc v τ → BW S M (pc + 3) ls (va_rf v :: st) (enc τ) Q) : BW S M pc ls stk h Q := by
  obtain ⟨r1, h2, qc0, w1⟩ := hM
  obtain ⟨v, τ, rfl, rfl, qc⟩ := qc0
  obtain ⟨r, h9, q, w⟩ := kk v τ qc
  exact ⟨r, h9, q, x_callIN hd hl hn9 hs9 hst w1 w⟩
theorem b_meth {as : List Value} (hy : plainName M.1.cls = true) (hcat : (as.map fun v => v.category).sum ≤ M.2.2.1) (hls : xin M.2.2.1 as = ls) (k : BW S M 0 ls [] h Q) : CM S M as h Q := by
  obtain ⟨r, h9, q, w⟩ := k
  exact ⟨r, h9, q, x_meth hy hcat hls w⟩
theorem b_st {pc' : Nat} {ls' : List (Option Value)} {st' : List Value} (e1 : ls = ls') (e2 : st = st') (k : BW S M pc ls' st' h Q) : BW S M pc ls st h Q := by subst e1; subst e2; exact k
end XBW
end
section
/-! MORE ROWS: fewer locals; a row of an array of arrays; a switch; answers that are references. -/
def xmask : List Bool → List (Option Value) → List (Option Value)
  | true :: m, v :: l => v :: xmask m l
  | false :: m, _ :: l => none :: xmask m l
  | _, _ => []
theorem xmask_get : ∀ (m : List Bool) (l : List (Option Value)) (i : Nat) (v : Value), (xmask m l)[i]? = some (some v) → l[i]? = some (some v)
  | [], l, i, v, h => by simp [xmask] at h
  | true :: m, [], i, v, h => by simp [xmask] at h
  | false :: m, [], i, v, h => by simp [xmask] at h
  | true :: m, w :: l, 0, v, h => h
  | true :: m, w :: l, i + 1, v, h => xmask_get m l i v h
  | false :: m, w :: l, 0, v, h => by
    have h : some (none : Option Value) = some (some v) := h
    cases h
  | false :: m, w :: l, i + 1, v, h => xmask_get m l i v h
theorem vp_lt {i : Int32} {n : Nat} (h : vp_in i n) : i.toNatClampNeg < n := Nat.not_le.mp fun q => h (Or.inr q)
theorem xri_in {n b j : Nat} (h : j < n) : xri n b j = some (b + j) := if_pos h
theorem tabOut {x : Int32} (n : Nat) (h : ∀ k : Nat, k < n → ¬ x.toInt = (k : Int)) : x.toInt < 0 ∨ ((n : Int) - 1) < x.toInt := by
  by_cases h0 : x.toInt < 0
  · exact Or.inl h0
  · refine Or.inr ?_
    obtain ⟨k, hk⟩ := Int.eq_ofNat_of_zero_le (show 0 ≤ x.toInt by omega)
    have := h k
    by_cases hlt : k < n
    · exact absurd hk (h k hlt)
    · omega
section XMR
variable {S : XS} {M : XM} {pc : Nat} {ls : List (Option Value)} {st : List Value} {h h1 : XH} {Q : Option Value → XH → Prop}
theorem b_mask (m : List Bool) {ls' : List (Option Value)} (e : xmask m ls = ls') (k : BW S M pc ls' st h Q) : BW S M pc ls st h Q := by
  obtain ⟨r, h9, q, w⟩ := k
  refine ⟨r, h9, q, w.1, fun l K p e' s m' args below meth c n0 z0 H locs L C hn hz hR hS hL => w.2 l K p e' s m' args below meth c n0 z0 H locs L C hn hz hR hS ⟨hL.1, hL.2.1, fun i v hi => hL.2.2 i v (xmask_get m ls i v (by rw [e]; exact hi))⟩⟩
theorem b_rowld {a n b : Nat} {i : Int32} (hd : decode M.2.1 pc = .ok (.aaload, 1)) (he : h[a]? = some (.inl (2, n, .inr (.inr (.inr (.inr (xri n b))))))) (hin : vp_in i n) (kk : BW S M (pc + 1) ls (.ref (b + i.toNatClampNeg) :: st) h Q) : BW S M pc ls (.int i :: .ref a :: st) h Q := by
  refine b_aald hd he ⟨Nat.le_refl 2, by omega⟩ hin ?_
  rw [xri_in (vp_lt hin)]
  exact kk
theorem b_aretO {v : Option Nat} {C9 : String} (hd : decode M.2.1 pc = .ok (.areturn, 1)) (hr : M.2.2.2.1 = some (.object C9)) (q : Q (some (va_rf v)) h) : BW S M pc ls [va_rf v] h Q := by
  cases v with
  | none => exact b_aretN hd hr q
  | some x => exact b_aret hd hr q
theorem b_astore_nO {k0 : Fin 4} {i : Nat} {v : Option Nat} {ls' : List (Option Value)} (hd : decode M.2.1 pc = .ok (.astore_n k0, 1)) (hi : (k0 : Nat) = i) (hn9 : i < M.2.2.1) (hl : xst ls i (va_rf v) = ls') (k : BW S M (pc + 1) ls' st h Q) : BW S M pc ls (va_rf v :: st) h Q := by
  cases v with
  | none => exact b_astore_nN hd hi hn9 hl k
  | some x => exact b_astore_n hd hi hn9 hl k
theorem b_eq {h2 : XH} (e : h = h2) (k : BW S M pc ls st h2 Q) : BW S M pc ls st h Q := by subst e; exact k
end XMR
/-- the objects that are made: a Fact, an Agreement with its two arrays -/
def fL (σ : St) (q k : Nat) : Int64 := match gD σ q with
  | .inr (_, fs) => (match fs[k]? with | some (.long v) => v | _ => 0)
  | _ => 0
def fI (σ : St) (q k : Nat) : Int32 := match gD σ q with
  | .inr (_, fs) => (match fs[k]? with | some (.int v) => v | _ => 0)
  | _ => 0
def fA (σ : St) (q : Nat) : Nat → Int32 := match gD σ q with
  | .inl (_, _, .inl f) => f
  | _ => fun _ => 0
def isFa (σ : St) (q : Nat) : Prop := isd σ q ∧ gD σ q = .inr (3, [.long (fL σ q 0), .int (fI σ q 1), .long (fL σ q 2), .int (fI σ q 3), .int (fI σ q 4), .int (fI σ q 5), .int (fI σ q 6)])
def isAg (σ : St) (q : Nat) : Prop := isd σ q ∧ gD σ q = .inr (0, [.ref (q + 1), .ref (q + 2), .int (fI σ q 2), .int (fI σ q 3), .int (fI σ q 4)])
def isA5 (σ : St) (q : Nat) : Prop := isd σ q ∧ gD σ q = .inl (0, 5, .inl (fA σ q))
def stI (σ : St) (q k : Nat) (v : Int32) : St := sD σ q (match gD σ q with | .inr (c, fs) => .inr (c, fs.set k (.int v)) | e => e)
def stL (σ : St) (q k : Nat) (v : Int64) : St := sD σ q (match gD σ q with | .inr (c, fs) => .inr (c, fs.set k (.long v)) | e => e)
def stA (σ : St) (q : Nat) (f : Nat → Int32) : St := sD σ q (.inl (0, 5, .inl f))
theorem eF (σ : St) {q : Nat} (h : isFa σ q) : (enc σ)[q]? = some (.inr (3, [.long (fL σ q 0), .int (fI σ q 1), .long (fL σ q 2), .int (fI σ q 3), .int (fI σ q 4), .int (fI σ q 5), .int (fI σ q 6)])) := by rw [ed σ h.1, ← h.2]
theorem eA (σ : St) {q : Nat} (h : isAg σ q) : (enc σ)[q]? = some (.inr (0, [.ref (q + 1), .ref (q + 2), .int (fI σ q 2), .int (fI σ q 3), .int (fI σ q 4)])) := by rw [ed σ h.1, ← h.2]
theorem e5 (σ : St) {q : Nat} (h : isA5 σ q) : (enc σ)[q]? = some (.inl (0, 5, .inl (fA σ q))) := by rw [ed σ h.1, ← h.2]
theorem eFI (σ : St) {q : Nat} (h : isFa σ q) (k : Nat) (v : Int32) : (enc σ).set q (.inr (3, ([.long (fL σ q 0), .int (fI σ q 1), .long (fL σ q 2), .int (fI σ q 3), .int (fI σ q 4), .int (fI σ q 5), .int (fI σ q 6)] : List Value).set k (.int v))) = enc (stI σ q k v) := by
  rw [esd σ h.1, stI, h.2]
theorem eFL (σ : St) {q : Nat} (h : isFa σ q) (k : Nat) (v : Int64) : (enc σ).set q (.inr (3, ([.long (fL σ q 0), .int (fI σ q 1), .long (fL σ q 2), .int (fI σ q 3), .int (fI σ q 4), .int (fI σ q 5), .int (fI σ q 6)] : List Value).set k (.long v))) = enc (stL σ q k v) := by
  rw [esd σ h.1, stL, h.2]
theorem eAI (σ : St) {q : Nat} (h : isAg σ q) (k : Nat) (v : Int32) : (enc σ).set q (.inr (0, ([.ref (q + 1), .ref (q + 2), .int (fI σ q 2), .int (fI σ q 3), .int (fI σ q 4)] : List Value).set k (.int v))) = enc (stI σ q k v) := by
  rw [esd σ h.1, stI, h.2]
theorem eA5 (σ : St) {q : Nat} (h : isA5 σ q) (f : Nat → Int32) : (enc σ).set q (.inl (0, 5, .inl f)) = enc (stA σ q f) := by
  rw [esd σ h.1, stA]
end
section
/-! WHAT A PROGRAM DECIDES OF THE TABLES: fields, calls, constants. -/
set_option maxRecDepth 100000 in
theorem ok_Ag : xok 0 xR_Ag xT_Ag 5 xY_Ag := ⟨by decide +kernel, by decide +kernel, by decide +kernel⟩
set_option maxRecDepth 100000 in
theorem ok_As : xok 1 xR_As xT_As 3 xY_As := ⟨by decide +kernel, by decide +kernel, by decide +kernel⟩
set_option maxRecDepth 100000 in
theorem ok_Br : xok 2 xR_Br xT_Br 4 xY_Br := ⟨by decide +kernel, by decide +kernel, by decide +kernel⟩
set_option maxRecDepth 100000 in
theorem ok_Fa : xok 3 xR_Fa xT_Fa 7 xY_Fa := ⟨by decide +kernel, by decide +kernel, by decide +kernel⟩
set_option maxRecDepth 100000 in
theorem ok_Fs : xok 4 xR_Fs xT_Fs 6 xY_Fs := ⟨by decide +kernel, by decide +kernel, by decide +kernel⟩
set_option maxRecDepth 100000 in
theorem ok_Fo : xok 5 xR_Fo xT_Fo 3 xY_Fo := ⟨by decide +kernel, by decide +kernel, by decide +kernel⟩
set_option maxRecDepth 100000 in
theorem ok_Mn : xok 6 xR_Mn xT_Mn 11 xY_Mn := ⟨by decide +kernel, by decide +kernel, by decide +kernel⟩
set_option maxRecDepth 100000 in
theorem ok_Pa : xok 7 xR_Pa xT_Pa 4 xY_Pa := ⟨by decide +kernel, by decide +kernel, by decide +kernel⟩
set_option maxRecDepth 100000 in
theorem ok_Se : xok 8 xR_Se xT_Se 9 xY_Se := ⟨by decide +kernel, by decide +kernel, by decide +kernel⟩
set_option maxRecDepth 100000 in
theorem ok_Sh : xok 9 xR_Sh xT_Sh 10 xY_Sh := ⟨by decide +kernel, by decide +kernel, by decide +kernel⟩
set_option maxRecDepth 100000 in
theorem ok_Tp : xok 10 xR_Tp xT_Tp 5 xY_Tp := ⟨by decide +kernel, by decide +kernel, by decide +kernel⟩
set_option maxRecDepth 100000 in
theorem ok_TH : xok 11 xR_TH xT_TH 8 xY_TH := ⟨by decide +kernel, by decide +kernel, by decide +kernel⟩
set_option maxRecDepth 100000 in
theorem ok_Md : xok 12 xR_Md xT_Md 52 xY_Md := ⟨by decide +kernel, by decide +kernel, by decide +kernel⟩
set_option maxRecDepth 100000 in
theorem fl_TH_10 : xFL "TaleHouse" 10 11 0 := ⟨xR_TH, xT_TH, 8, xY_TH, rfl, by decide, gt_in 328 (by decide +kernel) rfl, ok_TH⟩
set_option maxRecDepth 100000 in
theorem fl_TH_19 : xFL "TaleHouse" 19 11 1 := ⟨xR_TH, xT_TH, 8, xY_TH, rfl, by decide, gt_in 329 (by decide +kernel) rfl, ok_TH⟩
set_option maxRecDepth 100000 in
theorem fl_TH_26 : xFL "TaleHouse" 26 11 2 := ⟨xR_TH, xT_TH, 8, xY_TH, rfl, by decide, gt_in 330 (by decide +kernel) rfl, ok_TH⟩
set_option maxRecDepth 100000 in
theorem fl_TH_33 : xFL "TaleHouse" 33 11 3 := ⟨xR_TH, xT_TH, 8, xY_TH, rfl, by decide, gt_in 331 (by decide +kernel) rfl, ok_TH⟩
set_option maxRecDepth 100000 in
theorem fl_TH_40 : xFL "TaleHouse" 40 11 4 := ⟨xR_TH, xT_TH, 8, xY_TH, rfl, by decide, gt_in 332 (by decide +kernel) rfl, ok_TH⟩
set_option maxRecDepth 100000 in
theorem fl_TH_47 : xFL "TaleHouse" 47 11 5 := ⟨xR_TH, xT_TH, 8, xY_TH, rfl, by decide, gt_in 333 (by decide +kernel) rfl, ok_TH⟩
set_option maxRecDepth 100000 in
theorem fl_TH_54 : xFL "TaleHouse" 54 11 6 := ⟨xR_TH, xT_TH, 8, xY_TH, rfl, by decide, gt_in 334 (by decide +kernel) rfl, ok_TH⟩
set_option maxRecDepth 100000 in
theorem fl_TH_61 : xFL "TaleHouse" 61 11 7 := ⟨xR_TH, xT_TH, 8, xY_TH, rfl, by decide, gt_in 335 (by decide +kernel) rfl, ok_TH⟩
set_option maxRecDepth 100000 in
theorem fl_Ag_9 : xFL "TaleHouse$Agreement" 9 0 0 := ⟨xR_Ag, xT_Ag, 5, xY_Ag, rfl, by decide, gt_in 243 (by decide +kernel) rfl, ok_Ag⟩
set_option maxRecDepth 100000 in
theorem fl_Ag_13 : xFL "TaleHouse$Agreement" 13 0 1 := ⟨xR_Ag, xT_Ag, 5, xY_Ag, rfl, by decide, gt_in 244 (by decide +kernel) rfl, ok_Ag⟩
set_option maxRecDepth 100000 in
theorem fl_Ag_25 : xFL "TaleHouse$Agreement" 25 0 2 := ⟨xR_Ag, xT_Ag, 5, xY_Ag, rfl, by decide, gt_in 245 (by decide +kernel) rfl, ok_Ag⟩
set_option maxRecDepth 100000 in
theorem fl_Ag_45 : xFL "TaleHouse$Agreement" 45 0 3 := ⟨xR_Ag, xT_Ag, 5, xY_Ag, rfl, by decide, gt_in 246 (by decide +kernel) rfl, ok_Ag⟩
set_option maxRecDepth 100000 in
theorem fl_As_13 : xFL "TaleHouse$Agreements" 13 1 0 := ⟨xR_As, xT_As, 3, xY_As, rfl, by decide, gt_in 260 (by decide +kernel) rfl, ok_As⟩
set_option maxRecDepth 100000 in
theorem fl_As_18 : xFL "TaleHouse$Agreements" 18 1 1 := ⟨xR_As, xT_As, 3, xY_As, rfl, by decide, gt_in 261 (by decide +kernel) rfl, ok_As⟩
set_option maxRecDepth 100000 in
theorem fl_As_32 : xFL "TaleHouse$Agreements" 32 1 2 := ⟨xR_As, xT_As, 3, xY_As, rfl, by decide, gt_in 262 (by decide +kernel) rfl, ok_As⟩
set_option maxRecDepth 100000 in
theorem fl_Br_11 : xFL "TaleHouse$Breaks" 11 2 0 := ⟨xR_Br, xT_Br, 4, xY_Br, rfl, by decide, gt_in 69 (by decide +kernel) rfl, ok_Br⟩
set_option maxRecDepth 100000 in
theorem fl_Br_16 : xFL "TaleHouse$Breaks" 16 2 1 := ⟨xR_Br, xT_Br, 4, xY_Br, rfl, by decide, gt_in 70 (by decide +kernel) rfl, ok_Br⟩
set_option maxRecDepth 100000 in
theorem fl_Br_20 : xFL "TaleHouse$Breaks" 20 2 2 := ⟨xR_Br, xT_Br, 4, xY_Br, rfl, by decide, gt_in 71 (by decide +kernel) rfl, ok_Br⟩
set_option maxRecDepth 100000 in
theorem fl_Br_24 : xFL "TaleHouse$Breaks" 24 2 3 := ⟨xR_Br, xT_Br, 4, xY_Br, rfl, by decide, gt_in 72 (by decide +kernel) rfl, ok_Br⟩
set_option maxRecDepth 100000 in
theorem fl_Fa_9 : xFL "TaleHouse$Fact" 9 3 6 := ⟨xR_Fa, xT_Fa, 7, xY_Fa, rfl, by decide, gt_in 194 (by decide +kernel) rfl, ok_Fa⟩
set_option maxRecDepth 100000 in
theorem fl_Fa_24 : xFL "TaleHouse$Fact" 24 3 0 := ⟨xR_Fa, xT_Fa, 7, xY_Fa, rfl, by decide, gt_in 187 (by decide +kernel) rfl, ok_Fa⟩
set_option maxRecDepth 100000 in
theorem fl_Fa_28 : xFL "TaleHouse$Fact" 28 3 2 := ⟨xR_Fa, xT_Fa, 7, xY_Fa, rfl, by decide, gt_in 189 (by decide +kernel) rfl, ok_Fa⟩
set_option maxRecDepth 100000 in
theorem fl_Fa_37 : xFL "TaleHouse$Fact" 37 3 1 := ⟨xR_Fa, xT_Fa, 7, xY_Fa, rfl, by decide, gt_in 188 (by decide +kernel) rfl, ok_Fa⟩
set_option maxRecDepth 100000 in
theorem fl_Fa_55 : xFL "TaleHouse$Fact" 55 3 3 := ⟨xR_Fa, xT_Fa, 7, xY_Fa, rfl, by decide, gt_in 190 (by decide +kernel) rfl, ok_Fa⟩
set_option maxRecDepth 100000 in
theorem fl_Fa_65 : xFL "TaleHouse$Fact" 65 3 5 := ⟨xR_Fa, xT_Fa, 7, xY_Fa, rfl, by decide, gt_in 192 (by decide +kernel) rfl, ok_Fa⟩
set_option maxRecDepth 100000 in
theorem fl_Fs_13 : xFL "TaleHouse$Facts" 13 4 0 := ⟨xR_Fs, xT_Fs, 6, xY_Fs, rfl, by decide, gt_in 211 (by decide +kernel) rfl, ok_Fs⟩
set_option maxRecDepth 100000 in
theorem fl_Fs_17 : xFL "TaleHouse$Facts" 17 4 1 := ⟨xR_Fs, xT_Fs, 6, xY_Fs, rfl, by decide, gt_in 212 (by decide +kernel) rfl, ok_Fs⟩
set_option maxRecDepth 100000 in
theorem fl_Fs_21 : xFL "TaleHouse$Facts" 21 4 2 := ⟨xR_Fs, xT_Fs, 6, xY_Fs, rfl, by decide, gt_in 213 (by decide +kernel) rfl, ok_Fs⟩
set_option maxRecDepth 100000 in
theorem fl_Fs_25 : xFL "TaleHouse$Facts" 25 4 3 := ⟨xR_Fs, xT_Fs, 6, xY_Fs, rfl, by decide, gt_in 214 (by decide +kernel) rfl, ok_Fs⟩
set_option maxRecDepth 100000 in
theorem fl_Fs_39 : xFL "TaleHouse$Facts" 39 4 4 := ⟨xR_Fs, xT_Fs, 6, xY_Fs, rfl, by decide, gt_in 215 (by decide +kernel) rfl, ok_Fs⟩
set_option maxRecDepth 100000 in
theorem fl_Fs_66 : xFL "TaleHouse$Facts" 66 4 5 := ⟨xR_Fs, xT_Fs, 6, xY_Fs, rfl, by decide, gt_in 216 (by decide +kernel) rfl, ok_Fs⟩
set_option maxRecDepth 100000 in
theorem fl_Fo_11 : xFL "TaleHouse$Foretelling" 11 5 0 := ⟨xR_Fo, xT_Fo, 3, xY_Fo, rfl, by decide, gt_in 317 (by decide +kernel) rfl, ok_Fo⟩
set_option maxRecDepth 100000 in
theorem fl_Fo_15 : xFL "TaleHouse$Foretelling" 15 5 1 := ⟨xR_Fo, xT_Fo, 3, xY_Fo, rfl, by decide, gt_in 318 (by decide +kernel) rfl, ok_Fo⟩
set_option maxRecDepth 100000 in
theorem fl_Fo_18 : xFL "TaleHouse$Foretelling" 18 5 2 := ⟨xR_Fo, xT_Fo, 3, xY_Fo, rfl, by decide, gt_in 319 (by decide +kernel) rfl, ok_Fo⟩
set_option maxRecDepth 100000 in
theorem fl_Mn_9 : xFL "TaleHouse$Manuscript" 9 6 0 := ⟨xR_Mn, xT_Mn, 11, xY_Mn, rfl, by decide, gt_in 83 (by decide +kernel) rfl, ok_Mn⟩
set_option maxRecDepth 100000 in
theorem fl_Mn_15 : xFL "TaleHouse$Manuscript" 15 6 1 := ⟨xR_Mn, xT_Mn, 11, xY_Mn, rfl, by decide, gt_in 84 (by decide +kernel) rfl, ok_Mn⟩
set_option maxRecDepth 100000 in
theorem fl_Mn_20 : xFL "TaleHouse$Manuscript" 20 6 2 := ⟨xR_Mn, xT_Mn, 11, xY_Mn, rfl, by decide, gt_in 85 (by decide +kernel) rfl, ok_Mn⟩
set_option maxRecDepth 100000 in
theorem fl_Mn_23 : xFL "TaleHouse$Manuscript" 23 6 3 := ⟨xR_Mn, xT_Mn, 11, xY_Mn, rfl, by decide, gt_in 86 (by decide +kernel) rfl, ok_Mn⟩
set_option maxRecDepth 100000 in
theorem fl_Mn_26 : xFL "TaleHouse$Manuscript" 26 6 4 := ⟨xR_Mn, xT_Mn, 11, xY_Mn, rfl, by decide, gt_in 87 (by decide +kernel) rfl, ok_Mn⟩
set_option maxRecDepth 100000 in
theorem fl_Mn_33 : xFL "TaleHouse$Manuscript" 33 6 5 := ⟨xR_Mn, xT_Mn, 11, xY_Mn, rfl, by decide, gt_in 88 (by decide +kernel) rfl, ok_Mn⟩
set_option maxRecDepth 100000 in
theorem fl_Mn_37 : xFL "TaleHouse$Manuscript" 37 6 7 := ⟨xR_Mn, xT_Mn, 11, xY_Mn, rfl, by decide, gt_in 92 (by decide +kernel) rfl, ok_Mn⟩
set_option maxRecDepth 100000 in
theorem fl_Mn_41 : xFL "TaleHouse$Manuscript" 41 6 8 := ⟨xR_Mn, xT_Mn, 11, xY_Mn, rfl, by decide, gt_in 93 (by decide +kernel) rfl, ok_Mn⟩
set_option maxRecDepth 100000 in
theorem fl_Mn_44 : xFL "TaleHouse$Manuscript" 44 6 9 := ⟨xR_Mn, xT_Mn, 11, xY_Mn, rfl, by decide, gt_in 94 (by decide +kernel) rfl, ok_Mn⟩
set_option maxRecDepth 100000 in
theorem fl_Mn_47 : xFL "TaleHouse$Manuscript" 47 6 10 := ⟨xR_Mn, xT_Mn, 11, xY_Mn, rfl, by decide, gt_in 96 (by decide +kernel) rfl, ok_Mn⟩
set_option maxRecDepth 100000 in
theorem fl_Mn_51 : xFL "TaleHouse$Manuscript" 51 6 6 := ⟨xR_Mn, xT_Mn, 11, xY_Mn, rfl, by decide, gt_in 89 (by decide +kernel) rfl, ok_Mn⟩
set_option maxRecDepth 100000 in
theorem fl_Pa_9 : xFL "TaleHouse$Parts" 9 7 0 := ⟨xR_Pa, xT_Pa, 4, xY_Pa, rfl, by decide, gt_in 161 (by decide +kernel) rfl, ok_Pa⟩
set_option maxRecDepth 100000 in
theorem fl_Pa_15 : xFL "TaleHouse$Parts" 15 7 1 := ⟨xR_Pa, xT_Pa, 4, xY_Pa, rfl, by decide, gt_in 162 (by decide +kernel) rfl, ok_Pa⟩
set_option maxRecDepth 100000 in
theorem fl_Pa_26 : xFL "TaleHouse$Parts" 26 7 2 := ⟨xR_Pa, xT_Pa, 4, xY_Pa, rfl, by decide, gt_in 163 (by decide +kernel) rfl, ok_Pa⟩
set_option maxRecDepth 100000 in
theorem fl_Pa_30 : xFL "TaleHouse$Parts" 30 7 3 := ⟨xR_Pa, xT_Pa, 4, xY_Pa, rfl, by decide, gt_in 164 (by decide +kernel) rfl, ok_Pa⟩
set_option maxRecDepth 100000 in
theorem fl_Se_11 : xFL "TaleHouse$Setting" 11 8 0 := ⟨xR_Se, xT_Se, 9, xY_Se, rfl, by decide, gt_in 127 (by decide +kernel) rfl, ok_Se⟩
set_option maxRecDepth 100000 in
theorem fl_Se_16 : xFL "TaleHouse$Setting" 16 8 1 := ⟨xR_Se, xT_Se, 9, xY_Se, rfl, by decide, gt_in 128 (by decide +kernel) rfl, ok_Se⟩
set_option maxRecDepth 100000 in
theorem fl_Se_20 : xFL "TaleHouse$Setting" 20 8 2 := ⟨xR_Se, xT_Se, 9, xY_Se, rfl, by decide, gt_in 129 (by decide +kernel) rfl, ok_Se⟩
set_option maxRecDepth 100000 in
theorem fl_Se_23 : xFL "TaleHouse$Setting" 23 8 3 := ⟨xR_Se, xT_Se, 9, xY_Se, rfl, by decide, gt_in 130 (by decide +kernel) rfl, ok_Se⟩
set_option maxRecDepth 100000 in
theorem fl_Se_26 : xFL "TaleHouse$Setting" 26 8 4 := ⟨xR_Se, xT_Se, 9, xY_Se, rfl, by decide, gt_in 131 (by decide +kernel) rfl, ok_Se⟩
set_option maxRecDepth 100000 in
theorem fl_Se_29 : xFL "TaleHouse$Setting" 29 8 5 := ⟨xR_Se, xT_Se, 9, xY_Se, rfl, by decide, gt_in 132 (by decide +kernel) rfl, ok_Se⟩
set_option maxRecDepth 100000 in
theorem fl_Se_32 : xFL "TaleHouse$Setting" 32 8 6 := ⟨xR_Se, xT_Se, 9, xY_Se, rfl, by decide, gt_in 133 (by decide +kernel) rfl, ok_Se⟩
set_option maxRecDepth 100000 in
theorem fl_Se_60 : xFL "TaleHouse$Setting" 60 8 7 := ⟨xR_Se, xT_Se, 9, xY_Se, rfl, by decide, gt_in 134 (by decide +kernel) rfl, ok_Se⟩
set_option maxRecDepth 100000 in
theorem fl_Se_82 : xFL "TaleHouse$Setting" 82 8 8 := ⟨xR_Se, xT_Se, 9, xY_Se, rfl, by decide, gt_in 135 (by decide +kernel) rfl, ok_Se⟩
set_option maxRecDepth 100000 in
theorem fl_Sh_11 : xFL "TaleHouse$Shelf" 11 9 0 := ⟨xR_Sh, xT_Sh, 10, xY_Sh, rfl, by decide, gt_in 276 (by decide +kernel) rfl, ok_Sh⟩
set_option maxRecDepth 100000 in
theorem fl_Sh_15 : xFL "TaleHouse$Shelf" 15 9 1 := ⟨xR_Sh, xT_Sh, 10, xY_Sh, rfl, by decide, gt_in 277 (by decide +kernel) rfl, ok_Sh⟩
set_option maxRecDepth 100000 in
theorem fl_Sh_18 : xFL "TaleHouse$Shelf" 18 9 2 := ⟨xR_Sh, xT_Sh, 10, xY_Sh, rfl, by decide, gt_in 278 (by decide +kernel) rfl, ok_Sh⟩
set_option maxRecDepth 100000 in
theorem fl_Sh_21 : xFL "TaleHouse$Shelf" 21 9 3 := ⟨xR_Sh, xT_Sh, 10, xY_Sh, rfl, by decide, gt_in 279 (by decide +kernel) rfl, ok_Sh⟩
set_option maxRecDepth 100000 in
theorem fl_Sh_24 : xFL "TaleHouse$Shelf" 24 9 4 := ⟨xR_Sh, xT_Sh, 10, xY_Sh, rfl, by decide, gt_in 280 (by decide +kernel) rfl, ok_Sh⟩
set_option maxRecDepth 100000 in
theorem fl_Sh_28 : xFL "TaleHouse$Shelf" 28 9 5 := ⟨xR_Sh, xT_Sh, 10, xY_Sh, rfl, by decide, gt_in 281 (by decide +kernel) rfl, ok_Sh⟩
set_option maxRecDepth 100000 in
theorem fl_Sh_32 : xFL "TaleHouse$Shelf" 32 9 6 := ⟨xR_Sh, xT_Sh, 10, xY_Sh, rfl, by decide, gt_in 284 (by decide +kernel) rfl, ok_Sh⟩
set_option maxRecDepth 100000 in
theorem fl_Sh_35 : xFL "TaleHouse$Shelf" 35 9 7 := ⟨xR_Sh, xT_Sh, 10, xY_Sh, rfl, by decide, gt_in 285 (by decide +kernel) rfl, ok_Sh⟩
set_option maxRecDepth 100000 in
theorem fl_Sh_38 : xFL "TaleHouse$Shelf" 38 9 8 := ⟨xR_Sh, xT_Sh, 10, xY_Sh, rfl, by decide, gt_in 286 (by decide +kernel) rfl, ok_Sh⟩
set_option maxRecDepth 100000 in
theorem fl_Sh_49 : xFL "TaleHouse$Shelf" 49 9 9 := ⟨xR_Sh, xT_Sh, 10, xY_Sh, rfl, by decide, gt_in 288 (by decide +kernel) rfl, ok_Sh⟩
set_option maxRecDepth 100000 in
theorem fl_Tp_11 : xFL "TaleHouse$Tape" 11 10 0 := ⟨xR_Tp, xT_Tp, 5, xY_Tp, rfl, by decide, gt_in 34 (by decide +kernel) rfl, ok_Tp⟩
set_option maxRecDepth 100000 in
theorem fl_Tp_15 : xFL "TaleHouse$Tape" 15 10 4 := ⟨xR_Tp, xT_Tp, 5, xY_Tp, rfl, by decide, gt_in 40 (by decide +kernel) rfl, ok_Tp⟩
set_option maxRecDepth 100000 in
theorem fl_Tp_19 : xFL "TaleHouse$Tape" 19 10 1 := ⟨xR_Tp, xT_Tp, 5, xY_Tp, rfl, by decide, gt_in 35 (by decide +kernel) rfl, ok_Tp⟩
set_option maxRecDepth 100000 in
theorem fl_Tp_22 : xFL "TaleHouse$Tape" 22 10 2 := ⟨xR_Tp, xT_Tp, 5, xY_Tp, rfl, by decide, gt_in 37 (by decide +kernel) rfl, ok_Tp⟩
set_option maxRecDepth 100000 in
theorem fl_Tp_25 : xFL "TaleHouse$Tape" 25 10 3 := ⟨xR_Tp, xT_Tp, 5, xY_Tp, rfl, by decide, gt_in 38 (by decide +kernel) rfl, ok_Tp⟩
set_option maxRecDepth 100000 in
theorem fl_Md_1 : xFL "TaleHouseModel" 1 12 0 := ⟨xR_Md, xT_Md, 52, xY_Md, rfl, by decide, gt_in 990 (by decide +kernel) rfl, ok_Md⟩
set_option maxRecDepth 100000 in
theorem fl_Md_7 : xFL "TaleHouseModel" 7 12 1 := ⟨xR_Md, xT_Md, 52, xY_Md, rfl, by decide, gt_in 991 (by decide +kernel) rfl, ok_Md⟩
set_option maxRecDepth 100000 in
theorem fl_Md_17 : xFL "TaleHouseModel" 17 12 2 := ⟨xR_Md, xT_Md, 52, xY_Md, rfl, by decide, gt_in 992 (by decide +kernel) rfl, ok_Md⟩
set_option maxRecDepth 100000 in
theorem fl_Md_20 : xFL "TaleHouseModel" 20 12 3 := ⟨xR_Md, xT_Md, 52, xY_Md, rfl, by decide, gt_in 993 (by decide +kernel) rfl, ok_Md⟩
set_option maxRecDepth 100000 in
theorem fl_Md_23 : xFL "TaleHouseModel" 23 12 4 := ⟨xR_Md, xT_Md, 52, xY_Md, rfl, by decide, gt_in 994 (by decide +kernel) rfl, ok_Md⟩
set_option maxRecDepth 100000 in
theorem fl_Md_26 : xFL "TaleHouseModel" 26 12 5 := ⟨xR_Md, xT_Md, 52, xY_Md, rfl, by decide, gt_in 995 (by decide +kernel) rfl, ok_Md⟩
set_option maxRecDepth 100000 in
theorem fl_Md_29 : xFL "TaleHouseModel" 29 12 6 := ⟨xR_Md, xT_Md, 52, xY_Md, rfl, by decide, gt_in 996 (by decide +kernel) rfl, ok_Md⟩
set_option maxRecDepth 100000 in
theorem fl_Md_32 : xFL "TaleHouseModel" 32 12 7 := ⟨xR_Md, xT_Md, 52, xY_Md, rfl, by decide, gt_in 997 (by decide +kernel) rfl, ok_Md⟩
set_option maxRecDepth 100000 in
theorem fl_Md_35 : xFL "TaleHouseModel" 35 12 8 := ⟨xR_Md, xT_Md, 52, xY_Md, rfl, by decide, gt_in 998 (by decide +kernel) rfl, ok_Md⟩
set_option maxRecDepth 100000 in
theorem fl_Md_38 : xFL "TaleHouseModel" 38 12 9 := ⟨xR_Md, xT_Md, 52, xY_Md, rfl, by decide, gt_in 999 (by decide +kernel) rfl, ok_Md⟩
set_option maxRecDepth 100000 in
theorem fl_Md_41 : xFL "TaleHouseModel" 41 12 10 := ⟨xR_Md, xT_Md, 52, xY_Md, rfl, by decide, gt_in 1000 (by decide +kernel) rfl, ok_Md⟩
set_option maxRecDepth 100000 in
theorem fl_Md_44 : xFL "TaleHouseModel" 44 12 11 := ⟨xR_Md, xT_Md, 52, xY_Md, rfl, by decide, gt_in 1001 (by decide +kernel) rfl, ok_Md⟩
set_option maxRecDepth 100000 in
theorem fl_Md_47 : xFL "TaleHouseModel" 47 12 12 := ⟨xR_Md, xT_Md, 52, xY_Md, rfl, by decide, gt_in 1002 (by decide +kernel) rfl, ok_Md⟩
set_option maxRecDepth 100000 in
theorem fl_Md_50 : xFL "TaleHouseModel" 50 12 13 := ⟨xR_Md, xT_Md, 52, xY_Md, rfl, by decide, gt_in 1003 (by decide +kernel) rfl, ok_Md⟩
set_option maxRecDepth 100000 in
theorem fl_Md_53 : xFL "TaleHouseModel" 53 12 14 := ⟨xR_Md, xT_Md, 52, xY_Md, rfl, by decide, gt_in 1004 (by decide +kernel) rfl, ok_Md⟩
set_option maxRecDepth 100000 in
theorem fl_Md_57 : xFL "TaleHouseModel" 57 12 15 := ⟨xR_Md, xT_Md, 52, xY_Md, rfl, by decide, gt_in 1005 (by decide +kernel) rfl, ok_Md⟩
set_option maxRecDepth 100000 in
theorem fl_Md_60 : xFL "TaleHouseModel" 60 12 16 := ⟨xR_Md, xT_Md, 52, xY_Md, rfl, by decide, gt_in 1006 (by decide +kernel) rfl, ok_Md⟩
set_option maxRecDepth 100000 in
theorem fl_Md_63 : xFL "TaleHouseModel" 63 12 17 := ⟨xR_Md, xT_Md, 52, xY_Md, rfl, by decide, gt_in 1007 (by decide +kernel) rfl, ok_Md⟩
set_option maxRecDepth 100000 in
theorem fl_Md_66 : xFL "TaleHouseModel" 66 12 18 := ⟨xR_Md, xT_Md, 52, xY_Md, rfl, by decide, gt_in 1008 (by decide +kernel) rfl, ok_Md⟩
set_option maxRecDepth 100000 in
theorem fl_Md_69 : xFL "TaleHouseModel" 69 12 19 := ⟨xR_Md, xT_Md, 52, xY_Md, rfl, by decide, gt_in 1009 (by decide +kernel) rfl, ok_Md⟩
set_option maxRecDepth 100000 in
theorem fl_Md_72 : xFL "TaleHouseModel" 72 12 20 := ⟨xR_Md, xT_Md, 52, xY_Md, rfl, by decide, gt_in 1010 (by decide +kernel) rfl, ok_Md⟩
set_option maxRecDepth 100000 in
theorem fl_Md_75 : xFL "TaleHouseModel" 75 12 21 := ⟨xR_Md, xT_Md, 52, xY_Md, rfl, by decide, gt_in 1011 (by decide +kernel) rfl, ok_Md⟩
set_option maxRecDepth 100000 in
theorem fl_Md_78 : xFL "TaleHouseModel" 78 12 22 := ⟨xR_Md, xT_Md, 52, xY_Md, rfl, by decide, gt_in 1012 (by decide +kernel) rfl, ok_Md⟩
set_option maxRecDepth 100000 in
theorem fl_Md_81 : xFL "TaleHouseModel" 81 12 23 := ⟨xR_Md, xT_Md, 52, xY_Md, rfl, by decide, gt_in 1013 (by decide +kernel) rfl, ok_Md⟩
set_option maxRecDepth 100000 in
theorem fl_Md_84 : xFL "TaleHouseModel" 84 12 24 := ⟨xR_Md, xT_Md, 52, xY_Md, rfl, by decide, gt_in 1014 (by decide +kernel) rfl, ok_Md⟩
set_option maxRecDepth 100000 in
theorem fl_Md_87 : xFL "TaleHouseModel" 87 12 25 := ⟨xR_Md, xT_Md, 52, xY_Md, rfl, by decide, gt_in 1015 (by decide +kernel) rfl, ok_Md⟩
set_option maxRecDepth 100000 in
theorem fl_Md_90 : xFL "TaleHouseModel" 90 12 26 := ⟨xR_Md, xT_Md, 52, xY_Md, rfl, by decide, gt_in 1016 (by decide +kernel) rfl, ok_Md⟩
set_option maxRecDepth 100000 in
theorem fl_Md_93 : xFL "TaleHouseModel" 93 12 27 := ⟨xR_Md, xT_Md, 52, xY_Md, rfl, by decide, gt_in 1017 (by decide +kernel) rfl, ok_Md⟩
set_option maxRecDepth 100000 in
theorem fl_Md_96 : xFL "TaleHouseModel" 96 12 28 := ⟨xR_Md, xT_Md, 52, xY_Md, rfl, by decide, gt_in 1018 (by decide +kernel) rfl, ok_Md⟩
set_option maxRecDepth 100000 in
theorem fl_Md_99 : xFL "TaleHouseModel" 99 12 29 := ⟨xR_Md, xT_Md, 52, xY_Md, rfl, by decide, gt_in 1019 (by decide +kernel) rfl, ok_Md⟩
set_option maxRecDepth 100000 in
theorem fl_Md_102 : xFL "TaleHouseModel" 102 12 30 := ⟨xR_Md, xT_Md, 52, xY_Md, rfl, by decide, gt_in 1020 (by decide +kernel) rfl, ok_Md⟩
set_option maxRecDepth 100000 in
theorem fl_Md_105 : xFL "TaleHouseModel" 105 12 31 := ⟨xR_Md, xT_Md, 52, xY_Md, rfl, by decide, gt_in 1021 (by decide +kernel) rfl, ok_Md⟩
set_option maxRecDepth 100000 in
theorem fl_Md_108 : xFL "TaleHouseModel" 108 12 32 := ⟨xR_Md, xT_Md, 52, xY_Md, rfl, by decide, gt_in 1022 (by decide +kernel) rfl, ok_Md⟩
set_option maxRecDepth 100000 in
theorem fl_Md_111 : xFL "TaleHouseModel" 111 12 33 := ⟨xR_Md, xT_Md, 52, xY_Md, rfl, by decide, gt_in 1023 (by decide +kernel) rfl, ok_Md⟩
set_option maxRecDepth 100000 in
theorem fl_Md_114 : xFL "TaleHouseModel" 114 12 34 := ⟨xR_Md, xT_Md, 52, xY_Md, rfl, by decide, gt_in 1024 (by decide +kernel) rfl, ok_Md⟩
set_option maxRecDepth 100000 in
theorem fl_Md_117 : xFL "TaleHouseModel" 117 12 35 := ⟨xR_Md, xT_Md, 52, xY_Md, rfl, by decide, gt_in 1025 (by decide +kernel) rfl, ok_Md⟩
set_option maxRecDepth 100000 in
theorem fl_Md_120 : xFL "TaleHouseModel" 120 12 36 := ⟨xR_Md, xT_Md, 52, xY_Md, rfl, by decide, gt_in 1026 (by decide +kernel) rfl, ok_Md⟩
set_option maxRecDepth 100000 in
theorem fl_Md_123 : xFL "TaleHouseModel" 123 12 37 := ⟨xR_Md, xT_Md, 52, xY_Md, rfl, by decide, gt_in 1027 (by decide +kernel) rfl, ok_Md⟩
set_option maxRecDepth 100000 in
theorem fl_Md_126 : xFL "TaleHouseModel" 126 12 38 := ⟨xR_Md, xT_Md, 52, xY_Md, rfl, by decide, gt_in 1028 (by decide +kernel) rfl, ok_Md⟩
set_option maxRecDepth 100000 in
theorem fl_Md_129 : xFL "TaleHouseModel" 129 12 39 := ⟨xR_Md, xT_Md, 52, xY_Md, rfl, by decide, gt_in 1029 (by decide +kernel) rfl, ok_Md⟩
set_option maxRecDepth 100000 in
theorem fl_Md_132 : xFL "TaleHouseModel" 132 12 40 := ⟨xR_Md, xT_Md, 52, xY_Md, rfl, by decide, gt_in 1030 (by decide +kernel) rfl, ok_Md⟩
set_option maxRecDepth 100000 in
theorem fl_Md_135 : xFL "TaleHouseModel" 135 12 41 := ⟨xR_Md, xT_Md, 52, xY_Md, rfl, by decide, gt_in 1031 (by decide +kernel) rfl, ok_Md⟩
set_option maxRecDepth 100000 in
theorem fl_Md_138 : xFL "TaleHouseModel" 138 12 42 := ⟨xR_Md, xT_Md, 52, xY_Md, rfl, by decide, gt_in 1032 (by decide +kernel) rfl, ok_Md⟩
set_option maxRecDepth 100000 in
theorem fl_Md_141 : xFL "TaleHouseModel" 141 12 43 := ⟨xR_Md, xT_Md, 52, xY_Md, rfl, by decide, gt_in 1033 (by decide +kernel) rfl, ok_Md⟩
set_option maxRecDepth 100000 in
theorem fl_Md_144 : xFL "TaleHouseModel" 144 12 44 := ⟨xR_Md, xT_Md, 52, xY_Md, rfl, by decide, gt_in 1034 (by decide +kernel) rfl, ok_Md⟩
set_option maxRecDepth 100000 in
theorem fl_Md_147 : xFL "TaleHouseModel" 147 12 45 := ⟨xR_Md, xT_Md, 52, xY_Md, rfl, by decide, gt_in 1035 (by decide +kernel) rfl, ok_Md⟩
set_option maxRecDepth 100000 in
theorem fl_Md_150 : xFL "TaleHouseModel" 150 12 46 := ⟨xR_Md, xT_Md, 52, xY_Md, rfl, by decide, gt_in 1036 (by decide +kernel) rfl, ok_Md⟩
set_option maxRecDepth 100000 in
theorem fl_Md_153 : xFL "TaleHouseModel" 153 12 47 := ⟨xR_Md, xT_Md, 52, xY_Md, rfl, by decide, gt_in 1037 (by decide +kernel) rfl, ok_Md⟩
set_option maxRecDepth 100000 in
theorem fl_Md_156 : xFL "TaleHouseModel" 156 12 48 := ⟨xR_Md, xT_Md, 52, xY_Md, rfl, by decide, gt_in 1038 (by decide +kernel) rfl, ok_Md⟩
set_option maxRecDepth 100000 in
theorem fl_Md_160 : xFL "TaleHouseModel" 160 12 49 := ⟨xR_Md, xT_Md, 52, xY_Md, rfl, by decide, gt_in 1039 (by decide +kernel) rfl, ok_Md⟩
set_option maxRecDepth 100000 in
theorem fl_Md_163 : xFL "TaleHouseModel" 163 12 50 := ⟨xR_Md, xT_Md, 52, xY_Md, rfl, by decide, gt_in 1040 (by decide +kernel) rfl, ok_Md⟩
set_option maxRecDepth 100000 in
theorem fl_Md_166 : xFL "TaleHouseModel" 166 12 51 := ⟨xR_Md, xT_Md, 52, xY_Md, rfl, by decide, gt_in 1041 (by decide +kernel) rfl, ok_Md⟩
set_option maxRecDepth 100000 in
theorem fn_TH_73 : xFN "TaleHouse" 73 10 1 := ⟨xR_Tp, xT_Tp, 5, xY_Tp, "TaleHouse", rfl, by decide, List.mem_of_getElem? (i := 36) (by decide +kernel), ok_Tp⟩
set_option maxRecDepth 100000 in
theorem fn_TH_96 : xFN "TaleHouse" 96 6 6 := ⟨xR_Mn, xT_Mn, 11, xY_Mn, "TaleHouse", rfl, by decide, List.mem_of_getElem? (i := 91) (by decide +kernel), ok_Mn⟩
set_option maxRecDepth 100000 in
theorem fn_TH_135 : xFN "TaleHouse" 135 10 3 := ⟨xR_Tp, xT_Tp, 5, xY_Tp, "TaleHouse", rfl, by decide, List.mem_of_getElem? (i := 39) (by decide +kernel), ok_Tp⟩
set_option maxRecDepth 100000 in
theorem fn_TH_138 : xFN "TaleHouse" 138 10 4 := ⟨xR_Tp, xT_Tp, 5, xY_Tp, "TaleHouse", rfl, by decide, List.mem_of_getElem? (i := 41) (by decide +kernel), ok_Tp⟩
set_option maxRecDepth 100000 in
theorem fn_TH_183 : xFN "TaleHouse" 183 9 5 := ⟨xR_Sh, xT_Sh, 10, xY_Sh, "TaleHouse", rfl, by decide, List.mem_of_getElem? (i := 283) (by decide +kernel), ok_Sh⟩
set_option maxRecDepth 100000 in
theorem fn_TH_188 : xFN "TaleHouse" 188 0 3 := ⟨xR_Ag, xT_Ag, 5, xY_Ag, "TaleHouse", rfl, by decide, List.mem_of_getElem? (i := 247) (by decide +kernel), ok_Ag⟩
set_option maxRecDepth 100000 in
theorem fn_TH_250 : xFN "TaleHouse" 250 5 2 := ⟨xR_Fo, xT_Fo, 3, xY_Fo, "TaleHouse", rfl, by decide, List.mem_of_getElem? (i := 320) (by decide +kernel), ok_Fo⟩
set_option maxRecDepth 100000 in
theorem fn_TH_261 : xFN "TaleHouse" 261 9 9 := ⟨xR_Sh, xT_Sh, 10, xY_Sh, "TaleHouse", rfl, by decide, List.mem_of_getElem? (i := 289) (by decide +kernel), ok_Sh⟩
set_option maxRecDepth 100000 in
theorem fn_As_36 : xFN "TaleHouse$Agreements" 36 0 4 := ⟨xR_Ag, xT_Ag, 5, xY_Ag, "TaleHouse", rfl, by decide, List.mem_of_getElem? (i := 248) (by decide +kernel), ok_Ag⟩
set_option maxRecDepth 100000 in
theorem fn_Fs_43 : xFN "TaleHouse$Facts" 43 3 4 := ⟨xR_Fa, xT_Fa, 7, xY_Fa, "TaleHouse", rfl, by decide, List.mem_of_getElem? (i := 191) (by decide +kernel), ok_Fa⟩
set_option maxRecDepth 100000 in
theorem fn_Fs_46 : xFN "TaleHouse$Facts" 46 3 5 := ⟨xR_Fa, xT_Fa, 7, xY_Fa, "TaleHouse", rfl, by decide, List.mem_of_getElem? (i := 193) (by decide +kernel), ok_Fa⟩
set_option maxRecDepth 100000 in
theorem fn_Fs_53 : xFN "TaleHouse$Facts" 53 3 6 := ⟨xR_Fa, xT_Fa, 7, xY_Fa, "TaleHouse", rfl, by decide, List.mem_of_getElem? (i := 195) (by decide +kernel), ok_Fa⟩
set_option maxRecDepth 100000 in
theorem fn_Fo_29 : xFN "TaleHouse$Foretelling" 29 9 5 := ⟨xR_Sh, xT_Sh, 10, xY_Sh, "TaleHouse", rfl, by decide, List.mem_of_getElem? (i := 282) (by decide +kernel), ok_Sh⟩
set_option maxRecDepth 100000 in
theorem fn_Fo_34 : xFN "TaleHouse$Foretelling" 34 9 8 := ⟨xR_Sh, xT_Sh, 10, xY_Sh, "TaleHouse", rfl, by decide, List.mem_of_getElem? (i := 287) (by decide +kernel), ok_Sh⟩
set_option maxRecDepth 100000 in
theorem fn_Se_36 : xFN "TaleHouse$Setting" 36 6 6 := ⟨xR_Mn, xT_Mn, 11, xY_Mn, "TaleHouse", rfl, by decide, List.mem_of_getElem? (i := 90) (by decide +kernel), ok_Mn⟩
set_option maxRecDepth 100000 in
theorem fn_Se_71 : xFN "TaleHouse$Setting" 71 6 9 := ⟨xR_Mn, xT_Mn, 11, xY_Mn, "TaleHouse", rfl, by decide, List.mem_of_getElem? (i := 95) (by decide +kernel), ok_Mn⟩
theorem ft_0_0 : xFT 0 0 true (.array .int) := ⟨xR_Ag, xT_Ag, 5, rfl, rfl, by decide +kernel⟩
theorem ft_0_1 : xFT 0 1 true (.array .int) := ⟨xR_Ag, xT_Ag, 5, rfl, rfl, by decide +kernel⟩
theorem ft_0_2 : xFT 0 2 false .int := ⟨xR_Ag, xT_Ag, 5, rfl, rfl, by decide +kernel⟩
theorem ft_0_3 : xFT 0 3 false .int := ⟨xR_Ag, xT_Ag, 5, rfl, rfl, by decide +kernel⟩
theorem ft_0_4 : xFT 0 4 false .int := ⟨xR_Ag, xT_Ag, 5, rfl, rfl, by decide +kernel⟩
theorem ft_1_0 : xFT 1 0 true (.array (.object "TaleHouse$Agreement")) := ⟨xR_As, xT_As, 3, rfl, rfl, by decide +kernel⟩
theorem ft_1_1 : xFT 1 1 false (.object "TaleHouse$Agreement") := ⟨xR_As, xT_As, 3, rfl, rfl, by decide +kernel⟩
theorem ft_1_2 : xFT 1 2 false .int := ⟨xR_As, xT_As, 3, rfl, rfl, by decide +kernel⟩
theorem ft_2_0 : xFT 2 0 true (.array (.array .int)) := ⟨xR_Br, xT_Br, 4, rfl, rfl, by decide +kernel⟩
theorem ft_2_1 : xFT 2 1 false (.array .int) := ⟨xR_Br, xT_Br, 4, rfl, rfl, by decide +kernel⟩
theorem ft_2_2 : xFT 2 2 false .int := ⟨xR_Br, xT_Br, 4, rfl, rfl, by decide +kernel⟩
theorem ft_2_3 : xFT 2 3 false .int := ⟨xR_Br, xT_Br, 4, rfl, rfl, by decide +kernel⟩
theorem ft_3_0 : xFT 3 0 false .long := ⟨xR_Fa, xT_Fa, 7, rfl, rfl, by decide +kernel⟩
theorem ft_3_1 : xFT 3 1 false .int := ⟨xR_Fa, xT_Fa, 7, rfl, rfl, by decide +kernel⟩
theorem ft_3_2 : xFT 3 2 false .long := ⟨xR_Fa, xT_Fa, 7, rfl, rfl, by decide +kernel⟩
theorem ft_3_3 : xFT 3 3 false .int := ⟨xR_Fa, xT_Fa, 7, rfl, rfl, by decide +kernel⟩
theorem ft_3_4 : xFT 3 4 false .int := ⟨xR_Fa, xT_Fa, 7, rfl, rfl, by decide +kernel⟩
theorem ft_3_5 : xFT 3 5 false .int := ⟨xR_Fa, xT_Fa, 7, rfl, rfl, by decide +kernel⟩
theorem ft_3_6 : xFT 3 6 false .int := ⟨xR_Fa, xT_Fa, 7, rfl, rfl, by decide +kernel⟩
theorem ft_4_0 : xFT 4 0 true (.array (.object "TaleHouse$Fact")) := ⟨xR_Fs, xT_Fs, 6, rfl, rfl, by decide +kernel⟩
theorem ft_4_1 : xFT 4 1 true (.array .int) := ⟨xR_Fs, xT_Fs, 6, rfl, rfl, by decide +kernel⟩
theorem ft_4_2 : xFT 4 2 true (.array .int) := ⟨xR_Fs, xT_Fs, 6, rfl, rfl, by decide +kernel⟩
theorem ft_4_3 : xFT 4 3 false (.object "TaleHouse$Fact") := ⟨xR_Fs, xT_Fs, 6, rfl, rfl, by decide +kernel⟩
theorem ft_4_4 : xFT 4 4 false .int := ⟨xR_Fs, xT_Fs, 6, rfl, rfl, by decide +kernel⟩
theorem ft_4_5 : xFT 4 5 false .int := ⟨xR_Fs, xT_Fs, 6, rfl, rfl, by decide +kernel⟩
theorem ft_5_0 : xFT 5 0 true (.array .int) := ⟨xR_Fo, xT_Fo, 3, rfl, rfl, by decide +kernel⟩
theorem ft_5_1 : xFT 5 1 true (.array .int) := ⟨xR_Fo, xT_Fo, 3, rfl, rfl, by decide +kernel⟩
theorem ft_5_2 : xFT 5 2 false .int := ⟨xR_Fo, xT_Fo, 3, rfl, rfl, by decide +kernel⟩
theorem ft_6_0 : xFT 6 0 true (.array .int) := ⟨xR_Mn, xT_Mn, 11, rfl, rfl, by decide +kernel⟩
theorem ft_6_1 : xFT 6 1 true (.array .int) := ⟨xR_Mn, xT_Mn, 11, rfl, rfl, by decide +kernel⟩
theorem ft_6_2 : xFT 6 2 true (.array (.array .int)) := ⟨xR_Mn, xT_Mn, 11, rfl, rfl, by decide +kernel⟩
theorem ft_6_3 : xFT 6 3 true (.array (.array .int)) := ⟨xR_Mn, xT_Mn, 11, rfl, rfl, by decide +kernel⟩
theorem ft_6_4 : xFT 6 4 true (.array .boolean) := ⟨xR_Mn, xT_Mn, 11, rfl, rfl, by decide +kernel⟩
theorem ft_6_5 : xFT 6 5 true (.object "TaleHouse$Breaks") := ⟨xR_Mn, xT_Mn, 11, rfl, rfl, by decide +kernel⟩
theorem ft_6_6 : xFT 6 6 false .int := ⟨xR_Mn, xT_Mn, 11, rfl, rfl, by decide +kernel⟩
theorem ft_6_7 : xFT 6 7 false .int := ⟨xR_Mn, xT_Mn, 11, rfl, rfl, by decide +kernel⟩
theorem ft_6_8 : xFT 6 8 false .int := ⟨xR_Mn, xT_Mn, 11, rfl, rfl, by decide +kernel⟩
theorem ft_6_9 : xFT 6 9 false .int := ⟨xR_Mn, xT_Mn, 11, rfl, rfl, by decide +kernel⟩
theorem ft_6_10 : xFT 6 10 false .int := ⟨xR_Mn, xT_Mn, 11, rfl, rfl, by decide +kernel⟩
theorem ft_7_0 : xFT 7 0 true (.array .int) := ⟨xR_Pa, xT_Pa, 4, rfl, rfl, by decide +kernel⟩
theorem ft_7_1 : xFT 7 1 true (.array .int) := ⟨xR_Pa, xT_Pa, 4, rfl, rfl, by decide +kernel⟩
theorem ft_7_2 : xFT 7 2 false .int := ⟨xR_Pa, xT_Pa, 4, rfl, rfl, by decide +kernel⟩
theorem ft_7_3 : xFT 7 3 false .int := ⟨xR_Pa, xT_Pa, 4, rfl, rfl, by decide +kernel⟩
theorem ft_8_0 : xFT 8 0 true (.array (.array .int)) := ⟨xR_Se, xT_Se, 9, rfl, rfl, by decide +kernel⟩
theorem ft_8_1 : xFT 8 1 true (.array .int) := ⟨xR_Se, xT_Se, 9, rfl, rfl, by decide +kernel⟩
theorem ft_8_2 : xFT 8 2 true (.array .int) := ⟨xR_Se, xT_Se, 9, rfl, rfl, by decide +kernel⟩
theorem ft_8_3 : xFT 8 3 true (.array (.array .int)) := ⟨xR_Se, xT_Se, 9, rfl, rfl, by decide +kernel⟩
theorem ft_8_4 : xFT 8 4 true (.array .int) := ⟨xR_Se, xT_Se, 9, rfl, rfl, by decide +kernel⟩
theorem ft_8_5 : xFT 8 5 true (.array .int) := ⟨xR_Se, xT_Se, 9, rfl, rfl, by decide +kernel⟩
theorem ft_8_6 : xFT 8 6 true (.array .int) := ⟨xR_Se, xT_Se, 9, rfl, rfl, by decide +kernel⟩
theorem ft_8_7 : xFT 8 7 false .int := ⟨xR_Se, xT_Se, 9, rfl, rfl, by decide +kernel⟩
theorem ft_8_8 : xFT 8 8 false .int := ⟨xR_Se, xT_Se, 9, rfl, rfl, by decide +kernel⟩
theorem ft_9_0 : xFT 9 0 true (.array .int) := ⟨xR_Sh, xT_Sh, 10, rfl, rfl, by decide +kernel⟩
theorem ft_9_1 : xFT 9 1 true (.array .int) := ⟨xR_Sh, xT_Sh, 10, rfl, rfl, by decide +kernel⟩
theorem ft_9_2 : xFT 9 2 true (.array .int) := ⟨xR_Sh, xT_Sh, 10, rfl, rfl, by decide +kernel⟩
theorem ft_9_3 : xFT 9 3 true (.array .int) := ⟨xR_Sh, xT_Sh, 10, rfl, rfl, by decide +kernel⟩
theorem ft_9_4 : xFT 9 4 true (.array .boolean) := ⟨xR_Sh, xT_Sh, 10, rfl, rfl, by decide +kernel⟩
theorem ft_9_5 : xFT 9 5 false .int := ⟨xR_Sh, xT_Sh, 10, rfl, rfl, by decide +kernel⟩
theorem ft_9_6 : xFT 9 6 false .int := ⟨xR_Sh, xT_Sh, 10, rfl, rfl, by decide +kernel⟩
theorem ft_9_7 : xFT 9 7 false .int := ⟨xR_Sh, xT_Sh, 10, rfl, rfl, by decide +kernel⟩
theorem ft_9_8 : xFT 9 8 false .int := ⟨xR_Sh, xT_Sh, 10, rfl, rfl, by decide +kernel⟩
theorem ft_9_9 : xFT 9 9 false .long := ⟨xR_Sh, xT_Sh, 10, rfl, rfl, by decide +kernel⟩
theorem ft_10_0 : xFT 10 0 true (.array .int) := ⟨xR_Tp, xT_Tp, 5, rfl, rfl, by decide +kernel⟩
theorem ft_10_1 : xFT 10 1 false .int := ⟨xR_Tp, xT_Tp, 5, rfl, rfl, by decide +kernel⟩
theorem ft_10_2 : xFT 10 2 false .int := ⟨xR_Tp, xT_Tp, 5, rfl, rfl, by decide +kernel⟩
theorem ft_10_3 : xFT 10 3 false .int := ⟨xR_Tp, xT_Tp, 5, rfl, rfl, by decide +kernel⟩
theorem ft_10_4 : xFT 10 4 false .int := ⟨xR_Tp, xT_Tp, 5, rfl, rfl, by decide +kernel⟩
theorem ft_11_0 : xFT 11 0 true (.object "TaleHouse$Tape") := ⟨xR_TH, xT_TH, 8, rfl, rfl, by decide +kernel⟩
theorem ft_11_1 : xFT 11 1 true (.object "TaleHouse$Manuscript") := ⟨xR_TH, xT_TH, 8, rfl, rfl, by decide +kernel⟩
theorem ft_11_2 : xFT 11 2 true (.object "TaleHouse$Setting") := ⟨xR_TH, xT_TH, 8, rfl, rfl, by decide +kernel⟩
theorem ft_11_3 : xFT 11 3 true (.object "TaleHouse$Parts") := ⟨xR_TH, xT_TH, 8, rfl, rfl, by decide +kernel⟩
theorem ft_11_4 : xFT 11 4 true (.object "TaleHouse$Facts") := ⟨xR_TH, xT_TH, 8, rfl, rfl, by decide +kernel⟩
theorem ft_11_5 : xFT 11 5 true (.object "TaleHouse$Agreements") := ⟨xR_TH, xT_TH, 8, rfl, rfl, by decide +kernel⟩
theorem ft_11_6 : xFT 11 6 true (.object "TaleHouse$Shelf") := ⟨xR_TH, xT_TH, 8, rfl, rfl, by decide +kernel⟩
theorem ft_11_7 : xFT 11 7 true (.object "TaleHouse$Foretelling") := ⟨xR_TH, xT_TH, 8, rfl, rfl, by decide +kernel⟩
theorem ft_12_0 : xFT 12 0 true (.array .int) := ⟨xR_Md, xT_Md, 52, rfl, rfl, by decide +kernel⟩
theorem ft_12_1 : xFT 12 1 false .int := ⟨xR_Md, xT_Md, 52, rfl, rfl, by decide +kernel⟩
theorem ft_12_2 : xFT 12 2 false .int := ⟨xR_Md, xT_Md, 52, rfl, rfl, by decide +kernel⟩
theorem ft_12_3 : xFT 12 3 true (.array .int) := ⟨xR_Md, xT_Md, 52, rfl, rfl, by decide +kernel⟩
theorem ft_12_4 : xFT 12 4 true (.array .int) := ⟨xR_Md, xT_Md, 52, rfl, rfl, by decide +kernel⟩
theorem ft_12_5 : xFT 12 5 true (.array .int) := ⟨xR_Md, xT_Md, 52, rfl, rfl, by decide +kernel⟩
theorem ft_12_6 : xFT 12 6 false .int := ⟨xR_Md, xT_Md, 52, rfl, rfl, by decide +kernel⟩
theorem ft_12_7 : xFT 12 7 false .int := ⟨xR_Md, xT_Md, 52, rfl, rfl, by decide +kernel⟩
theorem ft_12_8 : xFT 12 8 false .int := ⟨xR_Md, xT_Md, 52, rfl, rfl, by decide +kernel⟩
theorem ft_12_9 : xFT 12 9 false .int := ⟨xR_Md, xT_Md, 52, rfl, rfl, by decide +kernel⟩
theorem ft_12_10 : xFT 12 10 true (.array .int) := ⟨xR_Md, xT_Md, 52, rfl, rfl, by decide +kernel⟩
theorem ft_12_11 : xFT 12 11 true (.array .int) := ⟨xR_Md, xT_Md, 52, rfl, rfl, by decide +kernel⟩
theorem ft_12_12 : xFT 12 12 true (.array .int) := ⟨xR_Md, xT_Md, 52, rfl, rfl, by decide +kernel⟩
theorem ft_12_13 : xFT 12 13 false .int := ⟨xR_Md, xT_Md, 52, rfl, rfl, by decide +kernel⟩
theorem ft_12_14 : xFT 12 14 true (.array .boolean) := ⟨xR_Md, xT_Md, 52, rfl, rfl, by decide +kernel⟩
theorem ft_12_15 : xFT 12 15 true (.array .int) := ⟨xR_Md, xT_Md, 52, rfl, rfl, by decide +kernel⟩
theorem ft_12_16 : xFT 12 16 true (.array .int) := ⟨xR_Md, xT_Md, 52, rfl, rfl, by decide +kernel⟩
theorem ft_12_17 : xFT 12 17 true (.array .int) := ⟨xR_Md, xT_Md, 52, rfl, rfl, by decide +kernel⟩
theorem ft_12_18 : xFT 12 18 true (.array .int) := ⟨xR_Md, xT_Md, 52, rfl, rfl, by decide +kernel⟩
theorem ft_12_19 : xFT 12 19 true (.array .int) := ⟨xR_Md, xT_Md, 52, rfl, rfl, by decide +kernel⟩
theorem ft_12_20 : xFT 12 20 true (.array .int) := ⟨xR_Md, xT_Md, 52, rfl, rfl, by decide +kernel⟩
theorem ft_12_21 : xFT 12 21 false .int := ⟨xR_Md, xT_Md, 52, rfl, rfl, by decide +kernel⟩
theorem ft_12_22 : xFT 12 22 false .int := ⟨xR_Md, xT_Md, 52, rfl, rfl, by decide +kernel⟩
theorem ft_12_23 : xFT 12 23 false .int := ⟨xR_Md, xT_Md, 52, rfl, rfl, by decide +kernel⟩
theorem ft_12_24 : xFT 12 24 false .int := ⟨xR_Md, xT_Md, 52, rfl, rfl, by decide +kernel⟩
theorem ft_12_25 : xFT 12 25 false .int := ⟨xR_Md, xT_Md, 52, rfl, rfl, by decide +kernel⟩
theorem ft_12_26 : xFT 12 26 true (.array .int) := ⟨xR_Md, xT_Md, 52, rfl, rfl, by decide +kernel⟩
theorem ft_12_27 : xFT 12 27 true (.array .int) := ⟨xR_Md, xT_Md, 52, rfl, rfl, by decide +kernel⟩
theorem ft_12_28 : xFT 12 28 true (.array .int) := ⟨xR_Md, xT_Md, 52, rfl, rfl, by decide +kernel⟩
theorem ft_12_29 : xFT 12 29 true (.array .int) := ⟨xR_Md, xT_Md, 52, rfl, rfl, by decide +kernel⟩
theorem ft_12_30 : xFT 12 30 true (.array .int) := ⟨xR_Md, xT_Md, 52, rfl, rfl, by decide +kernel⟩
theorem ft_12_31 : xFT 12 31 true (.array .int) := ⟨xR_Md, xT_Md, 52, rfl, rfl, by decide +kernel⟩
theorem ft_12_32 : xFT 12 32 true (.array .int) := ⟨xR_Md, xT_Md, 52, rfl, rfl, by decide +kernel⟩
theorem ft_12_33 : xFT 12 33 true (.array .int) := ⟨xR_Md, xT_Md, 52, rfl, rfl, by decide +kernel⟩
theorem ft_12_34 : xFT 12 34 true (.array .int) := ⟨xR_Md, xT_Md, 52, rfl, rfl, by decide +kernel⟩
theorem ft_12_35 : xFT 12 35 false .int := ⟨xR_Md, xT_Md, 52, rfl, rfl, by decide +kernel⟩
theorem ft_12_36 : xFT 12 36 false .int := ⟨xR_Md, xT_Md, 52, rfl, rfl, by decide +kernel⟩
theorem ft_12_37 : xFT 12 37 true (.array .int) := ⟨xR_Md, xT_Md, 52, rfl, rfl, by decide +kernel⟩
theorem ft_12_38 : xFT 12 38 true (.array .int) := ⟨xR_Md, xT_Md, 52, rfl, rfl, by decide +kernel⟩
theorem ft_12_39 : xFT 12 39 true (.array .int) := ⟨xR_Md, xT_Md, 52, rfl, rfl, by decide +kernel⟩
theorem ft_12_40 : xFT 12 40 true (.array .int) := ⟨xR_Md, xT_Md, 52, rfl, rfl, by decide +kernel⟩
theorem ft_12_41 : xFT 12 41 false .int := ⟨xR_Md, xT_Md, 52, rfl, rfl, by decide +kernel⟩
theorem ft_12_42 : xFT 12 42 true (.array .int) := ⟨xR_Md, xT_Md, 52, rfl, rfl, by decide +kernel⟩
theorem ft_12_43 : xFT 12 43 true (.array .int) := ⟨xR_Md, xT_Md, 52, rfl, rfl, by decide +kernel⟩
theorem ft_12_44 : xFT 12 44 false .int := ⟨xR_Md, xT_Md, 52, rfl, rfl, by decide +kernel⟩
theorem ft_12_45 : xFT 12 45 false .int := ⟨xR_Md, xT_Md, 52, rfl, rfl, by decide +kernel⟩
theorem ft_12_46 : xFT 12 46 false .int := ⟨xR_Md, xT_Md, 52, rfl, rfl, by decide +kernel⟩
theorem ft_12_47 : xFT 12 47 false .int := ⟨xR_Md, xT_Md, 52, rfl, rfl, by decide +kernel⟩
theorem ft_12_48 : xFT 12 48 false .long := ⟨xR_Md, xT_Md, 52, rfl, rfl, by decide +kernel⟩
theorem ft_12_49 : xFT 12 49 false .int := ⟨xR_Md, xT_Md, 52, rfl, rfl, by decide +kernel⟩
theorem ft_12_50 : xFT 12 50 true (.array .int) := ⟨xR_Md, xT_Md, 52, rfl, rfl, by decide +kernel⟩
theorem ft_12_51 : xFT 12 51 true (.array .int) := ⟨xR_Md, xT_Md, 52, rfl, rfl, by decide +kernel⟩
set_option maxRecDepth 100000 in
theorem cn_TH_106 : Cond.constant "TaleHouse" 106 (1000000000) ∈ gtbl := gt_in 450 (by decide +kernel) rfl
set_option maxRecDepth 100000 in
theorem cn_TH_167 : Cond.constantLong "TaleHouse" 167 (-1) ∈ gtbl := gt_in 809 (by decide +kernel) rfl
set_option maxRecDepth 100000 in
theorem cn_TH_186 : Cond.constantLong "TaleHouse" 186 (100) ∈ gtbl := gt_in 828 (by decide +kernel) rfl
set_option maxRecDepth 100000 in
theorem cn_TH_222 : Cond.constant "TaleHouse" 222 (100000) ∈ gtbl := gt_in 895 (by decide +kernel) rfl
set_option maxRecDepth 100000 in
theorem cn_TH_255 : Cond.constantLong "TaleHouse" 255 (-9000000000000000000) ∈ gtbl := gt_in 978 (by decide +kernel) rfl
set_option maxRecDepth 100000 in
theorem cn_Ag_56 : Cond.constant "TaleHouse$Agreement" 56 (99999) ∈ gtbl := gt_in 785 (by decide +kernel) rfl
set_option maxRecDepth 100000 in
theorem cn_Br_27 : Cond.constant "TaleHouse$Breaks" 27 (1000000000) ∈ gtbl := gt_in 426 (by decide +kernel) rfl
set_option maxRecDepth 100000 in
theorem cn_Fa_50 : Cond.constant "TaleHouse$Fact" 50 (99999) ∈ gtbl := gt_in 654 (by decide +kernel) rfl
set_option maxRecDepth 100000 in
theorem cn_Fo_22 : Cond.constant "TaleHouse$Foretelling" 22 (100000) ∈ gtbl := gt_in 959 (by decide +kernel) rfl
set_option maxRecDepth 100000 in
theorem cn_Mn_50 : Cond.constant "TaleHouse$Manuscript" 50 (100000) ∈ gtbl := gt_in 381 (by decide +kernel) rfl
set_option maxRecDepth 100000 in
theorem cn_Mn_57 : Cond.constant "TaleHouse$Manuscript" 57 (1000000000) ∈ gtbl := gt_in 449 (by decide +kernel) rfl
set_option maxRecDepth 100000 in
theorem cn_Se_35 : Cond.constant "TaleHouse$Setting" 35 (1000000000) ∈ gtbl := gt_in 459 (by decide +kernel) rfl
set_option maxRecDepth 100000 in
theorem cn_Sh_62 : Cond.constant "TaleHouse$Shelf" 62 (2147483647) ∈ gtbl := gt_in 945 (by decide +kernel) rfl
set_option maxRecDepth 100000 in
theorem cn_Tp_44 : Cond.constantLong "TaleHouse$Tape" 44 (27) ∈ gtbl := gt_in 636 (by decide +kernel) rfl
set_option maxRecDepth 100000 in
theorem cn_Md_173 : Cond.constant "TaleHouseModel" 173 (100000) ∈ gtbl := gt_in 1163 (by decide +kernel) rfl
set_option maxRecDepth 100000 in
theorem cn_Md_178 : Cond.constant "TaleHouseModel" 178 (1000000000) ∈ gtbl := gt_in 1187 (by decide +kernel) rfl
set_option maxRecDepth 100000 in
theorem cn_Md_216 : Cond.constantLong "TaleHouseModel" 216 (255) ∈ gtbl := gt_in 1263 (by decide +kernel) rfl
set_option maxRecDepth 100000 in
theorem cn_Md_237 : Cond.constantLong "TaleHouseModel" 237 (1651470958) ∈ gtbl := gt_in 1258 (by decide +kernel) rfl
set_option maxRecDepth 100000 in
theorem cn_Md_239 : Cond.constantLong "TaleHouseModel" 239 (1684365668) ∈ gtbl := gt_in 1264 (by decide +kernel) rfl
set_option maxRecDepth 100000 in
theorem cn_Md_241 : Cond.constantLong "TaleHouseModel" 241 (26990) ∈ gtbl := gt_in 1265 (by decide +kernel) rfl
set_option maxRecDepth 100000 in
theorem cn_Md_243 : Cond.constantLong "TaleHouseModel" 243 (28526) ∈ gtbl := gt_in 1266 (by decide +kernel) rfl
set_option maxRecDepth 100000 in
theorem cn_Md_274 : Cond.constantLong "TaleHouseModel" 274 (31636739359862388) ∈ gtbl := gt_in 1333 (by decide +kernel) rfl
set_option maxRecDepth 100000 in
theorem cn_Md_276 : Cond.constantLong "TaleHouseModel" 276 (29807) ∈ gtbl := gt_in 1334 (by decide +kernel) rfl
set_option maxRecDepth 100000 in
theorem cn_Md_278 : Cond.constant "TaleHouseModel" 278 (99999) ∈ gtbl := gt_in 1335 (by decide +kernel) rfl
set_option maxRecDepth 100000 in
theorem cn_Md_279 : Cond.constantLong "TaleHouseModel" 279 (1818326117) ∈ gtbl := gt_in 1336 (by decide +kernel) rfl
set_option maxRecDepth 100000 in
theorem cn_Md_285 : Cond.constantLong "TaleHouseModel" 285 (-1) ∈ gtbl := gt_in 1346 (by decide +kernel) rfl
set_option maxRecDepth 100000 in
theorem cn_Md_287 : Cond.constantLong "TaleHouseModel" 287 (100) ∈ gtbl := gt_in 1347 (by decide +kernel) rfl
set_option maxRecDepth 100000 in
theorem cn_Md_301 : Cond.constantLong "TaleHouseModel" 301 (-9000000000000000000) ∈ gtbl := gt_in 1408 (by decide +kernel) rfl
end
section
/-! calls -/
set_option maxRecDepth 100000 in
theorem kA_Ag_init : Cond.initialized m_Ag_init.1.cls ∈ gtbl ∧ Cond.code m_Ag_init.1 m_Ag_init.2.1 m_Ag_init.2.2.1 m_Ag_init.2.2.2.1 ∈ gtbl ∧ (m_Ag_init.1.cls ≠ "java/lang/invoke/MethodHandle" ∧ m_Ag_init.1.cls ≠ "java/lang/invoke/VarHandle" ∧ (parseMethodDescriptor m_Ag_init.1.desc).map (fun d => d.parameters.length) = some 0) := ⟨gt_in 10 (by decide +kernel) rfl, gt_in 241 (by rfl) rfl, by decide +kernel⟩
set_option maxRecDepth 100000 in
theorem kI_Ag_init : Cond.instanceMethod m_Ag_init.1 ∈ gtbl ∧ m_Ag_init.1.name = "<init>" ∧ m_Ag_init.2.2.2.1 = none := ⟨gt_in 240 (by decide +kernel) rfl, rfl, rfl⟩
set_option maxRecDepth 100000 in
theorem kA_Ag_readFrom : Cond.initialized m_Ag_readFrom.1.cls ∈ gtbl ∧ Cond.code m_Ag_readFrom.1 m_Ag_readFrom.2.1 m_Ag_readFrom.2.2.1 m_Ag_readFrom.2.2.2.1 ∈ gtbl ∧ (m_Ag_readFrom.1.cls ≠ "java/lang/invoke/MethodHandle" ∧ m_Ag_readFrom.1.cls ≠ "java/lang/invoke/VarHandle" ∧ (parseMethodDescriptor m_Ag_readFrom.1.desc).map (fun d => d.parameters.length) = some 1) := ⟨gt_in 10 (by decide +kernel) rfl, gt_in 774 (by rfl) rfl, by decide +kernel⟩
set_option maxRecDepth 100000 in
theorem kV_Ag_readFrom : Cond.instanceMethod m_Ag_readFrom.1 ∈ gtbl ∧ Cond.selects m_Ag_readFrom.1.cls m_Ag_readFrom.1 m_Ag_readFrom.1 ∈ gtbl ∧ ∃ (T : u_T) (N : Nat), xcl[0]? = some (m_Ag_readFrom.1.cls, T, N) := ⟨gt_in 772 (by decide +kernel) rfl, gt_in 773 (by decide +kernel) rfl, xT_Ag, 5, rfl⟩
set_option maxRecDepth 100000 in
theorem kA_Ag_percentsOf : Cond.initialized m_Ag_percentsOf.1.cls ∈ gtbl ∧ Cond.code m_Ag_percentsOf.1 m_Ag_percentsOf.2.1 m_Ag_percentsOf.2.2.1 m_Ag_percentsOf.2.2.2.1 ∈ gtbl ∧ (m_Ag_percentsOf.1.cls ≠ "java/lang/invoke/MethodHandle" ∧ m_Ag_percentsOf.1.cls ≠ "java/lang/invoke/VarHandle" ∧ (parseMethodDescriptor m_Ag_percentsOf.1.desc).map (fun d => d.parameters.length) = some 1) := ⟨gt_in 10 (by decide +kernel) rfl, gt_in 824 (by rfl) rfl, by decide +kernel⟩
set_option maxRecDepth 100000 in
theorem kV_Ag_percentsOf : Cond.instanceMethod m_Ag_percentsOf.1 ∈ gtbl ∧ Cond.selects m_Ag_percentsOf.1.cls m_Ag_percentsOf.1 m_Ag_percentsOf.1 ∈ gtbl ∧ ∃ (T : u_T) (N : Nat), xcl[0]? = some (m_Ag_percentsOf.1.cls, T, N) := ⟨gt_in 822 (by decide +kernel) rfl, gt_in 823 (by decide +kernel) rfl, xT_Ag, 5, rfl⟩
set_option maxRecDepth 100000 in
theorem kA_As_init : Cond.initialized m_As_init.1.cls ∈ gtbl ∧ Cond.code m_As_init.1 m_As_init.2.1 m_As_init.2.2.1 m_As_init.2.2.2.1 ∈ gtbl ∧ (m_As_init.1.cls ≠ "java/lang/invoke/MethodHandle" ∧ m_As_init.1.cls ≠ "java/lang/invoke/VarHandle" ∧ (parseMethodDescriptor m_As_init.1.desc).map (fun d => d.parameters.length) = some 0) := ⟨gt_in 9 (by decide +kernel) rfl, gt_in 234 (by rfl) rfl, by decide +kernel⟩
set_option maxRecDepth 100000 in
theorem kI_As_init : Cond.instanceMethod m_As_init.1 ∈ gtbl ∧ m_As_init.1.name = "<init>" ∧ m_As_init.2.2.2.1 = none := ⟨gt_in 233 (by decide +kernel) rfl, rfl, rfl⟩
set_option maxRecDepth 100000 in
theorem kA_As_readDraft : Cond.initialized m_As_readDraft.1.cls ∈ gtbl ∧ Cond.code m_As_readDraft.1 m_As_readDraft.2.1 m_As_readDraft.2.2.1 m_As_readDraft.2.2.2.1 ∈ gtbl ∧ (m_As_readDraft.1.cls ≠ "java/lang/invoke/MethodHandle" ∧ m_As_readDraft.1.cls ≠ "java/lang/invoke/VarHandle" ∧ (parseMethodDescriptor m_As_readDraft.1.desc).map (fun d => d.parameters.length) = some 1) := ⟨gt_in 9 (by decide +kernel) rfl, gt_in 770 (by rfl) rfl, by decide +kernel⟩
set_option maxRecDepth 100000 in
theorem kV_As_readDraft : Cond.instanceMethod m_As_readDraft.1 ∈ gtbl ∧ Cond.selects m_As_readDraft.1.cls m_As_readDraft.1 m_As_readDraft.1 ∈ gtbl ∧ ∃ (T : u_T) (N : Nat), xcl[1]? = some (m_As_readDraft.1.cls, T, N) := ⟨gt_in 768 (by decide +kernel) rfl, gt_in 769 (by decide +kernel) rfl, xT_As, 3, rfl⟩
set_option maxRecDepth 100000 in
theorem kA_As_addDraft : Cond.initialized m_As_addDraft.1.cls ∈ gtbl ∧ Cond.code m_As_addDraft.1 m_As_addDraft.2.1 m_As_addDraft.2.2.1 m_As_addDraft.2.2.2.1 ∈ gtbl ∧ (m_As_addDraft.1.cls ≠ "java/lang/invoke/MethodHandle" ∧ m_As_addDraft.1.cls ≠ "java/lang/invoke/VarHandle" ∧ (parseMethodDescriptor m_As_addDraft.1.desc).map (fun d => d.parameters.length) = some 1) := ⟨gt_in 9 (by decide +kernel) rfl, gt_in 792 (by rfl) rfl, by decide +kernel⟩
set_option maxRecDepth 100000 in
theorem kV_As_addDraft : Cond.instanceMethod m_As_addDraft.1 ∈ gtbl ∧ Cond.selects m_As_addDraft.1.cls m_As_addDraft.1 m_As_addDraft.1 ∈ gtbl ∧ ∃ (T : u_T) (N : Nat), xcl[1]? = some (m_As_addDraft.1.cls, T, N) := ⟨gt_in 790 (by decide +kernel) rfl, gt_in 791 (by decide +kernel) rfl, xT_As, 3, rfl⟩
set_option maxRecDepth 100000 in
theorem kA_As_latestFor : Cond.initialized m_As_latestFor.1.cls ∈ gtbl ∧ Cond.code m_As_latestFor.1 m_As_latestFor.2.1 m_As_latestFor.2.2.1 m_As_latestFor.2.2.2.1 ∈ gtbl ∧ (m_As_latestFor.1.cls ≠ "java/lang/invoke/MethodHandle" ∧ m_As_latestFor.1.cls ≠ "java/lang/invoke/VarHandle" ∧ (parseMethodDescriptor m_As_latestFor.1.desc).map (fun d => d.parameters.length) = some 1) := ⟨gt_in 9 (by decide +kernel) rfl, gt_in 800 (by rfl) rfl, by decide +kernel⟩
set_option maxRecDepth 100000 in
theorem kV_As_latestFor : Cond.instanceMethod m_As_latestFor.1 ∈ gtbl ∧ Cond.selects m_As_latestFor.1.cls m_As_latestFor.1 m_As_latestFor.1 ∈ gtbl ∧ ∃ (T : u_T) (N : Nat), xcl[1]? = some (m_As_latestFor.1.cls, T, N) := ⟨gt_in 798 (by decide +kernel) rfl, gt_in 799 (by decide +kernel) rfl, xT_As, 3, rfl⟩
set_option maxRecDepth 100000 in
theorem kA_As_numbered : Cond.initialized m_As_numbered.1.cls ∈ gtbl ∧ Cond.code m_As_numbered.1 m_As_numbered.2.1 m_As_numbered.2.2.1 m_As_numbered.2.2.2.1 ∈ gtbl ∧ (m_As_numbered.1.cls ≠ "java/lang/invoke/MethodHandle" ∧ m_As_numbered.1.cls ≠ "java/lang/invoke/VarHandle" ∧ (parseMethodDescriptor m_As_numbered.1.desc).map (fun d => d.parameters.length) = some 1) := ⟨gt_in 9 (by decide +kernel) rfl, gt_in 804 (by rfl) rfl, by decide +kernel⟩
set_option maxRecDepth 100000 in
theorem kV_As_numbered : Cond.instanceMethod m_As_numbered.1 ∈ gtbl ∧ Cond.selects m_As_numbered.1.cls m_As_numbered.1 m_As_numbered.1 ∈ gtbl ∧ ∃ (T : u_T) (N : Nat), xcl[1]? = some (m_As_numbered.1.cls, T, N) := ⟨gt_in 802 (by decide +kernel) rfl, gt_in 803 (by decide +kernel) rfl, xT_As, 3, rfl⟩
set_option maxRecDepth 100000 in
theorem kA_Br_init : Cond.initialized m_Br_init.1.cls ∈ gtbl ∧ Cond.code m_Br_init.1 m_Br_init.2.1 m_Br_init.2.2.1 m_Br_init.2.2.2.1 ∈ gtbl ∧ (m_Br_init.1.cls ≠ "java/lang/invoke/MethodHandle" ∧ m_Br_init.1.cls ≠ "java/lang/invoke/VarHandle" ∧ (parseMethodDescriptor m_Br_init.1.desc).map (fun d => d.parameters.length) = some 0) := ⟨gt_in 4 (by decide +kernel) rfl, gt_in 66 (by rfl) rfl, by decide +kernel⟩
set_option maxRecDepth 100000 in
theorem kI_Br_init : Cond.instanceMethod m_Br_init.1 ∈ gtbl ∧ m_Br_init.1.name = "<init>" ∧ m_Br_init.2.2.2.1 = none := ⟨gt_in 65 (by decide +kernel) rfl, rfl, rfl⟩
set_option maxRecDepth 100000 in
theorem kA_Br_weigh : Cond.initialized m_Br_weigh.1.cls ∈ gtbl ∧ Cond.code m_Br_weigh.1 m_Br_weigh.2.1 m_Br_weigh.2.2.1 m_Br_weigh.2.2.2.1 ∈ gtbl ∧ (m_Br_weigh.1.cls ≠ "java/lang/invoke/MethodHandle" ∧ m_Br_weigh.1.cls ≠ "java/lang/invoke/VarHandle" ∧ (parseMethodDescriptor m_Br_weigh.1.desc).map (fun d => d.parameters.length) = some 3) := ⟨gt_in 4 (by decide +kernel) rfl, gt_in 425 (by rfl) rfl, by decide +kernel⟩
set_option maxRecDepth 100000 in
theorem kV_Br_weigh : Cond.instanceMethod m_Br_weigh.1 ∈ gtbl ∧ Cond.selects m_Br_weigh.1.cls m_Br_weigh.1 m_Br_weigh.1 ∈ gtbl ∧ ∃ (T : u_T) (N : Nat), xcl[2]? = some (m_Br_weigh.1.cls, T, N) := ⟨gt_in 423 (by decide +kernel) rfl, gt_in 424 (by decide +kernel) rfl, xT_Br, 4, rfl⟩
set_option maxRecDepth 100000 in
theorem kA_Br_cost : Cond.initialized m_Br_cost.1.cls ∈ gtbl ∧ Cond.code m_Br_cost.1 m_Br_cost.2.1 m_Br_cost.2.2.1 m_Br_cost.2.2.2.1 ∈ gtbl ∧ (m_Br_cost.1.cls ≠ "java/lang/invoke/MethodHandle" ∧ m_Br_cost.1.cls ≠ "java/lang/invoke/VarHandle" ∧ (parseMethodDescriptor m_Br_cost.1.desc).map (fun d => d.parameters.length) = some 1) := ⟨gt_in 4 (by decide +kernel) rfl, gt_in 444 (by rfl) rfl, by decide +kernel⟩
set_option maxRecDepth 100000 in
theorem kV_Br_cost : Cond.instanceMethod m_Br_cost.1 ∈ gtbl ∧ Cond.selects m_Br_cost.1.cls m_Br_cost.1 m_Br_cost.1 ∈ gtbl ∧ ∃ (T : u_T) (N : Nat), xcl[2]? = some (m_Br_cost.1.cls, T, N) := ⟨gt_in 442 (by decide +kernel) rfl, gt_in 443 (by decide +kernel) rfl, xT_Br, 4, rfl⟩
set_option maxRecDepth 100000 in
theorem kA_Br_wordsTaken : Cond.initialized m_Br_wordsTaken.1.cls ∈ gtbl ∧ Cond.code m_Br_wordsTaken.1 m_Br_wordsTaken.2.1 m_Br_wordsTaken.2.2.1 m_Br_wordsTaken.2.2.2.1 ∈ gtbl ∧ (m_Br_wordsTaken.1.cls ≠ "java/lang/invoke/MethodHandle" ∧ m_Br_wordsTaken.1.cls ≠ "java/lang/invoke/VarHandle" ∧ (parseMethodDescriptor m_Br_wordsTaken.1.desc).map (fun d => d.parameters.length) = some 2) := ⟨gt_in 4 (by decide +kernel) rfl, gt_in 519 (by rfl) rfl, by decide +kernel⟩
set_option maxRecDepth 100000 in
theorem kV_Br_wordsTaken : Cond.instanceMethod m_Br_wordsTaken.1 ∈ gtbl ∧ Cond.selects m_Br_wordsTaken.1.cls m_Br_wordsTaken.1 m_Br_wordsTaken.1 ∈ gtbl ∧ ∃ (T : u_T) (N : Nat), xcl[2]? = some (m_Br_wordsTaken.1.cls, T, N) := ⟨gt_in 517 (by decide +kernel) rfl, gt_in 518 (by decide +kernel) rfl, xT_Br, 4, rfl⟩
set_option maxRecDepth 100000 in
theorem kA_Br_weighRest : Cond.initialized m_Br_weighRest.1.cls ∈ gtbl ∧ Cond.code m_Br_weighRest.1 m_Br_weighRest.2.1 m_Br_weighRest.2.2.1 m_Br_weighRest.2.2.2.1 ∈ gtbl ∧ (m_Br_weighRest.1.cls ≠ "java/lang/invoke/MethodHandle" ∧ m_Br_weighRest.1.cls ≠ "java/lang/invoke/VarHandle" ∧ (parseMethodDescriptor m_Br_weighRest.1.desc).map (fun d => d.parameters.length) = some 2) := ⟨gt_in 4 (by decide +kernel) rfl, gt_in 433 (by rfl) rfl, by decide +kernel⟩
set_option maxRecDepth 100000 in
theorem kV_Br_weighRest : Cond.instanceMethod m_Br_weighRest.1 ∈ gtbl ∧ Cond.selects m_Br_weighRest.1.cls m_Br_weighRest.1 m_Br_weighRest.1 ∈ gtbl ∧ ∃ (T : u_T) (N : Nat), xcl[2]? = some (m_Br_weighRest.1.cls, T, N) := ⟨gt_in 432 (by decide +kernel) rfl, gt_pv 1 (by decide +kernel) rfl, xT_Br, 4, rfl⟩
set_option maxRecDepth 100000 in
theorem kA_Br_costWith : Cond.initialized m_Br_costWith.1.cls ∈ gtbl ∧ Cond.code m_Br_costWith.1 m_Br_costWith.2.1 m_Br_costWith.2.2.1 m_Br_costWith.2.2.2.1 ∈ gtbl ∧ (m_Br_costWith.1.cls ≠ "java/lang/invoke/MethodHandle" ∧ m_Br_costWith.1.cls ≠ "java/lang/invoke/VarHandle" ∧ (parseMethodDescriptor m_Br_costWith.1.desc).map (fun d => d.parameters.length) = some 3) := ⟨gt_in 4 (by decide +kernel) rfl, gt_in 437 (by rfl) rfl, by decide +kernel⟩
set_option maxRecDepth 100000 in
theorem kV_Br_costWith : Cond.instanceMethod m_Br_costWith.1 ∈ gtbl ∧ Cond.selects m_Br_costWith.1.cls m_Br_costWith.1 m_Br_costWith.1 ∈ gtbl ∧ ∃ (T : u_T) (N : Nat), xcl[2]? = some (m_Br_costWith.1.cls, T, N) := ⟨gt_in 436 (by decide +kernel) rfl, gt_pv 2 (by decide +kernel) rfl, xT_Br, 4, rfl⟩
set_option maxRecDepth 100000 in
theorem kA_Fa_init : Cond.initialized m_Fa_init.1.cls ∈ gtbl ∧ Cond.code m_Fa_init.1 m_Fa_init.2.1 m_Fa_init.2.2.1 m_Fa_init.2.2.2.1 ∈ gtbl ∧ (m_Fa_init.1.cls ≠ "java/lang/invoke/MethodHandle" ∧ m_Fa_init.1.cls ≠ "java/lang/invoke/VarHandle" ∧ (parseMethodDescriptor m_Fa_init.1.desc).map (fun d => d.parameters.length) = some 0) := ⟨gt_in 8 (by decide +kernel) rfl, gt_in 185 (by rfl) rfl, by decide +kernel⟩
set_option maxRecDepth 100000 in
theorem kI_Fa_init : Cond.instanceMethod m_Fa_init.1 ∈ gtbl ∧ m_Fa_init.1.name = "<init>" ∧ m_Fa_init.2.2.2.1 = none := ⟨gt_in 184 (by decide +kernel) rfl, rfl, rfl⟩
set_option maxRecDepth 100000 in
theorem kA_Fa_readFrom : Cond.initialized m_Fa_readFrom.1.cls ∈ gtbl ∧ Cond.code m_Fa_readFrom.1 m_Fa_readFrom.2.1 m_Fa_readFrom.2.2.1 m_Fa_readFrom.2.2.2.1 ∈ gtbl ∧ (m_Fa_readFrom.1.cls ≠ "java/lang/invoke/MethodHandle" ∧ m_Fa_readFrom.1.cls ≠ "java/lang/invoke/VarHandle" ∧ (parseMethodDescriptor m_Fa_readFrom.1.desc).map (fun d => d.parameters.length) = some 1) := ⟨gt_in 8 (by decide +kernel) rfl, gt_in 547 (by rfl) rfl, by decide +kernel⟩
set_option maxRecDepth 100000 in
theorem kV_Fa_readFrom : Cond.instanceMethod m_Fa_readFrom.1 ∈ gtbl ∧ Cond.selects m_Fa_readFrom.1.cls m_Fa_readFrom.1 m_Fa_readFrom.1 ∈ gtbl ∧ ∃ (T : u_T) (N : Nat), xcl[3]? = some (m_Fa_readFrom.1.cls, T, N) := ⟨gt_in 545 (by decide +kernel) rfl, gt_in 546 (by decide +kernel) rfl, xT_Fa, 7, rfl⟩
set_option maxRecDepth 100000 in
theorem kA_Fa_standsIn : Cond.initialized m_Fa_standsIn.1.cls ∈ gtbl ∧ Cond.code m_Fa_standsIn.1 m_Fa_standsIn.2.1 m_Fa_standsIn.2.2.1 m_Fa_standsIn.2.2.2.1 ∈ gtbl ∧ (m_Fa_standsIn.1.cls ≠ "java/lang/invoke/MethodHandle" ∧ m_Fa_standsIn.1.cls ≠ "java/lang/invoke/VarHandle" ∧ (parseMethodDescriptor m_Fa_standsIn.1.desc).map (fun d => d.parameters.length) = some 1) := ⟨gt_in 8 (by decide +kernel) rfl, gt_in 741 (by rfl) rfl, by decide +kernel⟩
set_option maxRecDepth 100000 in
theorem kV_Fa_standsIn : Cond.instanceMethod m_Fa_standsIn.1 ∈ gtbl ∧ Cond.selects m_Fa_standsIn.1.cls m_Fa_standsIn.1 m_Fa_standsIn.1 ∈ gtbl ∧ ∃ (T : u_T) (N : Nat), xcl[3]? = some (m_Fa_standsIn.1.cls, T, N) := ⟨gt_in 739 (by decide +kernel) rfl, gt_in 740 (by decide +kernel) rfl, xT_Fa, 7, rfl⟩
set_option maxRecDepth 100000 in
theorem kA_Fa_quarrelWith : Cond.initialized m_Fa_quarrelWith.1.cls ∈ gtbl ∧ Cond.code m_Fa_quarrelWith.1 m_Fa_quarrelWith.2.1 m_Fa_quarrelWith.2.2.1 m_Fa_quarrelWith.2.2.2.1 ∈ gtbl ∧ (m_Fa_quarrelWith.1.cls ≠ "java/lang/invoke/MethodHandle" ∧ m_Fa_quarrelWith.1.cls ≠ "java/lang/invoke/VarHandle" ∧ (parseMethodDescriptor m_Fa_quarrelWith.1.desc).map (fun d => d.parameters.length) = some 1) := ⟨gt_in 8 (by decide +kernel) rfl, gt_in 716 (by rfl) rfl, by decide +kernel⟩
set_option maxRecDepth 100000 in
theorem kV_Fa_quarrelWith : Cond.instanceMethod m_Fa_quarrelWith.1 ∈ gtbl ∧ Cond.selects m_Fa_quarrelWith.1.cls m_Fa_quarrelWith.1 m_Fa_quarrelWith.1 ∈ gtbl ∧ ∃ (T : u_T) (N : Nat), xcl[3]? = some (m_Fa_quarrelWith.1.cls, T, N) := ⟨gt_in 714 (by decide +kernel) rfl, gt_in 715 (by decide +kernel) rfl, xT_Fa, 7, rfl⟩
set_option maxRecDepth 100000 in
theorem kA_Fa_quarrelWithLater : Cond.initialized m_Fa_quarrelWithLater.1.cls ∈ gtbl ∧ Cond.code m_Fa_quarrelWithLater.1 m_Fa_quarrelWithLater.2.1 m_Fa_quarrelWithLater.2.2.1 m_Fa_quarrelWithLater.2.2.2.1 ∈ gtbl ∧ (m_Fa_quarrelWithLater.1.cls ≠ "java/lang/invoke/MethodHandle" ∧ m_Fa_quarrelWithLater.1.cls ≠ "java/lang/invoke/VarHandle" ∧ (parseMethodDescriptor m_Fa_quarrelWithLater.1.desc).map (fun d => d.parameters.length) = some 1) := ⟨gt_in 8 (by decide +kernel) rfl, gt_in 720 (by rfl) rfl, by decide +kernel⟩
set_option maxRecDepth 100000 in
theorem kV_Fa_quarrelWithLater : Cond.instanceMethod m_Fa_quarrelWithLater.1 ∈ gtbl ∧ Cond.selects m_Fa_quarrelWithLater.1.cls m_Fa_quarrelWithLater.1 m_Fa_quarrelWithLater.1 ∈ gtbl ∧ ∃ (T : u_T) (N : Nat), xcl[3]? = some (m_Fa_quarrelWithLater.1.cls, T, N) := ⟨gt_in 719 (by decide +kernel) rfl, gt_pv 19 (by decide +kernel) rfl, xT_Fa, 7, rfl⟩
set_option maxRecDepth 100000 in
theorem kA_Fs_init : Cond.initialized m_Fs_init.1.cls ∈ gtbl ∧ Cond.code m_Fs_init.1 m_Fs_init.2.1 m_Fs_init.2.2.1 m_Fs_init.2.2.2.1 ∈ gtbl ∧ (m_Fs_init.1.cls ≠ "java/lang/invoke/MethodHandle" ∧ m_Fs_init.1.cls ≠ "java/lang/invoke/VarHandle" ∧ (parseMethodDescriptor m_Fs_init.1.desc).map (fun d => d.parameters.length) = some 0) := ⟨gt_in 7 (by decide +kernel) rfl, gt_in 178 (by rfl) rfl, by decide +kernel⟩
set_option maxRecDepth 100000 in
theorem kI_Fs_init : Cond.instanceMethod m_Fs_init.1 ∈ gtbl ∧ m_Fs_init.1.name = "<init>" ∧ m_Fs_init.2.2.2.1 = none := ⟨gt_in 177 (by decide +kernel) rfl, rfl, rfl⟩
set_option maxRecDepth 100000 in
theorem kA_Fs_readDraft : Cond.initialized m_Fs_readDraft.1.cls ∈ gtbl ∧ Cond.code m_Fs_readDraft.1 m_Fs_readDraft.2.1 m_Fs_readDraft.2.2.1 m_Fs_readDraft.2.2.2.1 ∈ gtbl ∧ (m_Fs_readDraft.1.cls ≠ "java/lang/invoke/MethodHandle" ∧ m_Fs_readDraft.1.cls ≠ "java/lang/invoke/VarHandle" ∧ (parseMethodDescriptor m_Fs_readDraft.1.desc).map (fun d => d.parameters.length) = some 1) := ⟨gt_in 7 (by decide +kernel) rfl, gt_in 543 (by rfl) rfl, by decide +kernel⟩
set_option maxRecDepth 100000 in
theorem kV_Fs_readDraft : Cond.instanceMethod m_Fs_readDraft.1 ∈ gtbl ∧ Cond.selects m_Fs_readDraft.1.cls m_Fs_readDraft.1 m_Fs_readDraft.1 ∈ gtbl ∧ ∃ (T : u_T) (N : Nat), xcl[4]? = some (m_Fs_readDraft.1.cls, T, N) := ⟨gt_in 541 (by decide +kernel) rfl, gt_in 542 (by decide +kernel) rfl, xT_Fs, 6, rfl⟩
set_option maxRecDepth 100000 in
theorem kA_Fs_addDraft : Cond.initialized m_Fs_addDraft.1.cls ∈ gtbl ∧ Cond.code m_Fs_addDraft.1 m_Fs_addDraft.2.1 m_Fs_addDraft.2.2.1 m_Fs_addDraft.2.2.2.1 ∈ gtbl ∧ (m_Fs_addDraft.1.cls ≠ "java/lang/invoke/MethodHandle" ∧ m_Fs_addDraft.1.cls ≠ "java/lang/invoke/VarHandle" ∧ (parseMethodDescriptor m_Fs_addDraft.1.desc).map (fun d => d.parameters.length) = some 2) := ⟨gt_in 7 (by decide +kernel) rfl, gt_in 686 (by rfl) rfl, by decide +kernel⟩
set_option maxRecDepth 100000 in
theorem kV_Fs_addDraft : Cond.instanceMethod m_Fs_addDraft.1 ∈ gtbl ∧ Cond.selects m_Fs_addDraft.1.cls m_Fs_addDraft.1 m_Fs_addDraft.1 ∈ gtbl ∧ ∃ (T : u_T) (N : Nat), xcl[4]? = some (m_Fs_addDraft.1.cls, T, N) := ⟨gt_in 684 (by decide +kernel) rfl, gt_in 685 (by decide +kernel) rfl, xT_Fs, 6, rfl⟩
set_option maxRecDepth 100000 in
theorem kA_Fs_strikeFrom : Cond.initialized m_Fs_strikeFrom.1.cls ∈ gtbl ∧ Cond.code m_Fs_strikeFrom.1 m_Fs_strikeFrom.2.1 m_Fs_strikeFrom.2.2.1 m_Fs_strikeFrom.2.2.2.1 ∈ gtbl ∧ (m_Fs_strikeFrom.1.cls ≠ "java/lang/invoke/MethodHandle" ∧ m_Fs_strikeFrom.1.cls ≠ "java/lang/invoke/VarHandle" ∧ (parseMethodDescriptor m_Fs_strikeFrom.1.desc).map (fun d => d.parameters.length) = some 3) := ⟨gt_in 7 (by decide +kernel) rfl, gt_in 699 (by rfl) rfl, by decide +kernel⟩
set_option maxRecDepth 100000 in
theorem kV_Fs_strikeFrom : Cond.instanceMethod m_Fs_strikeFrom.1 ∈ gtbl ∧ Cond.selects m_Fs_strikeFrom.1.cls m_Fs_strikeFrom.1 m_Fs_strikeFrom.1 ∈ gtbl ∧ ∃ (T : u_T) (N : Nat), xcl[4]? = some (m_Fs_strikeFrom.1.cls, T, N) := ⟨gt_in 697 (by decide +kernel) rfl, gt_in 698 (by decide +kernel) rfl, xT_Fs, 6, rfl⟩
set_option maxRecDepth 100000 in
theorem kA_Fs_quarrelOf : Cond.initialized m_Fs_quarrelOf.1.cls ∈ gtbl ∧ Cond.code m_Fs_quarrelOf.1 m_Fs_quarrelOf.2.1 m_Fs_quarrelOf.2.2.1 m_Fs_quarrelOf.2.2.2.1 ∈ gtbl ∧ (m_Fs_quarrelOf.1.cls ≠ "java/lang/invoke/MethodHandle" ∧ m_Fs_quarrelOf.1.cls ≠ "java/lang/invoke/VarHandle" ∧ (parseMethodDescriptor m_Fs_quarrelOf.1.desc).map (fun d => d.parameters.length) = some 2) := ⟨gt_in 7 (by decide +kernel) rfl, gt_in 712 (by rfl) rfl, by decide +kernel⟩
set_option maxRecDepth 100000 in
theorem kV_Fs_quarrelOf : Cond.instanceMethod m_Fs_quarrelOf.1 ∈ gtbl ∧ Cond.selects m_Fs_quarrelOf.1.cls m_Fs_quarrelOf.1 m_Fs_quarrelOf.1 ∈ gtbl ∧ ∃ (T : u_T) (N : Nat), xcl[4]? = some (m_Fs_quarrelOf.1.cls, T, N) := ⟨gt_in 710 (by decide +kernel) rfl, gt_in 711 (by decide +kernel) rfl, xT_Fs, 6, rfl⟩
set_option maxRecDepth 100000 in
theorem kA_Fs_findQuarrels : Cond.initialized m_Fs_findQuarrels.1.cls ∈ gtbl ∧ Cond.code m_Fs_findQuarrels.1 m_Fs_findQuarrels.2.1 m_Fs_findQuarrels.2.2.1 m_Fs_findQuarrels.2.2.2.1 ∈ gtbl ∧ (m_Fs_findQuarrels.1.cls ≠ "java/lang/invoke/MethodHandle" ∧ m_Fs_findQuarrels.1.cls ≠ "java/lang/invoke/VarHandle" ∧ (parseMethodDescriptor m_Fs_findQuarrels.1.desc).map (fun d => d.parameters.length) = some 2) := ⟨gt_in 7 (by decide +kernel) rfl, gt_in 728 (by rfl) rfl, by decide +kernel⟩
set_option maxRecDepth 100000 in
theorem kV_Fs_findQuarrels : Cond.instanceMethod m_Fs_findQuarrels.1 ∈ gtbl ∧ Cond.selects m_Fs_findQuarrels.1.cls m_Fs_findQuarrels.1 m_Fs_findQuarrels.1 ∈ gtbl ∧ ∃ (T : u_T) (N : Nat), xcl[4]? = some (m_Fs_findQuarrels.1.cls, T, N) := ⟨gt_in 726 (by decide +kernel) rfl, gt_in 727 (by decide +kernel) rfl, xT_Fs, 6, rfl⟩
set_option maxRecDepth 100000 in
theorem kA_Fs_foundPair : Cond.initialized m_Fs_foundPair.1.cls ∈ gtbl ∧ Cond.code m_Fs_foundPair.1 m_Fs_foundPair.2.1 m_Fs_foundPair.2.2.1 m_Fs_foundPair.2.2.2.1 ∈ gtbl ∧ (m_Fs_foundPair.1.cls ≠ "java/lang/invoke/MethodHandle" ∧ m_Fs_foundPair.1.cls ≠ "java/lang/invoke/VarHandle" ∧ (parseMethodDescriptor m_Fs_foundPair.1.desc).map (fun d => d.parameters.length) = some 2) := ⟨gt_in 7 (by decide +kernel) rfl, gt_in 754 (by rfl) rfl, by decide +kernel⟩
set_option maxRecDepth 100000 in
theorem kV_Fs_foundPair : Cond.instanceMethod m_Fs_foundPair.1 ∈ gtbl ∧ Cond.selects m_Fs_foundPair.1.cls m_Fs_foundPair.1 m_Fs_foundPair.1 ∈ gtbl ∧ ∃ (T : u_T) (N : Nat), xcl[4]? = some (m_Fs_foundPair.1.cls, T, N) := ⟨gt_in 752 (by decide +kernel) rfl, gt_in 753 (by decide +kernel) rfl, xT_Fs, 6, rfl⟩
set_option maxRecDepth 100000 in
theorem kA_Fs_findQuarrelsOf : Cond.initialized m_Fs_findQuarrelsOf.1.cls ∈ gtbl ∧ Cond.code m_Fs_findQuarrelsOf.1 m_Fs_findQuarrelsOf.2.1 m_Fs_findQuarrelsOf.2.2.1 m_Fs_findQuarrelsOf.2.2.2.1 ∈ gtbl ∧ (m_Fs_findQuarrelsOf.1.cls ≠ "java/lang/invoke/MethodHandle" ∧ m_Fs_findQuarrelsOf.1.cls ≠ "java/lang/invoke/VarHandle" ∧ (parseMethodDescriptor m_Fs_findQuarrelsOf.1.desc).map (fun d => d.parameters.length) = some 3) := ⟨gt_in 7 (by decide +kernel) rfl, gt_in 745 (by rfl) rfl, by decide +kernel⟩
set_option maxRecDepth 100000 in
theorem kV_Fs_findQuarrelsOf : Cond.instanceMethod m_Fs_findQuarrelsOf.1 ∈ gtbl ∧ Cond.selects m_Fs_findQuarrelsOf.1.cls m_Fs_findQuarrelsOf.1 m_Fs_findQuarrelsOf.1 ∈ gtbl ∧ ∃ (T : u_T) (N : Nat), xcl[4]? = some (m_Fs_findQuarrelsOf.1.cls, T, N) := ⟨gt_in 744 (by decide +kernel) rfl, gt_pv 21 (by decide +kernel) rfl, xT_Fs, 6, rfl⟩
set_option maxRecDepth 100000 in
theorem kA_Fs_stands : Cond.initialized m_Fs_stands.1.cls ∈ gtbl ∧ Cond.code m_Fs_stands.1 m_Fs_stands.2.1 m_Fs_stands.2.2.1 m_Fs_stands.2.2.2.1 ∈ gtbl ∧ (m_Fs_stands.1.cls ≠ "java/lang/invoke/MethodHandle" ∧ m_Fs_stands.1.cls ≠ "java/lang/invoke/VarHandle" ∧ (parseMethodDescriptor m_Fs_stands.1.desc).map (fun d => d.parameters.length) = some 3) := ⟨gt_in 7 (by decide +kernel) rfl, gt_in 732 (by rfl) rfl, by decide +kernel⟩
set_option maxRecDepth 100000 in
theorem kV_Fs_stands : Cond.instanceMethod m_Fs_stands.1 ∈ gtbl ∧ Cond.selects m_Fs_stands.1.cls m_Fs_stands.1 m_Fs_stands.1 ∈ gtbl ∧ ∃ (T : u_T) (N : Nat), xcl[4]? = some (m_Fs_stands.1.cls, T, N) := ⟨gt_in 731 (by decide +kernel) rfl, gt_pv 20 (by decide +kernel) rfl, xT_Fs, 6, rfl⟩
set_option maxRecDepth 100000 in
theorem kA_Fs_numbered : Cond.initialized m_Fs_numbered.1.cls ∈ gtbl ∧ Cond.code m_Fs_numbered.1 m_Fs_numbered.2.1 m_Fs_numbered.2.2.1 m_Fs_numbered.2.2.2.1 ∈ gtbl ∧ (m_Fs_numbered.1.cls ≠ "java/lang/invoke/MethodHandle" ∧ m_Fs_numbered.1.cls ≠ "java/lang/invoke/VarHandle" ∧ (parseMethodDescriptor m_Fs_numbered.1.desc).map (fun d => d.parameters.length) = some 1) := ⟨gt_in 7 (by decide +kernel) rfl, gt_in 703 (by rfl) rfl, by decide +kernel⟩
set_option maxRecDepth 100000 in
theorem kV_Fs_numbered : Cond.instanceMethod m_Fs_numbered.1 ∈ gtbl ∧ Cond.selects m_Fs_numbered.1.cls m_Fs_numbered.1 m_Fs_numbered.1 ∈ gtbl ∧ ∃ (T : u_T) (N : Nat), xcl[4]? = some (m_Fs_numbered.1.cls, T, N) := ⟨gt_in 702 (by decide +kernel) rfl, gt_pv 18 (by decide +kernel) rfl, xT_Fs, 6, rfl⟩
set_option maxRecDepth 100000 in
theorem kA_Fo_init : Cond.initialized m_Fo_init.1.cls ∈ gtbl ∧ Cond.code m_Fo_init.1 m_Fo_init.2.1 m_Fo_init.2.2.1 m_Fo_init.2.2.2.1 ∈ gtbl ∧ (m_Fo_init.1.cls ≠ "java/lang/invoke/MethodHandle" ∧ m_Fo_init.1.cls ≠ "java/lang/invoke/VarHandle" ∧ (parseMethodDescriptor m_Fo_init.1.desc).map (fun d => d.parameters.length) = some 0) := ⟨gt_in 12 (by decide +kernel) rfl, gt_in 315 (by rfl) rfl, by decide +kernel⟩
set_option maxRecDepth 100000 in
theorem kI_Fo_init : Cond.instanceMethod m_Fo_init.1 ∈ gtbl ∧ m_Fo_init.1.name = "<init>" ∧ m_Fo_init.2.2.2.1 = none := ⟨gt_in 314 (by decide +kernel) rfl, rfl, rfl⟩
set_option maxRecDepth 100000 in
theorem kA_Fo_addRow : Cond.initialized m_Fo_addRow.1.cls ∈ gtbl ∧ Cond.code m_Fo_addRow.1 m_Fo_addRow.2.1 m_Fo_addRow.2.2.1 m_Fo_addRow.2.2.2.1 ∈ gtbl ∧ (m_Fo_addRow.1.cls ≠ "java/lang/invoke/MethodHandle" ∧ m_Fo_addRow.1.cls ≠ "java/lang/invoke/VarHandle" ∧ (parseMethodDescriptor m_Fo_addRow.1.desc).map (fun d => d.parameters.length) = some 2) := ⟨gt_in 12 (by decide +kernel) rfl, gt_in 958 (by rfl) rfl, by decide +kernel⟩
set_option maxRecDepth 100000 in
theorem kV_Fo_addRow : Cond.instanceMethod m_Fo_addRow.1 ∈ gtbl ∧ Cond.selects m_Fo_addRow.1.cls m_Fo_addRow.1 m_Fo_addRow.1 ∈ gtbl ∧ ∃ (T : u_T) (N : Nat), xcl[5]? = some (m_Fo_addRow.1.cls, T, N) := ⟨gt_in 956 (by decide +kernel) rfl, gt_in 957 (by decide +kernel) rfl, xT_Fo, 3, rfl⟩
set_option maxRecDepth 100000 in
theorem kA_Fo_worthOf : Cond.initialized m_Fo_worthOf.1.cls ∈ gtbl ∧ Cond.code m_Fo_worthOf.1 m_Fo_worthOf.2.1 m_Fo_worthOf.2.2.1 m_Fo_worthOf.2.2.2.1 ∈ gtbl ∧ (m_Fo_worthOf.1.cls ≠ "java/lang/invoke/MethodHandle" ∧ m_Fo_worthOf.1.cls ≠ "java/lang/invoke/VarHandle" ∧ (parseMethodDescriptor m_Fo_worthOf.1.desc).map (fun d => d.parameters.length) = some 3) := ⟨gt_in 12 (by decide +kernel) rfl, gt_in 971 (by rfl) rfl, by decide +kernel⟩
set_option maxRecDepth 100000 in
theorem kV_Fo_worthOf : Cond.instanceMethod m_Fo_worthOf.1 ∈ gtbl ∧ Cond.selects m_Fo_worthOf.1.cls m_Fo_worthOf.1 m_Fo_worthOf.1 ∈ gtbl ∧ ∃ (T : u_T) (N : Nat), xcl[5]? = some (m_Fo_worthOf.1.cls, T, N) := ⟨gt_in 969 (by decide +kernel) rfl, gt_in 970 (by decide +kernel) rfl, xT_Fo, 3, rfl⟩
set_option maxRecDepth 100000 in
theorem kA_Fo_bestCopies : Cond.initialized m_Fo_bestCopies.1.cls ∈ gtbl ∧ Cond.code m_Fo_bestCopies.1 m_Fo_bestCopies.2.1 m_Fo_bestCopies.2.2.1 m_Fo_bestCopies.2.2.2.1 ∈ gtbl ∧ (m_Fo_bestCopies.1.cls ≠ "java/lang/invoke/MethodHandle" ∧ m_Fo_bestCopies.1.cls ≠ "java/lang/invoke/VarHandle" ∧ (parseMethodDescriptor m_Fo_bestCopies.1.desc).map (fun d => d.parameters.length) = some 2) := ⟨gt_in 12 (by decide +kernel) rfl, gt_in 967 (by rfl) rfl, by decide +kernel⟩
set_option maxRecDepth 100000 in
theorem kV_Fo_bestCopies : Cond.instanceMethod m_Fo_bestCopies.1 ∈ gtbl ∧ Cond.selects m_Fo_bestCopies.1.cls m_Fo_bestCopies.1 m_Fo_bestCopies.1 ∈ gtbl ∧ ∃ (T : u_T) (N : Nat), xcl[5]? = some (m_Fo_bestCopies.1.cls, T, N) := ⟨gt_in 965 (by decide +kernel) rfl, gt_in 966 (by decide +kernel) rfl, xT_Fo, 3, rfl⟩
set_option maxRecDepth 100000 in
theorem kA_Mn_init : Cond.initialized m_Mn_init.1.cls ∈ gtbl ∧ Cond.code m_Mn_init.1 m_Mn_init.2.1 m_Mn_init.2.2.1 m_Mn_init.2.2.2.1 ∈ gtbl ∧ (m_Mn_init.1.cls ≠ "java/lang/invoke/MethodHandle" ∧ m_Mn_init.1.cls ≠ "java/lang/invoke/VarHandle" ∧ (parseMethodDescriptor m_Mn_init.1.desc).map (fun d => d.parameters.length) = some 0) := ⟨gt_in 3 (by decide +kernel) rfl, gt_in 58 (by rfl) rfl, by decide +kernel⟩
set_option maxRecDepth 100000 in
theorem kI_Mn_init : Cond.instanceMethod m_Mn_init.1 ∈ gtbl ∧ m_Mn_init.1.name = "<init>" ∧ m_Mn_init.2.2.2.1 = none := ⟨gt_in 57 (by decide +kernel) rfl, rfl, rfl⟩
set_option maxRecDepth 100000 in
theorem kA_Mn_addParagraph : Cond.initialized m_Mn_addParagraph.1.cls ∈ gtbl ∧ Cond.code m_Mn_addParagraph.1 m_Mn_addParagraph.2.1 m_Mn_addParagraph.2.2.1 m_Mn_addParagraph.2.2.2.1 ∈ gtbl ∧ (m_Mn_addParagraph.1.cls ≠ "java/lang/invoke/MethodHandle" ∧ m_Mn_addParagraph.1.cls ≠ "java/lang/invoke/VarHandle" ∧ (parseMethodDescriptor m_Mn_addParagraph.1.desc).map (fun d => d.parameters.length) = some 1) := ⟨gt_in 3 (by decide +kernel) rfl, gt_in 380 (by rfl) rfl, by decide +kernel⟩
set_option maxRecDepth 100000 in
theorem kV_Mn_addParagraph : Cond.instanceMethod m_Mn_addParagraph.1 ∈ gtbl ∧ Cond.selects m_Mn_addParagraph.1.cls m_Mn_addParagraph.1 m_Mn_addParagraph.1 ∈ gtbl ∧ ∃ (T : u_T) (N : Nat), xcl[6]? = some (m_Mn_addParagraph.1.cls, T, N) := ⟨gt_in 378 (by decide +kernel) rfl, gt_in 379 (by decide +kernel) rfl, xT_Mn, 11, rfl⟩
set_option maxRecDepth 100000 in
theorem kA_Mn_addWord : Cond.initialized m_Mn_addWord.1.cls ∈ gtbl ∧ Cond.code m_Mn_addWord.1 m_Mn_addWord.2.1 m_Mn_addWord.2.2.1 m_Mn_addWord.2.2.2.1 ∈ gtbl ∧ (m_Mn_addWord.1.cls ≠ "java/lang/invoke/MethodHandle" ∧ m_Mn_addWord.1.cls ≠ "java/lang/invoke/VarHandle" ∧ (parseMethodDescriptor m_Mn_addWord.1.desc).map (fun d => d.parameters.length) = some 1) := ⟨gt_in 3 (by decide +kernel) rfl, gt_in 389 (by rfl) rfl, by decide +kernel⟩
set_option maxRecDepth 100000 in
theorem kV_Mn_addWord : Cond.instanceMethod m_Mn_addWord.1 ∈ gtbl ∧ Cond.selects m_Mn_addWord.1.cls m_Mn_addWord.1 m_Mn_addWord.1 ∈ gtbl ∧ ∃ (T : u_T) (N : Nat), xcl[6]? = some (m_Mn_addWord.1.cls, T, N) := ⟨gt_in 387 (by decide +kernel) rfl, gt_in 388 (by decide +kernel) rfl, xT_Mn, 11, rfl⟩
set_option maxRecDepth 100000 in
theorem kA_Mn_empty : Cond.initialized m_Mn_empty.1.cls ∈ gtbl ∧ Cond.code m_Mn_empty.1 m_Mn_empty.2.1 m_Mn_empty.2.2.1 m_Mn_empty.2.2.2.1 ∈ gtbl ∧ (m_Mn_empty.1.cls ≠ "java/lang/invoke/MethodHandle" ∧ m_Mn_empty.1.cls ≠ "java/lang/invoke/VarHandle" ∧ (parseMethodDescriptor m_Mn_empty.1.desc).map (fun d => d.parameters.length) = some 0) := ⟨gt_in 3 (by decide +kernel) rfl, gt_in 397 (by rfl) rfl, by decide +kernel⟩
set_option maxRecDepth 100000 in
theorem kV_Mn_empty : Cond.instanceMethod m_Mn_empty.1 ∈ gtbl ∧ Cond.selects m_Mn_empty.1.cls m_Mn_empty.1 m_Mn_empty.1 ∈ gtbl ∧ ∃ (T : u_T) (N : Nat), xcl[6]? = some (m_Mn_empty.1.cls, T, N) := ⟨gt_in 395 (by decide +kernel) rfl, gt_in 396 (by decide +kernel) rfl, xT_Mn, 11, rfl⟩
set_option maxRecDepth 100000 in
theorem kA_Mn_shape : Cond.initialized m_Mn_shape.1.cls ∈ gtbl ∧ Cond.code m_Mn_shape.1 m_Mn_shape.2.1 m_Mn_shape.2.2.1 m_Mn_shape.2.2.2.1 ∈ gtbl ∧ (m_Mn_shape.1.cls ≠ "java/lang/invoke/MethodHandle" ∧ m_Mn_shape.1.cls ≠ "java/lang/invoke/VarHandle" ∧ (parseMethodDescriptor m_Mn_shape.1.desc).map (fun d => d.parameters.length) = some 4) := ⟨gt_in 3 (by decide +kernel) rfl, gt_in 405 (by rfl) rfl, by decide +kernel⟩
set_option maxRecDepth 100000 in
theorem kV_Mn_shape : Cond.instanceMethod m_Mn_shape.1 ∈ gtbl ∧ Cond.selects m_Mn_shape.1.cls m_Mn_shape.1 m_Mn_shape.1 ∈ gtbl ∧ ∃ (T : u_T) (N : Nat), xcl[6]? = some (m_Mn_shape.1.cls, T, N) := ⟨gt_in 403 (by decide +kernel) rfl, gt_in 404 (by decide +kernel) rfl, xT_Mn, 11, rfl⟩
set_option maxRecDepth 100000 in
theorem kA_Mn_cutCost : Cond.initialized m_Mn_cutCost.1.cls ∈ gtbl ∧ Cond.code m_Mn_cutCost.1 m_Mn_cutCost.2.1 m_Mn_cutCost.2.2.1 m_Mn_cutCost.2.2.2.1 ∈ gtbl ∧ (m_Mn_cutCost.1.cls ≠ "java/lang/invoke/MethodHandle" ∧ m_Mn_cutCost.1.cls ≠ "java/lang/invoke/VarHandle" ∧ (parseMethodDescriptor m_Mn_cutCost.1.desc).map (fun d => d.parameters.length) = some 1) := ⟨gt_in 3 (by decide +kernel) rfl, gt_in 469 (by rfl) rfl, by decide +kernel⟩
set_option maxRecDepth 100000 in
theorem kV_Mn_cutCost : Cond.instanceMethod m_Mn_cutCost.1 ∈ gtbl ∧ Cond.selects m_Mn_cutCost.1.cls m_Mn_cutCost.1 m_Mn_cutCost.1 ∈ gtbl ∧ ∃ (T : u_T) (N : Nat), xcl[6]? = some (m_Mn_cutCost.1.cls, T, N) := ⟨gt_in 467 (by decide +kernel) rfl, gt_in 468 (by decide +kernel) rfl, xT_Mn, 11, rfl⟩
set_option maxRecDepth 100000 in
theorem kA_Mn_wordsOf : Cond.initialized m_Mn_wordsOf.1.cls ∈ gtbl ∧ Cond.code m_Mn_wordsOf.1 m_Mn_wordsOf.2.1 m_Mn_wordsOf.2.2.1 m_Mn_wordsOf.2.2.2.1 ∈ gtbl ∧ (m_Mn_wordsOf.1.cls ≠ "java/lang/invoke/MethodHandle" ∧ m_Mn_wordsOf.1.cls ≠ "java/lang/invoke/VarHandle" ∧ (parseMethodDescriptor m_Mn_wordsOf.1.desc).map (fun d => d.parameters.length) = some 1) := ⟨gt_in 3 (by decide +kernel) rfl, gt_in 477 (by rfl) rfl, by decide +kernel⟩
set_option maxRecDepth 100000 in
theorem kV_Mn_wordsOf : Cond.instanceMethod m_Mn_wordsOf.1 ∈ gtbl ∧ Cond.selects m_Mn_wordsOf.1.cls m_Mn_wordsOf.1 m_Mn_wordsOf.1 ∈ gtbl ∧ ∃ (T : u_T) (N : Nat), xcl[6]? = some (m_Mn_wordsOf.1.cls, T, N) := ⟨gt_in 475 (by decide +kernel) rfl, gt_in 476 (by decide +kernel) rfl, xT_Mn, 11, rfl⟩
set_option maxRecDepth 100000 in
theorem kA_Mn_weighBreaks : Cond.initialized m_Mn_weighBreaks.1.cls ∈ gtbl ∧ Cond.code m_Mn_weighBreaks.1 m_Mn_weighBreaks.2.1 m_Mn_weighBreaks.2.2.1 m_Mn_weighBreaks.2.2.2.1 ∈ gtbl ∧ (m_Mn_weighBreaks.1.cls ≠ "java/lang/invoke/MethodHandle" ∧ m_Mn_weighBreaks.1.cls ≠ "java/lang/invoke/VarHandle" ∧ (parseMethodDescriptor m_Mn_weighBreaks.1.desc).map (fun d => d.parameters.length) = some 1) := ⟨gt_in 3 (by decide +kernel) rfl, gt_in 417 (by rfl) rfl, by decide +kernel⟩
set_option maxRecDepth 100000 in
theorem kV_Mn_weighBreaks : Cond.instanceMethod m_Mn_weighBreaks.1 ∈ gtbl ∧ Cond.selects m_Mn_weighBreaks.1.cls m_Mn_weighBreaks.1 m_Mn_weighBreaks.1 ∈ gtbl ∧ ∃ (T : u_T) (N : Nat), xcl[6]? = some (m_Mn_weighBreaks.1.cls, T, N) := ⟨gt_in 415 (by decide +kernel) rfl, gt_in 416 (by decide +kernel) rfl, xT_Mn, 11, rfl⟩
set_option maxRecDepth 100000 in
theorem kA_Mn_breakCost : Cond.initialized m_Mn_breakCost.1.cls ∈ gtbl ∧ Cond.code m_Mn_breakCost.1 m_Mn_breakCost.2.1 m_Mn_breakCost.2.2.1 m_Mn_breakCost.2.2.2.1 ∈ gtbl ∧ (m_Mn_breakCost.1.cls ≠ "java/lang/invoke/MethodHandle" ∧ m_Mn_breakCost.1.cls ≠ "java/lang/invoke/VarHandle" ∧ (parseMethodDescriptor m_Mn_breakCost.1.desc).map (fun d => d.parameters.length) = some 2) := ⟨gt_in 3 (by decide +kernel) rfl, gt_in 448 (by rfl) rfl, by decide +kernel⟩
set_option maxRecDepth 100000 in
theorem kV_Mn_breakCost : Cond.instanceMethod m_Mn_breakCost.1 ∈ gtbl ∧ Cond.selects m_Mn_breakCost.1.cls m_Mn_breakCost.1 m_Mn_breakCost.1 ∈ gtbl ∧ ∃ (T : u_T) (N : Nat), xcl[6]? = some (m_Mn_breakCost.1.cls, T, N) := ⟨gt_in 446 (by decide +kernel) rfl, gt_in 447 (by decide +kernel) rfl, xT_Mn, 11, rfl⟩
set_option maxRecDepth 100000 in
theorem kA_Mn_breaksOf : Cond.initialized m_Mn_breaksOf.1.cls ∈ gtbl ∧ Cond.code m_Mn_breaksOf.1 m_Mn_breaksOf.2.1 m_Mn_breaksOf.2.2.1 m_Mn_breaksOf.2.2.2.1 ∈ gtbl ∧ (m_Mn_breaksOf.1.cls ≠ "java/lang/invoke/MethodHandle" ∧ m_Mn_breaksOf.1.cls ≠ "java/lang/invoke/VarHandle" ∧ (parseMethodDescriptor m_Mn_breaksOf.1.desc).map (fun d => d.parameters.length) = some 1) := ⟨gt_in 3 (by decide +kernel) rfl, gt_in 421 (by rfl) rfl, by decide +kernel⟩
set_option maxRecDepth 100000 in
theorem kV_Mn_breaksOf : Cond.instanceMethod m_Mn_breaksOf.1 ∈ gtbl ∧ Cond.selects m_Mn_breaksOf.1.cls m_Mn_breaksOf.1 m_Mn_breaksOf.1 ∈ gtbl ∧ ∃ (T : u_T) (N : Nat), xcl[6]? = some (m_Mn_breaksOf.1.cls, T, N) := ⟨gt_in 419 (by decide +kernel) rfl, gt_in 420 (by decide +kernel) rfl, xT_Mn, 11, rfl⟩
set_option maxRecDepth 100000 in
theorem kA_Mn_widowCost : Cond.initialized m_Mn_widowCost.1.cls ∈ gtbl ∧ Cond.code m_Mn_widowCost.1 m_Mn_widowCost.2.1 m_Mn_widowCost.2.2.1 m_Mn_widowCost.2.2.2.1 ∈ gtbl ∧ (m_Mn_widowCost.1.cls ≠ "java/lang/invoke/MethodHandle" ∧ m_Mn_widowCost.1.cls ≠ "java/lang/invoke/VarHandle" ∧ (parseMethodDescriptor m_Mn_widowCost.1.desc).map (fun d => d.parameters.length) = some 2) := ⟨gt_in 3 (by decide +kernel) rfl, gt_in 487 (by rfl) rfl, by decide +kernel⟩
set_option maxRecDepth 100000 in
theorem kV_Mn_widowCost : Cond.instanceMethod m_Mn_widowCost.1 ∈ gtbl ∧ Cond.selects m_Mn_widowCost.1.cls m_Mn_widowCost.1 m_Mn_widowCost.1 ∈ gtbl ∧ ∃ (T : u_T) (N : Nat), xcl[6]? = some (m_Mn_widowCost.1.cls, T, N) := ⟨gt_in 485 (by decide +kernel) rfl, gt_in 486 (by decide +kernel) rfl, xT_Mn, 11, rfl⟩
set_option maxRecDepth 100000 in
theorem kA_Mn_forgetBreakCosts : Cond.initialized m_Mn_forgetBreakCosts.1.cls ∈ gtbl ∧ Cond.code m_Mn_forgetBreakCosts.1 m_Mn_forgetBreakCosts.2.1 m_Mn_forgetBreakCosts.2.2.1 m_Mn_forgetBreakCosts.2.2.2.1 ∈ gtbl ∧ (m_Mn_forgetBreakCosts.1.cls ≠ "java/lang/invoke/MethodHandle" ∧ m_Mn_forgetBreakCosts.1.cls ≠ "java/lang/invoke/VarHandle" ∧ (parseMethodDescriptor m_Mn_forgetBreakCosts.1.desc).map (fun d => d.parameters.length) = some 0) := ⟨gt_in 3 (by decide +kernel) rfl, gt_in 409 (by rfl) rfl, by decide +kernel⟩
set_option maxRecDepth 100000 in
theorem kV_Mn_forgetBreakCosts : Cond.instanceMethod m_Mn_forgetBreakCosts.1 ∈ gtbl ∧ Cond.selects m_Mn_forgetBreakCosts.1.cls m_Mn_forgetBreakCosts.1 m_Mn_forgetBreakCosts.1 ∈ gtbl ∧ ∃ (T : u_T) (N : Nat), xcl[6]? = some (m_Mn_forgetBreakCosts.1.cls, T, N) := ⟨gt_in 408 (by decide +kernel) rfl, gt_pv 0 (by decide +kernel) rfl, xT_Mn, 11, rfl⟩
set_option maxRecDepth 100000 in
theorem kA_Pa_init : Cond.initialized m_Pa_init.1.cls ∈ gtbl ∧ Cond.code m_Pa_init.1 m_Pa_init.2.1 m_Pa_init.2.2.1 m_Pa_init.2.2.2.1 ∈ gtbl ∧ (m_Pa_init.1.cls ≠ "java/lang/invoke/MethodHandle" ∧ m_Pa_init.1.cls ≠ "java/lang/invoke/VarHandle" ∧ (parseMethodDescriptor m_Pa_init.1.desc).map (fun d => d.parameters.length) = some 0) := ⟨gt_in 6 (by decide +kernel) rfl, gt_in 159 (by rfl) rfl, by decide +kernel⟩
set_option maxRecDepth 100000 in
theorem kI_Pa_init : Cond.instanceMethod m_Pa_init.1 ∈ gtbl ∧ m_Pa_init.1.name = "<init>" ∧ m_Pa_init.2.2.2.1 = none := ⟨gt_in 158 (by decide +kernel) rfl, rfl, rfl⟩
set_option maxRecDepth 100000 in
theorem kA_Pa_haveEdition : Cond.initialized m_Pa_haveEdition.1.cls ∈ gtbl ∧ Cond.code m_Pa_haveEdition.1 m_Pa_haveEdition.2.1 m_Pa_haveEdition.2.2.1 m_Pa_haveEdition.2.2.2.1 ∈ gtbl ∧ (m_Pa_haveEdition.1.cls ≠ "java/lang/invoke/MethodHandle" ∧ m_Pa_haveEdition.1.cls ≠ "java/lang/invoke/VarHandle" ∧ (parseMethodDescriptor m_Pa_haveEdition.1.desc).map (fun d => d.parameters.length) = some 2) := ⟨gt_in 6 (by decide +kernel) rfl, gt_in 679 (by rfl) rfl, by decide +kernel⟩
set_option maxRecDepth 100000 in
theorem kV_Pa_haveEdition : Cond.instanceMethod m_Pa_haveEdition.1 ∈ gtbl ∧ Cond.selects m_Pa_haveEdition.1.cls m_Pa_haveEdition.1 m_Pa_haveEdition.1 ∈ gtbl ∧ ∃ (T : u_T) (N : Nat), xcl[7]? = some (m_Pa_haveEdition.1.cls, T, N) := ⟨gt_in 677 (by decide +kernel) rfl, gt_in 678 (by decide +kernel) rfl, xT_Pa, 4, rfl⟩
set_option maxRecDepth 100000 in
theorem kA_Pa_allHaveEdition : Cond.initialized m_Pa_allHaveEdition.1.cls ∈ gtbl ∧ Cond.code m_Pa_allHaveEdition.1 m_Pa_allHaveEdition.2.1 m_Pa_allHaveEdition.2.2.1 m_Pa_allHaveEdition.2.2.2.1 ∈ gtbl ∧ (m_Pa_allHaveEdition.1.cls ≠ "java/lang/invoke/MethodHandle" ∧ m_Pa_allHaveEdition.1.cls ≠ "java/lang/invoke/VarHandle" ∧ (parseMethodDescriptor m_Pa_allHaveEdition.1.desc).map (fun d => d.parameters.length) = some 3) := ⟨gt_in 6 (by decide +kernel) rfl, gt_in 939 (by rfl) rfl, by decide +kernel⟩
set_option maxRecDepth 100000 in
theorem kV_Pa_allHaveEdition : Cond.instanceMethod m_Pa_allHaveEdition.1 ∈ gtbl ∧ Cond.selects m_Pa_allHaveEdition.1.cls m_Pa_allHaveEdition.1 m_Pa_allHaveEdition.1 ∈ gtbl ∧ ∃ (T : u_T) (N : Nat), xcl[7]? = some (m_Pa_allHaveEdition.1.cls, T, N) := ⟨gt_in 937 (by decide +kernel) rfl, gt_in 938 (by decide +kernel) rfl, xT_Pa, 4, rfl⟩
set_option maxRecDepth 100000 in
theorem kA_Pa_lastEdition : Cond.initialized m_Pa_lastEdition.1.cls ∈ gtbl ∧ Cond.code m_Pa_lastEdition.1 m_Pa_lastEdition.2.1 m_Pa_lastEdition.2.2.1 m_Pa_lastEdition.2.2.2.1 ∈ gtbl ∧ (m_Pa_lastEdition.1.cls ≠ "java/lang/invoke/MethodHandle" ∧ m_Pa_lastEdition.1.cls ≠ "java/lang/invoke/VarHandle" ∧ (parseMethodDescriptor m_Pa_lastEdition.1.desc).map (fun d => d.parameters.length) = some 1) := ⟨gt_in 6 (by decide +kernel) rfl, gt_in 736 (by rfl) rfl, by decide +kernel⟩
set_option maxRecDepth 100000 in
theorem kV_Pa_lastEdition : Cond.instanceMethod m_Pa_lastEdition.1 ∈ gtbl ∧ Cond.selects m_Pa_lastEdition.1.cls m_Pa_lastEdition.1 m_Pa_lastEdition.1 ∈ gtbl ∧ ∃ (T : u_T) (N : Nat), xcl[7]? = some (m_Pa_lastEdition.1.cls, T, N) := ⟨gt_in 734 (by decide +kernel) rfl, gt_in 735 (by decide +kernel) rfl, xT_Pa, 4, rfl⟩
set_option maxRecDepth 100000 in
theorem kA_Pa_addEdition : Cond.initialized m_Pa_addEdition.1.cls ∈ gtbl ∧ Cond.code m_Pa_addEdition.1 m_Pa_addEdition.2.1 m_Pa_addEdition.2.2.1 m_Pa_addEdition.2.2.2.1 ∈ gtbl ∧ (m_Pa_addEdition.1.cls ≠ "java/lang/invoke/MethodHandle" ∧ m_Pa_addEdition.1.cls ≠ "java/lang/invoke/VarHandle" ∧ (parseMethodDescriptor m_Pa_addEdition.1.desc).map (fun d => d.parameters.length) = some 1) := ⟨gt_in 6 (by decide +kernel) rfl, gt_in 762 (by rfl) rfl, by decide +kernel⟩
set_option maxRecDepth 100000 in
theorem kV_Pa_addEdition : Cond.instanceMethod m_Pa_addEdition.1 ∈ gtbl ∧ Cond.selects m_Pa_addEdition.1.cls m_Pa_addEdition.1 m_Pa_addEdition.1 ∈ gtbl ∧ ∃ (T : u_T) (N : Nat), xcl[7]? = some (m_Pa_addEdition.1.cls, T, N) := ⟨gt_in 760 (by decide +kernel) rfl, gt_in 761 (by decide +kernel) rfl, xT_Pa, 4, rfl⟩
set_option maxRecDepth 100000 in
theorem kA_Pa_beginOn : Cond.initialized m_Pa_beginOn.1.cls ∈ gtbl ∧ Cond.code m_Pa_beginOn.1 m_Pa_beginOn.2.1 m_Pa_beginOn.2.2.1 m_Pa_beginOn.2.2.2.1 ∈ gtbl ∧ (m_Pa_beginOn.1.cls ≠ "java/lang/invoke/MethodHandle" ∧ m_Pa_beginOn.1.cls ≠ "java/lang/invoke/VarHandle" ∧ (parseMethodDescriptor m_Pa_beginOn.1.desc).map (fun d => d.parameters.length) = some 1) := ⟨gt_in 6 (by decide +kernel) rfl, gt_in 858 (by rfl) rfl, by decide +kernel⟩
set_option maxRecDepth 100000 in
theorem kV_Pa_beginOn : Cond.instanceMethod m_Pa_beginOn.1 ∈ gtbl ∧ Cond.selects m_Pa_beginOn.1.cls m_Pa_beginOn.1 m_Pa_beginOn.1 ∈ gtbl ∧ ∃ (T : u_T) (N : Nat), xcl[7]? = some (m_Pa_beginOn.1.cls, T, N) := ⟨gt_in 856 (by decide +kernel) rfl, gt_in 857 (by decide +kernel) rfl, xT_Pa, 4, rfl⟩
set_option maxRecDepth 100000 in
theorem kA_Pa_arrive : Cond.initialized m_Pa_arrive.1.cls ∈ gtbl ∧ Cond.code m_Pa_arrive.1 m_Pa_arrive.2.1 m_Pa_arrive.2.2.1 m_Pa_arrive.2.2.2.1 ∈ gtbl ∧ (m_Pa_arrive.1.cls ≠ "java/lang/invoke/MethodHandle" ∧ m_Pa_arrive.1.cls ≠ "java/lang/invoke/VarHandle" ∧ (parseMethodDescriptor m_Pa_arrive.1.desc).map (fun d => d.parameters.length) = some 2) := ⟨gt_in 6 (by decide +kernel) rfl, gt_in 866 (by rfl) rfl, by decide +kernel⟩
set_option maxRecDepth 100000 in
theorem kV_Pa_arrive : Cond.instanceMethod m_Pa_arrive.1 ∈ gtbl ∧ Cond.selects m_Pa_arrive.1.cls m_Pa_arrive.1 m_Pa_arrive.1 ∈ gtbl ∧ ∃ (T : u_T) (N : Nat), xcl[7]? = some (m_Pa_arrive.1.cls, T, N) := ⟨gt_in 864 (by decide +kernel) rfl, gt_in 865 (by decide +kernel) rfl, xT_Pa, 4, rfl⟩
set_option maxRecDepth 100000 in
theorem kA_Pa_hasCome : Cond.initialized m_Pa_hasCome.1.cls ∈ gtbl ∧ Cond.code m_Pa_hasCome.1 m_Pa_hasCome.2.1 m_Pa_hasCome.2.2.1 m_Pa_hasCome.2.2.2.1 ∈ gtbl ∧ (m_Pa_hasCome.1.cls ≠ "java/lang/invoke/MethodHandle" ∧ m_Pa_hasCome.1.cls ≠ "java/lang/invoke/VarHandle" ∧ (parseMethodDescriptor m_Pa_hasCome.1.desc).map (fun d => d.parameters.length) = some 1) := ⟨gt_in 6 (by decide +kernel) rfl, gt_in 844 (by rfl) rfl, by decide +kernel⟩
set_option maxRecDepth 100000 in
theorem kV_Pa_hasCome : Cond.instanceMethod m_Pa_hasCome.1 ∈ gtbl ∧ Cond.selects m_Pa_hasCome.1.cls m_Pa_hasCome.1 m_Pa_hasCome.1 ∈ gtbl ∧ ∃ (T : u_T) (N : Nat), xcl[7]? = some (m_Pa_hasCome.1.cls, T, N) := ⟨gt_in 842 (by decide +kernel) rfl, gt_in 843 (by decide +kernel) rfl, xT_Pa, 4, rfl⟩
set_option maxRecDepth 100000 in
theorem kA_Pa_daysLate : Cond.initialized m_Pa_daysLate.1.cls ∈ gtbl ∧ Cond.code m_Pa_daysLate.1 m_Pa_daysLate.2.1 m_Pa_daysLate.2.2.1 m_Pa_daysLate.2.2.2.1 ∈ gtbl ∧ (m_Pa_daysLate.1.cls ≠ "java/lang/invoke/MethodHandle" ∧ m_Pa_daysLate.1.cls ≠ "java/lang/invoke/VarHandle" ∧ (parseMethodDescriptor m_Pa_daysLate.1.desc).map (fun d => d.parameters.length) = some 1) := ⟨gt_in 6 (by decide +kernel) rfl, gt_in 832 (by rfl) rfl, by decide +kernel⟩
set_option maxRecDepth 100000 in
theorem kV_Pa_daysLate : Cond.instanceMethod m_Pa_daysLate.1 ∈ gtbl ∧ Cond.selects m_Pa_daysLate.1.cls m_Pa_daysLate.1 m_Pa_daysLate.1 ∈ gtbl ∧ ∃ (T : u_T) (N : Nat), xcl[7]? = some (m_Pa_daysLate.1.cls, T, N) := ⟨gt_in 830 (by decide +kernel) rfl, gt_in 831 (by decide +kernel) rfl, xT_Pa, 4, rfl⟩
set_option maxRecDepth 100000 in
theorem kA_Pa_dueDay : Cond.initialized m_Pa_dueDay.1.cls ∈ gtbl ∧ Cond.code m_Pa_dueDay.1 m_Pa_dueDay.2.1 m_Pa_dueDay.2.2.1 m_Pa_dueDay.2.2.2.1 ∈ gtbl ∧ (m_Pa_dueDay.1.cls ≠ "java/lang/invoke/MethodHandle" ∧ m_Pa_dueDay.1.cls ≠ "java/lang/invoke/VarHandle" ∧ (parseMethodDescriptor m_Pa_dueDay.1.desc).map (fun d => d.parameters.length) = some 1) := ⟨gt_in 6 (by decide +kernel) rfl, gt_in 836 (by rfl) rfl, by decide +kernel⟩
set_option maxRecDepth 100000 in
theorem kV_Pa_dueDay : Cond.instanceMethod m_Pa_dueDay.1 ∈ gtbl ∧ Cond.selects m_Pa_dueDay.1.cls m_Pa_dueDay.1 m_Pa_dueDay.1 ∈ gtbl ∧ ∃ (T : u_T) (N : Nat), xcl[7]? = some (m_Pa_dueDay.1.cls, T, N) := ⟨gt_in 834 (by decide +kernel) rfl, gt_in 835 (by decide +kernel) rfl, xT_Pa, 4, rfl⟩
set_option maxRecDepth 100000 in
theorem kA_Pa_daysBehind : Cond.initialized m_Pa_daysBehind.1.cls ∈ gtbl ∧ Cond.code m_Pa_daysBehind.1 m_Pa_daysBehind.2.1 m_Pa_daysBehind.2.2.1 m_Pa_daysBehind.2.2.2.1 ∈ gtbl ∧ (m_Pa_daysBehind.1.cls ≠ "java/lang/invoke/MethodHandle" ∧ m_Pa_daysBehind.1.cls ≠ "java/lang/invoke/VarHandle" ∧ (parseMethodDescriptor m_Pa_daysBehind.1.desc).map (fun d => d.parameters.length) = some 2) := ⟨gt_in 6 (by decide +kernel) rfl, gt_in 840 (by rfl) rfl, by decide +kernel⟩
set_option maxRecDepth 100000 in
theorem kV_Pa_daysBehind : Cond.instanceMethod m_Pa_daysBehind.1 ∈ gtbl ∧ Cond.selects m_Pa_daysBehind.1.cls m_Pa_daysBehind.1 m_Pa_daysBehind.1 ∈ gtbl ∧ ∃ (T : u_T) (N : Nat), xcl[7]? = some (m_Pa_daysBehind.1.cls, T, N) := ⟨gt_in 839 (by decide +kernel) rfl, gt_pv 22 (by decide +kernel) rfl, xT_Pa, 4, rfl⟩
set_option maxRecDepth 100000 in
theorem kA_Se_init : Cond.initialized m_Se_init.1.cls ∈ gtbl ∧ Cond.code m_Se_init.1 m_Se_init.2.1 m_Se_init.2.2.1 m_Se_init.2.2.2.1 ∈ gtbl ∧ (m_Se_init.1.cls ≠ "java/lang/invoke/MethodHandle" ∧ m_Se_init.1.cls ≠ "java/lang/invoke/VarHandle" ∧ (parseMethodDescriptor m_Se_init.1.desc).map (fun d => d.parameters.length) = some 0) := ⟨gt_in 5 (by decide +kernel) rfl, gt_in 124 (by rfl) rfl, by decide +kernel⟩
set_option maxRecDepth 100000 in
theorem kI_Se_init : Cond.instanceMethod m_Se_init.1 ∈ gtbl ∧ m_Se_init.1.name = "<init>" ∧ m_Se_init.2.2.2.1 = none := ⟨gt_in 123 (by decide +kernel) rfl, rfl, rfl⟩
set_option maxRecDepth 100000 in
theorem kA_Se_leastCost : Cond.initialized m_Se_leastCost.1.cls ∈ gtbl ∧ Cond.code m_Se_leastCost.1 m_Se_leastCost.2.1 m_Se_leastCost.2.2.1 m_Se_leastCost.2.2.2.1 ∈ gtbl ∧ (m_Se_leastCost.1.cls ≠ "java/lang/invoke/MethodHandle" ∧ m_Se_leastCost.1.cls ≠ "java/lang/invoke/VarHandle" ∧ (parseMethodDescriptor m_Se_leastCost.1.desc).map (fun d => d.parameters.length) = some 2) := ⟨gt_in 5 (by decide +kernel) rfl, gt_in 458 (by rfl) rfl, by decide +kernel⟩
set_option maxRecDepth 100000 in
theorem kV_Se_leastCost : Cond.instanceMethod m_Se_leastCost.1 ∈ gtbl ∧ Cond.selects m_Se_leastCost.1.cls m_Se_leastCost.1 m_Se_leastCost.1 ∈ gtbl ∧ ∃ (T : u_T) (N : Nat), xcl[8]? = some (m_Se_leastCost.1.cls, T, N) := ⟨gt_in 456 (by decide +kernel) rfl, gt_in 457 (by decide +kernel) rfl, xT_Se, 9, rfl⟩
set_option maxRecDepth 100000 in
theorem kA_Se_placeAll : Cond.initialized m_Se_placeAll.1.cls ∈ gtbl ∧ Cond.code m_Se_placeAll.1 m_Se_placeAll.2.1 m_Se_placeAll.2.2.1 m_Se_placeAll.2.2.2.1 ∈ gtbl ∧ (m_Se_placeAll.1.cls ≠ "java/lang/invoke/MethodHandle" ∧ m_Se_placeAll.1.cls ≠ "java/lang/invoke/VarHandle" ∧ (parseMethodDescriptor m_Se_placeAll.1.desc).map (fun d => d.parameters.length) = some 2) := ⟨gt_in 5 (by decide +kernel) rfl, gt_in 494 (by rfl) rfl, by decide +kernel⟩
set_option maxRecDepth 100000 in
theorem kV_Se_placeAll : Cond.instanceMethod m_Se_placeAll.1 ∈ gtbl ∧ Cond.selects m_Se_placeAll.1.cls m_Se_placeAll.1 m_Se_placeAll.1 ∈ gtbl ∧ ∃ (T : u_T) (N : Nat), xcl[8]? = some (m_Se_placeAll.1.cls, T, N) := ⟨gt_in 492 (by decide +kernel) rfl, gt_in 493 (by decide +kernel) rfl, xT_Se, 9, rfl⟩
set_option maxRecDepth 100000 in
theorem kA_Se_ofParagraph : Cond.initialized m_Se_ofParagraph.1.cls ∈ gtbl ∧ Cond.code m_Se_ofParagraph.1 m_Se_ofParagraph.2.1 m_Se_ofParagraph.2.2.1 m_Se_ofParagraph.2.2.2.1 ∈ gtbl ∧ (m_Se_ofParagraph.1.cls ≠ "java/lang/invoke/MethodHandle" ∧ m_Se_ofParagraph.1.cls ≠ "java/lang/invoke/VarHandle" ∧ (parseMethodDescriptor m_Se_ofParagraph.1.desc).map (fun d => d.parameters.length) = some 2) := ⟨gt_in 5 (by decide +kernel) rfl, gt_in 527 (by rfl) rfl, by decide +kernel⟩
set_option maxRecDepth 100000 in
theorem kV_Se_ofParagraph : Cond.instanceMethod m_Se_ofParagraph.1 ∈ gtbl ∧ Cond.selects m_Se_ofParagraph.1.cls m_Se_ofParagraph.1 m_Se_ofParagraph.1 ∈ gtbl ∧ ∃ (T : u_T) (N : Nat), xcl[8]? = some (m_Se_ofParagraph.1.cls, T, N) := ⟨gt_in 525 (by decide +kernel) rfl, gt_in 526 (by decide +kernel) rfl, xT_Se, 9, rfl⟩
set_option maxRecDepth 100000 in
theorem kA_Se_ofLine : Cond.initialized m_Se_ofLine.1.cls ∈ gtbl ∧ Cond.code m_Se_ofLine.1 m_Se_ofLine.2.1 m_Se_ofLine.2.2.1 m_Se_ofLine.2.2.2.1 ∈ gtbl ∧ (m_Se_ofLine.1.cls ≠ "java/lang/invoke/MethodHandle" ∧ m_Se_ofLine.1.cls ≠ "java/lang/invoke/VarHandle" ∧ (parseMethodDescriptor m_Se_ofLine.1.desc).map (fun d => d.parameters.length) = some 2) := ⟨gt_in 5 (by decide +kernel) rfl, gt_in 535 (by rfl) rfl, by decide +kernel⟩
set_option maxRecDepth 100000 in
theorem kV_Se_ofLine : Cond.instanceMethod m_Se_ofLine.1 ∈ gtbl ∧ Cond.selects m_Se_ofLine.1.cls m_Se_ofLine.1 m_Se_ofLine.1 ∈ gtbl ∧ ∃ (T : u_T) (N : Nat), xcl[8]? = some (m_Se_ofLine.1.cls, T, N) := ⟨gt_in 533 (by decide +kernel) rfl, gt_in 534 (by decide +kernel) rfl, xT_Se, 9, rfl⟩
set_option maxRecDepth 100000 in
theorem kA_Se_weighFrom : Cond.initialized m_Se_weighFrom.1.cls ∈ gtbl ∧ Cond.code m_Se_weighFrom.1 m_Se_weighFrom.2.1 m_Se_weighFrom.2.2.1 m_Se_weighFrom.2.2.2.1 ∈ gtbl ∧ (m_Se_weighFrom.1.cls ≠ "java/lang/invoke/MethodHandle" ∧ m_Se_weighFrom.1.cls ≠ "java/lang/invoke/VarHandle" ∧ (parseMethodDescriptor m_Se_weighFrom.1.desc).map (fun d => d.parameters.length) = some 3) := ⟨gt_in 5 (by decide +kernel) rfl, gt_in 465 (by rfl) rfl, by decide +kernel⟩
set_option maxRecDepth 100000 in
theorem kV_Se_weighFrom : Cond.instanceMethod m_Se_weighFrom.1 ∈ gtbl ∧ Cond.selects m_Se_weighFrom.1.cls m_Se_weighFrom.1 m_Se_weighFrom.1 ∈ gtbl ∧ ∃ (T : u_T) (N : Nat), xcl[8]? = some (m_Se_weighFrom.1.cls, T, N) := ⟨gt_in 464 (by decide +kernel) rfl, gt_pv 3 (by decide +kernel) rfl, xT_Se, 9, rfl⟩
set_option maxRecDepth 100000 in
theorem kA_Se_leastUncut : Cond.initialized m_Se_leastUncut.1.cls ∈ gtbl ∧ Cond.code m_Se_leastUncut.1 m_Se_leastUncut.2.1 m_Se_leastUncut.2.2.1 m_Se_leastUncut.2.2.2.1 ∈ gtbl ∧ (m_Se_leastUncut.1.cls ≠ "java/lang/invoke/MethodHandle" ∧ m_Se_leastUncut.1.cls ≠ "java/lang/invoke/VarHandle" ∧ (parseMethodDescriptor m_Se_leastUncut.1.desc).map (fun d => d.parameters.length) = some 4) := ⟨gt_in 5 (by decide +kernel) rfl, gt_in 473 (by rfl) rfl, by decide +kernel⟩
set_option maxRecDepth 100000 in
theorem kV_Se_leastUncut : Cond.instanceMethod m_Se_leastUncut.1 ∈ gtbl ∧ Cond.selects m_Se_leastUncut.1.cls m_Se_leastUncut.1 m_Se_leastUncut.1 ∈ gtbl ∧ ∃ (T : u_T) (N : Nat), xcl[8]? = some (m_Se_leastUncut.1.cls, T, N) := ⟨gt_in 472 (by decide +kernel) rfl, gt_pv 4 (by decide +kernel) rfl, xT_Se, 9, rfl⟩
set_option maxRecDepth 100000 in
theorem kA_Se_costInLines : Cond.initialized m_Se_costInLines.1.cls ∈ gtbl ∧ Cond.code m_Se_costInLines.1 m_Se_costInLines.2.1 m_Se_costInLines.2.2.1 m_Se_costInLines.2.2.2.1 ∈ gtbl ∧ (m_Se_costInLines.1.cls ≠ "java/lang/invoke/MethodHandle" ∧ m_Se_costInLines.1.cls ≠ "java/lang/invoke/VarHandle" ∧ (parseMethodDescriptor m_Se_costInLines.1.desc).map (fun d => d.parameters.length) = some 4) := ⟨gt_in 5 (by decide +kernel) rfl, gt_in 482 (by rfl) rfl, by decide +kernel⟩
set_option maxRecDepth 100000 in
theorem kV_Se_costInLines : Cond.instanceMethod m_Se_costInLines.1 ∈ gtbl ∧ Cond.selects m_Se_costInLines.1.cls m_Se_costInLines.1 m_Se_costInLines.1 ∈ gtbl ∧ ∃ (T : u_T) (N : Nat), xcl[8]? = some (m_Se_costInLines.1.cls, T, N) := ⟨gt_in 481 (by decide +kernel) rfl, gt_pv 5 (by decide +kernel) rfl, xT_Se, 9, rfl⟩
set_option maxRecDepth 100000 in
theorem kA_Se_forgetPlaces : Cond.initialized m_Se_forgetPlaces.1.cls ∈ gtbl ∧ Cond.code m_Se_forgetPlaces.1 m_Se_forgetPlaces.2.1 m_Se_forgetPlaces.2.2.1 m_Se_forgetPlaces.2.2.2.1 ∈ gtbl ∧ (m_Se_forgetPlaces.1.cls ≠ "java/lang/invoke/MethodHandle" ∧ m_Se_forgetPlaces.1.cls ≠ "java/lang/invoke/VarHandle" ∧ (parseMethodDescriptor m_Se_forgetPlaces.1.desc).map (fun d => d.parameters.length) = some 2) := ⟨gt_in 5 (by decide +kernel) rfl, gt_in 498 (by rfl) rfl, by decide +kernel⟩
set_option maxRecDepth 100000 in
theorem kV_Se_forgetPlaces : Cond.instanceMethod m_Se_forgetPlaces.1 ∈ gtbl ∧ Cond.selects m_Se_forgetPlaces.1.cls m_Se_forgetPlaces.1 m_Se_forgetPlaces.1 ∈ gtbl ∧ ∃ (T : u_T) (N : Nat), xcl[8]? = some (m_Se_forgetPlaces.1.cls, T, N) := ⟨gt_in 497 (by decide +kernel) rfl, gt_pv 6 (by decide +kernel) rfl, xT_Se, 9, rfl⟩
set_option maxRecDepth 100000 in
theorem kA_Se_fewestLeads : Cond.initialized m_Se_fewestLeads.1.cls ∈ gtbl ∧ Cond.code m_Se_fewestLeads.1 m_Se_fewestLeads.2.1 m_Se_fewestLeads.2.2.1 m_Se_fewestLeads.2.2.2.1 ∈ gtbl ∧ (m_Se_fewestLeads.1.cls ≠ "java/lang/invoke/MethodHandle" ∧ m_Se_fewestLeads.1.cls ≠ "java/lang/invoke/VarHandle" ∧ (parseMethodDescriptor m_Se_fewestLeads.1.desc).map (fun d => d.parameters.length) = some 5) := ⟨gt_in 5 (by decide +kernel) rfl, gt_in 502 (by rfl) rfl, by decide +kernel⟩
set_option maxRecDepth 100000 in
theorem kV_Se_fewestLeads : Cond.instanceMethod m_Se_fewestLeads.1 ∈ gtbl ∧ Cond.selects m_Se_fewestLeads.1.cls m_Se_fewestLeads.1 m_Se_fewestLeads.1 ∈ gtbl ∧ ∃ (T : u_T) (N : Nat), xcl[8]? = some (m_Se_fewestLeads.1.cls, T, N) := ⟨gt_in 501 (by decide +kernel) rfl, gt_pv 7 (by decide +kernel) rfl, xT_Se, 9, rfl⟩
set_option maxRecDepth 100000 in
theorem kA_Se_fewestLines : Cond.initialized m_Se_fewestLines.1.cls ∈ gtbl ∧ Cond.code m_Se_fewestLines.1 m_Se_fewestLines.2.1 m_Se_fewestLines.2.2.1 m_Se_fewestLines.2.2.2.1 ∈ gtbl ∧ (m_Se_fewestLines.1.cls ≠ "java/lang/invoke/MethodHandle" ∧ m_Se_fewestLines.1.cls ≠ "java/lang/invoke/VarHandle" ∧ (parseMethodDescriptor m_Se_fewestLines.1.desc).map (fun d => d.parameters.length) = some 4) := ⟨gt_in 5 (by decide +kernel) rfl, gt_in 510 (by rfl) rfl, by decide +kernel⟩
set_option maxRecDepth 100000 in
theorem kV_Se_fewestLines : Cond.instanceMethod m_Se_fewestLines.1 ∈ gtbl ∧ Cond.selects m_Se_fewestLines.1.cls m_Se_fewestLines.1 m_Se_fewestLines.1 ∈ gtbl ∧ ∃ (T : u_T) (N : Nat), xcl[8]? = some (m_Se_fewestLines.1.cls, T, N) := ⟨gt_in 509 (by decide +kernel) rfl, gt_pv 9 (by decide +kernel) rfl, xT_Se, 9, rfl⟩
set_option maxRecDepth 100000 in
theorem kA_Se_placeLines : Cond.initialized m_Se_placeLines.1.cls ∈ gtbl ∧ Cond.code m_Se_placeLines.1 m_Se_placeLines.2.1 m_Se_placeLines.2.2.1 m_Se_placeLines.2.2.2.1 ∈ gtbl ∧ (m_Se_placeLines.1.cls ≠ "java/lang/invoke/MethodHandle" ∧ m_Se_placeLines.1.cls ≠ "java/lang/invoke/VarHandle" ∧ (parseMethodDescriptor m_Se_placeLines.1.desc).map (fun d => d.parameters.length) = some 4) := ⟨gt_in 5 (by decide +kernel) rfl, gt_in 514 (by rfl) rfl, by decide +kernel⟩
set_option maxRecDepth 100000 in
theorem kV_Se_placeLines : Cond.instanceMethod m_Se_placeLines.1 ∈ gtbl ∧ Cond.selects m_Se_placeLines.1.cls m_Se_placeLines.1 m_Se_placeLines.1 ∈ gtbl ∧ ∃ (T : u_T) (N : Nat), xcl[8]? = some (m_Se_placeLines.1.cls, T, N) := ⟨gt_in 513 (by decide +kernel) rfl, gt_pv 10 (by decide +kernel) rfl, xT_Se, 9, rfl⟩
set_option maxRecDepth 100000 in
theorem kA_Se_note : Cond.initialized m_Se_note.1.cls ∈ gtbl ∧ Cond.code m_Se_note.1 m_Se_note.2.1 m_Se_note.2.2.1 m_Se_note.2.2.2.1 ∈ gtbl ∧ (m_Se_note.1.cls ≠ "java/lang/invoke/MethodHandle" ∧ m_Se_note.1.cls ≠ "java/lang/invoke/VarHandle" ∧ (parseMethodDescriptor m_Se_note.1.desc).map (fun d => d.parameters.length) = some 5) := ⟨gt_in 5 (by decide +kernel) rfl, gt_in 506 (by rfl) rfl, by decide +kernel⟩
set_option maxRecDepth 100000 in
theorem kV_Se_note : Cond.instanceMethod m_Se_note.1 ∈ gtbl ∧ Cond.selects m_Se_note.1.cls m_Se_note.1 m_Se_note.1 ∈ gtbl ∧ ∃ (T : u_T) (N : Nat), xcl[8]? = some (m_Se_note.1.cls, T, N) := ⟨gt_in 505 (by decide +kernel) rfl, gt_pv 8 (by decide +kernel) rfl, xT_Se, 9, rfl⟩
set_option maxRecDepth 100000 in
theorem kA_Sh_init : Cond.initialized m_Sh_init.1.cls ∈ gtbl ∧ Cond.code m_Sh_init.1 m_Sh_init.2.1 m_Sh_init.2.2.1 m_Sh_init.2.2.2.1 ∈ gtbl ∧ (m_Sh_init.1.cls ≠ "java/lang/invoke/MethodHandle" ∧ m_Sh_init.1.cls ≠ "java/lang/invoke/VarHandle" ∧ (parseMethodDescriptor m_Sh_init.1.desc).map (fun d => d.parameters.length) = some 0) := ⟨gt_in 11 (by decide +kernel) rfl, gt_in 274 (by rfl) rfl, by decide +kernel⟩
set_option maxRecDepth 100000 in
theorem kI_Sh_init : Cond.instanceMethod m_Sh_init.1 ∈ gtbl ∧ m_Sh_init.1.name = "<init>" ∧ m_Sh_init.2.2.2.1 = none := ⟨gt_in 273 (by decide +kernel) rfl, rfl, rfl⟩
set_option maxRecDepth 100000 in
theorem kA_Sh_changePrices : Cond.initialized m_Sh_changePrices.1.cls ∈ gtbl ∧ Cond.code m_Sh_changePrices.1 m_Sh_changePrices.2.1 m_Sh_changePrices.2.2.1 m_Sh_changePrices.2.2.2.1 ∈ gtbl ∧ (m_Sh_changePrices.1.cls ≠ "java/lang/invoke/MethodHandle" ∧ m_Sh_changePrices.1.cls ≠ "java/lang/invoke/VarHandle" ∧ (parseMethodDescriptor m_Sh_changePrices.1.desc).map (fun d => d.parameters.length) = some 4) := ⟨gt_in 11 (by decide +kernel) rfl, gt_in 880 (by rfl) rfl, by decide +kernel⟩
set_option maxRecDepth 100000 in
theorem kV_Sh_changePrices : Cond.instanceMethod m_Sh_changePrices.1 ∈ gtbl ∧ Cond.selects m_Sh_changePrices.1.cls m_Sh_changePrices.1 m_Sh_changePrices.1 ∈ gtbl ∧ ∃ (T : u_T) (N : Nat), xcl[9]? = some (m_Sh_changePrices.1.cls, T, N) := ⟨gt_in 878 (by decide +kernel) rfl, gt_in 879 (by decide +kernel) rfl, xT_Sh, 10, rfl⟩
set_option maxRecDepth 100000 in
theorem kA_Sh_keepPlates : Cond.initialized m_Sh_keepPlates.1.cls ∈ gtbl ∧ Cond.code m_Sh_keepPlates.1 m_Sh_keepPlates.2.1 m_Sh_keepPlates.2.2.1 m_Sh_keepPlates.2.2.2.1 ∈ gtbl ∧ (m_Sh_keepPlates.1.cls ≠ "java/lang/invoke/MethodHandle" ∧ m_Sh_keepPlates.1.cls ≠ "java/lang/invoke/VarHandle" ∧ (parseMethodDescriptor m_Sh_keepPlates.1.desc).map (fun d => d.parameters.length) = some 2) := ⟨gt_in 11 (by decide +kernel) rfl, gt_in 889 (by rfl) rfl, by decide +kernel⟩
set_option maxRecDepth 100000 in
theorem kV_Sh_keepPlates : Cond.instanceMethod m_Sh_keepPlates.1 ∈ gtbl ∧ Cond.selects m_Sh_keepPlates.1.cls m_Sh_keepPlates.1 m_Sh_keepPlates.1 ∈ gtbl ∧ ∃ (T : u_T) (N : Nat), xcl[9]? = some (m_Sh_keepPlates.1.cls, T, N) := ⟨gt_in 887 (by decide +kernel) rfl, gt_in 888 (by decide +kernel) rfl, xT_Sh, 10, rfl⟩
set_option maxRecDepth 100000 in
theorem kA_Sh_printingCost : Cond.initialized m_Sh_printingCost.1.cls ∈ gtbl ∧ Cond.code m_Sh_printingCost.1 m_Sh_printingCost.2.1 m_Sh_printingCost.2.2.1 m_Sh_printingCost.2.2.2.1 ∈ gtbl ∧ (m_Sh_printingCost.1.cls ≠ "java/lang/invoke/MethodHandle" ∧ m_Sh_printingCost.1.cls ≠ "java/lang/invoke/VarHandle" ∧ (parseMethodDescriptor m_Sh_printingCost.1.desc).map (fun d => d.parameters.length) = some 2) := ⟨gt_in 11 (by decide +kernel) rfl, gt_in 903 (by rfl) rfl, by decide +kernel⟩
set_option maxRecDepth 100000 in
theorem kV_Sh_printingCost : Cond.instanceMethod m_Sh_printingCost.1 ∈ gtbl ∧ Cond.selects m_Sh_printingCost.1.cls m_Sh_printingCost.1 m_Sh_printingCost.1 ∈ gtbl ∧ ∃ (T : u_T) (N : Nat), xcl[9]? = some (m_Sh_printingCost.1.cls, T, N) := ⟨gt_in 901 (by decide +kernel) rfl, gt_in 902 (by decide +kernel) rfl, xT_Sh, 10, rfl⟩
set_option maxRecDepth 100000 in
theorem kA_Sh_addPrinted : Cond.initialized m_Sh_addPrinted.1.cls ∈ gtbl ∧ Cond.code m_Sh_addPrinted.1 m_Sh_addPrinted.2.1 m_Sh_addPrinted.2.2.1 m_Sh_addPrinted.2.2.2.1 ∈ gtbl ∧ (m_Sh_addPrinted.1.cls ≠ "java/lang/invoke/MethodHandle" ∧ m_Sh_addPrinted.1.cls ≠ "java/lang/invoke/VarHandle" ∧ (parseMethodDescriptor m_Sh_addPrinted.1.desc).map (fun d => d.parameters.length) = some 2) := ⟨gt_in 11 (by decide +kernel) rfl, gt_in 899 (by rfl) rfl, by decide +kernel⟩
set_option maxRecDepth 100000 in
theorem kV_Sh_addPrinted : Cond.instanceMethod m_Sh_addPrinted.1 ∈ gtbl ∧ Cond.selects m_Sh_addPrinted.1.cls m_Sh_addPrinted.1 m_Sh_addPrinted.1 ∈ gtbl ∧ ∃ (T : u_T) (N : Nat), xcl[9]? = some (m_Sh_addPrinted.1.cls, T, N) := ⟨gt_in 897 (by decide +kernel) rfl, gt_in 898 (by decide +kernel) rfl, xT_Sh, 10, rfl⟩
set_option maxRecDepth 100000 in
theorem kA_Sh_takeSold : Cond.initialized m_Sh_takeSold.1.cls ∈ gtbl ∧ Cond.code m_Sh_takeSold.1 m_Sh_takeSold.2.1 m_Sh_takeSold.2.2.1 m_Sh_takeSold.2.2.2.1 ∈ gtbl ∧ (m_Sh_takeSold.1.cls ≠ "java/lang/invoke/MethodHandle" ∧ m_Sh_takeSold.1.cls ≠ "java/lang/invoke/VarHandle" ∧ (parseMethodDescriptor m_Sh_takeSold.1.desc).map (fun d => d.parameters.length) = some 2) := ⟨gt_in 11 (by decide +kernel) rfl, gt_in 911 (by rfl) rfl, by decide +kernel⟩
set_option maxRecDepth 100000 in
theorem kV_Sh_takeSold : Cond.instanceMethod m_Sh_takeSold.1 ∈ gtbl ∧ Cond.selects m_Sh_takeSold.1.cls m_Sh_takeSold.1 m_Sh_takeSold.1 ∈ gtbl ∧ ∃ (T : u_T) (N : Nat), xcl[9]? = some (m_Sh_takeSold.1.cls, T, N) := ⟨gt_in 909 (by decide +kernel) rfl, gt_in 910 (by decide +kernel) rfl, xT_Sh, 10, rfl⟩
set_option maxRecDepth 100000 in
theorem kA_Sh_takePulped : Cond.initialized m_Sh_takePulped.1.cls ∈ gtbl ∧ Cond.code m_Sh_takePulped.1 m_Sh_takePulped.2.1 m_Sh_takePulped.2.2.1 m_Sh_takePulped.2.2.2.1 ∈ gtbl ∧ (m_Sh_takePulped.1.cls ≠ "java/lang/invoke/MethodHandle" ∧ m_Sh_takePulped.1.cls ≠ "java/lang/invoke/VarHandle" ∧ (parseMethodDescriptor m_Sh_takePulped.1.desc).map (fun d => d.parameters.length) = some 1) := ⟨gt_in 11 (by decide +kernel) rfl, gt_in 923 (by rfl) rfl, by decide +kernel⟩
set_option maxRecDepth 100000 in
theorem kV_Sh_takePulped : Cond.instanceMethod m_Sh_takePulped.1 ∈ gtbl ∧ Cond.selects m_Sh_takePulped.1.cls m_Sh_takePulped.1 m_Sh_takePulped.1 ∈ gtbl ∧ ∃ (T : u_T) (N : Nat), xcl[9]? = some (m_Sh_takePulped.1.cls, T, N) := ⟨gt_in 921 (by decide +kernel) rfl, gt_in 922 (by decide +kernel) rfl, xT_Sh, 10, rfl⟩
set_option maxRecDepth 100000 in
theorem kA_Sh_countOf : Cond.initialized m_Sh_countOf.1.cls ∈ gtbl ∧ Cond.code m_Sh_countOf.1 m_Sh_countOf.2.1 m_Sh_countOf.2.2.1 m_Sh_countOf.2.2.2.1 ∈ gtbl ∧ (m_Sh_countOf.1.cls ≠ "java/lang/invoke/MethodHandle" ∧ m_Sh_countOf.1.cls ≠ "java/lang/invoke/VarHandle" ∧ (parseMethodDescriptor m_Sh_countOf.1.desc).map (fun d => d.parameters.length) = some 2) := ⟨gt_in 11 (by decide +kernel) rfl, gt_in 931 (by rfl) rfl, by decide +kernel⟩
set_option maxRecDepth 100000 in
theorem kV_Sh_countOf : Cond.instanceMethod m_Sh_countOf.1 ∈ gtbl ∧ Cond.selects m_Sh_countOf.1.cls m_Sh_countOf.1 m_Sh_countOf.1 ∈ gtbl ∧ ∃ (T : u_T) (N : Nat), xcl[9]? = some (m_Sh_countOf.1.cls, T, N) := ⟨gt_in 929 (by decide +kernel) rfl, gt_in 930 (by decide +kernel) rfl, xT_Sh, 10, rfl⟩
set_option maxRecDepth 100000 in
theorem kA_Sh_soldOfPart : Cond.initialized m_Sh_soldOfPart.1.cls ∈ gtbl ∧ Cond.code m_Sh_soldOfPart.1 m_Sh_soldOfPart.2.1 m_Sh_soldOfPart.2.2.1 m_Sh_soldOfPart.2.2.2.1 ∈ gtbl ∧ (m_Sh_soldOfPart.1.cls ≠ "java/lang/invoke/MethodHandle" ∧ m_Sh_soldOfPart.1.cls ≠ "java/lang/invoke/VarHandle" ∧ (parseMethodDescriptor m_Sh_soldOfPart.1.desc).map (fun d => d.parameters.length) = some 1) := ⟨gt_in 11 (by decide +kernel) rfl, gt_in 814 (by rfl) rfl, by decide +kernel⟩
set_option maxRecDepth 100000 in
theorem kV_Sh_soldOfPart : Cond.instanceMethod m_Sh_soldOfPart.1 ∈ gtbl ∧ Cond.selects m_Sh_soldOfPart.1.cls m_Sh_soldOfPart.1 m_Sh_soldOfPart.1 ∈ gtbl ∧ ∃ (T : u_T) (N : Nat), xcl[9]? = some (m_Sh_soldOfPart.1.cls, T, N) := ⟨gt_in 812 (by decide +kernel) rfl, gt_in 813 (by decide +kernel) rfl, xT_Sh, 10, rfl⟩
set_option maxRecDepth 100000 in
theorem kA_Sh_leastLeft : Cond.initialized m_Sh_leastLeft.1.cls ∈ gtbl ∧ Cond.code m_Sh_leastLeft.1 m_Sh_leastLeft.2.1 m_Sh_leastLeft.2.2.1 m_Sh_leastLeft.2.2.2.1 ∈ gtbl ∧ (m_Sh_leastLeft.1.cls ≠ "java/lang/invoke/MethodHandle" ∧ m_Sh_leastLeft.1.cls ≠ "java/lang/invoke/VarHandle" ∧ (parseMethodDescriptor m_Sh_leastLeft.1.desc).map (fun d => d.parameters.length) = some 3) := ⟨gt_in 11 (by decide +kernel) rfl, gt_in 944 (by rfl) rfl, by decide +kernel⟩
set_option maxRecDepth 100000 in
theorem kV_Sh_leastLeft : Cond.instanceMethod m_Sh_leastLeft.1 ∈ gtbl ∧ Cond.selects m_Sh_leastLeft.1.cls m_Sh_leastLeft.1 m_Sh_leastLeft.1 ∈ gtbl ∧ ∃ (T : u_T) (N : Nat), xcl[9]? = some (m_Sh_leastLeft.1.cls, T, N) := ⟨gt_in 942 (by decide +kernel) rfl, gt_in 943 (by decide +kernel) rfl, xT_Sh, 10, rfl⟩
set_option maxRecDepth 100000 in
theorem kA_Sh_bind : Cond.initialized m_Sh_bind.1.cls ∈ gtbl ∧ Cond.code m_Sh_bind.1 m_Sh_bind.2.1 m_Sh_bind.2.2.1 m_Sh_bind.2.2.2.1 ∈ gtbl ∧ (m_Sh_bind.1.cls ≠ "java/lang/invoke/MethodHandle" ∧ m_Sh_bind.1.cls ≠ "java/lang/invoke/VarHandle" ∧ (parseMethodDescriptor m_Sh_bind.1.desc).map (fun d => d.parameters.length) = some 4) := ⟨gt_in 11 (by decide +kernel) rfl, gt_in 950 (by rfl) rfl, by decide +kernel⟩
set_option maxRecDepth 100000 in
theorem kV_Sh_bind : Cond.instanceMethod m_Sh_bind.1 ∈ gtbl ∧ Cond.selects m_Sh_bind.1.cls m_Sh_bind.1 m_Sh_bind.1 ∈ gtbl ∧ ∃ (T : u_T) (N : Nat), xcl[9]? = some (m_Sh_bind.1.cls, T, N) := ⟨gt_in 948 (by decide +kernel) rfl, gt_in 949 (by decide +kernel) rfl, xT_Sh, 10, rfl⟩
set_option maxRecDepth 100000 in
theorem kA_Sh_left : Cond.initialized m_Sh_left.1.cls ∈ gtbl ∧ Cond.code m_Sh_left.1 m_Sh_left.2.1 m_Sh_left.2.2.1 m_Sh_left.2.2.2.1 ∈ gtbl ∧ (m_Sh_left.1.cls ≠ "java/lang/invoke/MethodHandle" ∧ m_Sh_left.1.cls ≠ "java/lang/invoke/VarHandle" ∧ (parseMethodDescriptor m_Sh_left.1.desc).map (fun d => d.parameters.length) = some 1) := ⟨gt_in 11 (by decide +kernel) rfl, gt_in 915 (by rfl) rfl, by decide +kernel⟩
set_option maxRecDepth 100000 in
theorem kV_Sh_left : Cond.instanceMethod m_Sh_left.1 ∈ gtbl ∧ Cond.selects m_Sh_left.1.cls m_Sh_left.1 m_Sh_left.1 ∈ gtbl ∧ ∃ (T : u_T) (N : Nat), xcl[9]? = some (m_Sh_left.1.cls, T, N) := ⟨gt_in 914 (by decide +kernel) rfl, gt_pv 23 (by decide +kernel) rfl, xT_Sh, 10, rfl⟩
set_option maxRecDepth 100000 in
theorem kA_Sh_isSlot : Cond.initialized m_Sh_isSlot.1.cls ∈ gtbl ∧ Cond.code m_Sh_isSlot.1 m_Sh_isSlot.2.1 m_Sh_isSlot.2.2.1 m_Sh_isSlot.2.2.2.1 ∈ gtbl ∧ (m_Sh_isSlot.1.cls ≠ "java/lang/invoke/MethodHandle" ∧ m_Sh_isSlot.1.cls ≠ "java/lang/invoke/VarHandle" ∧ (parseMethodDescriptor m_Sh_isSlot.1.desc).map (fun d => d.parameters.length) = some 1) := ⟨gt_in 11 (by decide +kernel) rfl, gt_in 820 (by rfl) rfl, by decide +kernel⟩
set_option maxRecDepth 100000 in
theorem kS_Sh_isSlot : Cond.static m_Sh_isSlot.1 ∈ gtbl := gt_in 819 (by decide +kernel) rfl
set_option maxRecDepth 100000 in
theorem kA_Tp_init : Cond.initialized m_Tp_init.1.cls ∈ gtbl ∧ Cond.code m_Tp_init.1 m_Tp_init.2.1 m_Tp_init.2.2.1 m_Tp_init.2.2.2.1 ∈ gtbl ∧ (m_Tp_init.1.cls ≠ "java/lang/invoke/MethodHandle" ∧ m_Tp_init.1.cls ≠ "java/lang/invoke/VarHandle" ∧ (parseMethodDescriptor m_Tp_init.1.desc).map (fun d => d.parameters.length) = some 0) := ⟨gt_in 2 (by decide +kernel) rfl, gt_in 32 (by rfl) rfl, by decide +kernel⟩
set_option maxRecDepth 100000 in
theorem kI_Tp_init : Cond.instanceMethod m_Tp_init.1 ∈ gtbl ∧ m_Tp_init.1.name = "<init>" ∧ m_Tp_init.2.2.2.1 = none := ⟨gt_in 31 (by decide +kernel) rfl, rfl, rfl⟩
set_option maxRecDepth 100000 in
theorem kA_Tp_hasRoom : Cond.initialized m_Tp_hasRoom.1.cls ∈ gtbl ∧ Cond.code m_Tp_hasRoom.1 m_Tp_hasRoom.2.1 m_Tp_hasRoom.2.2.1 m_Tp_hasRoom.2.2.2.1 ∈ gtbl ∧ (m_Tp_hasRoom.1.cls ≠ "java/lang/invoke/MethodHandle" ∧ m_Tp_hasRoom.1.cls ≠ "java/lang/invoke/VarHandle" ∧ (parseMethodDescriptor m_Tp_hasRoom.1.desc).map (fun d => d.parameters.length) = some 0) := ⟨gt_in 2 (by decide +kernel) rfl, gt_in 360 (by rfl) rfl, by decide +kernel⟩
set_option maxRecDepth 100000 in
theorem kV_Tp_hasRoom : Cond.instanceMethod m_Tp_hasRoom.1 ∈ gtbl ∧ Cond.selects m_Tp_hasRoom.1.cls m_Tp_hasRoom.1 m_Tp_hasRoom.1 ∈ gtbl ∧ ∃ (T : u_T) (N : Nat), xcl[10]? = some (m_Tp_hasRoom.1.cls, T, N) := ⟨gt_in 358 (by decide +kernel) rfl, gt_in 359 (by decide +kernel) rfl, xT_Tp, 5, rfl⟩
set_option maxRecDepth 100000 in
theorem kA_Tp_append : Cond.initialized m_Tp_append.1.cls ∈ gtbl ∧ Cond.code m_Tp_append.1 m_Tp_append.2.1 m_Tp_append.2.2.1 m_Tp_append.2.2.2.1 ∈ gtbl ∧ (m_Tp_append.1.cls ≠ "java/lang/invoke/MethodHandle" ∧ m_Tp_append.1.cls ≠ "java/lang/invoke/VarHandle" ∧ (parseMethodDescriptor m_Tp_append.1.desc).map (fun d => d.parameters.length) = some 1) := ⟨gt_in 2 (by decide +kernel) rfl, gt_in 364 (by rfl) rfl, by decide +kernel⟩
set_option maxRecDepth 100000 in
theorem kV_Tp_append : Cond.instanceMethod m_Tp_append.1 ∈ gtbl ∧ Cond.selects m_Tp_append.1.cls m_Tp_append.1 m_Tp_append.1 ∈ gtbl ∧ ∃ (T : u_T) (N : Nat), xcl[10]? = some (m_Tp_append.1.cls, T, N) := ⟨gt_in 362 (by decide +kernel) rfl, gt_in 363 (by decide +kernel) rfl, xT_Tp, 5, rfl⟩
set_option maxRecDepth 100000 in
theorem kA_Tp_shorten : Cond.initialized m_Tp_shorten.1.cls ∈ gtbl ∧ Cond.code m_Tp_shorten.1 m_Tp_shorten.2.1 m_Tp_shorten.2.2.1 m_Tp_shorten.2.2.2.1 ∈ gtbl ∧ (m_Tp_shorten.1.cls ≠ "java/lang/invoke/MethodHandle" ∧ m_Tp_shorten.1.cls ≠ "java/lang/invoke/VarHandle" ∧ (parseMethodDescriptor m_Tp_shorten.1.desc).map (fun d => d.parameters.length) = some 1) := ⟨gt_in 2 (by decide +kernel) rfl, gt_in 372 (by rfl) rfl, by decide +kernel⟩
set_option maxRecDepth 100000 in
theorem kV_Tp_shorten : Cond.instanceMethod m_Tp_shorten.1 ∈ gtbl ∧ Cond.selects m_Tp_shorten.1.cls m_Tp_shorten.1 m_Tp_shorten.1 ∈ gtbl ∧ ∃ (T : u_T) (N : Nat), xcl[10]? = some (m_Tp_shorten.1.cls, T, N) := ⟨gt_in 370 (by decide +kernel) rfl, gt_in 371 (by decide +kernel) rfl, xT_Tp, 5, rfl⟩
set_option maxRecDepth 100000 in
theorem kA_Tp_discard : Cond.initialized m_Tp_discard.1.cls ∈ gtbl ∧ Cond.code m_Tp_discard.1 m_Tp_discard.2.1 m_Tp_discard.2.2.1 m_Tp_discard.2.2.2.1 ∈ gtbl ∧ (m_Tp_discard.1.cls ≠ "java/lang/invoke/MethodHandle" ∧ m_Tp_discard.1.cls ≠ "java/lang/invoke/VarHandle" ∧ (parseMethodDescriptor m_Tp_discard.1.desc).map (fun d => d.parameters.length) = some 0) := ⟨gt_in 2 (by decide +kernel) rfl, gt_in 675 (by rfl) rfl, by decide +kernel⟩
set_option maxRecDepth 100000 in
theorem kV_Tp_discard : Cond.instanceMethod m_Tp_discard.1 ∈ gtbl ∧ Cond.selects m_Tp_discard.1.cls m_Tp_discard.1 m_Tp_discard.1 ∈ gtbl ∧ ∃ (T : u_T) (N : Nat), xcl[10]? = some (m_Tp_discard.1.cls, T, N) := ⟨gt_in 673 (by decide +kernel) rfl, gt_in 674 (by decide +kernel) rfl, xT_Tp, 5, rfl⟩
set_option maxRecDepth 100000 in
theorem kA_Tp_open : Cond.initialized m_Tp_open.1.cls ∈ gtbl ∧ Cond.code m_Tp_open.1 m_Tp_open.2.1 m_Tp_open.2.2.1 m_Tp_open.2.2.2.1 ∈ gtbl ∧ (m_Tp_open.1.cls ≠ "java/lang/invoke/MethodHandle" ∧ m_Tp_open.1.cls ≠ "java/lang/invoke/VarHandle" ∧ (parseMethodDescriptor m_Tp_open.1.desc).map (fun d => d.parameters.length) = some 0) := ⟨gt_in 2 (by decide +kernel) rfl, gt_in 551 (by rfl) rfl, by decide +kernel⟩
set_option maxRecDepth 100000 in
theorem kV_Tp_open : Cond.instanceMethod m_Tp_open.1 ∈ gtbl ∧ Cond.selects m_Tp_open.1.cls m_Tp_open.1 m_Tp_open.1 ∈ gtbl ∧ ∃ (T : u_T) (N : Nat), xcl[10]? = some (m_Tp_open.1.cls, T, N) := ⟨gt_in 549 (by decide +kernel) rfl, gt_in 550 (by decide +kernel) rfl, xT_Tp, 5, rfl⟩
set_option maxRecDepth 100000 in
theorem kA_Tp_failed : Cond.initialized m_Tp_failed.1.cls ∈ gtbl ∧ Cond.code m_Tp_failed.1 m_Tp_failed.2.1 m_Tp_failed.2.2.1 m_Tp_failed.2.2.2.1 ∈ gtbl ∧ (m_Tp_failed.1.cls ≠ "java/lang/invoke/MethodHandle" ∧ m_Tp_failed.1.cls ≠ "java/lang/invoke/VarHandle" ∧ (parseMethodDescriptor m_Tp_failed.1.desc).map (fun d => d.parameters.length) = some 0) := ⟨gt_in 2 (by decide +kernel) rfl, gt_in 559 (by rfl) rfl, by decide +kernel⟩
set_option maxRecDepth 100000 in
theorem kV_Tp_failed : Cond.instanceMethod m_Tp_failed.1 ∈ gtbl ∧ Cond.selects m_Tp_failed.1.cls m_Tp_failed.1 m_Tp_failed.1 ∈ gtbl ∧ ∃ (T : u_T) (N : Nat), xcl[10]? = some (m_Tp_failed.1.cls, T, N) := ⟨gt_in 557 (by decide +kernel) rfl, gt_in 558 (by decide +kernel) rfl, xT_Tp, 5, rfl⟩
set_option maxRecDepth 100000 in
theorem kA_Tp_readName : Cond.initialized m_Tp_readName.1.cls ∈ gtbl ∧ Cond.code m_Tp_readName.1 m_Tp_readName.2.1 m_Tp_readName.2.2.1 m_Tp_readName.2.2.2.1 ∈ gtbl ∧ (m_Tp_readName.1.cls ≠ "java/lang/invoke/MethodHandle" ∧ m_Tp_readName.1.cls ≠ "java/lang/invoke/VarHandle" ∧ (parseMethodDescriptor m_Tp_readName.1.desc).map (fun d => d.parameters.length) = some 0) := ⟨gt_in 2 (by decide +kernel) rfl, gt_in 555 (by rfl) rfl, by decide +kernel⟩
set_option maxRecDepth 100000 in
theorem kV_Tp_readName : Cond.instanceMethod m_Tp_readName.1 ∈ gtbl ∧ Cond.selects m_Tp_readName.1.cls m_Tp_readName.1 m_Tp_readName.1 ∈ gtbl ∧ ∃ (T : u_T) (N : Nat), xcl[10]? = some (m_Tp_readName.1.cls, T, N) := ⟨gt_in 553 (by decide +kernel) rfl, gt_in 554 (by decide +kernel) rfl, xT_Tp, 5, rfl⟩
set_option maxRecDepth 100000 in
theorem kA_Tp_readNumber : Cond.initialized m_Tp_readNumber.1.cls ∈ gtbl ∧ Cond.code m_Tp_readNumber.1 m_Tp_readNumber.2.1 m_Tp_readNumber.2.2.1 m_Tp_readNumber.2.2.2.1 ∈ gtbl ∧ (m_Tp_readNumber.1.cls ≠ "java/lang/invoke/MethodHandle" ∧ m_Tp_readNumber.1.cls ≠ "java/lang/invoke/VarHandle" ∧ (parseMethodDescriptor m_Tp_readNumber.1.desc).map (fun d => d.parameters.length) = some 2) := ⟨gt_in 2 (by decide +kernel) rfl, gt_in 658 (by rfl) rfl, by decide +kernel⟩
set_option maxRecDepth 100000 in
theorem kV_Tp_readNumber : Cond.instanceMethod m_Tp_readNumber.1 ∈ gtbl ∧ Cond.selects m_Tp_readNumber.1.cls m_Tp_readNumber.1 m_Tp_readNumber.1 ∈ gtbl ∧ ∃ (T : u_T) (N : Nat), xcl[10]? = some (m_Tp_readNumber.1.cls, T, N) := ⟨gt_in 656 (by decide +kernel) rfl, gt_in 657 (by decide +kernel) rfl, xT_Tp, 5, rfl⟩
set_option maxRecDepth 100000 in
theorem kA_Tp_passWord : Cond.initialized m_Tp_passWord.1.cls ∈ gtbl ∧ Cond.code m_Tp_passWord.1 m_Tp_passWord.2.1 m_Tp_passWord.2.2.1 m_Tp_passWord.2.2.2.1 ∈ gtbl ∧ (m_Tp_passWord.1.cls ≠ "java/lang/invoke/MethodHandle" ∧ m_Tp_passWord.1.cls ≠ "java/lang/invoke/VarHandle" ∧ (parseMethodDescriptor m_Tp_passWord.1.desc).map (fun d => d.parameters.length) = some 1) := ⟨gt_in 2 (by decide +kernel) rfl, gt_in 641 (by rfl) rfl, by decide +kernel⟩
set_option maxRecDepth 100000 in
theorem kV_Tp_passWord : Cond.instanceMethod m_Tp_passWord.1 ∈ gtbl ∧ Cond.selects m_Tp_passWord.1.cls m_Tp_passWord.1 m_Tp_passWord.1 ∈ gtbl ∧ ∃ (T : u_T) (N : Nat), xcl[10]? = some (m_Tp_passWord.1.cls, T, N) := ⟨gt_in 639 (by decide +kernel) rfl, gt_in 640 (by decide +kernel) rfl, xT_Tp, 5, rfl⟩
set_option maxRecDepth 100000 in
theorem kA_Tp_needWord : Cond.initialized m_Tp_needWord.1.cls ∈ gtbl ∧ Cond.code m_Tp_needWord.1 m_Tp_needWord.2.1 m_Tp_needWord.2.2.1 m_Tp_needWord.2.2.2.1 ∈ gtbl ∧ (m_Tp_needWord.1.cls ≠ "java/lang/invoke/MethodHandle" ∧ m_Tp_needWord.1.cls ≠ "java/lang/invoke/VarHandle" ∧ (parseMethodDescriptor m_Tp_needWord.1.desc).map (fun d => d.parameters.length) = some 1) := ⟨gt_in 2 (by decide +kernel) rfl, gt_in 647 (by rfl) rfl, by decide +kernel⟩
set_option maxRecDepth 100000 in
theorem kV_Tp_needWord : Cond.instanceMethod m_Tp_needWord.1 ∈ gtbl ∧ Cond.selects m_Tp_needWord.1.cls m_Tp_needWord.1 m_Tp_needWord.1 ∈ gtbl ∧ ∃ (T : u_T) (N : Nat), xcl[10]? = some (m_Tp_needWord.1.cls, T, N) := ⟨gt_in 645 (by decide +kernel) rfl, gt_in 646 (by decide +kernel) rfl, xT_Tp, 5, rfl⟩
set_option maxRecDepth 100000 in
theorem kA_Tp_needSign : Cond.initialized m_Tp_needSign.1.cls ∈ gtbl ∧ Cond.code m_Tp_needSign.1 m_Tp_needSign.2.1 m_Tp_needSign.2.2.1 m_Tp_needSign.2.2.2.1 ∈ gtbl ∧ (m_Tp_needSign.1.cls ≠ "java/lang/invoke/MethodHandle" ∧ m_Tp_needSign.1.cls ≠ "java/lang/invoke/VarHandle" ∧ (parseMethodDescriptor m_Tp_needSign.1.desc).map (fun d => d.parameters.length) = some 1) := ⟨gt_in 2 (by decide +kernel) rfl, gt_in 666 (by rfl) rfl, by decide +kernel⟩
set_option maxRecDepth 100000 in
theorem kV_Tp_needSign : Cond.instanceMethod m_Tp_needSign.1 ∈ gtbl ∧ Cond.selects m_Tp_needSign.1.cls m_Tp_needSign.1 m_Tp_needSign.1 ∈ gtbl ∧ ∃ (T : u_T) (N : Nat), xcl[10]? = some (m_Tp_needSign.1.cls, T, N) := ⟨gt_in 664 (by decide +kernel) rfl, gt_in 665 (by decide +kernel) rfl, xT_Tp, 5, rfl⟩
set_option maxRecDepth 100000 in
theorem kA_Tp_needEnd : Cond.initialized m_Tp_needEnd.1.cls ∈ gtbl ∧ Cond.code m_Tp_needEnd.1 m_Tp_needEnd.2.1 m_Tp_needEnd.2.2.1 m_Tp_needEnd.2.2.2.1 ∈ gtbl ∧ (m_Tp_needEnd.1.cls ≠ "java/lang/invoke/MethodHandle" ∧ m_Tp_needEnd.1.cls ≠ "java/lang/invoke/VarHandle" ∧ (parseMethodDescriptor m_Tp_needEnd.1.desc).map (fun d => d.parameters.length) = some 0) := ⟨gt_in 2 (by decide +kernel) rfl, gt_in 670 (by rfl) rfl, by decide +kernel⟩
set_option maxRecDepth 100000 in
theorem kV_Tp_needEnd : Cond.instanceMethod m_Tp_needEnd.1 ∈ gtbl ∧ Cond.selects m_Tp_needEnd.1.cls m_Tp_needEnd.1 m_Tp_needEnd.1 ∈ gtbl ∧ ∃ (T : u_T) (N : Nat), xcl[10]? = some (m_Tp_needEnd.1.cls, T, N) := ⟨gt_in 668 (by decide +kernel) rfl, gt_in 669 (by decide +kernel) rfl, xT_Tp, 5, rfl⟩
set_option maxRecDepth 100000 in
theorem kA_Tp_failNext : Cond.initialized m_Tp_failNext.1.cls ∈ gtbl ∧ Cond.code m_Tp_failNext.1 m_Tp_failNext.2.1 m_Tp_failNext.2.2.1 m_Tp_failNext.2.2.2.1 ∈ gtbl ∧ (m_Tp_failNext.1.cls ≠ "java/lang/invoke/MethodHandle" ∧ m_Tp_failNext.1.cls ≠ "java/lang/invoke/VarHandle" ∧ (parseMethodDescriptor m_Tp_failNext.1.desc).map (fun d => d.parameters.length) = some 0) := ⟨gt_in 2 (by decide +kernel) rfl, gt_in 652 (by rfl) rfl, by decide +kernel⟩
set_option maxRecDepth 100000 in
theorem kV_Tp_failNext : Cond.instanceMethod m_Tp_failNext.1 ∈ gtbl ∧ Cond.selects m_Tp_failNext.1.cls m_Tp_failNext.1 m_Tp_failNext.1 ∈ gtbl ∧ ∃ (T : u_T) (N : Nat), xcl[10]? = some (m_Tp_failNext.1.cls, T, N) := ⟨gt_in 650 (by decide +kernel) rfl, gt_in 651 (by decide +kernel) rfl, xT_Tp, 5, rfl⟩
set_option maxRecDepth 100000 in
theorem kA_Tp_fail : Cond.initialized m_Tp_fail.1.cls ∈ gtbl ∧ Cond.code m_Tp_fail.1 m_Tp_fail.2.1 m_Tp_fail.2.2.1 m_Tp_fail.2.2.2.1 ∈ gtbl ∧ (m_Tp_fail.1.cls ≠ "java/lang/invoke/MethodHandle" ∧ m_Tp_fail.1.cls ≠ "java/lang/invoke/VarHandle" ∧ (parseMethodDescriptor m_Tp_fail.1.desc).map (fun d => d.parameters.length) = some 2) := ⟨gt_in 2 (by decide +kernel) rfl, gt_in 635 (by rfl) rfl, by decide +kernel⟩
set_option maxRecDepth 100000 in
theorem kV_Tp_fail : Cond.instanceMethod m_Tp_fail.1 ∈ gtbl ∧ Cond.selects m_Tp_fail.1.cls m_Tp_fail.1 m_Tp_fail.1 ∈ gtbl ∧ ∃ (T : u_T) (N : Nat), xcl[10]? = some (m_Tp_fail.1.cls, T, N) := ⟨gt_in 634 (by decide +kernel) rfl, gt_pv 16 (by decide +kernel) rfl, xT_Tp, 5, rfl⟩
set_option maxRecDepth 100000 in
theorem kA_Tp_lettersAhead : Cond.initialized m_Tp_lettersAhead.1.cls ∈ gtbl ∧ Cond.code m_Tp_lettersAhead.1 m_Tp_lettersAhead.2.1 m_Tp_lettersAhead.2.2.1 m_Tp_lettersAhead.2.2.2.1 ∈ gtbl ∧ (m_Tp_lettersAhead.1.cls ≠ "java/lang/invoke/MethodHandle" ∧ m_Tp_lettersAhead.1.cls ≠ "java/lang/invoke/VarHandle" ∧ (parseMethodDescriptor m_Tp_lettersAhead.1.desc).map (fun d => d.parameters.length) = some 0) := ⟨gt_in 2 (by decide +kernel) rfl, gt_in 563 (by rfl) rfl, by decide +kernel⟩
set_option maxRecDepth 100000 in
theorem kV_Tp_lettersAhead : Cond.instanceMethod m_Tp_lettersAhead.1 ∈ gtbl ∧ Cond.selects m_Tp_lettersAhead.1.cls m_Tp_lettersAhead.1 m_Tp_lettersAhead.1 ∈ gtbl ∧ ∃ (T : u_T) (N : Nat), xcl[10]? = some (m_Tp_lettersAhead.1.cls, T, N) := ⟨gt_in 562 (by decide +kernel) rfl, gt_pv 11 (by decide +kernel) rfl, xT_Tp, 5, rfl⟩
set_option maxRecDepth 100000 in
theorem kA_Tp_digitsAhead : Cond.initialized m_Tp_digitsAhead.1.cls ∈ gtbl ∧ Cond.code m_Tp_digitsAhead.1 m_Tp_digitsAhead.2.1 m_Tp_digitsAhead.2.2.1 m_Tp_digitsAhead.2.2.2.1 ∈ gtbl ∧ (m_Tp_digitsAhead.1.cls ≠ "java/lang/invoke/MethodHandle" ∧ m_Tp_digitsAhead.1.cls ≠ "java/lang/invoke/VarHandle" ∧ (parseMethodDescriptor m_Tp_digitsAhead.1.desc).map (fun d => d.parameters.length) = some 0) := ⟨gt_in 2 (by decide +kernel) rfl, gt_in 662 (by rfl) rfl, by decide +kernel⟩
set_option maxRecDepth 100000 in
theorem kV_Tp_digitsAhead : Cond.instanceMethod m_Tp_digitsAhead.1 ∈ gtbl ∧ Cond.selects m_Tp_digitsAhead.1.cls m_Tp_digitsAhead.1 m_Tp_digitsAhead.1 ∈ gtbl ∧ ∃ (T : u_T) (N : Nat), xcl[10]? = some (m_Tp_digitsAhead.1.cls, T, N) := ⟨gt_in 661 (by decide +kernel) rfl, gt_pv 17 (by decide +kernel) rfl, xT_Tp, 5, rfl⟩
set_option maxRecDepth 100000 in
theorem kA_Tp_skipBlanks : Cond.initialized m_Tp_skipBlanks.1.cls ∈ gtbl ∧ Cond.code m_Tp_skipBlanks.1 m_Tp_skipBlanks.2.1 m_Tp_skipBlanks.2.2.1 m_Tp_skipBlanks.2.2.2.1 ∈ gtbl ∧ (m_Tp_skipBlanks.1.cls ≠ "java/lang/invoke/MethodHandle" ∧ m_Tp_skipBlanks.1.cls ≠ "java/lang/invoke/VarHandle" ∧ (parseMethodDescriptor m_Tp_skipBlanks.1.desc).map (fun d => d.parameters.length) = some 0) := ⟨gt_in 2 (by decide +kernel) rfl, gt_in 567 (by rfl) rfl, by decide +kernel⟩
set_option maxRecDepth 100000 in
theorem kV_Tp_skipBlanks : Cond.instanceMethod m_Tp_skipBlanks.1 ∈ gtbl ∧ Cond.selects m_Tp_skipBlanks.1.cls m_Tp_skipBlanks.1 m_Tp_skipBlanks.1 ∈ gtbl ∧ ∃ (T : u_T) (N : Nat), xcl[10]? = some (m_Tp_skipBlanks.1.cls, T, N) := ⟨gt_in 566 (by decide +kernel) rfl, gt_pv 12 (by decide +kernel) rfl, xT_Tp, 5, rfl⟩
set_option maxRecDepth 100000 in
theorem kA_Tp_byteAt : Cond.initialized m_Tp_byteAt.1.cls ∈ gtbl ∧ Cond.code m_Tp_byteAt.1 m_Tp_byteAt.2.1 m_Tp_byteAt.2.2.1 m_Tp_byteAt.2.2.2.1 ∈ gtbl ∧ (m_Tp_byteAt.1.cls ≠ "java/lang/invoke/MethodHandle" ∧ m_Tp_byteAt.1.cls ≠ "java/lang/invoke/VarHandle" ∧ (parseMethodDescriptor m_Tp_byteAt.1.desc).map (fun d => d.parameters.length) = some 1) := ⟨gt_in 2 (by decide +kernel) rfl, gt_in 571 (by rfl) rfl, by decide +kernel⟩
set_option maxRecDepth 100000 in
theorem kV_Tp_byteAt : Cond.instanceMethod m_Tp_byteAt.1 ∈ gtbl ∧ Cond.selects m_Tp_byteAt.1.cls m_Tp_byteAt.1 m_Tp_byteAt.1 ∈ gtbl ∧ ∃ (T : u_T) (N : Nat), xcl[10]? = some (m_Tp_byteAt.1.cls, T, N) := ⟨gt_in 570 (by decide +kernel) rfl, gt_pv 13 (by decide +kernel) rfl, xT_Tp, 5, rfl⟩
set_option maxRecDepth 100000 in
theorem kA_Tp_isFactWord : Cond.initialized m_Tp_isFactWord.1.cls ∈ gtbl ∧ Cond.code m_Tp_isFactWord.1 m_Tp_isFactWord.2.1 m_Tp_isFactWord.2.2.1 m_Tp_isFactWord.2.2.2.1 ∈ gtbl ∧ (m_Tp_isFactWord.1.cls ≠ "java/lang/invoke/MethodHandle" ∧ m_Tp_isFactWord.1.cls ≠ "java/lang/invoke/VarHandle" ∧ (parseMethodDescriptor m_Tp_isFactWord.1.desc).map (fun d => d.parameters.length) = some 1) := ⟨gt_in 2 (by decide +kernel) rfl, gt_in 575 (by rfl) rfl, by decide +kernel⟩
set_option maxRecDepth 100000 in
theorem kV_Tp_isFactWord : Cond.instanceMethod m_Tp_isFactWord.1 ∈ gtbl ∧ Cond.selects m_Tp_isFactWord.1.cls m_Tp_isFactWord.1 m_Tp_isFactWord.1 ∈ gtbl ∧ ∃ (T : u_T) (N : Nat), xcl[10]? = some (m_Tp_isFactWord.1.cls, T, N) := ⟨gt_in 574 (by decide +kernel) rfl, gt_pv 14 (by decide +kernel) rfl, xT_Tp, 5, rfl⟩
set_option maxRecDepth 100000 in
theorem kA_Tp_isWord : Cond.initialized m_Tp_isWord.1.cls ∈ gtbl ∧ Cond.code m_Tp_isWord.1 m_Tp_isWord.2.1 m_Tp_isWord.2.2.1 m_Tp_isWord.2.2.2.1 ∈ gtbl ∧ (m_Tp_isWord.1.cls ≠ "java/lang/invoke/MethodHandle" ∧ m_Tp_isWord.1.cls ≠ "java/lang/invoke/VarHandle" ∧ (parseMethodDescriptor m_Tp_isWord.1.desc).map (fun d => d.parameters.length) = some 2) := ⟨gt_in 2 (by decide +kernel) rfl, gt_in 580 (by rfl) rfl, by decide +kernel⟩
set_option maxRecDepth 100000 in
theorem kV_Tp_isWord : Cond.instanceMethod m_Tp_isWord.1 ∈ gtbl ∧ Cond.selects m_Tp_isWord.1.cls m_Tp_isWord.1 m_Tp_isWord.1 ∈ gtbl ∧ ∃ (T : u_T) (N : Nat), xcl[10]? = some (m_Tp_isWord.1.cls, T, N) := ⟨gt_in 579 (by decide +kernel) rfl, gt_pv 15 (by decide +kernel) rfl, xT_Tp, 5, rfl⟩
set_option maxRecDepth 100000 in
theorem kA_TH_init : Cond.initialized m_TH_init.1.cls ∈ gtbl ∧ Cond.code m_TH_init.1 m_TH_init.2.1 m_TH_init.2.2.1 m_TH_init.2.2.2.1 ∈ gtbl ∧ (m_TH_init.1.cls ≠ "java/lang/invoke/MethodHandle" ∧ m_TH_init.1.cls ≠ "java/lang/invoke/VarHandle" ∧ (parseMethodDescriptor m_TH_init.1.desc).map (fun d => d.parameters.length) = some 0) := ⟨gt_in 1 (by decide +kernel) rfl, gt_in 24 (by rfl) rfl, by decide +kernel⟩
set_option maxRecDepth 100000 in
theorem kI_TH_init : Cond.instanceMethod m_TH_init.1 ∈ gtbl ∧ m_TH_init.1.name = "<init>" ∧ m_TH_init.2.2.2.1 = none := ⟨gt_in 23 (by decide +kernel) rfl, rfl, rfl⟩
set_option maxRecDepth 100000 in
theorem kA_TH_feed : Cond.initialized m_TH_feed.1.cls ∈ gtbl ∧ Cond.code m_TH_feed.1 m_TH_feed.2.1 m_TH_feed.2.2.1 m_TH_feed.2.2.2.1 ∈ gtbl ∧ (m_TH_feed.1.cls ≠ "java/lang/invoke/MethodHandle" ∧ m_TH_feed.1.cls ≠ "java/lang/invoke/VarHandle" ∧ (parseMethodDescriptor m_TH_feed.1.desc).map (fun d => d.parameters.length) = some 5) := ⟨gt_in 1 (by decide +kernel) rfl, gt_in 356 (by rfl) rfl, by decide +kernel⟩
set_option maxRecDepth 100000 in
theorem kV_TH_feed : Cond.instanceMethod m_TH_feed.1 ∈ gtbl ∧ Cond.selects m_TH_feed.1.cls m_TH_feed.1 m_TH_feed.1 ∈ gtbl ∧ ∃ (T : u_T) (N : Nat), xcl[11]? = some (m_TH_feed.1.cls, T, N) := ⟨gt_in 354 (by decide +kernel) rfl, gt_in 355 (by decide +kernel) rfl, xT_TH, 8, rfl⟩
set_option maxRecDepth 100000 in
theorem kA_TH_end : Cond.initialized m_TH_end.1.cls ∈ gtbl ∧ Cond.code m_TH_end.1 m_TH_end.2.1 m_TH_end.2.2.1 m_TH_end.2.2.2.1 ∈ gtbl ∧ (m_TH_end.1.cls ≠ "java/lang/invoke/MethodHandle" ∧ m_TH_end.1.cls ≠ "java/lang/invoke/VarHandle" ∧ (parseMethodDescriptor m_TH_end.1.desc).map (fun d => d.parameters.length) = some 1) := ⟨gt_in 1 (by decide +kernel) rfl, gt_in 368 (by rfl) rfl, by decide +kernel⟩
set_option maxRecDepth 100000 in
theorem kV_TH_end : Cond.instanceMethod m_TH_end.1 ∈ gtbl ∧ Cond.selects m_TH_end.1.cls m_TH_end.1 m_TH_end.1 ∈ gtbl ∧ ∃ (T : u_T) (N : Nat), xcl[11]? = some (m_TH_end.1.cls, T, N) := ⟨gt_in 366 (by decide +kernel) rfl, gt_in 367 (by decide +kernel) rfl, xT_TH, 8, rfl⟩
set_option maxRecDepth 100000 in
theorem kA_TH_paragraph : Cond.initialized m_TH_paragraph.1.cls ∈ gtbl ∧ Cond.code m_TH_paragraph.1 m_TH_paragraph.2.1 m_TH_paragraph.2.2.1 m_TH_paragraph.2.2.2.1 ∈ gtbl ∧ (m_TH_paragraph.1.cls ≠ "java/lang/invoke/MethodHandle" ∧ m_TH_paragraph.1.cls ≠ "java/lang/invoke/VarHandle" ∧ (parseMethodDescriptor m_TH_paragraph.1.desc).map (fun d => d.parameters.length) = some 1) := ⟨gt_in 1 (by decide +kernel) rfl, gt_in 376 (by rfl) rfl, by decide +kernel⟩
set_option maxRecDepth 100000 in
theorem kV_TH_paragraph : Cond.instanceMethod m_TH_paragraph.1 ∈ gtbl ∧ Cond.selects m_TH_paragraph.1.cls m_TH_paragraph.1 m_TH_paragraph.1 ∈ gtbl ∧ ∃ (T : u_T) (N : Nat), xcl[11]? = some (m_TH_paragraph.1.cls, T, N) := ⟨gt_in 374 (by decide +kernel) rfl, gt_in 375 (by decide +kernel) rfl, xT_TH, 8, rfl⟩
set_option maxRecDepth 100000 in
theorem kA_TH_word : Cond.initialized m_TH_word.1.cls ∈ gtbl ∧ Cond.code m_TH_word.1 m_TH_word.2.1 m_TH_word.2.2.1 m_TH_word.2.2.2.1 ∈ gtbl ∧ (m_TH_word.1.cls ≠ "java/lang/invoke/MethodHandle" ∧ m_TH_word.1.cls ≠ "java/lang/invoke/VarHandle" ∧ (parseMethodDescriptor m_TH_word.1.desc).map (fun d => d.parameters.length) = some 1) := ⟨gt_in 1 (by decide +kernel) rfl, gt_in 385 (by rfl) rfl, by decide +kernel⟩
set_option maxRecDepth 100000 in
theorem kV_TH_word : Cond.instanceMethod m_TH_word.1 ∈ gtbl ∧ Cond.selects m_TH_word.1.cls m_TH_word.1 m_TH_word.1 ∈ gtbl ∧ ∃ (T : u_T) (N : Nat), xcl[11]? = some (m_TH_word.1.cls, T, N) := ⟨gt_in 383 (by decide +kernel) rfl, gt_in 384 (by decide +kernel) rfl, xT_TH, 8, rfl⟩
set_option maxRecDepth 100000 in
theorem kA_TH_clear : Cond.initialized m_TH_clear.1.cls ∈ gtbl ∧ Cond.code m_TH_clear.1 m_TH_clear.2.1 m_TH_clear.2.2.1 m_TH_clear.2.2.2.1 ∈ gtbl ∧ (m_TH_clear.1.cls ≠ "java/lang/invoke/MethodHandle" ∧ m_TH_clear.1.cls ≠ "java/lang/invoke/VarHandle" ∧ (parseMethodDescriptor m_TH_clear.1.desc).map (fun d => d.parameters.length) = some 0) := ⟨gt_in 1 (by decide +kernel) rfl, gt_in 393 (by rfl) rfl, by decide +kernel⟩
set_option maxRecDepth 100000 in
theorem kV_TH_clear : Cond.instanceMethod m_TH_clear.1 ∈ gtbl ∧ Cond.selects m_TH_clear.1.cls m_TH_clear.1 m_TH_clear.1 ∈ gtbl ∧ ∃ (T : u_T) (N : Nat), xcl[11]? = some (m_TH_clear.1.cls, T, N) := ⟨gt_in 391 (by decide +kernel) rfl, gt_in 392 (by decide +kernel) rfl, xT_TH, 8, rfl⟩
set_option maxRecDepth 100000 in
theorem kA_TH_page : Cond.initialized m_TH_page.1.cls ∈ gtbl ∧ Cond.code m_TH_page.1 m_TH_page.2.1 m_TH_page.2.2.1 m_TH_page.2.2.2.1 ∈ gtbl ∧ (m_TH_page.1.cls ≠ "java/lang/invoke/MethodHandle" ∧ m_TH_page.1.cls ≠ "java/lang/invoke/VarHandle" ∧ (parseMethodDescriptor m_TH_page.1.desc).map (fun d => d.parameters.length) = some 4) := ⟨gt_in 1 (by decide +kernel) rfl, gt_in 401 (by rfl) rfl, by decide +kernel⟩
set_option maxRecDepth 100000 in
theorem kV_TH_page : Cond.instanceMethod m_TH_page.1 ∈ gtbl ∧ Cond.selects m_TH_page.1.cls m_TH_page.1 m_TH_page.1 ∈ gtbl ∧ ∃ (T : u_T) (N : Nat), xcl[11]? = some (m_TH_page.1.cls, T, N) := ⟨gt_in 399 (by decide +kernel) rfl, gt_in 400 (by decide +kernel) rfl, xT_TH, 8, rfl⟩
set_option maxRecDepth 100000 in
theorem kA_TH_lines : Cond.initialized m_TH_lines.1.cls ∈ gtbl ∧ Cond.code m_TH_lines.1 m_TH_lines.2.1 m_TH_lines.2.2.1 m_TH_lines.2.2.2.1 ∈ gtbl ∧ (m_TH_lines.1.cls ≠ "java/lang/invoke/MethodHandle" ∧ m_TH_lines.1.cls ≠ "java/lang/invoke/VarHandle" ∧ (parseMethodDescriptor m_TH_lines.1.desc).map (fun d => d.parameters.length) = some 2) := ⟨gt_in 1 (by decide +kernel) rfl, gt_in 413 (by rfl) rfl, by decide +kernel⟩
set_option maxRecDepth 100000 in
theorem kV_TH_lines : Cond.instanceMethod m_TH_lines.1 ∈ gtbl ∧ Cond.selects m_TH_lines.1.cls m_TH_lines.1 m_TH_lines.1 ∈ gtbl ∧ ∃ (T : u_T) (N : Nat), xcl[11]? = some (m_TH_lines.1.cls, T, N) := ⟨gt_in 411 (by decide +kernel) rfl, gt_in 412 (by decide +kernel) rfl, xT_TH, 8, rfl⟩
set_option maxRecDepth 100000 in
theorem kA_TH_fill : Cond.initialized m_TH_fill.1.cls ∈ gtbl ∧ Cond.code m_TH_fill.1 m_TH_fill.2.1 m_TH_fill.2.2.1 m_TH_fill.2.2.2.1 ∈ gtbl ∧ (m_TH_fill.1.cls ≠ "java/lang/invoke/MethodHandle" ∧ m_TH_fill.1.cls ≠ "java/lang/invoke/VarHandle" ∧ (parseMethodDescriptor m_TH_fill.1.desc).map (fun d => d.parameters.length) = some 1) := ⟨gt_in 1 (by decide +kernel) rfl, gt_in 454 (by rfl) rfl, by decide +kernel⟩
set_option maxRecDepth 100000 in
theorem kV_TH_fill : Cond.instanceMethod m_TH_fill.1 ∈ gtbl ∧ Cond.selects m_TH_fill.1.cls m_TH_fill.1 m_TH_fill.1 ∈ gtbl ∧ ∃ (T : u_T) (N : Nat), xcl[11]? = some (m_TH_fill.1.cls, T, N) := ⟨gt_in 452 (by decide +kernel) rfl, gt_in 453 (by decide +kernel) rfl, xT_TH, 8, rfl⟩
set_option maxRecDepth 100000 in
theorem kA_TH_set : Cond.initialized m_TH_set.1.cls ∈ gtbl ∧ Cond.code m_TH_set.1 m_TH_set.2.1 m_TH_set.2.2.1 m_TH_set.2.2.2.1 ∈ gtbl ∧ (m_TH_set.1.cls ≠ "java/lang/invoke/MethodHandle" ∧ m_TH_set.1.cls ≠ "java/lang/invoke/VarHandle" ∧ (parseMethodDescriptor m_TH_set.1.desc).map (fun d => d.parameters.length) = some 2) := ⟨gt_in 1 (by decide +kernel) rfl, gt_in 523 (by rfl) rfl, by decide +kernel⟩
set_option maxRecDepth 100000 in
theorem kV_TH_set : Cond.instanceMethod m_TH_set.1 ∈ gtbl ∧ Cond.selects m_TH_set.1.cls m_TH_set.1 m_TH_set.1 ∈ gtbl ∧ ∃ (T : u_T) (N : Nat), xcl[11]? = some (m_TH_set.1.cls, T, N) := ⟨gt_in 521 (by decide +kernel) rfl, gt_in 522 (by decide +kernel) rfl, xT_TH, 8, rfl⟩
set_option maxRecDepth 100000 in
theorem kA_TH_line : Cond.initialized m_TH_line.1.cls ∈ gtbl ∧ Cond.code m_TH_line.1 m_TH_line.2.1 m_TH_line.2.2.1 m_TH_line.2.2.2.1 ∈ gtbl ∧ (m_TH_line.1.cls ≠ "java/lang/invoke/MethodHandle" ∧ m_TH_line.1.cls ≠ "java/lang/invoke/VarHandle" ∧ (parseMethodDescriptor m_TH_line.1.desc).map (fun d => d.parameters.length) = some 2) := ⟨gt_in 1 (by decide +kernel) rfl, gt_in 531 (by rfl) rfl, by decide +kernel⟩
set_option maxRecDepth 100000 in
theorem kV_TH_line : Cond.instanceMethod m_TH_line.1 ∈ gtbl ∧ Cond.selects m_TH_line.1.cls m_TH_line.1 m_TH_line.1 ∈ gtbl ∧ ∃ (T : u_T) (N : Nat), xcl[11]? = some (m_TH_line.1.cls, T, N) := ⟨gt_in 529 (by decide +kernel) rfl, gt_in 530 (by decide +kernel) rfl, xT_TH, 8, rfl⟩
set_option maxRecDepth 100000 in
theorem kA_TH_fact : Cond.initialized m_TH_fact.1.cls ∈ gtbl ∧ Cond.code m_TH_fact.1 m_TH_fact.2.1 m_TH_fact.2.2.1 m_TH_fact.2.2.2.1 ∈ gtbl ∧ (m_TH_fact.1.cls ≠ "java/lang/invoke/MethodHandle" ∧ m_TH_fact.1.cls ≠ "java/lang/invoke/VarHandle" ∧ (parseMethodDescriptor m_TH_fact.1.desc).map (fun d => d.parameters.length) = some 2) := ⟨gt_in 1 (by decide +kernel) rfl, gt_in 539 (by rfl) rfl, by decide +kernel⟩
set_option maxRecDepth 100000 in
theorem kV_TH_fact : Cond.instanceMethod m_TH_fact.1 ∈ gtbl ∧ Cond.selects m_TH_fact.1.cls m_TH_fact.1 m_TH_fact.1 ∈ gtbl ∧ ∃ (T : u_T) (N : Nat), xcl[11]? = some (m_TH_fact.1.cls, T, N) := ⟨gt_in 537 (by decide +kernel) rfl, gt_in 538 (by decide +kernel) rfl, xT_TH, 8, rfl⟩
set_option maxRecDepth 100000 in
theorem kA_TH_fault : Cond.initialized m_TH_fault.1.cls ∈ gtbl ∧ Cond.code m_TH_fault.1 m_TH_fault.2.1 m_TH_fault.2.2.1 m_TH_fault.2.2.2.1 ∈ gtbl ∧ (m_TH_fault.1.cls ≠ "java/lang/invoke/MethodHandle" ∧ m_TH_fault.1.cls ≠ "java/lang/invoke/VarHandle" ∧ (parseMethodDescriptor m_TH_fault.1.desc).map (fun d => d.parameters.length) = some 1) := ⟨gt_in 1 (by decide +kernel) rfl, gt_in 691 (by rfl) rfl, by decide +kernel⟩
set_option maxRecDepth 100000 in
theorem kV_TH_fault : Cond.instanceMethod m_TH_fault.1 ∈ gtbl ∧ Cond.selects m_TH_fault.1.cls m_TH_fault.1 m_TH_fault.1 ∈ gtbl ∧ ∃ (T : u_T) (N : Nat), xcl[11]? = some (m_TH_fault.1.cls, T, N) := ⟨gt_in 689 (by decide +kernel) rfl, gt_in 690 (by decide +kernel) rfl, xT_TH, 8, rfl⟩
set_option maxRecDepth 100000 in
theorem kA_TH_strike : Cond.initialized m_TH_strike.1.cls ∈ gtbl ∧ Cond.code m_TH_strike.1 m_TH_strike.2.1 m_TH_strike.2.2.1 m_TH_strike.2.2.2.1 ∈ gtbl ∧ (m_TH_strike.1.cls ≠ "java/lang/invoke/MethodHandle" ∧ m_TH_strike.1.cls ≠ "java/lang/invoke/VarHandle" ∧ (parseMethodDescriptor m_TH_strike.1.desc).map (fun d => d.parameters.length) = some 2) := ⟨gt_in 1 (by decide +kernel) rfl, gt_in 695 (by rfl) rfl, by decide +kernel⟩
set_option maxRecDepth 100000 in
theorem kV_TH_strike : Cond.instanceMethod m_TH_strike.1 ∈ gtbl ∧ Cond.selects m_TH_strike.1.cls m_TH_strike.1 m_TH_strike.1 ∈ gtbl ∧ ∃ (T : u_T) (N : Nat), xcl[11]? = some (m_TH_strike.1.cls, T, N) := ⟨gt_in 693 (by decide +kernel) rfl, gt_in 694 (by decide +kernel) rfl, xT_TH, 8, rfl⟩
set_option maxRecDepth 100000 in
theorem kA_TH_quarrel : Cond.initialized m_TH_quarrel.1.cls ∈ gtbl ∧ Cond.code m_TH_quarrel.1 m_TH_quarrel.2.1 m_TH_quarrel.2.2.1 m_TH_quarrel.2.2.2.1 ∈ gtbl ∧ (m_TH_quarrel.1.cls ≠ "java/lang/invoke/MethodHandle" ∧ m_TH_quarrel.1.cls ≠ "java/lang/invoke/VarHandle" ∧ (parseMethodDescriptor m_TH_quarrel.1.desc).map (fun d => d.parameters.length) = some 2) := ⟨gt_in 1 (by decide +kernel) rfl, gt_in 708 (by rfl) rfl, by decide +kernel⟩
set_option maxRecDepth 100000 in
theorem kV_TH_quarrel : Cond.instanceMethod m_TH_quarrel.1 ∈ gtbl ∧ Cond.selects m_TH_quarrel.1.cls m_TH_quarrel.1 m_TH_quarrel.1 ∈ gtbl ∧ ∃ (T : u_T) (N : Nat), xcl[11]? = some (m_TH_quarrel.1.cls, T, N) := ⟨gt_in 706 (by decide +kernel) rfl, gt_in 707 (by decide +kernel) rfl, xT_TH, 8, rfl⟩
set_option maxRecDepth 100000 in
theorem kA_TH_quarrels : Cond.initialized m_TH_quarrels.1.cls ∈ gtbl ∧ Cond.code m_TH_quarrels.1 m_TH_quarrels.2.1 m_TH_quarrels.2.2.1 m_TH_quarrels.2.2.2.1 ∈ gtbl ∧ (m_TH_quarrels.1.cls ≠ "java/lang/invoke/MethodHandle" ∧ m_TH_quarrels.1.cls ≠ "java/lang/invoke/VarHandle" ∧ (parseMethodDescriptor m_TH_quarrels.1.desc).map (fun d => d.parameters.length) = some 1) := ⟨gt_in 1 (by decide +kernel) rfl, gt_in 724 (by rfl) rfl, by decide +kernel⟩
set_option maxRecDepth 100000 in
theorem kV_TH_quarrels : Cond.instanceMethod m_TH_quarrels.1 ∈ gtbl ∧ Cond.selects m_TH_quarrels.1.cls m_TH_quarrels.1 m_TH_quarrels.1 ∈ gtbl ∧ ∃ (T : u_T) (N : Nat), xcl[11]? = some (m_TH_quarrels.1.cls, T, N) := ⟨gt_in 722 (by decide +kernel) rfl, gt_in 723 (by decide +kernel) rfl, xT_TH, 8, rfl⟩
set_option maxRecDepth 100000 in
theorem kA_TH_found : Cond.initialized m_TH_found.1.cls ∈ gtbl ∧ Cond.code m_TH_found.1 m_TH_found.2.1 m_TH_found.2.2.1 m_TH_found.2.2.2.1 ∈ gtbl ∧ (m_TH_found.1.cls ≠ "java/lang/invoke/MethodHandle" ∧ m_TH_found.1.cls ≠ "java/lang/invoke/VarHandle" ∧ (parseMethodDescriptor m_TH_found.1.desc).map (fun d => d.parameters.length) = some 2) := ⟨gt_in 1 (by decide +kernel) rfl, gt_in 750 (by rfl) rfl, by decide +kernel⟩
set_option maxRecDepth 100000 in
theorem kV_TH_found : Cond.instanceMethod m_TH_found.1 ∈ gtbl ∧ Cond.selects m_TH_found.1.cls m_TH_found.1 m_TH_found.1 ∈ gtbl ∧ ∃ (T : u_T) (N : Nat), xcl[11]? = some (m_TH_found.1.cls, T, N) := ⟨gt_in 748 (by decide +kernel) rfl, gt_in 749 (by decide +kernel) rfl, xT_TH, 8, rfl⟩
set_option maxRecDepth 100000 in
theorem kA_TH_mend : Cond.initialized m_TH_mend.1.cls ∈ gtbl ∧ Cond.code m_TH_mend.1 m_TH_mend.2.1 m_TH_mend.2.2.1 m_TH_mend.2.2.2.1 ∈ gtbl ∧ (m_TH_mend.1.cls ≠ "java/lang/invoke/MethodHandle" ∧ m_TH_mend.1.cls ≠ "java/lang/invoke/VarHandle" ∧ (parseMethodDescriptor m_TH_mend.1.desc).map (fun d => d.parameters.length) = some 1) := ⟨gt_in 1 (by decide +kernel) rfl, gt_in 758 (by rfl) rfl, by decide +kernel⟩
set_option maxRecDepth 100000 in
theorem kV_TH_mend : Cond.instanceMethod m_TH_mend.1 ∈ gtbl ∧ Cond.selects m_TH_mend.1.cls m_TH_mend.1 m_TH_mend.1 ∈ gtbl ∧ ∃ (T : u_T) (N : Nat), xcl[11]? = some (m_TH_mend.1.cls, T, N) := ⟨gt_in 756 (by decide +kernel) rfl, gt_in 757 (by decide +kernel) rfl, xT_TH, 8, rfl⟩
set_option maxRecDepth 100000 in
theorem kA_TH_agree : Cond.initialized m_TH_agree.1.cls ∈ gtbl ∧ Cond.code m_TH_agree.1 m_TH_agree.2.1 m_TH_agree.2.2.1 m_TH_agree.2.2.2.1 ∈ gtbl ∧ (m_TH_agree.1.cls ≠ "java/lang/invoke/MethodHandle" ∧ m_TH_agree.1.cls ≠ "java/lang/invoke/VarHandle" ∧ (parseMethodDescriptor m_TH_agree.1.desc).map (fun d => d.parameters.length) = some 1) := ⟨gt_in 1 (by decide +kernel) rfl, gt_in 766 (by rfl) rfl, by decide +kernel⟩
set_option maxRecDepth 100000 in
theorem kV_TH_agree : Cond.instanceMethod m_TH_agree.1 ∈ gtbl ∧ Cond.selects m_TH_agree.1.cls m_TH_agree.1 m_TH_agree.1 ∈ gtbl ∧ ∃ (T : u_T) (N : Nat), xcl[11]? = some (m_TH_agree.1.cls, T, N) := ⟨gt_in 764 (by decide +kernel) rfl, gt_in 765 (by decide +kernel) rfl, xT_TH, 8, rfl⟩
set_option maxRecDepth 100000 in
theorem kA_TH_agreed : Cond.initialized m_TH_agreed.1.cls ∈ gtbl ∧ Cond.code m_TH_agreed.1 m_TH_agreed.2.1 m_TH_agreed.2.2.1 m_TH_agreed.2.2.2.1 ∈ gtbl ∧ (m_TH_agreed.1.cls ≠ "java/lang/invoke/MethodHandle" ∧ m_TH_agreed.1.cls ≠ "java/lang/invoke/VarHandle" ∧ (parseMethodDescriptor m_TH_agreed.1.desc).map (fun d => d.parameters.length) = some 1) := ⟨gt_in 1 (by decide +kernel) rfl, gt_in 796 (by rfl) rfl, by decide +kernel⟩
set_option maxRecDepth 100000 in
theorem kV_TH_agreed : Cond.instanceMethod m_TH_agreed.1 ∈ gtbl ∧ Cond.selects m_TH_agreed.1.cls m_TH_agreed.1 m_TH_agreed.1 ∈ gtbl ∧ ∃ (T : u_T) (N : Nat), xcl[11]? = some (m_TH_agreed.1.cls, T, N) := ⟨gt_in 794 (by decide +kernel) rfl, gt_in 795 (by decide +kernel) rfl, xT_TH, 8, rfl⟩
set_option maxRecDepth 100000 in
theorem kA_TH_share : Cond.initialized m_TH_share.1.cls ∈ gtbl ∧ Cond.code m_TH_share.1 m_TH_share.2.1 m_TH_share.2.2.1 m_TH_share.2.2.2.1 ∈ gtbl ∧ (m_TH_share.1.cls ≠ "java/lang/invoke/MethodHandle" ∧ m_TH_share.1.cls ≠ "java/lang/invoke/VarHandle" ∧ (parseMethodDescriptor m_TH_share.1.desc).map (fun d => d.parameters.length) = some 1) := ⟨gt_in 1 (by decide +kernel) rfl, gt_in 808 (by rfl) rfl, by decide +kernel⟩
set_option maxRecDepth 100000 in
theorem kV_TH_share : Cond.instanceMethod m_TH_share.1 ∈ gtbl ∧ Cond.selects m_TH_share.1.cls m_TH_share.1 m_TH_share.1 ∈ gtbl ∧ ∃ (T : u_T) (N : Nat), xcl[11]? = some (m_TH_share.1.cls, T, N) := ⟨gt_in 806 (by decide +kernel) rfl, gt_in 807 (by decide +kernel) rfl, xT_TH, 8, rfl⟩
set_option maxRecDepth 100000 in
theorem kA_TH_start : Cond.initialized m_TH_start.1.cls ∈ gtbl ∧ Cond.code m_TH_start.1 m_TH_start.2.1 m_TH_start.2.2.1 m_TH_start.2.2.2.1 ∈ gtbl ∧ (m_TH_start.1.cls ≠ "java/lang/invoke/MethodHandle" ∧ m_TH_start.1.cls ≠ "java/lang/invoke/VarHandle" ∧ (parseMethodDescriptor m_TH_start.1.desc).map (fun d => d.parameters.length) = some 1) := ⟨gt_in 1 (by decide +kernel) rfl, gt_in 854 (by rfl) rfl, by decide +kernel⟩
set_option maxRecDepth 100000 in
theorem kV_TH_start : Cond.instanceMethod m_TH_start.1 ∈ gtbl ∧ Cond.selects m_TH_start.1.cls m_TH_start.1 m_TH_start.1 ∈ gtbl ∧ ∃ (T : u_T) (N : Nat), xcl[11]? = some (m_TH_start.1.cls, T, N) := ⟨gt_in 852 (by decide +kernel) rfl, gt_in 853 (by decide +kernel) rfl, xT_TH, 8, rfl⟩
set_option maxRecDepth 100000 in
theorem kA_TH_came : Cond.initialized m_TH_came.1.cls ∈ gtbl ∧ Cond.code m_TH_came.1 m_TH_came.2.1 m_TH_came.2.2.1 m_TH_came.2.2.2.1 ∈ gtbl ∧ (m_TH_came.1.cls ≠ "java/lang/invoke/MethodHandle" ∧ m_TH_came.1.cls ≠ "java/lang/invoke/VarHandle" ∧ (parseMethodDescriptor m_TH_came.1.desc).map (fun d => d.parameters.length) = some 2) := ⟨gt_in 1 (by decide +kernel) rfl, gt_in 862 (by rfl) rfl, by decide +kernel⟩
set_option maxRecDepth 100000 in
theorem kV_TH_came : Cond.instanceMethod m_TH_came.1 ∈ gtbl ∧ Cond.selects m_TH_came.1.cls m_TH_came.1 m_TH_came.1 ∈ gtbl ∧ ∃ (T : u_T) (N : Nat), xcl[11]? = some (m_TH_came.1.cls, T, N) := ⟨gt_in 860 (by decide +kernel) rfl, gt_in 861 (by decide +kernel) rfl, xT_TH, 8, rfl⟩
set_option maxRecDepth 100000 in
theorem kA_TH_due : Cond.initialized m_TH_due.1.cls ∈ gtbl ∧ Cond.code m_TH_due.1 m_TH_due.2.1 m_TH_due.2.2.1 m_TH_due.2.2.2.1 ∈ gtbl ∧ (m_TH_due.1.cls ≠ "java/lang/invoke/MethodHandle" ∧ m_TH_due.1.cls ≠ "java/lang/invoke/VarHandle" ∧ (parseMethodDescriptor m_TH_due.1.desc).map (fun d => d.parameters.length) = some 1) := ⟨gt_in 1 (by decide +kernel) rfl, gt_in 871 (by rfl) rfl, by decide +kernel⟩
set_option maxRecDepth 100000 in
theorem kV_TH_due : Cond.instanceMethod m_TH_due.1 ∈ gtbl ∧ Cond.selects m_TH_due.1.cls m_TH_due.1 m_TH_due.1 ∈ gtbl ∧ ∃ (T : u_T) (N : Nat), xcl[11]? = some (m_TH_due.1.cls, T, N) := ⟨gt_in 869 (by decide +kernel) rfl, gt_in 870 (by decide +kernel) rfl, xT_TH, 8, rfl⟩
set_option maxRecDepth 100000 in
theorem kA_TH_prices : Cond.initialized m_TH_prices.1.cls ∈ gtbl ∧ Cond.code m_TH_prices.1 m_TH_prices.2.1 m_TH_prices.2.2.1 m_TH_prices.2.2.2.1 ∈ gtbl ∧ (m_TH_prices.1.cls ≠ "java/lang/invoke/MethodHandle" ∧ m_TH_prices.1.cls ≠ "java/lang/invoke/VarHandle" ∧ (parseMethodDescriptor m_TH_prices.1.desc).map (fun d => d.parameters.length) = some 4) := ⟨gt_in 1 (by decide +kernel) rfl, gt_in 876 (by rfl) rfl, by decide +kernel⟩
set_option maxRecDepth 100000 in
theorem kV_TH_prices : Cond.instanceMethod m_TH_prices.1 ∈ gtbl ∧ Cond.selects m_TH_prices.1.cls m_TH_prices.1 m_TH_prices.1 ∈ gtbl ∧ ∃ (T : u_T) (N : Nat), xcl[11]? = some (m_TH_prices.1.cls, T, N) := ⟨gt_in 874 (by decide +kernel) rfl, gt_in 875 (by decide +kernel) rfl, xT_TH, 8, rfl⟩
set_option maxRecDepth 100000 in
theorem kA_TH_keep : Cond.initialized m_TH_keep.1.cls ∈ gtbl ∧ Cond.code m_TH_keep.1 m_TH_keep.2.1 m_TH_keep.2.2.1 m_TH_keep.2.2.2.1 ∈ gtbl ∧ (m_TH_keep.1.cls ≠ "java/lang/invoke/MethodHandle" ∧ m_TH_keep.1.cls ≠ "java/lang/invoke/VarHandle" ∧ (parseMethodDescriptor m_TH_keep.1.desc).map (fun d => d.parameters.length) = some 3) := ⟨gt_in 1 (by decide +kernel) rfl, gt_in 884 (by rfl) rfl, by decide +kernel⟩
set_option maxRecDepth 100000 in
theorem kV_TH_keep : Cond.instanceMethod m_TH_keep.1 ∈ gtbl ∧ Cond.selects m_TH_keep.1.cls m_TH_keep.1 m_TH_keep.1 ∈ gtbl ∧ ∃ (T : u_T) (N : Nat), xcl[11]? = some (m_TH_keep.1.cls, T, N) := ⟨gt_in 882 (by decide +kernel) rfl, gt_in 883 (by decide +kernel) rfl, xT_TH, 8, rfl⟩
set_option maxRecDepth 100000 in
theorem kA_TH_print : Cond.initialized m_TH_print.1.cls ∈ gtbl ∧ Cond.code m_TH_print.1 m_TH_print.2.1 m_TH_print.2.2.1 m_TH_print.2.2.2.1 ∈ gtbl ∧ (m_TH_print.1.cls ≠ "java/lang/invoke/MethodHandle" ∧ m_TH_print.1.cls ≠ "java/lang/invoke/VarHandle" ∧ (parseMethodDescriptor m_TH_print.1.desc).map (fun d => d.parameters.length) = some 3) := ⟨gt_in 1 (by decide +kernel) rfl, gt_in 893 (by rfl) rfl, by decide +kernel⟩
set_option maxRecDepth 100000 in
theorem kV_TH_print : Cond.instanceMethod m_TH_print.1 ∈ gtbl ∧ Cond.selects m_TH_print.1.cls m_TH_print.1 m_TH_print.1 ∈ gtbl ∧ ∃ (T : u_T) (N : Nat), xcl[11]? = some (m_TH_print.1.cls, T, N) := ⟨gt_in 891 (by decide +kernel) rfl, gt_in 892 (by decide +kernel) rfl, xT_TH, 8, rfl⟩
set_option maxRecDepth 100000 in
theorem kA_TH_sell : Cond.initialized m_TH_sell.1.cls ∈ gtbl ∧ Cond.code m_TH_sell.1 m_TH_sell.2.1 m_TH_sell.2.2.1 m_TH_sell.2.2.2.1 ∈ gtbl ∧ (m_TH_sell.1.cls ≠ "java/lang/invoke/MethodHandle" ∧ m_TH_sell.1.cls ≠ "java/lang/invoke/VarHandle" ∧ (parseMethodDescriptor m_TH_sell.1.desc).map (fun d => d.parameters.length) = some 3) := ⟨gt_in 1 (by decide +kernel) rfl, gt_in 907 (by rfl) rfl, by decide +kernel⟩
set_option maxRecDepth 100000 in
theorem kV_TH_sell : Cond.instanceMethod m_TH_sell.1 ∈ gtbl ∧ Cond.selects m_TH_sell.1.cls m_TH_sell.1 m_TH_sell.1 ∈ gtbl ∧ ∃ (T : u_T) (N : Nat), xcl[11]? = some (m_TH_sell.1.cls, T, N) := ⟨gt_in 905 (by decide +kernel) rfl, gt_in 906 (by decide +kernel) rfl, xT_TH, 8, rfl⟩
set_option maxRecDepth 100000 in
theorem kA_TH_pulp : Cond.initialized m_TH_pulp.1.cls ∈ gtbl ∧ Cond.code m_TH_pulp.1 m_TH_pulp.2.1 m_TH_pulp.2.2.1 m_TH_pulp.2.2.2.1 ∈ gtbl ∧ (m_TH_pulp.1.cls ≠ "java/lang/invoke/MethodHandle" ∧ m_TH_pulp.1.cls ≠ "java/lang/invoke/VarHandle" ∧ (parseMethodDescriptor m_TH_pulp.1.desc).map (fun d => d.parameters.length) = some 2) := ⟨gt_in 1 (by decide +kernel) rfl, gt_in 919 (by rfl) rfl, by decide +kernel⟩
set_option maxRecDepth 100000 in
theorem kV_TH_pulp : Cond.instanceMethod m_TH_pulp.1 ∈ gtbl ∧ Cond.selects m_TH_pulp.1.cls m_TH_pulp.1 m_TH_pulp.1 ∈ gtbl ∧ ∃ (T : u_T) (N : Nat), xcl[11]? = some (m_TH_pulp.1.cls, T, N) := ⟨gt_in 917 (by decide +kernel) rfl, gt_in 918 (by decide +kernel) rfl, xT_TH, 8, rfl⟩
set_option maxRecDepth 100000 in
theorem kA_TH_stock : Cond.initialized m_TH_stock.1.cls ∈ gtbl ∧ Cond.code m_TH_stock.1 m_TH_stock.2.1 m_TH_stock.2.2.1 m_TH_stock.2.2.2.1 ∈ gtbl ∧ (m_TH_stock.1.cls ≠ "java/lang/invoke/MethodHandle" ∧ m_TH_stock.1.cls ≠ "java/lang/invoke/VarHandle" ∧ (parseMethodDescriptor m_TH_stock.1.desc).map (fun d => d.parameters.length) = some 3) := ⟨gt_in 1 (by decide +kernel) rfl, gt_in 927 (by rfl) rfl, by decide +kernel⟩
set_option maxRecDepth 100000 in
theorem kV_TH_stock : Cond.instanceMethod m_TH_stock.1 ∈ gtbl ∧ Cond.selects m_TH_stock.1.cls m_TH_stock.1 m_TH_stock.1 ∈ gtbl ∧ ∃ (T : u_T) (N : Nat), xcl[11]? = some (m_TH_stock.1.cls, T, N) := ⟨gt_in 925 (by decide +kernel) rfl, gt_in 926 (by decide +kernel) rfl, xT_TH, 8, rfl⟩
set_option maxRecDepth 100000 in
theorem kA_TH_volume : Cond.initialized m_TH_volume.1.cls ∈ gtbl ∧ Cond.code m_TH_volume.1 m_TH_volume.2.1 m_TH_volume.2.2.1 m_TH_volume.2.2.2.1 ∈ gtbl ∧ (m_TH_volume.1.cls ≠ "java/lang/invoke/MethodHandle" ∧ m_TH_volume.1.cls ≠ "java/lang/invoke/VarHandle" ∧ (parseMethodDescriptor m_TH_volume.1.desc).map (fun d => d.parameters.length) = some 4) := ⟨gt_in 1 (by decide +kernel) rfl, gt_in 935 (by rfl) rfl, by decide +kernel⟩
set_option maxRecDepth 100000 in
theorem kV_TH_volume : Cond.instanceMethod m_TH_volume.1 ∈ gtbl ∧ Cond.selects m_TH_volume.1.cls m_TH_volume.1 m_TH_volume.1 ∈ gtbl ∧ ∃ (T : u_T) (N : Nat), xcl[11]? = some (m_TH_volume.1.cls, T, N) := ⟨gt_in 933 (by decide +kernel) rfl, gt_in 934 (by decide +kernel) rfl, xT_TH, 8, rfl⟩
set_option maxRecDepth 100000 in
theorem kA_TH_foretell : Cond.initialized m_TH_foretell.1.cls ∈ gtbl ∧ Cond.code m_TH_foretell.1 m_TH_foretell.2.1 m_TH_foretell.2.2.1 m_TH_foretell.2.2.2.1 ∈ gtbl ∧ (m_TH_foretell.1.cls ≠ "java/lang/invoke/MethodHandle" ∧ m_TH_foretell.1.cls ≠ "java/lang/invoke/VarHandle" ∧ (parseMethodDescriptor m_TH_foretell.1.desc).map (fun d => d.parameters.length) = some 2) := ⟨gt_in 1 (by decide +kernel) rfl, gt_in 954 (by rfl) rfl, by decide +kernel⟩
set_option maxRecDepth 100000 in
theorem kV_TH_foretell : Cond.instanceMethod m_TH_foretell.1 ∈ gtbl ∧ Cond.selects m_TH_foretell.1.cls m_TH_foretell.1 m_TH_foretell.1 ∈ gtbl ∧ ∃ (T : u_T) (N : Nat), xcl[11]? = some (m_TH_foretell.1.cls, T, N) := ⟨gt_in 952 (by decide +kernel) rfl, gt_in 953 (by decide +kernel) rfl, xT_TH, 8, rfl⟩
set_option maxRecDepth 100000 in
theorem kA_TH_best : Cond.initialized m_TH_best.1.cls ∈ gtbl ∧ Cond.code m_TH_best.1 m_TH_best.2.1 m_TH_best.2.2.1 m_TH_best.2.2.2.1 ∈ gtbl ∧ (m_TH_best.1.cls ≠ "java/lang/invoke/MethodHandle" ∧ m_TH_best.1.cls ≠ "java/lang/invoke/VarHandle" ∧ (parseMethodDescriptor m_TH_best.1.desc).map (fun d => d.parameters.length) = some 2) := ⟨gt_in 1 (by decide +kernel) rfl, gt_in 963 (by rfl) rfl, by decide +kernel⟩
set_option maxRecDepth 100000 in
theorem kV_TH_best : Cond.instanceMethod m_TH_best.1 ∈ gtbl ∧ Cond.selects m_TH_best.1.cls m_TH_best.1 m_TH_best.1 ∈ gtbl ∧ ∃ (T : u_T) (N : Nat), xcl[11]? = some (m_TH_best.1.cls, T, N) := ⟨gt_in 961 (by decide +kernel) rfl, gt_in 962 (by decide +kernel) rfl, xT_TH, 8, rfl⟩
set_option maxRecDepth 100000 in
theorem kA_TH_worth : Cond.initialized m_TH_worth.1.cls ∈ gtbl ∧ Cond.code m_TH_worth.1 m_TH_worth.2.1 m_TH_worth.2.2.1 m_TH_worth.2.2.2.1 ∈ gtbl ∧ (m_TH_worth.1.cls ≠ "java/lang/invoke/MethodHandle" ∧ m_TH_worth.1.cls ≠ "java/lang/invoke/VarHandle" ∧ (parseMethodDescriptor m_TH_worth.1.desc).map (fun d => d.parameters.length) = some 3) := ⟨gt_in 1 (by decide +kernel) rfl, gt_in 977 (by rfl) rfl, by decide +kernel⟩
set_option maxRecDepth 100000 in
theorem kV_TH_worth : Cond.instanceMethod m_TH_worth.1 ∈ gtbl ∧ Cond.selects m_TH_worth.1.cls m_TH_worth.1 m_TH_worth.1 ∈ gtbl ∧ ∃ (T : u_T) (N : Nat), xcl[11]? = some (m_TH_worth.1.cls, T, N) := ⟨gt_in 975 (by decide +kernel) rfl, gt_in 976 (by decide +kernel) rfl, xT_TH, 8, rfl⟩
set_option maxRecDepth 100000 in
theorem kA_TH_purse : Cond.initialized m_TH_purse.1.cls ∈ gtbl ∧ Cond.code m_TH_purse.1 m_TH_purse.2.1 m_TH_purse.2.2.1 m_TH_purse.2.2.2.1 ∈ gtbl ∧ (m_TH_purse.1.cls ≠ "java/lang/invoke/MethodHandle" ∧ m_TH_purse.1.cls ≠ "java/lang/invoke/VarHandle" ∧ (parseMethodDescriptor m_TH_purse.1.desc).map (fun d => d.parameters.length) = some 0) := ⟨gt_in 1 (by decide +kernel) rfl, gt_in 983 (by rfl) rfl, by decide +kernel⟩
set_option maxRecDepth 100000 in
theorem kV_TH_purse : Cond.instanceMethod m_TH_purse.1 ∈ gtbl ∧ Cond.selects m_TH_purse.1.cls m_TH_purse.1 m_TH_purse.1 ∈ gtbl ∧ ∃ (T : u_T) (N : Nat), xcl[11]? = some (m_TH_purse.1.cls, T, N) := ⟨gt_in 981 (by decide +kernel) rfl, gt_in 982 (by decide +kernel) rfl, xT_TH, 8, rfl⟩
set_option maxRecDepth 100000 in
theorem kA_TH_isPart : Cond.initialized m_TH_isPart.1.cls ∈ gtbl ∧ Cond.code m_TH_isPart.1 m_TH_isPart.2.1 m_TH_isPart.2.2.1 m_TH_isPart.2.2.2.1 ∈ gtbl ∧ (m_TH_isPart.1.cls ≠ "java/lang/invoke/MethodHandle" ∧ m_TH_isPart.1.cls ≠ "java/lang/invoke/VarHandle" ∧ (parseMethodDescriptor m_TH_isPart.1.desc).map (fun d => d.parameters.length) = some 1) := ⟨gt_in 1 (by decide +kernel) rfl, gt_in 682 (by rfl) rfl, by decide +kernel⟩
set_option maxRecDepth 100000 in
theorem kS_TH_isPart : Cond.static m_TH_isPart.1 ∈ gtbl := gt_in 681 (by decide +kernel) rfl
set_option maxRecDepth 100000 in
theorem kA_TH_slot : Cond.initialized m_TH_slot.1.cls ∈ gtbl ∧ Cond.code m_TH_slot.1 m_TH_slot.2.1 m_TH_slot.2.2.1 m_TH_slot.2.2.2.1 ∈ gtbl ∧ (m_TH_slot.1.cls ≠ "java/lang/invoke/MethodHandle" ∧ m_TH_slot.1.cls ≠ "java/lang/invoke/VarHandle" ∧ (parseMethodDescriptor m_TH_slot.1.desc).map (fun d => d.parameters.length) = some 2) := ⟨gt_in 1 (by decide +kernel) rfl, gt_in 817 (by rfl) rfl, by decide +kernel⟩
set_option maxRecDepth 100000 in
theorem kS_TH_slot : Cond.static m_TH_slot.1 ∈ gtbl := gt_in 816 (by decide +kernel) rfl
set_option maxRecDepth 100000 in
theorem kA_TH_plus : Cond.initialized m_TH_plus.1.cls ∈ gtbl ∧ Cond.code m_TH_plus.1 m_TH_plus.2.1 m_TH_plus.2.2.1 m_TH_plus.2.2.2.1 ∈ gtbl ∧ (m_TH_plus.1.cls ≠ "java/lang/invoke/MethodHandle" ∧ m_TH_plus.1.cls ≠ "java/lang/invoke/VarHandle" ∧ (parseMethodDescriptor m_TH_plus.1.desc).map (fun d => d.parameters.length) = some 2) := ⟨gt_in 1 (by decide +kernel) rfl, gt_in 490 (by rfl) rfl, by decide +kernel⟩
set_option maxRecDepth 100000 in
theorem kS_TH_plus : Cond.static m_TH_plus.1 ∈ gtbl := gt_in 489 (by decide +kernel) rfl
set_option maxRecDepth 100000 in
theorem kA_Md_is : Cond.initialized m_Md_is.1.cls ∈ gtbl ∧ Cond.code m_Md_is.1 m_Md_is.2.1 m_Md_is.2.2.1 m_Md_is.2.2.2.1 ∈ gtbl ∧ (m_Md_is.1.cls ≠ "java/lang/invoke/MethodHandle" ∧ m_Md_is.1.cls ≠ "java/lang/invoke/VarHandle" ∧ (parseMethodDescriptor m_Md_is.1.desc).map (fun d => d.parameters.length) = some 3) := ⟨gt_in 13 (by decide +kernel) rfl, gt_in 1166 (by rfl) rfl, by decide +kernel⟩
set_option maxRecDepth 100000 in
theorem kS_Md_is : Cond.static m_Md_is.1 ∈ gtbl := gt_in 1165 (by decide +kernel) rfl
set_option maxRecDepth 100000 in
theorem kA_Md_put : Cond.initialized m_Md_put.1.cls ∈ gtbl ∧ Cond.code m_Md_put.1 m_Md_put.2.1 m_Md_put.2.2.1 m_Md_put.2.2.2.1 ∈ gtbl ∧ (m_Md_put.1.cls ≠ "java/lang/invoke/MethodHandle" ∧ m_Md_put.1.cls ≠ "java/lang/invoke/VarHandle" ∧ (parseMethodDescriptor m_Md_put.1.desc).map (fun d => d.parameters.length) = some 1) := ⟨gt_in 13 (by decide +kernel) rfl, gt_in 1154 (by rfl) rfl, by decide +kernel⟩
set_option maxRecDepth 100000 in
theorem kV_Md_put : Cond.instanceMethod m_Md_put.1 ∈ gtbl ∧ Cond.selects m_Md_put.1.cls m_Md_put.1 m_Md_put.1 ∈ gtbl ∧ ∃ (T : u_T) (N : Nat), xcl[12]? = some (m_Md_put.1.cls, T, N) := ⟨gt_in 1153 (by decide +kernel) rfl, gt_pv 24 (by decide +kernel) rfl, xT_Md, 52, rfl⟩
set_option maxRecDepth 100000 in
theorem kA_Md_init : Cond.initialized m_Md_init.1.cls ∈ gtbl ∧ Cond.code m_Md_init.1 m_Md_init.2.1 m_Md_init.2.2.1 m_Md_init.2.2.2.1 ∈ gtbl ∧ (m_Md_init.1.cls ≠ "java/lang/invoke/MethodHandle" ∧ m_Md_init.1.cls ≠ "java/lang/invoke/VarHandle" ∧ (parseMethodDescriptor m_Md_init.1.desc).map (fun d => d.parameters.length) = some 0) := ⟨gt_in 13 (by decide +kernel) rfl, gt_in 988 (by rfl) rfl, by decide +kernel⟩
set_option maxRecDepth 100000 in
theorem kI_Md_init : Cond.instanceMethod m_Md_init.1 ∈ gtbl ∧ m_Md_init.1.name = "<init>" ∧ m_Md_init.2.2.2.1 = none := ⟨gt_in 987 (by decide +kernel) rfl, rfl, rfl⟩
set_option maxRecDepth 100000 in
theorem kA_Md_feed : Cond.initialized m_Md_feed.1.cls ∈ gtbl ∧ Cond.code m_Md_feed.1 m_Md_feed.2.1 m_Md_feed.2.2.1 m_Md_feed.2.2.2.1 ∈ gtbl ∧ (m_Md_feed.1.cls ≠ "java/lang/invoke/MethodHandle" ∧ m_Md_feed.1.cls ≠ "java/lang/invoke/VarHandle" ∧ (parseMethodDescriptor m_Md_feed.1.desc).map (fun d => d.parameters.length) = some 5) := ⟨gt_in 13 (by decide +kernel) rfl, gt_in 1150 (by rfl) rfl, by decide +kernel⟩
set_option maxRecDepth 100000 in
theorem kV_Md_feed : Cond.instanceMethod m_Md_feed.1 ∈ gtbl ∧ Cond.selects m_Md_feed.1.cls m_Md_feed.1 m_Md_feed.1 ∈ gtbl ∧ ∃ (T : u_T) (N : Nat), xcl[12]? = some (m_Md_feed.1.cls, T, N) := ⟨gt_in 1148 (by decide +kernel) rfl, gt_in 1149 (by decide +kernel) rfl, xT_Md, 52, rfl⟩
set_option maxRecDepth 100000 in
theorem kA_Md_end : Cond.initialized m_Md_end.1.cls ∈ gtbl ∧ Cond.code m_Md_end.1 m_Md_end.2.1 m_Md_end.2.2.1 m_Md_end.2.2.2.1 ∈ gtbl ∧ (m_Md_end.1.cls ≠ "java/lang/invoke/MethodHandle" ∧ m_Md_end.1.cls ≠ "java/lang/invoke/VarHandle" ∧ (parseMethodDescriptor m_Md_end.1.desc).map (fun d => d.parameters.length) = some 1) := ⟨gt_in 13 (by decide +kernel) rfl, gt_in 1158 (by rfl) rfl, by decide +kernel⟩
set_option maxRecDepth 100000 in
theorem kV_Md_end : Cond.instanceMethod m_Md_end.1 ∈ gtbl ∧ Cond.selects m_Md_end.1.cls m_Md_end.1 m_Md_end.1 ∈ gtbl ∧ ∃ (T : u_T) (N : Nat), xcl[12]? = some (m_Md_end.1.cls, T, N) := ⟨gt_in 1156 (by decide +kernel) rfl, gt_in 1157 (by decide +kernel) rfl, xT_Md, 52, rfl⟩
set_option maxRecDepth 100000 in
theorem kA_Md_paragraph : Cond.initialized m_Md_paragraph.1.cls ∈ gtbl ∧ Cond.code m_Md_paragraph.1 m_Md_paragraph.2.1 m_Md_paragraph.2.2.1 m_Md_paragraph.2.2.2.1 ∈ gtbl ∧ (m_Md_paragraph.1.cls ≠ "java/lang/invoke/MethodHandle" ∧ m_Md_paragraph.1.cls ≠ "java/lang/invoke/VarHandle" ∧ (parseMethodDescriptor m_Md_paragraph.1.desc).map (fun d => d.parameters.length) = some 1) := ⟨gt_in 13 (by decide +kernel) rfl, gt_in 1162 (by rfl) rfl, by decide +kernel⟩
set_option maxRecDepth 100000 in
theorem kV_Md_paragraph : Cond.instanceMethod m_Md_paragraph.1 ∈ gtbl ∧ Cond.selects m_Md_paragraph.1.cls m_Md_paragraph.1 m_Md_paragraph.1 ∈ gtbl ∧ ∃ (T : u_T) (N : Nat), xcl[12]? = some (m_Md_paragraph.1.cls, T, N) := ⟨gt_in 1160 (by decide +kernel) rfl, gt_in 1161 (by decide +kernel) rfl, xT_Md, 52, rfl⟩
set_option maxRecDepth 100000 in
theorem kA_Md_word : Cond.initialized m_Md_word.1.cls ∈ gtbl ∧ Cond.code m_Md_word.1 m_Md_word.2.1 m_Md_word.2.2.1 m_Md_word.2.2.2.1 ∈ gtbl ∧ (m_Md_word.1.cls ≠ "java/lang/invoke/MethodHandle" ∧ m_Md_word.1.cls ≠ "java/lang/invoke/VarHandle" ∧ (parseMethodDescriptor m_Md_word.1.desc).map (fun d => d.parameters.length) = some 1) := ⟨gt_in 13 (by decide +kernel) rfl, gt_in 1170 (by rfl) rfl, by decide +kernel⟩
set_option maxRecDepth 100000 in
theorem kV_Md_word : Cond.instanceMethod m_Md_word.1 ∈ gtbl ∧ Cond.selects m_Md_word.1.cls m_Md_word.1 m_Md_word.1 ∈ gtbl ∧ ∃ (T : u_T) (N : Nat), xcl[12]? = some (m_Md_word.1.cls, T, N) := ⟨gt_in 1168 (by decide +kernel) rfl, gt_in 1169 (by decide +kernel) rfl, xT_Md, 52, rfl⟩
set_option maxRecDepth 100000 in
theorem kA_Md_clear : Cond.initialized m_Md_clear.1.cls ∈ gtbl ∧ Cond.code m_Md_clear.1 m_Md_clear.2.1 m_Md_clear.2.2.1 m_Md_clear.2.2.2.1 ∈ gtbl ∧ (m_Md_clear.1.cls ≠ "java/lang/invoke/MethodHandle" ∧ m_Md_clear.1.cls ≠ "java/lang/invoke/VarHandle" ∧ (parseMethodDescriptor m_Md_clear.1.desc).map (fun d => d.parameters.length) = some 0) := ⟨gt_in 13 (by decide +kernel) rfl, gt_in 1174 (by rfl) rfl, by decide +kernel⟩
set_option maxRecDepth 100000 in
theorem kV_Md_clear : Cond.instanceMethod m_Md_clear.1 ∈ gtbl ∧ Cond.selects m_Md_clear.1.cls m_Md_clear.1 m_Md_clear.1 ∈ gtbl ∧ ∃ (T : u_T) (N : Nat), xcl[12]? = some (m_Md_clear.1.cls, T, N) := ⟨gt_in 1172 (by decide +kernel) rfl, gt_in 1173 (by decide +kernel) rfl, xT_Md, 52, rfl⟩
set_option maxRecDepth 100000 in
theorem kA_Md_page : Cond.initialized m_Md_page.1.cls ∈ gtbl ∧ Cond.code m_Md_page.1 m_Md_page.2.1 m_Md_page.2.2.1 m_Md_page.2.2.2.1 ∈ gtbl ∧ (m_Md_page.1.cls ≠ "java/lang/invoke/MethodHandle" ∧ m_Md_page.1.cls ≠ "java/lang/invoke/VarHandle" ∧ (parseMethodDescriptor m_Md_page.1.desc).map (fun d => d.parameters.length) = some 4) := ⟨gt_in 13 (by decide +kernel) rfl, gt_in 1178 (by rfl) rfl, by decide +kernel⟩
set_option maxRecDepth 100000 in
theorem kV_Md_page : Cond.instanceMethod m_Md_page.1 ∈ gtbl ∧ Cond.selects m_Md_page.1.cls m_Md_page.1 m_Md_page.1 ∈ gtbl ∧ ∃ (T : u_T) (N : Nat), xcl[12]? = some (m_Md_page.1.cls, T, N) := ⟨gt_in 1176 (by decide +kernel) rfl, gt_in 1177 (by decide +kernel) rfl, xT_Md, 52, rfl⟩
set_option maxRecDepth 100000 in
theorem kA_Md_cost : Cond.initialized m_Md_cost.1.cls ∈ gtbl ∧ Cond.code m_Md_cost.1 m_Md_cost.2.1 m_Md_cost.2.2.1 m_Md_cost.2.2.2.1 ∈ gtbl ∧ (m_Md_cost.1.cls ≠ "java/lang/invoke/MethodHandle" ∧ m_Md_cost.1.cls ≠ "java/lang/invoke/VarHandle" ∧ (parseMethodDescriptor m_Md_cost.1.desc).map (fun d => d.parameters.length) = some 3) := ⟨gt_in 13 (by decide +kernel) rfl, gt_in 1191 (by rfl) rfl, by decide +kernel⟩
set_option maxRecDepth 100000 in
theorem kV_Md_cost : Cond.instanceMethod m_Md_cost.1 ∈ gtbl ∧ Cond.selects m_Md_cost.1.cls m_Md_cost.1 m_Md_cost.1 ∈ gtbl ∧ ∃ (T : u_T) (N : Nat), xcl[12]? = some (m_Md_cost.1.cls, T, N) := ⟨gt_in 1190 (by decide +kernel) rfl, gt_pv 26 (by decide +kernel) rfl, xT_Md, 52, rfl⟩
set_option maxRecDepth 100000 in
theorem kA_Md_breaks : Cond.initialized m_Md_breaks.1.cls ∈ gtbl ∧ Cond.code m_Md_breaks.1 m_Md_breaks.2.1 m_Md_breaks.2.2.1 m_Md_breaks.2.2.2.1 ∈ gtbl ∧ (m_Md_breaks.1.cls ≠ "java/lang/invoke/MethodHandle" ∧ m_Md_breaks.1.cls ≠ "java/lang/invoke/VarHandle" ∧ (parseMethodDescriptor m_Md_breaks.1.desc).map (fun d => d.parameters.length) = some 1) := ⟨gt_in 13 (by decide +kernel) rfl, gt_in 1186 (by rfl) rfl, by decide +kernel⟩
set_option maxRecDepth 100000 in
theorem kV_Md_breaks : Cond.instanceMethod m_Md_breaks.1 ∈ gtbl ∧ Cond.selects m_Md_breaks.1.cls m_Md_breaks.1 m_Md_breaks.1 ∈ gtbl ∧ ∃ (T : u_T) (N : Nat), xcl[12]? = some (m_Md_breaks.1.cls, T, N) := ⟨gt_in 1185 (by decide +kernel) rfl, gt_pv 25 (by decide +kernel) rfl, xT_Md, 52, rfl⟩
set_option maxRecDepth 100000 in
theorem kA_Md_lines : Cond.initialized m_Md_lines.1.cls ∈ gtbl ∧ Cond.code m_Md_lines.1 m_Md_lines.2.1 m_Md_lines.2.2.1 m_Md_lines.2.2.2.1 ∈ gtbl ∧ (m_Md_lines.1.cls ≠ "java/lang/invoke/MethodHandle" ∧ m_Md_lines.1.cls ≠ "java/lang/invoke/VarHandle" ∧ (parseMethodDescriptor m_Md_lines.1.desc).map (fun d => d.parameters.length) = some 2) := ⟨gt_in 13 (by decide +kernel) rfl, gt_in 1182 (by rfl) rfl, by decide +kernel⟩
set_option maxRecDepth 100000 in
theorem kV_Md_lines : Cond.instanceMethod m_Md_lines.1 ∈ gtbl ∧ Cond.selects m_Md_lines.1.cls m_Md_lines.1 m_Md_lines.1 ∈ gtbl ∧ ∃ (T : u_T) (N : Nat), xcl[12]? = some (m_Md_lines.1.cls, T, N) := ⟨gt_in 1180 (by decide +kernel) rfl, gt_in 1181 (by decide +kernel) rfl, xT_Md, 52, rfl⟩
set_option maxRecDepth 100000 in
theorem kA_Md_at : Cond.initialized m_Md_at.1.cls ∈ gtbl ∧ Cond.code m_Md_at.1 m_Md_at.2.1 m_Md_at.2.2.1 m_Md_at.2.2.2.1 ∈ gtbl ∧ (m_Md_at.1.cls ≠ "java/lang/invoke/MethodHandle" ∧ m_Md_at.1.cls ≠ "java/lang/invoke/VarHandle" ∧ (parseMethodDescriptor m_Md_at.1.desc).map (fun d => d.parameters.length) = some 3) := ⟨gt_in 13 (by decide +kernel) rfl, gt_in 1202 (by rfl) rfl, by decide +kernel⟩
set_option maxRecDepth 100000 in
theorem kS_Md_at : Cond.static m_Md_at.1 ∈ gtbl := gt_in 1201 (by decide +kernel) rfl
set_option maxRecDepth 100000 in
theorem kA_Md_price : Cond.initialized m_Md_price.1.cls ∈ gtbl ∧ Cond.code m_Md_price.1 m_Md_price.2.1 m_Md_price.2.2.1 m_Md_price.2.2.2.1 ∈ gtbl ∧ (m_Md_price.1.cls ≠ "java/lang/invoke/MethodHandle" ∧ m_Md_price.1.cls ≠ "java/lang/invoke/VarHandle" ∧ (parseMethodDescriptor m_Md_price.1.desc).map (fun d => d.parameters.length) = some 4) := ⟨gt_in 13 (by decide +kernel) rfl, gt_in 1210 (by rfl) rfl, by decide +kernel⟩
set_option maxRecDepth 100000 in
theorem kV_Md_price : Cond.instanceMethod m_Md_price.1 ∈ gtbl ∧ Cond.selects m_Md_price.1.cls m_Md_price.1 m_Md_price.1 ∈ gtbl ∧ ∃ (T : u_T) (N : Nat), xcl[12]? = some (m_Md_price.1.cls, T, N) := ⟨gt_in 1209 (by decide +kernel) rfl, gt_pv 29 (by decide +kernel) rfl, xT_Md, 52, rfl⟩
set_option maxRecDepth 100000 in
theorem kA_Md_stands6 : Cond.initialized m_Md_stands6.1.cls ∈ gtbl ∧ Cond.code m_Md_stands6.1 m_Md_stands6.2.1 m_Md_stands6.2.2.1 m_Md_stands6.2.2.2.1 ∈ gtbl ∧ (m_Md_stands6.1.cls ≠ "java/lang/invoke/MethodHandle" ∧ m_Md_stands6.1.cls ≠ "java/lang/invoke/VarHandle" ∧ (parseMethodDescriptor m_Md_stands6.1.desc).map (fun d => d.parameters.length) = some 6) := ⟨gt_in 13 (by decide +kernel) rfl, gt_in 1206 (by rfl) rfl, by decide +kernel⟩
set_option maxRecDepth 100000 in
theorem kV_Md_stands6 : Cond.instanceMethod m_Md_stands6.1 ∈ gtbl ∧ Cond.selects m_Md_stands6.1.cls m_Md_stands6.1 m_Md_stands6.1 ∈ gtbl ∧ ∃ (T : u_T) (N : Nat), xcl[12]? = some (m_Md_stands6.1.cls, T, N) := ⟨gt_in 1205 (by decide +kernel) rfl, gt_pv 28 (by decide +kernel) rfl, xT_Md, 52, rfl⟩
set_option maxRecDepth 100000 in
theorem kA_Md_gone : Cond.initialized m_Md_gone.1.cls ∈ gtbl ∧ Cond.code m_Md_gone.1 m_Md_gone.2.1 m_Md_gone.2.2.1 m_Md_gone.2.2.2.1 ∈ gtbl ∧ (m_Md_gone.1.cls ≠ "java/lang/invoke/MethodHandle" ∧ m_Md_gone.1.cls ≠ "java/lang/invoke/VarHandle" ∧ (parseMethodDescriptor m_Md_gone.1.desc).map (fun d => d.parameters.length) = some 3) := ⟨gt_in 13 (by decide +kernel) rfl, gt_in 1199 (by rfl) rfl, by decide +kernel⟩
set_option maxRecDepth 100000 in
theorem kV_Md_gone : Cond.instanceMethod m_Md_gone.1 ∈ gtbl ∧ Cond.selects m_Md_gone.1.cls m_Md_gone.1 m_Md_gone.1 ∈ gtbl ∧ ∃ (T : u_T) (N : Nat), xcl[12]? = some (m_Md_gone.1.cls, T, N) := ⟨gt_in 1198 (by decide +kernel) rfl, gt_pv 27 (by decide +kernel) rfl, xT_Md, 52, rfl⟩
set_option maxRecDepth 100000 in
theorem kA_Md_fill : Cond.initialized m_Md_fill.1.cls ∈ gtbl ∧ Cond.code m_Md_fill.1 m_Md_fill.2.1 m_Md_fill.2.2.1 m_Md_fill.2.2.2.1 ∈ gtbl ∧ (m_Md_fill.1.cls ≠ "java/lang/invoke/MethodHandle" ∧ m_Md_fill.1.cls ≠ "java/lang/invoke/VarHandle" ∧ (parseMethodDescriptor m_Md_fill.1.desc).map (fun d => d.parameters.length) = some 1) := ⟨gt_in 13 (by decide +kernel) rfl, gt_in 1195 (by rfl) rfl, by decide +kernel⟩
set_option maxRecDepth 100000 in
theorem kV_Md_fill : Cond.instanceMethod m_Md_fill.1 ∈ gtbl ∧ Cond.selects m_Md_fill.1.cls m_Md_fill.1 m_Md_fill.1 ∈ gtbl ∧ ∃ (T : u_T) (N : Nat), xcl[12]? = some (m_Md_fill.1.cls, T, N) := ⟨gt_in 1193 (by decide +kernel) rfl, gt_in 1194 (by decide +kernel) rfl, xT_Md, 52, rfl⟩
set_option maxRecDepth 100000 in
theorem kA_Md_tells : Cond.initialized m_Md_tells.1.cls ∈ gtbl ∧ Cond.code m_Md_tells.1 m_Md_tells.2.1 m_Md_tells.2.2.1 m_Md_tells.2.2.2.1 ∈ gtbl ∧ (m_Md_tells.1.cls ≠ "java/lang/invoke/MethodHandle" ∧ m_Md_tells.1.cls ≠ "java/lang/invoke/VarHandle" ∧ (parseMethodDescriptor m_Md_tells.1.desc).map (fun d => d.parameters.length) = some 1) := ⟨gt_in 13 (by decide +kernel) rfl, gt_in 1214 (by rfl) rfl, by decide +kernel⟩
set_option maxRecDepth 100000 in
theorem kV_Md_tells : Cond.instanceMethod m_Md_tells.1 ∈ gtbl ∧ Cond.selects m_Md_tells.1.cls m_Md_tells.1 m_Md_tells.1 ∈ gtbl ∧ ∃ (T : u_T) (N : Nat), xcl[12]? = some (m_Md_tells.1.cls, T, N) := ⟨gt_in 1213 (by decide +kernel) rfl, gt_pv 30 (by decide +kernel) rfl, xT_Md, 52, rfl⟩
set_option maxRecDepth 100000 in
theorem kA_Md_lays : Cond.initialized m_Md_lays.1.cls ∈ gtbl ∧ Cond.code m_Md_lays.1 m_Md_lays.2.1 m_Md_lays.2.2.1 m_Md_lays.2.2.2.1 ∈ gtbl ∧ (m_Md_lays.1.cls ≠ "java/lang/invoke/MethodHandle" ∧ m_Md_lays.1.cls ≠ "java/lang/invoke/VarHandle" ∧ (parseMethodDescriptor m_Md_lays.1.desc).map (fun d => d.parameters.length) = some 2) := ⟨gt_in 13 (by decide +kernel) rfl, gt_in 1218 (by rfl) rfl, by decide +kernel⟩
set_option maxRecDepth 100000 in
theorem kV_Md_lays : Cond.instanceMethod m_Md_lays.1 ∈ gtbl ∧ Cond.selects m_Md_lays.1.cls m_Md_lays.1 m_Md_lays.1 ∈ gtbl ∧ ∃ (T : u_T) (N : Nat), xcl[12]? = some (m_Md_lays.1.cls, T, N) := ⟨gt_in 1217 (by decide +kernel) rfl, gt_pv 31 (by decide +kernel) rfl, xT_Md, 52, rfl⟩
set_option maxRecDepth 100000 in
theorem kA_Md_set : Cond.initialized m_Md_set.1.cls ∈ gtbl ∧ Cond.code m_Md_set.1 m_Md_set.2.1 m_Md_set.2.2.1 m_Md_set.2.2.2.1 ∈ gtbl ∧ (m_Md_set.1.cls ≠ "java/lang/invoke/MethodHandle" ∧ m_Md_set.1.cls ≠ "java/lang/invoke/VarHandle" ∧ (parseMethodDescriptor m_Md_set.1.desc).map (fun d => d.parameters.length) = some 2) := ⟨gt_in 13 (by decide +kernel) rfl, gt_in 1222 (by rfl) rfl, by decide +kernel⟩
set_option maxRecDepth 100000 in
theorem kV_Md_set : Cond.instanceMethod m_Md_set.1 ∈ gtbl ∧ Cond.selects m_Md_set.1.cls m_Md_set.1 m_Md_set.1 ∈ gtbl ∧ ∃ (T : u_T) (N : Nat), xcl[12]? = some (m_Md_set.1.cls, T, N) := ⟨gt_in 1220 (by decide +kernel) rfl, gt_in 1221 (by decide +kernel) rfl, xT_Md, 52, rfl⟩
set_option maxRecDepth 100000 in
theorem kA_Md_line : Cond.initialized m_Md_line.1.cls ∈ gtbl ∧ Cond.code m_Md_line.1 m_Md_line.2.1 m_Md_line.2.2.1 m_Md_line.2.2.2.1 ∈ gtbl ∧ (m_Md_line.1.cls ≠ "java/lang/invoke/MethodHandle" ∧ m_Md_line.1.cls ≠ "java/lang/invoke/VarHandle" ∧ (parseMethodDescriptor m_Md_line.1.desc).map (fun d => d.parameters.length) = some 2) := ⟨gt_in 13 (by decide +kernel) rfl, gt_in 1226 (by rfl) rfl, by decide +kernel⟩
set_option maxRecDepth 100000 in
theorem kV_Md_line : Cond.instanceMethod m_Md_line.1 ∈ gtbl ∧ Cond.selects m_Md_line.1.cls m_Md_line.1 m_Md_line.1 ∈ gtbl ∧ ∃ (T : u_T) (N : Nat), xcl[12]? = some (m_Md_line.1.cls, T, N) := ⟨gt_in 1224 (by decide +kernel) rfl, gt_in 1225 (by decide +kernel) rfl, xT_Md, 52, rfl⟩
set_option maxRecDepth 100000 in
theorem kA_Md_blame : Cond.initialized m_Md_blame.1.cls ∈ gtbl ∧ Cond.code m_Md_blame.1 m_Md_blame.2.1 m_Md_blame.2.2.1 m_Md_blame.2.2.2.1 ∈ gtbl ∧ (m_Md_blame.1.cls ≠ "java/lang/invoke/MethodHandle" ∧ m_Md_blame.1.cls ≠ "java/lang/invoke/VarHandle" ∧ (parseMethodDescriptor m_Md_blame.1.desc).map (fun d => d.parameters.length) = some 2) := ⟨gt_in 13 (by decide +kernel) rfl, gt_in 1253 (by rfl) rfl, by decide +kernel⟩
set_option maxRecDepth 100000 in
theorem kV_Md_blame : Cond.instanceMethod m_Md_blame.1 ∈ gtbl ∧ Cond.selects m_Md_blame.1.cls m_Md_blame.1 m_Md_blame.1 ∈ gtbl ∧ ∃ (T : u_T) (N : Nat), xcl[12]? = some (m_Md_blame.1.cls, T, N) := ⟨gt_in 1252 (by decide +kernel) rfl, gt_pv 35 (by decide +kernel) rfl, xT_Md, 52, rfl⟩
set_option maxRecDepth 100000 in
theorem kA_Md_isLetter : Cond.initialized m_Md_isLetter.1.cls ∈ gtbl ∧ Cond.code m_Md_isLetter.1 m_Md_isLetter.2.1 m_Md_isLetter.2.2.1 m_Md_isLetter.2.2.2.1 ∈ gtbl ∧ (m_Md_isLetter.1.cls ≠ "java/lang/invoke/MethodHandle" ∧ m_Md_isLetter.1.cls ≠ "java/lang/invoke/VarHandle" ∧ (parseMethodDescriptor m_Md_isLetter.1.desc).map (fun d => d.parameters.length) = some 1) := ⟨gt_in 13 (by decide +kernel) rfl, gt_in 1249 (by rfl) rfl, by decide +kernel⟩
set_option maxRecDepth 100000 in
theorem kS_Md_isLetter : Cond.static m_Md_isLetter.1 ∈ gtbl := gt_in 1248 (by decide +kernel) rfl
set_option maxRecDepth 100000 in
theorem kA_Md_isDigit : Cond.initialized m_Md_isDigit.1.cls ∈ gtbl ∧ Cond.code m_Md_isDigit.1 m_Md_isDigit.2.1 m_Md_isDigit.2.2.1 m_Md_isDigit.2.2.2.1 ∈ gtbl ∧ (m_Md_isDigit.1.cls ≠ "java/lang/invoke/MethodHandle" ∧ m_Md_isDigit.1.cls ≠ "java/lang/invoke/VarHandle" ∧ (parseMethodDescriptor m_Md_isDigit.1.desc).map (fun d => d.parameters.length) = some 1) := ⟨gt_in 13 (by decide +kernel) rfl, gt_in 1277 (by rfl) rfl, by decide +kernel⟩
set_option maxRecDepth 100000 in
theorem kS_Md_isDigit : Cond.static m_Md_isDigit.1 ∈ gtbl := gt_in 1276 (by decide +kernel) rfl
set_option maxRecDepth 100000 in
theorem kA_Md_here : Cond.initialized m_Md_here.1.cls ∈ gtbl ∧ Cond.code m_Md_here.1 m_Md_here.2.1 m_Md_here.2.2.1 m_Md_here.2.2.2.1 ∈ gtbl ∧ (m_Md_here.1.cls ≠ "java/lang/invoke/MethodHandle" ∧ m_Md_here.1.cls ≠ "java/lang/invoke/VarHandle" ∧ (parseMethodDescriptor m_Md_here.1.desc).map (fun d => d.parameters.length) = some 0) := ⟨gt_in 13 (by decide +kernel) rfl, gt_in 1246 (by rfl) rfl, by decide +kernel⟩
set_option maxRecDepth 100000 in
theorem kV_Md_here : Cond.instanceMethod m_Md_here.1 ∈ gtbl ∧ Cond.selects m_Md_here.1.cls m_Md_here.1 m_Md_here.1 ∈ gtbl ∧ ∃ (T : u_T) (N : Nat), xcl[12]? = some (m_Md_here.1.cls, T, N) := ⟨gt_in 1245 (by decide +kernel) rfl, gt_pv 34 (by decide +kernel) rfl, xT_Md, 52, rfl⟩
set_option maxRecDepth 100000 in
theorem kA_Md_must : Cond.initialized m_Md_must.1.cls ∈ gtbl ∧ Cond.code m_Md_must.1 m_Md_must.2.1 m_Md_must.2.2.1 m_Md_must.2.2.2.1 ∈ gtbl ∧ (m_Md_must.1.cls ≠ "java/lang/invoke/MethodHandle" ∧ m_Md_must.1.cls ≠ "java/lang/invoke/VarHandle" ∧ (parseMethodDescriptor m_Md_must.1.desc).map (fun d => d.parameters.length) = some 1) := ⟨gt_in 13 (by decide +kernel) rfl, gt_in 1285 (by rfl) rfl, by decide +kernel⟩
set_option maxRecDepth 100000 in
theorem kV_Md_must : Cond.instanceMethod m_Md_must.1 ∈ gtbl ∧ Cond.selects m_Md_must.1.cls m_Md_must.1 m_Md_must.1 ∈ gtbl ∧ ∃ (T : u_T) (N : Nat), xcl[12]? = some (m_Md_must.1.cls, T, N) := ⟨gt_in 1284 (by decide +kernel) rfl, gt_pv 41 (by decide +kernel) rfl, xT_Md, 52, rfl⟩
set_option maxRecDepth 100000 in
theorem kA_Md_wordEnd : Cond.initialized m_Md_wordEnd.1.cls ∈ gtbl ∧ Cond.code m_Md_wordEnd.1 m_Md_wordEnd.2.1 m_Md_wordEnd.2.2.1 m_Md_wordEnd.2.2.2.1 ∈ gtbl ∧ (m_Md_wordEnd.1.cls ≠ "java/lang/invoke/MethodHandle" ∧ m_Md_wordEnd.1.cls ≠ "java/lang/invoke/VarHandle" ∧ (parseMethodDescriptor m_Md_wordEnd.1.desc).map (fun d => d.parameters.length) = some 0) := ⟨gt_in 13 (by decide +kernel) rfl, gt_in 1257 (by rfl) rfl, by decide +kernel⟩
set_option maxRecDepth 100000 in
theorem kV_Md_wordEnd : Cond.instanceMethod m_Md_wordEnd.1 ∈ gtbl ∧ Cond.selects m_Md_wordEnd.1.cls m_Md_wordEnd.1 m_Md_wordEnd.1 ∈ gtbl ∧ ∃ (T : u_T) (N : Nat), xcl[12]? = some (m_Md_wordEnd.1.cls, T, N) := ⟨gt_in 1256 (by decide +kernel) rfl, gt_pv 36 (by decide +kernel) rfl, xT_Md, 52, rfl⟩
set_option maxRecDepth 100000 in
theorem kA_Md_spells : Cond.initialized m_Md_spells.1.cls ∈ gtbl ∧ Cond.code m_Md_spells.1 m_Md_spells.2.1 m_Md_spells.2.2.1 m_Md_spells.2.2.2.1 ∈ gtbl ∧ (m_Md_spells.1.cls ≠ "java/lang/invoke/MethodHandle" ∧ m_Md_spells.1.cls ≠ "java/lang/invoke/VarHandle" ∧ (parseMethodDescriptor m_Md_spells.1.desc).map (fun d => d.parameters.length) = some 3) := ⟨gt_in 13 (by decide +kernel) rfl, gt_in 1262 (by rfl) rfl, by decide +kernel⟩
set_option maxRecDepth 100000 in
theorem kV_Md_spells : Cond.instanceMethod m_Md_spells.1 ∈ gtbl ∧ Cond.selects m_Md_spells.1.cls m_Md_spells.1 m_Md_spells.1 ∈ gtbl ∧ ∃ (T : u_T) (N : Nat), xcl[12]? = some (m_Md_spells.1.cls, T, N) := ⟨gt_in 1261 (by decide +kernel) rfl, gt_pv 37 (by decide +kernel) rfl, xT_Md, 52, rfl⟩
set_option maxRecDepth 100000 in
theorem kA_Md_passes : Cond.initialized m_Md_passes.1.cls ∈ gtbl ∧ Cond.code m_Md_passes.1 m_Md_passes.2.1 m_Md_passes.2.2.1 m_Md_passes.2.2.2.1 ∈ gtbl ∧ (m_Md_passes.1.cls ≠ "java/lang/invoke/MethodHandle" ∧ m_Md_passes.1.cls ≠ "java/lang/invoke/VarHandle" ∧ (parseMethodDescriptor m_Md_passes.1.desc).map (fun d => d.parameters.length) = some 2) := ⟨gt_in 13 (by decide +kernel) rfl, gt_in 1270 (by rfl) rfl, by decide +kernel⟩
set_option maxRecDepth 100000 in
theorem kV_Md_passes : Cond.instanceMethod m_Md_passes.1 ∈ gtbl ∧ Cond.selects m_Md_passes.1.cls m_Md_passes.1 m_Md_passes.1 ∈ gtbl ∧ ∃ (T : u_T) (N : Nat), xcl[12]? = some (m_Md_passes.1.cls, T, N) := ⟨gt_in 1269 (by decide +kernel) rfl, gt_pv 38 (by decide +kernel) rfl, xT_Md, 52, rfl⟩
set_option maxRecDepth 100000 in
theorem kA_Md_digits : Cond.initialized m_Md_digits.1.cls ∈ gtbl ∧ Cond.code m_Md_digits.1 m_Md_digits.2.1 m_Md_digits.2.2.1 m_Md_digits.2.2.2.1 ∈ gtbl ∧ (m_Md_digits.1.cls ≠ "java/lang/invoke/MethodHandle" ∧ m_Md_digits.1.cls ≠ "java/lang/invoke/VarHandle" ∧ (parseMethodDescriptor m_Md_digits.1.desc).map (fun d => d.parameters.length) = some 0) := ⟨gt_in 13 (by decide +kernel) rfl, gt_in 1274 (by rfl) rfl, by decide +kernel⟩
set_option maxRecDepth 100000 in
theorem kV_Md_digits : Cond.instanceMethod m_Md_digits.1 ∈ gtbl ∧ Cond.selects m_Md_digits.1.cls m_Md_digits.1 m_Md_digits.1 ∈ gtbl ∧ ∃ (T : u_T) (N : Nat), xcl[12]? = some (m_Md_digits.1.cls, T, N) := ⟨gt_in 1273 (by decide +kernel) rfl, gt_pv 39 (by decide +kernel) rfl, xT_Md, 52, rfl⟩
set_option maxRecDepth 100000 in
theorem kA_Md_number : Cond.initialized m_Md_number.1.cls ∈ gtbl ∧ Cond.code m_Md_number.1 m_Md_number.2.1 m_Md_number.2.2.1 m_Md_number.2.2.2.1 ∈ gtbl ∧ (m_Md_number.1.cls ≠ "java/lang/invoke/MethodHandle" ∧ m_Md_number.1.cls ≠ "java/lang/invoke/VarHandle" ∧ (parseMethodDescriptor m_Md_number.1.desc).map (fun d => d.parameters.length) = some 2) := ⟨gt_in 13 (by decide +kernel) rfl, gt_in 1332 (by rfl) rfl, by decide +kernel⟩
set_option maxRecDepth 100000 in
theorem kV_Md_number : Cond.instanceMethod m_Md_number.1 ∈ gtbl ∧ Cond.selects m_Md_number.1.cls m_Md_number.1 m_Md_number.1 ∈ gtbl ∧ ∃ (T : u_T) (N : Nat), xcl[12]? = some (m_Md_number.1.cls, T, N) := ⟨gt_in 1331 (by decide +kernel) rfl, gt_pv 46 (by decide +kernel) rfl, xT_Md, 52, rfl⟩
set_option maxRecDepth 100000 in
theorem kA_Md_begins : Cond.initialized m_Md_begins.1.cls ∈ gtbl ∧ Cond.code m_Md_begins.1 m_Md_begins.2.1 m_Md_begins.2.2.1 m_Md_begins.2.2.2.1 ∈ gtbl ∧ (m_Md_begins.1.cls ≠ "java/lang/invoke/MethodHandle" ∧ m_Md_begins.1.cls ≠ "java/lang/invoke/VarHandle" ∧ (parseMethodDescriptor m_Md_begins.1.desc).map (fun d => d.parameters.length) = some 0) := ⟨gt_in 13 (by decide +kernel) rfl, gt_in 1238 (by rfl) rfl, by decide +kernel⟩
set_option maxRecDepth 100000 in
theorem kV_Md_begins : Cond.instanceMethod m_Md_begins.1 ∈ gtbl ∧ Cond.selects m_Md_begins.1.cls m_Md_begins.1 m_Md_begins.1 ∈ gtbl ∧ ∃ (T : u_T) (N : Nat), xcl[12]? = some (m_Md_begins.1.cls, T, N) := ⟨gt_in 1237 (by decide +kernel) rfl, gt_pv 32 (by decide +kernel) rfl, xT_Md, 52, rfl⟩
set_option maxRecDepth 100000 in
theorem kA_Md_ends : Cond.initialized m_Md_ends.1.cls ∈ gtbl ∧ Cond.code m_Md_ends.1 m_Md_ends.2.1 m_Md_ends.2.2.1 m_Md_ends.2.2.2.1 ∈ gtbl ∧ (m_Md_ends.1.cls ≠ "java/lang/invoke/MethodHandle" ∧ m_Md_ends.1.cls ≠ "java/lang/invoke/VarHandle" ∧ (parseMethodDescriptor m_Md_ends.1.desc).map (fun d => d.parameters.length) = some 0) := ⟨gt_in 13 (by decide +kernel) rfl, gt_in 1281 (by rfl) rfl, by decide +kernel⟩
set_option maxRecDepth 100000 in
theorem kV_Md_ends : Cond.instanceMethod m_Md_ends.1 ∈ gtbl ∧ Cond.selects m_Md_ends.1.cls m_Md_ends.1 m_Md_ends.1 ∈ gtbl ∧ ∃ (T : u_T) (N : Nat), xcl[12]? = some (m_Md_ends.1.cls, T, N) := ⟨gt_in 1280 (by decide +kernel) rfl, gt_pv 40 (by decide +kernel) rfl, xT_Md, 52, rfl⟩
set_option maxRecDepth 100000 in
theorem kA_Md_fault : Cond.initialized m_Md_fault.1.cls ∈ gtbl ∧ Cond.code m_Md_fault.1 m_Md_fault.2.1 m_Md_fault.2.2.1 m_Md_fault.2.2.2.1 ∈ gtbl ∧ (m_Md_fault.1.cls ≠ "java/lang/invoke/MethodHandle" ∧ m_Md_fault.1.cls ≠ "java/lang/invoke/VarHandle" ∧ (parseMethodDescriptor m_Md_fault.1.desc).map (fun d => d.parameters.length) = some 1) := ⟨gt_in 13 (by decide +kernel) rfl, gt_in 1230 (by rfl) rfl, by decide +kernel⟩
set_option maxRecDepth 100000 in
theorem kV_Md_fault : Cond.instanceMethod m_Md_fault.1 ∈ gtbl ∧ Cond.selects m_Md_fault.1.cls m_Md_fault.1 m_Md_fault.1 ∈ gtbl ∧ ∃ (T : u_T) (N : Nat), xcl[12]? = some (m_Md_fault.1.cls, T, N) := ⟨gt_in 1228 (by decide +kernel) rfl, gt_in 1229 (by decide +kernel) rfl, xT_Md, 52, rfl⟩
set_option maxRecDepth 100000 in
theorem kA_Md_isPart : Cond.initialized m_Md_isPart.1.cls ∈ gtbl ∧ Cond.code m_Md_isPart.1 m_Md_isPart.2.1 m_Md_isPart.2.2.1 m_Md_isPart.2.2.2.1 ∈ gtbl ∧ (m_Md_isPart.1.cls ≠ "java/lang/invoke/MethodHandle" ∧ m_Md_isPart.1.cls ≠ "java/lang/invoke/VarHandle" ∧ (parseMethodDescriptor m_Md_isPart.1.desc).map (fun d => d.parameters.length) = some 1) := ⟨gt_in 13 (by decide +kernel) rfl, gt_in 1292 (by rfl) rfl, by decide +kernel⟩
set_option maxRecDepth 100000 in
theorem kS_Md_isPart : Cond.static m_Md_isPart.1 ∈ gtbl := gt_in 1291 (by decide +kernel) rfl
set_option maxRecDepth 100000 in
theorem kA_Md_isEdition : Cond.initialized m_Md_isEdition.1.cls ∈ gtbl ∧ Cond.code m_Md_isEdition.1 m_Md_isEdition.2.1 m_Md_isEdition.2.2.1 m_Md_isEdition.2.2.2.1 ∈ gtbl ∧ (m_Md_isEdition.1.cls ≠ "java/lang/invoke/MethodHandle" ∧ m_Md_isEdition.1.cls ≠ "java/lang/invoke/VarHandle" ∧ (parseMethodDescriptor m_Md_isEdition.1.desc).map (fun d => d.parameters.length) = some 2) := ⟨gt_in 13 (by decide +kernel) rfl, gt_in 1289 (by rfl) rfl, by decide +kernel⟩
set_option maxRecDepth 100000 in
theorem kV_Md_isEdition : Cond.instanceMethod m_Md_isEdition.1 ∈ gtbl ∧ Cond.selects m_Md_isEdition.1.cls m_Md_isEdition.1 m_Md_isEdition.1 ∈ gtbl ∧ ∃ (T : u_T) (N : Nat), xcl[12]? = some (m_Md_isEdition.1.cls, T, N) := ⟨gt_in 1288 (by decide +kernel) rfl, gt_pv 42 (by decide +kernel) rfl, xT_Md, 52, rfl⟩
set_option maxRecDepth 100000 in
theorem kA_Md_name : Cond.initialized m_Md_name.1.cls ∈ gtbl ∧ Cond.code m_Md_name.1 m_Md_name.2.1 m_Md_name.2.2.1 m_Md_name.2.2.2.1 ∈ gtbl ∧ (m_Md_name.1.cls ≠ "java/lang/invoke/MethodHandle" ∧ m_Md_name.1.cls ≠ "java/lang/invoke/VarHandle" ∧ (parseMethodDescriptor m_Md_name.1.desc).map (fun d => d.parameters.length) = some 1) := ⟨gt_in 13 (by decide +kernel) rfl, gt_in 1242 (by rfl) rfl, by decide +kernel⟩
set_option maxRecDepth 100000 in
theorem kV_Md_name : Cond.instanceMethod m_Md_name.1 ∈ gtbl ∧ Cond.selects m_Md_name.1.cls m_Md_name.1 m_Md_name.1 ∈ gtbl ∧ ∃ (T : u_T) (N : Nat), xcl[12]? = some (m_Md_name.1.cls, T, N) := ⟨gt_in 1241 (by decide +kernel) rfl, gt_pv 33 (by decide +kernel) rfl, xT_Md, 52, rfl⟩
set_option maxRecDepth 100000 in
theorem kA_Md_fact : Cond.initialized m_Md_fact.1.cls ∈ gtbl ∧ Cond.code m_Md_fact.1 m_Md_fact.2.1 m_Md_fact.2.2.1 m_Md_fact.2.2.2.1 ∈ gtbl ∧ (m_Md_fact.1.cls ≠ "java/lang/invoke/MethodHandle" ∧ m_Md_fact.1.cls ≠ "java/lang/invoke/VarHandle" ∧ (parseMethodDescriptor m_Md_fact.1.desc).map (fun d => d.parameters.length) = some 2) := ⟨gt_in 13 (by decide +kernel) rfl, gt_in 1234 (by rfl) rfl, by decide +kernel⟩
set_option maxRecDepth 100000 in
theorem kV_Md_fact : Cond.instanceMethod m_Md_fact.1 ∈ gtbl ∧ Cond.selects m_Md_fact.1.cls m_Md_fact.1 m_Md_fact.1 ∈ gtbl ∧ ∃ (T : u_T) (N : Nat), xcl[12]? = some (m_Md_fact.1.cls, T, N) := ⟨gt_in 1232 (by decide +kernel) rfl, gt_in 1233 (by decide +kernel) rfl, xT_Md, 52, rfl⟩
set_option maxRecDepth 100000 in
theorem kA_Md_strike : Cond.initialized m_Md_strike.1.cls ∈ gtbl ∧ Cond.code m_Md_strike.1 m_Md_strike.2.1 m_Md_strike.2.2.1 m_Md_strike.2.2.2.1 ∈ gtbl ∧ (m_Md_strike.1.cls ≠ "java/lang/invoke/MethodHandle" ∧ m_Md_strike.1.cls ≠ "java/lang/invoke/VarHandle" ∧ (parseMethodDescriptor m_Md_strike.1.desc).map (fun d => d.parameters.length) = some 2) := ⟨gt_in 13 (by decide +kernel) rfl, gt_in 1296 (by rfl) rfl, by decide +kernel⟩
set_option maxRecDepth 100000 in
theorem kV_Md_strike : Cond.instanceMethod m_Md_strike.1 ∈ gtbl ∧ Cond.selects m_Md_strike.1.cls m_Md_strike.1 m_Md_strike.1 ∈ gtbl ∧ ∃ (T : u_T) (N : Nat), xcl[12]? = some (m_Md_strike.1.cls, T, N) := ⟨gt_in 1294 (by decide +kernel) rfl, gt_in 1295 (by decide +kernel) rfl, xT_Md, 52, rfl⟩
set_option maxRecDepth 100000 in
theorem kA_Md_isAlike : Cond.initialized m_Md_isAlike.1.cls ∈ gtbl ∧ Cond.code m_Md_isAlike.1 m_Md_isAlike.2.1 m_Md_isAlike.2.2.1 m_Md_isAlike.2.2.2.1 ∈ gtbl ∧ (m_Md_isAlike.1.cls ≠ "java/lang/invoke/MethodHandle" ∧ m_Md_isAlike.1.cls ≠ "java/lang/invoke/VarHandle" ∧ (parseMethodDescriptor m_Md_isAlike.1.desc).map (fun d => d.parameters.length) = some 3) := ⟨gt_in 13 (by decide +kernel) rfl, gt_in 1308 (by rfl) rfl, by decide +kernel⟩
set_option maxRecDepth 100000 in
theorem kV_Md_isAlike : Cond.instanceMethod m_Md_isAlike.1 ∈ gtbl ∧ Cond.selects m_Md_isAlike.1.cls m_Md_isAlike.1 m_Md_isAlike.1 ∈ gtbl ∧ ∃ (T : u_T) (N : Nat), xcl[12]? = some (m_Md_isAlike.1.cls, T, N) := ⟨gt_in 1307 (by decide +kernel) rfl, gt_pv 44 (by decide +kernel) rfl, xT_Md, 52, rfl⟩
set_option maxRecDepth 100000 in
theorem kA_Md_quarrels0 : Cond.initialized m_Md_quarrels0.1.cls ∈ gtbl ∧ Cond.code m_Md_quarrels0.1 m_Md_quarrels0.2.1 m_Md_quarrels0.2.2.1 m_Md_quarrels0.2.2.2.1 ∈ gtbl ∧ (m_Md_quarrels0.1.cls ≠ "java/lang/invoke/MethodHandle" ∧ m_Md_quarrels0.1.cls ≠ "java/lang/invoke/VarHandle" ∧ (parseMethodDescriptor m_Md_quarrels0.1.desc).map (fun d => d.parameters.length) = some 2) := ⟨gt_in 13 (by decide +kernel) rfl, gt_in 1304 (by rfl) rfl, by decide +kernel⟩
set_option maxRecDepth 100000 in
theorem kV_Md_quarrels0 : Cond.instanceMethod m_Md_quarrels0.1 ∈ gtbl ∧ Cond.selects m_Md_quarrels0.1.cls m_Md_quarrels0.1 m_Md_quarrels0.1 ∈ gtbl ∧ ∃ (T : u_T) (N : Nat), xcl[12]? = some (m_Md_quarrels0.1.cls, T, N) := ⟨gt_in 1303 (by decide +kernel) rfl, gt_pv 43 (by decide +kernel) rfl, xT_Md, 52, rfl⟩
set_option maxRecDepth 100000 in
theorem kA_Md_quarrel : Cond.initialized m_Md_quarrel.1.cls ∈ gtbl ∧ Cond.code m_Md_quarrel.1 m_Md_quarrel.2.1 m_Md_quarrel.2.2.1 m_Md_quarrel.2.2.2.1 ∈ gtbl ∧ (m_Md_quarrel.1.cls ≠ "java/lang/invoke/MethodHandle" ∧ m_Md_quarrel.1.cls ≠ "java/lang/invoke/VarHandle" ∧ (parseMethodDescriptor m_Md_quarrel.1.desc).map (fun d => d.parameters.length) = some 2) := ⟨gt_in 13 (by decide +kernel) rfl, gt_in 1300 (by rfl) rfl, by decide +kernel⟩
set_option maxRecDepth 100000 in
theorem kV_Md_quarrel : Cond.instanceMethod m_Md_quarrel.1 ∈ gtbl ∧ Cond.selects m_Md_quarrel.1.cls m_Md_quarrel.1 m_Md_quarrel.1 ∈ gtbl ∧ ∃ (T : u_T) (N : Nat), xcl[12]? = some (m_Md_quarrel.1.cls, T, N) := ⟨gt_in 1298 (by decide +kernel) rfl, gt_in 1299 (by decide +kernel) rfl, xT_Md, 52, rfl⟩
set_option maxRecDepth 100000 in
theorem kA_Md_stands2 : Cond.initialized m_Md_stands2.1.cls ∈ gtbl ∧ Cond.code m_Md_stands2.1 m_Md_stands2.2.1 m_Md_stands2.2.2.1 m_Md_stands2.2.2.2.1 ∈ gtbl ∧ (m_Md_stands2.1.cls ≠ "java/lang/invoke/MethodHandle" ∧ m_Md_stands2.1.cls ≠ "java/lang/invoke/VarHandle" ∧ (parseMethodDescriptor m_Md_stands2.1.desc).map (fun d => d.parameters.length) = some 2) := ⟨gt_in 13 (by decide +kernel) rfl, gt_in 1316 (by rfl) rfl, by decide +kernel⟩
set_option maxRecDepth 100000 in
theorem kV_Md_stands2 : Cond.instanceMethod m_Md_stands2.1 ∈ gtbl ∧ Cond.selects m_Md_stands2.1.cls m_Md_stands2.1 m_Md_stands2.1 ∈ gtbl ∧ ∃ (T : u_T) (N : Nat), xcl[12]? = some (m_Md_stands2.1.cls, T, N) := ⟨gt_in 1315 (by decide +kernel) rfl, gt_pv 45 (by decide +kernel) rfl, xT_Md, 52, rfl⟩
set_option maxRecDepth 100000 in
theorem kA_Md_quarrels : Cond.initialized m_Md_quarrels.1.cls ∈ gtbl ∧ Cond.code m_Md_quarrels.1 m_Md_quarrels.2.1 m_Md_quarrels.2.2.1 m_Md_quarrels.2.2.2.1 ∈ gtbl ∧ (m_Md_quarrels.1.cls ≠ "java/lang/invoke/MethodHandle" ∧ m_Md_quarrels.1.cls ≠ "java/lang/invoke/VarHandle" ∧ (parseMethodDescriptor m_Md_quarrels.1.desc).map (fun d => d.parameters.length) = some 1) := ⟨gt_in 13 (by decide +kernel) rfl, gt_in 1312 (by rfl) rfl, by decide +kernel⟩
set_option maxRecDepth 100000 in
theorem kV_Md_quarrels : Cond.instanceMethod m_Md_quarrels.1 ∈ gtbl ∧ Cond.selects m_Md_quarrels.1.cls m_Md_quarrels.1 m_Md_quarrels.1 ∈ gtbl ∧ ∃ (T : u_T) (N : Nat), xcl[12]? = some (m_Md_quarrels.1.cls, T, N) := ⟨gt_in 1310 (by decide +kernel) rfl, gt_in 1311 (by decide +kernel) rfl, xT_Md, 52, rfl⟩
set_option maxRecDepth 100000 in
theorem kA_Md_found : Cond.initialized m_Md_found.1.cls ∈ gtbl ∧ Cond.code m_Md_found.1 m_Md_found.2.1 m_Md_found.2.2.1 m_Md_found.2.2.2.1 ∈ gtbl ∧ (m_Md_found.1.cls ≠ "java/lang/invoke/MethodHandle" ∧ m_Md_found.1.cls ≠ "java/lang/invoke/VarHandle" ∧ (parseMethodDescriptor m_Md_found.1.desc).map (fun d => d.parameters.length) = some 2) := ⟨gt_in 13 (by decide +kernel) rfl, gt_in 1320 (by rfl) rfl, by decide +kernel⟩
set_option maxRecDepth 100000 in
theorem kV_Md_found : Cond.instanceMethod m_Md_found.1 ∈ gtbl ∧ Cond.selects m_Md_found.1.cls m_Md_found.1 m_Md_found.1 ∈ gtbl ∧ ∃ (T : u_T) (N : Nat), xcl[12]? = some (m_Md_found.1.cls, T, N) := ⟨gt_in 1318 (by decide +kernel) rfl, gt_in 1319 (by decide +kernel) rfl, xT_Md, 52, rfl⟩
set_option maxRecDepth 100000 in
theorem kA_Md_mend : Cond.initialized m_Md_mend.1.cls ∈ gtbl ∧ Cond.code m_Md_mend.1 m_Md_mend.2.1 m_Md_mend.2.2.1 m_Md_mend.2.2.2.1 ∈ gtbl ∧ (m_Md_mend.1.cls ≠ "java/lang/invoke/MethodHandle" ∧ m_Md_mend.1.cls ≠ "java/lang/invoke/VarHandle" ∧ (parseMethodDescriptor m_Md_mend.1.desc).map (fun d => d.parameters.length) = some 1) := ⟨gt_in 13 (by decide +kernel) rfl, gt_in 1324 (by rfl) rfl, by decide +kernel⟩
set_option maxRecDepth 100000 in
theorem kV_Md_mend : Cond.instanceMethod m_Md_mend.1 ∈ gtbl ∧ Cond.selects m_Md_mend.1.cls m_Md_mend.1 m_Md_mend.1 ∈ gtbl ∧ ∃ (T : u_T) (N : Nat), xcl[12]? = some (m_Md_mend.1.cls, T, N) := ⟨gt_in 1322 (by decide +kernel) rfl, gt_in 1323 (by decide +kernel) rfl, xT_Md, 52, rfl⟩
set_option maxRecDepth 100000 in
theorem kA_Md_agree : Cond.initialized m_Md_agree.1.cls ∈ gtbl ∧ Cond.code m_Md_agree.1 m_Md_agree.2.1 m_Md_agree.2.2.1 m_Md_agree.2.2.2.1 ∈ gtbl ∧ (m_Md_agree.1.cls ≠ "java/lang/invoke/MethodHandle" ∧ m_Md_agree.1.cls ≠ "java/lang/invoke/VarHandle" ∧ (parseMethodDescriptor m_Md_agree.1.desc).map (fun d => d.parameters.length) = some 1) := ⟨gt_in 13 (by decide +kernel) rfl, gt_in 1328 (by rfl) rfl, by decide +kernel⟩
set_option maxRecDepth 100000 in
theorem kV_Md_agree : Cond.instanceMethod m_Md_agree.1 ∈ gtbl ∧ Cond.selects m_Md_agree.1.cls m_Md_agree.1 m_Md_agree.1 ∈ gtbl ∧ ∃ (T : u_T) (N : Nat), xcl[12]? = some (m_Md_agree.1.cls, T, N) := ⟨gt_in 1326 (by decide +kernel) rfl, gt_in 1327 (by decide +kernel) rfl, xT_Md, 52, rfl⟩
set_option maxRecDepth 100000 in
theorem kA_Md_agreed : Cond.initialized m_Md_agreed.1.cls ∈ gtbl ∧ Cond.code m_Md_agreed.1 m_Md_agreed.2.1 m_Md_agreed.2.2.1 m_Md_agreed.2.2.2.1 ∈ gtbl ∧ (m_Md_agreed.1.cls ≠ "java/lang/invoke/MethodHandle" ∧ m_Md_agreed.1.cls ≠ "java/lang/invoke/VarHandle" ∧ (parseMethodDescriptor m_Md_agreed.1.desc).map (fun d => d.parameters.length) = some 1) := ⟨gt_in 13 (by decide +kernel) rfl, gt_in 1340 (by rfl) rfl, by decide +kernel⟩
set_option maxRecDepth 100000 in
theorem kV_Md_agreed : Cond.instanceMethod m_Md_agreed.1 ∈ gtbl ∧ Cond.selects m_Md_agreed.1.cls m_Md_agreed.1 m_Md_agreed.1 ∈ gtbl ∧ ∃ (T : u_T) (N : Nat), xcl[12]? = some (m_Md_agreed.1.cls, T, N) := ⟨gt_in 1338 (by decide +kernel) rfl, gt_in 1339 (by decide +kernel) rfl, xT_Md, 52, rfl⟩
set_option maxRecDepth 100000 in
theorem kA_Md_share : Cond.initialized m_Md_share.1.cls ∈ gtbl ∧ Cond.code m_Md_share.1 m_Md_share.2.1 m_Md_share.2.2.1 m_Md_share.2.2.2.1 ∈ gtbl ∧ (m_Md_share.1.cls ≠ "java/lang/invoke/MethodHandle" ∧ m_Md_share.1.cls ≠ "java/lang/invoke/VarHandle" ∧ (parseMethodDescriptor m_Md_share.1.desc).map (fun d => d.parameters.length) = some 1) := ⟨gt_in 13 (by decide +kernel) rfl, gt_in 1344 (by rfl) rfl, by decide +kernel⟩
set_option maxRecDepth 100000 in
theorem kV_Md_share : Cond.instanceMethod m_Md_share.1 ∈ gtbl ∧ Cond.selects m_Md_share.1.cls m_Md_share.1 m_Md_share.1 ∈ gtbl ∧ ∃ (T : u_T) (N : Nat), xcl[12]? = some (m_Md_share.1.cls, T, N) := ⟨gt_in 1342 (by decide +kernel) rfl, gt_in 1343 (by decide +kernel) rfl, xT_Md, 52, rfl⟩
set_option maxRecDepth 100000 in
theorem kA_Md_lateDays : Cond.initialized m_Md_lateDays.1.cls ∈ gtbl ∧ Cond.code m_Md_lateDays.1 m_Md_lateDays.2.1 m_Md_lateDays.2.2.1 m_Md_lateDays.2.2.2.1 ∈ gtbl ∧ (m_Md_lateDays.1.cls ≠ "java/lang/invoke/MethodHandle" ∧ m_Md_lateDays.1.cls ≠ "java/lang/invoke/VarHandle" ∧ (parseMethodDescriptor m_Md_lateDays.1.desc).map (fun d => d.parameters.length) = some 1) := ⟨gt_in 13 (by decide +kernel) rfl, gt_in 1351 (by rfl) rfl, by decide +kernel⟩
set_option maxRecDepth 100000 in
theorem kV_Md_lateDays : Cond.instanceMethod m_Md_lateDays.1 ∈ gtbl ∧ Cond.selects m_Md_lateDays.1.cls m_Md_lateDays.1 m_Md_lateDays.1 ∈ gtbl ∧ ∃ (T : u_T) (N : Nat), xcl[12]? = some (m_Md_lateDays.1.cls, T, N) := ⟨gt_in 1350 (by decide +kernel) rfl, gt_pv 47 (by decide +kernel) rfl, xT_Md, 52, rfl⟩
set_option maxRecDepth 100000 in
theorem kA_Md_due : Cond.initialized m_Md_due.1.cls ∈ gtbl ∧ Cond.code m_Md_due.1 m_Md_due.2.1 m_Md_due.2.2.1 m_Md_due.2.2.2.1 ∈ gtbl ∧ (m_Md_due.1.cls ≠ "java/lang/invoke/MethodHandle" ∧ m_Md_due.1.cls ≠ "java/lang/invoke/VarHandle" ∧ (parseMethodDescriptor m_Md_due.1.desc).map (fun d => d.parameters.length) = some 1) := ⟨gt_in 13 (by decide +kernel) rfl, gt_in 1355 (by rfl) rfl, by decide +kernel⟩
set_option maxRecDepth 100000 in
theorem kV_Md_due : Cond.instanceMethod m_Md_due.1 ∈ gtbl ∧ Cond.selects m_Md_due.1.cls m_Md_due.1 m_Md_due.1 ∈ gtbl ∧ ∃ (T : u_T) (N : Nat), xcl[12]? = some (m_Md_due.1.cls, T, N) := ⟨gt_in 1353 (by decide +kernel) rfl, gt_in 1354 (by decide +kernel) rfl, xT_Md, 52, rfl⟩
set_option maxRecDepth 100000 in
theorem kA_Md_start : Cond.initialized m_Md_start.1.cls ∈ gtbl ∧ Cond.code m_Md_start.1 m_Md_start.2.1 m_Md_start.2.2.1 m_Md_start.2.2.2.1 ∈ gtbl ∧ (m_Md_start.1.cls ≠ "java/lang/invoke/MethodHandle" ∧ m_Md_start.1.cls ≠ "java/lang/invoke/VarHandle" ∧ (parseMethodDescriptor m_Md_start.1.desc).map (fun d => d.parameters.length) = some 1) := ⟨gt_in 13 (by decide +kernel) rfl, gt_in 1360 (by rfl) rfl, by decide +kernel⟩
set_option maxRecDepth 100000 in
theorem kV_Md_start : Cond.instanceMethod m_Md_start.1 ∈ gtbl ∧ Cond.selects m_Md_start.1.cls m_Md_start.1 m_Md_start.1 ∈ gtbl ∧ ∃ (T : u_T) (N : Nat), xcl[12]? = some (m_Md_start.1.cls, T, N) := ⟨gt_in 1358 (by decide +kernel) rfl, gt_in 1359 (by decide +kernel) rfl, xT_Md, 52, rfl⟩
set_option maxRecDepth 100000 in
theorem kA_Md_came : Cond.initialized m_Md_came.1.cls ∈ gtbl ∧ Cond.code m_Md_came.1 m_Md_came.2.1 m_Md_came.2.2.1 m_Md_came.2.2.2.1 ∈ gtbl ∧ (m_Md_came.1.cls ≠ "java/lang/invoke/MethodHandle" ∧ m_Md_came.1.cls ≠ "java/lang/invoke/VarHandle" ∧ (parseMethodDescriptor m_Md_came.1.desc).map (fun d => d.parameters.length) = some 2) := ⟨gt_in 13 (by decide +kernel) rfl, gt_in 1364 (by rfl) rfl, by decide +kernel⟩
set_option maxRecDepth 100000 in
theorem kV_Md_came : Cond.instanceMethod m_Md_came.1 ∈ gtbl ∧ Cond.selects m_Md_came.1.cls m_Md_came.1 m_Md_came.1 ∈ gtbl ∧ ∃ (T : u_T) (N : Nat), xcl[12]? = some (m_Md_came.1.cls, T, N) := ⟨gt_in 1362 (by decide +kernel) rfl, gt_in 1363 (by decide +kernel) rfl, xT_Md, 52, rfl⟩
set_option maxRecDepth 100000 in
theorem kA_Md_prices : Cond.initialized m_Md_prices.1.cls ∈ gtbl ∧ Cond.code m_Md_prices.1 m_Md_prices.2.1 m_Md_prices.2.2.1 m_Md_prices.2.2.2.1 ∈ gtbl ∧ (m_Md_prices.1.cls ≠ "java/lang/invoke/MethodHandle" ∧ m_Md_prices.1.cls ≠ "java/lang/invoke/VarHandle" ∧ (parseMethodDescriptor m_Md_prices.1.desc).map (fun d => d.parameters.length) = some 4) := ⟨gt_in 13 (by decide +kernel) rfl, gt_in 1368 (by rfl) rfl, by decide +kernel⟩
set_option maxRecDepth 100000 in
theorem kV_Md_prices : Cond.instanceMethod m_Md_prices.1 ∈ gtbl ∧ Cond.selects m_Md_prices.1.cls m_Md_prices.1 m_Md_prices.1 ∈ gtbl ∧ ∃ (T : u_T) (N : Nat), xcl[12]? = some (m_Md_prices.1.cls, T, N) := ⟨gt_in 1366 (by decide +kernel) rfl, gt_in 1367 (by decide +kernel) rfl, xT_Md, 52, rfl⟩
set_option maxRecDepth 100000 in
theorem kA_Md_row : Cond.initialized m_Md_row.1.cls ∈ gtbl ∧ Cond.code m_Md_row.1 m_Md_row.2.1 m_Md_row.2.2.1 m_Md_row.2.2.2.1 ∈ gtbl ∧ (m_Md_row.1.cls ≠ "java/lang/invoke/MethodHandle" ∧ m_Md_row.1.cls ≠ "java/lang/invoke/VarHandle" ∧ (parseMethodDescriptor m_Md_row.1.desc).map (fun d => d.parameters.length) = some 2) := ⟨gt_in 13 (by decide +kernel) rfl, gt_in 1375 (by rfl) rfl, by decide +kernel⟩
set_option maxRecDepth 100000 in
theorem kS_Md_row : Cond.static m_Md_row.1 ∈ gtbl := gt_in 1374 (by decide +kernel) rfl
set_option maxRecDepth 100000 in
theorem kA_Md_stays : Cond.initialized m_Md_stays.1.cls ∈ gtbl ∧ Cond.code m_Md_stays.1 m_Md_stays.2.1 m_Md_stays.2.2.1 m_Md_stays.2.2.2.1 ∈ gtbl ∧ (m_Md_stays.1.cls ≠ "java/lang/invoke/MethodHandle" ∧ m_Md_stays.1.cls ≠ "java/lang/invoke/VarHandle" ∧ (parseMethodDescriptor m_Md_stays.1.desc).map (fun d => d.parameters.length) = some 2) := ⟨gt_in 13 (by decide +kernel) rfl, gt_in 1387 (by rfl) rfl, by decide +kernel⟩
set_option maxRecDepth 100000 in
theorem kV_Md_stays : Cond.instanceMethod m_Md_stays.1 ∈ gtbl ∧ Cond.selects m_Md_stays.1.cls m_Md_stays.1 m_Md_stays.1 ∈ gtbl ∧ ∃ (T : u_T) (N : Nat), xcl[12]? = some (m_Md_stays.1.cls, T, N) := ⟨gt_in 1386 (by decide +kernel) rfl, gt_pv 48 (by decide +kernel) rfl, xT_Md, 52, rfl⟩
set_option maxRecDepth 100000 in
theorem kA_Md_keep : Cond.initialized m_Md_keep.1.cls ∈ gtbl ∧ Cond.code m_Md_keep.1 m_Md_keep.2.1 m_Md_keep.2.2.1 m_Md_keep.2.2.2.1 ∈ gtbl ∧ (m_Md_keep.1.cls ≠ "java/lang/invoke/MethodHandle" ∧ m_Md_keep.1.cls ≠ "java/lang/invoke/VarHandle" ∧ (parseMethodDescriptor m_Md_keep.1.desc).map (fun d => d.parameters.length) = some 3) := ⟨gt_in 13 (by decide +kernel) rfl, gt_in 1372 (by rfl) rfl, by decide +kernel⟩
set_option maxRecDepth 100000 in
theorem kV_Md_keep : Cond.instanceMethod m_Md_keep.1 ∈ gtbl ∧ Cond.selects m_Md_keep.1.cls m_Md_keep.1 m_Md_keep.1 ∈ gtbl ∧ ∃ (T : u_T) (N : Nat), xcl[12]? = some (m_Md_keep.1.cls, T, N) := ⟨gt_in 1370 (by decide +kernel) rfl, gt_in 1371 (by decide +kernel) rfl, xT_Md, 52, rfl⟩
set_option maxRecDepth 100000 in
theorem kA_Md_print : Cond.initialized m_Md_print.1.cls ∈ gtbl ∧ Cond.code m_Md_print.1 m_Md_print.2.1 m_Md_print.2.2.1 m_Md_print.2.2.2.1 ∈ gtbl ∧ (m_Md_print.1.cls ≠ "java/lang/invoke/MethodHandle" ∧ m_Md_print.1.cls ≠ "java/lang/invoke/VarHandle" ∧ (parseMethodDescriptor m_Md_print.1.desc).map (fun d => d.parameters.length) = some 3) := ⟨gt_in 13 (by decide +kernel) rfl, gt_in 1379 (by rfl) rfl, by decide +kernel⟩
set_option maxRecDepth 100000 in
theorem kV_Md_print : Cond.instanceMethod m_Md_print.1 ∈ gtbl ∧ Cond.selects m_Md_print.1.cls m_Md_print.1 m_Md_print.1 ∈ gtbl ∧ ∃ (T : u_T) (N : Nat), xcl[12]? = some (m_Md_print.1.cls, T, N) := ⟨gt_in 1377 (by decide +kernel) rfl, gt_in 1378 (by decide +kernel) rfl, xT_Md, 52, rfl⟩
set_option maxRecDepth 100000 in
theorem kA_Md_sell : Cond.initialized m_Md_sell.1.cls ∈ gtbl ∧ Cond.code m_Md_sell.1 m_Md_sell.2.1 m_Md_sell.2.2.1 m_Md_sell.2.2.2.1 ∈ gtbl ∧ (m_Md_sell.1.cls ≠ "java/lang/invoke/MethodHandle" ∧ m_Md_sell.1.cls ≠ "java/lang/invoke/VarHandle" ∧ (parseMethodDescriptor m_Md_sell.1.desc).map (fun d => d.parameters.length) = some 3) := ⟨gt_in 13 (by decide +kernel) rfl, gt_in 1383 (by rfl) rfl, by decide +kernel⟩
set_option maxRecDepth 100000 in
theorem kV_Md_sell : Cond.instanceMethod m_Md_sell.1 ∈ gtbl ∧ Cond.selects m_Md_sell.1.cls m_Md_sell.1 m_Md_sell.1 ∈ gtbl ∧ ∃ (T : u_T) (N : Nat), xcl[12]? = some (m_Md_sell.1.cls, T, N) := ⟨gt_in 1381 (by decide +kernel) rfl, gt_in 1382 (by decide +kernel) rfl, xT_Md, 52, rfl⟩
set_option maxRecDepth 100000 in
theorem kA_Md_pulp : Cond.initialized m_Md_pulp.1.cls ∈ gtbl ∧ Cond.code m_Md_pulp.1 m_Md_pulp.2.1 m_Md_pulp.2.2.1 m_Md_pulp.2.2.2.1 ∈ gtbl ∧ (m_Md_pulp.1.cls ≠ "java/lang/invoke/MethodHandle" ∧ m_Md_pulp.1.cls ≠ "java/lang/invoke/VarHandle" ∧ (parseMethodDescriptor m_Md_pulp.1.desc).map (fun d => d.parameters.length) = some 2) := ⟨gt_in 13 (by decide +kernel) rfl, gt_in 1391 (by rfl) rfl, by decide +kernel⟩
set_option maxRecDepth 100000 in
theorem kV_Md_pulp : Cond.instanceMethod m_Md_pulp.1 ∈ gtbl ∧ Cond.selects m_Md_pulp.1.cls m_Md_pulp.1 m_Md_pulp.1 ∈ gtbl ∧ ∃ (T : u_T) (N : Nat), xcl[12]? = some (m_Md_pulp.1.cls, T, N) := ⟨gt_in 1389 (by decide +kernel) rfl, gt_in 1390 (by decide +kernel) rfl, xT_Md, 52, rfl⟩
set_option maxRecDepth 100000 in
theorem kA_Md_stock : Cond.initialized m_Md_stock.1.cls ∈ gtbl ∧ Cond.code m_Md_stock.1 m_Md_stock.2.1 m_Md_stock.2.2.1 m_Md_stock.2.2.2.1 ∈ gtbl ∧ (m_Md_stock.1.cls ≠ "java/lang/invoke/MethodHandle" ∧ m_Md_stock.1.cls ≠ "java/lang/invoke/VarHandle" ∧ (parseMethodDescriptor m_Md_stock.1.desc).map (fun d => d.parameters.length) = some 3) := ⟨gt_in 13 (by decide +kernel) rfl, gt_in 1395 (by rfl) rfl, by decide +kernel⟩
set_option maxRecDepth 100000 in
theorem kV_Md_stock : Cond.instanceMethod m_Md_stock.1 ∈ gtbl ∧ Cond.selects m_Md_stock.1.cls m_Md_stock.1 m_Md_stock.1 ∈ gtbl ∧ ∃ (T : u_T) (N : Nat), xcl[12]? = some (m_Md_stock.1.cls, T, N) := ⟨gt_in 1393 (by decide +kernel) rfl, gt_in 1394 (by decide +kernel) rfl, xT_Md, 52, rfl⟩
set_option maxRecDepth 100000 in
theorem kA_Md_volume : Cond.initialized m_Md_volume.1.cls ∈ gtbl ∧ Cond.code m_Md_volume.1 m_Md_volume.2.1 m_Md_volume.2.2.1 m_Md_volume.2.2.2.1 ∈ gtbl ∧ (m_Md_volume.1.cls ≠ "java/lang/invoke/MethodHandle" ∧ m_Md_volume.1.cls ≠ "java/lang/invoke/VarHandle" ∧ (parseMethodDescriptor m_Md_volume.1.desc).map (fun d => d.parameters.length) = some 4) := ⟨gt_in 13 (by decide +kernel) rfl, gt_in 1399 (by rfl) rfl, by decide +kernel⟩
set_option maxRecDepth 100000 in
theorem kV_Md_volume : Cond.instanceMethod m_Md_volume.1 ∈ gtbl ∧ Cond.selects m_Md_volume.1.cls m_Md_volume.1 m_Md_volume.1 ∈ gtbl ∧ ∃ (T : u_T) (N : Nat), xcl[12]? = some (m_Md_volume.1.cls, T, N) := ⟨gt_in 1397 (by decide +kernel) rfl, gt_in 1398 (by decide +kernel) rfl, xT_Md, 52, rfl⟩
set_option maxRecDepth 100000 in
theorem kA_Md_foretell : Cond.initialized m_Md_foretell.1.cls ∈ gtbl ∧ Cond.code m_Md_foretell.1 m_Md_foretell.2.1 m_Md_foretell.2.2.1 m_Md_foretell.2.2.2.1 ∈ gtbl ∧ (m_Md_foretell.1.cls ≠ "java/lang/invoke/MethodHandle" ∧ m_Md_foretell.1.cls ≠ "java/lang/invoke/VarHandle" ∧ (parseMethodDescriptor m_Md_foretell.1.desc).map (fun d => d.parameters.length) = some 2) := ⟨gt_in 13 (by decide +kernel) rfl, gt_in 1403 (by rfl) rfl, by decide +kernel⟩
set_option maxRecDepth 100000 in
theorem kV_Md_foretell : Cond.instanceMethod m_Md_foretell.1 ∈ gtbl ∧ Cond.selects m_Md_foretell.1.cls m_Md_foretell.1 m_Md_foretell.1 ∈ gtbl ∧ ∃ (T : u_T) (N : Nat), xcl[12]? = some (m_Md_foretell.1.cls, T, N) := ⟨gt_in 1401 (by decide +kernel) rfl, gt_in 1402 (by decide +kernel) rfl, xT_Md, 52, rfl⟩
set_option maxRecDepth 100000 in
theorem kA_Md_worth : Cond.initialized m_Md_worth.1.cls ∈ gtbl ∧ Cond.code m_Md_worth.1 m_Md_worth.2.1 m_Md_worth.2.2.1 m_Md_worth.2.2.2.1 ∈ gtbl ∧ (m_Md_worth.1.cls ≠ "java/lang/invoke/MethodHandle" ∧ m_Md_worth.1.cls ≠ "java/lang/invoke/VarHandle" ∧ (parseMethodDescriptor m_Md_worth.1.desc).map (fun d => d.parameters.length) = some 3) := ⟨gt_in 13 (by decide +kernel) rfl, gt_in 1407 (by rfl) rfl, by decide +kernel⟩
set_option maxRecDepth 100000 in
theorem kV_Md_worth : Cond.instanceMethod m_Md_worth.1 ∈ gtbl ∧ Cond.selects m_Md_worth.1.cls m_Md_worth.1 m_Md_worth.1 ∈ gtbl ∧ ∃ (T : u_T) (N : Nat), xcl[12]? = some (m_Md_worth.1.cls, T, N) := ⟨gt_in 1405 (by decide +kernel) rfl, gt_in 1406 (by decide +kernel) rfl, xT_Md, 52, rfl⟩
set_option maxRecDepth 100000 in
theorem kA_Md_best : Cond.initialized m_Md_best.1.cls ∈ gtbl ∧ Cond.code m_Md_best.1 m_Md_best.2.1 m_Md_best.2.2.1 m_Md_best.2.2.2.1 ∈ gtbl ∧ (m_Md_best.1.cls ≠ "java/lang/invoke/MethodHandle" ∧ m_Md_best.1.cls ≠ "java/lang/invoke/VarHandle" ∧ (parseMethodDescriptor m_Md_best.1.desc).map (fun d => d.parameters.length) = some 2) := ⟨gt_in 13 (by decide +kernel) rfl, gt_in 1412 (by rfl) rfl, by decide +kernel⟩
set_option maxRecDepth 100000 in
theorem kV_Md_best : Cond.instanceMethod m_Md_best.1 ∈ gtbl ∧ Cond.selects m_Md_best.1.cls m_Md_best.1 m_Md_best.1 ∈ gtbl ∧ ∃ (T : u_T) (N : Nat), xcl[12]? = some (m_Md_best.1.cls, T, N) := ⟨gt_in 1410 (by decide +kernel) rfl, gt_in 1411 (by decide +kernel) rfl, xT_Md, 52, rfl⟩
set_option maxRecDepth 100000 in
theorem kA_Md_purse : Cond.initialized m_Md_purse.1.cls ∈ gtbl ∧ Cond.code m_Md_purse.1 m_Md_purse.2.1 m_Md_purse.2.2.1 m_Md_purse.2.2.2.1 ∈ gtbl ∧ (m_Md_purse.1.cls ≠ "java/lang/invoke/MethodHandle" ∧ m_Md_purse.1.cls ≠ "java/lang/invoke/VarHandle" ∧ (parseMethodDescriptor m_Md_purse.1.desc).map (fun d => d.parameters.length) = some 0) := ⟨gt_in 13 (by decide +kernel) rfl, gt_in 1417 (by rfl) rfl, by decide +kernel⟩
set_option maxRecDepth 100000 in
theorem kV_Md_purse : Cond.instanceMethod m_Md_purse.1 ∈ gtbl ∧ Cond.selects m_Md_purse.1.cls m_Md_purse.1 m_Md_purse.1 ∈ gtbl ∧ ∃ (T : u_T) (N : Nat), xcl[12]? = some (m_Md_purse.1.cls, T, N) := ⟨gt_in 1415 (by decide +kernel) rfl, gt_in 1416 (by decide +kernel) rfl, xT_Md, 52, rfl⟩
set_option maxRecDepth 100000 in
theorem kA_Jm_maxI : Cond.initialized m_Jm_maxI.1.cls ∈ gtbl ∧ Cond.code m_Jm_maxI.1 m_Jm_maxI.2.1 m_Jm_maxI.2.2.1 m_Jm_maxI.2.2.2.1 ∈ gtbl ∧ (m_Jm_maxI.1.cls ≠ "java/lang/invoke/MethodHandle" ∧ m_Jm_maxI.1.cls ≠ "java/lang/invoke/VarHandle" ∧ (parseMethodDescriptor m_Jm_maxI.1.desc).map (fun d => d.parameters.length) = some 2) := ⟨gt_in 15 (by decide +kernel) rfl, gt_in 847 (by rfl) rfl, by decide +kernel⟩
set_option maxRecDepth 100000 in
theorem kS_Jm_maxI : Cond.static m_Jm_maxI.1 ∈ gtbl := gt_in 846 (by decide +kernel) rfl
set_option maxRecDepth 100000 in
theorem kA_Jm_maxJ : Cond.initialized m_Jm_maxJ.1.cls ∈ gtbl ∧ Cond.code m_Jm_maxJ.1 m_Jm_maxJ.2.1 m_Jm_maxJ.2.2.1 m_Jm_maxJ.2.2.2.1 ∈ gtbl ∧ (m_Jm_maxJ.1.cls ≠ "java/lang/invoke/MethodHandle" ∧ m_Jm_maxJ.1.cls ≠ "java/lang/invoke/VarHandle" ∧ (parseMethodDescriptor m_Jm_maxJ.1.desc).map (fun d => d.parameters.length) = some 2) := ⟨gt_in 15 (by decide +kernel) rfl, gt_in 850 (by rfl) rfl, by decide +kernel⟩
set_option maxRecDepth 100000 in
theorem kS_Jm_maxJ : Cond.static m_Jm_maxJ.1 ∈ gtbl := gt_in 849 (by decide +kernel) rfl
set_option maxRecDepth 100000 in
theorem kA_Jm_minI : Cond.initialized m_Jm_minI.1.cls ∈ gtbl ∧ Cond.code m_Jm_minI.1 m_Jm_minI.2.1 m_Jm_minI.2.2.1 m_Jm_minI.2.2.2.1 ∈ gtbl ∧ (m_Jm_minI.1.cls ≠ "java/lang/invoke/MethodHandle" ∧ m_Jm_minI.1.cls ≠ "java/lang/invoke/VarHandle" ∧ (parseMethodDescriptor m_Jm_minI.1.desc).map (fun d => d.parameters.length) = some 2) := ⟨gt_in 15 (by decide +kernel) rfl, gt_in 440 (by rfl) rfl, by decide +kernel⟩
set_option maxRecDepth 100000 in
theorem kS_Jm_minI : Cond.static m_Jm_minI.1 ∈ gtbl := gt_in 439 (by decide +kernel) rfl
set_option maxRecDepth 100000 in
theorem kA_Jm_minJ : Cond.initialized m_Jm_minJ.1.cls ∈ gtbl ∧ Cond.code m_Jm_minJ.1 m_Jm_minJ.2.1 m_Jm_minJ.2.2.1 m_Jm_minJ.2.2.2.1 ∈ gtbl ∧ (m_Jm_minJ.1.cls ≠ "java/lang/invoke/MethodHandle" ∧ m_Jm_minJ.1.cls ≠ "java/lang/invoke/VarHandle" ∧ (parseMethodDescriptor m_Jm_minJ.1.desc).map (fun d => d.parameters.length) = some 2) := ⟨gt_in 15 (by decide +kernel) rfl, gt_in 827 (by rfl) rfl, by decide +kernel⟩
set_option maxRecDepth 100000 in
theorem kS_Jm_minJ : Cond.static m_Jm_minJ.1 ∈ gtbl := gt_in 826 (by decide +kernel) rfl
set_option maxRecDepth 100000 in
theorem kA_Js_length : Cond.initialized m_Js_length.1.cls ∈ gtbl ∧ Cond.code m_Js_length.1 m_Js_length.2.1 m_Js_length.2.2.1 m_Js_length.2.2.2.1 ∈ gtbl ∧ (m_Js_length.1.cls ≠ "java/lang/invoke/MethodHandle" ∧ m_Js_length.1.cls ≠ "java/lang/invoke/VarHandle" ∧ (parseMethodDescriptor m_Js_length.1.desc).map (fun d => d.parameters.length) = some 0) := ⟨gt_in 16 (by decide +kernel) rfl, gt_in 584 (by rfl) rfl, by decide +kernel⟩
set_option maxRecDepth 100000 in
theorem kA_Js_charAt : Cond.initialized m_Js_charAt.1.cls ∈ gtbl ∧ Cond.code m_Js_charAt.1 m_Js_charAt.2.1 m_Js_charAt.2.2.1 m_Js_charAt.2.2.2.1 ∈ gtbl ∧ (m_Js_charAt.1.cls ≠ "java/lang/invoke/MethodHandle" ∧ m_Js_charAt.1.cls ≠ "java/lang/invoke/VarHandle" ∧ (parseMethodDescriptor m_Js_charAt.1.desc).map (fun d => d.parameters.length) = some 1) := ⟨gt_in 16 (by decide +kernel) rfl, gt_in 594 (by rfl) rfl, by decide +kernel⟩
set_option maxRecDepth 100000 in
theorem kA_Js_coder : Cond.initialized m_Js_coder.1.cls ∈ gtbl ∧ Cond.code m_Js_coder.1 m_Js_coder.2.1 m_Js_coder.2.2.1 m_Js_coder.2.2.2.1 ∈ gtbl ∧ (m_Js_coder.1.cls ≠ "java/lang/invoke/MethodHandle" ∧ m_Js_coder.1.cls ≠ "java/lang/invoke/VarHandle" ∧ (parseMethodDescriptor m_Js_coder.1.desc).map (fun d => d.parameters.length) = some 0) := ⟨gt_in 16 (by decide +kernel) rfl, gt_in 588 (by rfl) rfl, by decide +kernel⟩
set_option maxRecDepth 100000 in
theorem kA_Js_isLatin1 : Cond.initialized m_Js_isLatin1.1.cls ∈ gtbl ∧ Cond.code m_Js_isLatin1.1 m_Js_isLatin1.2.1 m_Js_isLatin1.2.2.1 m_Js_isLatin1.2.2.2.1 ∈ gtbl ∧ (m_Js_isLatin1.1.cls ≠ "java/lang/invoke/MethodHandle" ∧ m_Js_isLatin1.1.cls ≠ "java/lang/invoke/VarHandle" ∧ (parseMethodDescriptor m_Js_isLatin1.1.desc).map (fun d => d.parameters.length) = some 0) := ⟨gt_in 16 (by decide +kernel) rfl, gt_in 598 (by rfl) rfl, by decide +kernel⟩
set_option maxRecDepth 100000 in
theorem kA_Js_checkIndex : Cond.initialized m_Js_checkIndex.1.cls ∈ gtbl ∧ Cond.code m_Js_checkIndex.1 m_Js_checkIndex.2.1 m_Js_checkIndex.2.2.1 m_Js_checkIndex.2.2.2.1 ∈ gtbl ∧ (m_Js_checkIndex.1.cls ≠ "java/lang/invoke/MethodHandle" ∧ m_Js_checkIndex.1.cls ≠ "java/lang/invoke/VarHandle" ∧ (parseMethodDescriptor m_Js_checkIndex.1.desc).map (fun d => d.parameters.length) = some 2) := ⟨gt_in 16 (by decide +kernel) rfl, gt_in 604 (by rfl) rfl, by decide +kernel⟩
set_option maxRecDepth 100000 in
theorem kS_Js_checkIndex : Cond.static m_Js_checkIndex.1 ∈ gtbl := gt_in 603 (by decide +kernel) rfl
set_option maxRecDepth 100000 in
theorem kA_Jl_charAt : Cond.initialized m_Jl_charAt.1.cls ∈ gtbl ∧ Cond.code m_Jl_charAt.1 m_Jl_charAt.2.1 m_Jl_charAt.2.2.1 m_Jl_charAt.2.2.2.1 ∈ gtbl ∧ (m_Jl_charAt.1.cls ≠ "java/lang/invoke/MethodHandle" ∧ m_Jl_charAt.1.cls ≠ "java/lang/invoke/VarHandle" ∧ (parseMethodDescriptor m_Jl_charAt.1.desc).map (fun d => d.parameters.length) = some 2) := ⟨gt_in 17 (by decide +kernel) rfl, gt_in 601 (by rfl) rfl, by decide +kernel⟩
set_option maxRecDepth 100000 in
theorem kS_Jl_charAt : Cond.static m_Jl_charAt.1 ∈ gtbl := gt_in 600 (by decide +kernel) rfl
set_option maxRecDepth 100000 in
theorem kA_Ja_fill : Cond.initialized m_Ja_fill.1.cls ∈ gtbl ∧ Cond.code m_Ja_fill.1 m_Ja_fill.2.1 m_Ja_fill.2.2.1 m_Ja_fill.2.2.2.1 ∈ gtbl ∧ (m_Ja_fill.1.cls ≠ "java/lang/invoke/MethodHandle" ∧ m_Ja_fill.1.cls ≠ "java/lang/invoke/VarHandle" ∧ (parseMethodDescriptor m_Ja_fill.1.desc).map (fun d => d.parameters.length) = some 2) := ⟨gt_in 14 (by decide +kernel) rfl, gt_in 429 (by rfl) rfl, by decide +kernel⟩
set_option maxRecDepth 100000 in
theorem kS_Ja_fill : Cond.static m_Ja_fill.1 ∈ gtbl := gt_in 428 (by decide +kernel) rfl
set_option maxRecDepth 100000 in
theorem ml_TH_1 : Cond.methodLink "TaleHouse" 1 Lib.objectInit ∈ gtbl := gt_in 25 (by decide +kernel) rfl
set_option maxRecDepth 100000 in
theorem ml_TH_65 : Cond.methodLink "TaleHouse" 65 m_Tp_hasRoom.1 ∈ gtbl := gt_in 357 (by decide +kernel) rfl
set_option maxRecDepth 100000 in
theorem ml_TH_69 : Cond.methodLink "TaleHouse" 69 m_Tp_append.1 ∈ gtbl := gt_in 361 (by decide +kernel) rfl
set_option maxRecDepth 100000 in
theorem ml_TH_77 : Cond.methodLink "TaleHouse" 77 m_Tp_shorten.1 ∈ gtbl := gt_in 369 (by decide +kernel) rfl
set_option maxRecDepth 100000 in
theorem ml_TH_81 : Cond.methodLink "TaleHouse" 81 m_Mn_addParagraph.1 ∈ gtbl := gt_in 377 (by decide +kernel) rfl
set_option maxRecDepth 100000 in
theorem ml_TH_85 : Cond.methodLink "TaleHouse" 85 m_Mn_addWord.1 ∈ gtbl := gt_in 386 (by decide +kernel) rfl
set_option maxRecDepth 100000 in
theorem ml_TH_88 : Cond.methodLink "TaleHouse" 88 m_Mn_empty.1 ∈ gtbl := gt_in 394 (by decide +kernel) rfl
set_option maxRecDepth 100000 in
theorem ml_TH_92 : Cond.methodLink "TaleHouse" 92 m_Mn_shape.1 ∈ gtbl := gt_in 402 (by decide +kernel) rfl
set_option maxRecDepth 100000 in
theorem ml_TH_99 : Cond.methodLink "TaleHouse" 99 m_Mn_weighBreaks.1 ∈ gtbl := gt_in 414 (by decide +kernel) rfl
set_option maxRecDepth 100000 in
theorem ml_TH_102 : Cond.methodLink "TaleHouse" 102 m_Mn_breakCost.1 ∈ gtbl := gt_in 445 (by decide +kernel) rfl
set_option maxRecDepth 100000 in
theorem ml_TH_107 : Cond.methodLink "TaleHouse" 107 m_Se_leastCost.1 ∈ gtbl := gt_in 455 (by decide +kernel) rfl
set_option maxRecDepth 100000 in
theorem ml_TH_111 : Cond.methodLink "TaleHouse" 111 m_Se_placeAll.1 ∈ gtbl := gt_in 491 (by decide +kernel) rfl
set_option maxRecDepth 100000 in
theorem ml_TH_115 : Cond.methodLink "TaleHouse" 115 m_Se_ofParagraph.1 ∈ gtbl := gt_in 524 (by decide +kernel) rfl
set_option maxRecDepth 100000 in
theorem ml_TH_118 : Cond.methodLink "TaleHouse" 118 m_Se_ofLine.1 ∈ gtbl := gt_in 532 (by decide +kernel) rfl
set_option maxRecDepth 100000 in
theorem ml_TH_121 : Cond.methodLink "TaleHouse" 121 m_Fs_readDraft.1 ∈ gtbl := gt_in 540 (by decide +kernel) rfl
set_option maxRecDepth 100000 in
theorem ml_TH_125 : Cond.methodLink "TaleHouse" 125 m_Tp_discard.1 ∈ gtbl := gt_in 672 (by decide +kernel) rfl
set_option maxRecDepth 100000 in
theorem ml_TH_128 : Cond.methodLink "TaleHouse" 128 m_Pa_haveEdition.1 ∈ gtbl := gt_in 676 (by decide +kernel) rfl
set_option maxRecDepth 100000 in
theorem ml_TH_132 : Cond.methodLink "TaleHouse" 132 m_Fs_addDraft.1 ∈ gtbl := gt_in 683 (by decide +kernel) rfl
set_option maxRecDepth 100000 in
theorem ml_TH_141 : Cond.methodLink "TaleHouse" 141 m_Fs_strikeFrom.1 ∈ gtbl := gt_in 696 (by decide +kernel) rfl
set_option maxRecDepth 100000 in
theorem ml_TH_145 : Cond.methodLink "TaleHouse" 145 m_Fs_quarrelOf.1 ∈ gtbl := gt_in 709 (by decide +kernel) rfl
set_option maxRecDepth 100000 in
theorem ml_TH_148 : Cond.methodLink "TaleHouse" 148 m_Fs_findQuarrels.1 ∈ gtbl := gt_in 725 (by decide +kernel) rfl
set_option maxRecDepth 100000 in
theorem ml_TH_152 : Cond.methodLink "TaleHouse" 152 m_Fs_foundPair.1 ∈ gtbl := gt_in 751 (by decide +kernel) rfl
set_option maxRecDepth 100000 in
theorem ml_TH_155 : Cond.methodLink "TaleHouse" 155 m_Pa_addEdition.1 ∈ gtbl := gt_in 759 (by decide +kernel) rfl
set_option maxRecDepth 100000 in
theorem ml_TH_158 : Cond.methodLink "TaleHouse" 158 m_As_readDraft.1 ∈ gtbl := gt_in 767 (by decide +kernel) rfl
set_option maxRecDepth 100000 in
theorem ml_TH_159 : Cond.methodLink "TaleHouse" 159 m_TH_isPart.1 ∈ gtbl := gt_in 788 (by decide +kernel) rfl
set_option maxRecDepth 100000 in
theorem ml_TH_162 : Cond.methodLink "TaleHouse" 162 m_As_addDraft.1 ∈ gtbl := gt_in 789 (by decide +kernel) rfl
set_option maxRecDepth 100000 in
theorem ml_TH_164 : Cond.methodLink "TaleHouse" 164 m_As_latestFor.1 ∈ gtbl := gt_in 797 (by decide +kernel) rfl
set_option maxRecDepth 100000 in
theorem ml_TH_169 : Cond.methodLink "TaleHouse" 169 m_As_numbered.1 ∈ gtbl := gt_in 810 (by decide +kernel) rfl
set_option maxRecDepth 100000 in
theorem ml_TH_173 : Cond.methodLink "TaleHouse" 173 m_Sh_soldOfPart.1 ∈ gtbl := gt_in 811 (by decide +kernel) rfl
set_option maxRecDepth 100000 in
theorem ml_TH_177 : Cond.methodLink "TaleHouse" 177 m_Ag_percentsOf.1 ∈ gtbl := gt_in 821 (by decide +kernel) rfl
set_option maxRecDepth 100000 in
theorem ml_TH_191 : Cond.methodLink "TaleHouse" 191 m_Pa_daysLate.1 ∈ gtbl := gt_in 829 (by decide +kernel) rfl
set_option maxRecDepth 100000 in
theorem ml_TH_194 : Cond.methodLink "TaleHouse" 194 m_Jm_maxJ.1 ∈ gtbl := gt_in 848 (by decide +kernel) rfl
set_option maxRecDepth 100000 in
theorem ml_TH_200 : Cond.methodLink "TaleHouse" 200 m_Pa_beginOn.1 ∈ gtbl := gt_in 855 (by decide +kernel) rfl
set_option maxRecDepth 100000 in
theorem ml_TH_203 : Cond.methodLink "TaleHouse" 203 m_Pa_arrive.1 ∈ gtbl := gt_in 863 (by decide +kernel) rfl
set_option maxRecDepth 100000 in
theorem ml_TH_206 : Cond.methodLink "TaleHouse" 206 m_Pa_dueDay.1 ∈ gtbl := gt_in 872 (by decide +kernel) rfl
set_option maxRecDepth 100000 in
theorem ml_TH_209 : Cond.methodLink "TaleHouse" 209 m_Sh_changePrices.1 ∈ gtbl := gt_in 877 (by decide +kernel) rfl
set_option maxRecDepth 100000 in
theorem ml_TH_212 : Cond.methodLink "TaleHouse" 212 m_TH_slot.1 ∈ gtbl := gt_in 885 (by decide +kernel) rfl
set_option maxRecDepth 100000 in
theorem ml_TH_215 : Cond.methodLink "TaleHouse" 215 m_Sh_keepPlates.1 ∈ gtbl := gt_in 886 (by decide +kernel) rfl
set_option maxRecDepth 100000 in
theorem ml_TH_219 : Cond.methodLink "TaleHouse" 219 m_Pa_hasCome.1 ∈ gtbl := gt_in 894 (by decide +kernel) rfl
set_option maxRecDepth 100000 in
theorem ml_TH_223 : Cond.methodLink "TaleHouse" 223 m_Sh_addPrinted.1 ∈ gtbl := gt_in 896 (by decide +kernel) rfl
set_option maxRecDepth 100000 in
theorem ml_TH_226 : Cond.methodLink "TaleHouse" 226 m_Sh_takeSold.1 ∈ gtbl := gt_in 908 (by decide +kernel) rfl
set_option maxRecDepth 100000 in
theorem ml_TH_229 : Cond.methodLink "TaleHouse" 229 m_Sh_takePulped.1 ∈ gtbl := gt_in 920 (by decide +kernel) rfl
set_option maxRecDepth 100000 in
theorem ml_TH_232 : Cond.methodLink "TaleHouse" 232 m_Sh_countOf.1 ∈ gtbl := gt_in 928 (by decide +kernel) rfl
set_option maxRecDepth 100000 in
theorem ml_TH_235 : Cond.methodLink "TaleHouse" 235 m_Pa_allHaveEdition.1 ∈ gtbl := gt_in 936 (by decide +kernel) rfl
set_option maxRecDepth 100000 in
theorem ml_TH_239 : Cond.methodLink "TaleHouse" 239 m_Sh_leastLeft.1 ∈ gtbl := gt_in 941 (by decide +kernel) rfl
set_option maxRecDepth 100000 in
theorem ml_TH_243 : Cond.methodLink "TaleHouse" 243 m_Sh_bind.1 ∈ gtbl := gt_in 947 (by decide +kernel) rfl
set_option maxRecDepth 100000 in
theorem ml_TH_247 : Cond.methodLink "TaleHouse" 247 m_Fo_addRow.1 ∈ gtbl := gt_in 955 (by decide +kernel) rfl
set_option maxRecDepth 100000 in
theorem ml_TH_251 : Cond.methodLink "TaleHouse" 251 m_Fo_bestCopies.1 ∈ gtbl := gt_in 964 (by decide +kernel) rfl
set_option maxRecDepth 100000 in
theorem ml_TH_257 : Cond.methodLink "TaleHouse" 257 m_Fo_worthOf.1 ∈ gtbl := gt_in 979 (by decide +kernel) rfl
set_option maxRecDepth 100000 in
theorem ml_Ag_1 : Cond.methodLink "TaleHouse$Agreement" 1 Lib.objectInit ∈ gtbl := gt_in 242 (by decide +kernel) rfl
set_option maxRecDepth 100000 in
theorem ml_Ag_16 : Cond.methodLink "TaleHouse$Agreement" 16 m_Tp_open.1 ∈ gtbl := gt_in 775 (by decide +kernel) rfl
set_option maxRecDepth 100000 in
theorem ml_Ag_21 : Cond.methodLink "TaleHouse$Agreement" 21 m_Tp_failed.1 ∈ gtbl := gt_in 776 (by decide +kernel) rfl
set_option maxRecDepth 100000 in
theorem ml_Ag_29 : Cond.methodLink "TaleHouse$Agreement" 29 m_Tp_readNumber.1 ∈ gtbl := gt_in 777 (by decide +kernel) rfl
set_option maxRecDepth 100000 in
theorem ml_Ag_35 : Cond.methodLink "TaleHouse$Agreement" 35 m_Tp_needWord.1 ∈ gtbl := gt_in 779 (by decide +kernel) rfl
set_option maxRecDepth 100000 in
theorem ml_Ag_41 : Cond.methodLink "TaleHouse$Agreement" 41 m_Tp_passWord.1 ∈ gtbl := gt_in 781 (by decide +kernel) rfl
set_option maxRecDepth 100000 in
theorem ml_Ag_47 : Cond.methodLink "TaleHouse$Agreement" 47 m_Tp_needSign.1 ∈ gtbl := gt_in 782 (by decide +kernel) rfl
set_option maxRecDepth 100000 in
theorem ml_Ag_51 : Cond.methodLink "TaleHouse$Agreement" 51 m_Tp_needEnd.1 ∈ gtbl := gt_in 783 (by decide +kernel) rfl
set_option maxRecDepth 100000 in
theorem ml_Ag_57 : Cond.methodLink "TaleHouse$Agreement" 57 m_Tp_failNext.1 ∈ gtbl := gt_in 786 (by decide +kernel) rfl
set_option maxRecDepth 100000 in
theorem ml_Ag_60 : Cond.methodLink "TaleHouse$Agreement" 60 m_Jm_minJ.1 ∈ gtbl := gt_in 825 (by decide +kernel) rfl
set_option maxRecDepth 100000 in
theorem ml_As_3 : Cond.methodLink "TaleHouse$Agreements" 3 Lib.objectInit ∈ gtbl := gt_in 235 (by decide +kernel) rfl
set_option maxRecDepth 100000 in
theorem ml_As_22 : Cond.methodLink "TaleHouse$Agreements" 22 m_Ag_readFrom.1 ∈ gtbl := gt_in 771 (by decide +kernel) rfl
set_option maxRecDepth 100000 in
theorem ml_As_26 : Cond.methodLink "TaleHouse$Agreements" 26 m_Tp_failed.1 ∈ gtbl := gt_in 787 (by decide +kernel) rfl
set_option maxRecDepth 100000 in
theorem ml_As_39 : Cond.methodLink "TaleHouse$Agreements" 39 m_As_numbered.1 ∈ gtbl := gt_in 801 (by decide +kernel) rfl
set_option maxRecDepth 100000 in
theorem ml_Br_3 : Cond.methodLink "TaleHouse$Breaks" 3 Lib.objectInit ∈ gtbl := gt_in 67 (by decide +kernel) rfl
set_option maxRecDepth 100000 in
theorem ml_Br_28 : Cond.methodLink "TaleHouse$Breaks" 28 m_Ja_fill.1 ∈ gtbl := gt_in 427 (by decide +kernel) rfl
set_option maxRecDepth 100000 in
theorem ml_Br_34 : Cond.methodLink "TaleHouse$Breaks" 34 m_Br_weighRest.1 ∈ gtbl := gt_in 430 (by decide +kernel) rfl
set_option maxRecDepth 100000 in
theorem ml_Br_38 : Cond.methodLink "TaleHouse$Breaks" 38 m_Br_costWith.1 ∈ gtbl := gt_in 434 (by decide +kernel) rfl
set_option maxRecDepth 100000 in
theorem ml_Br_42 : Cond.methodLink "TaleHouse$Breaks" 42 m_Jm_minI.1 ∈ gtbl := gt_in 438 (by decide +kernel) rfl
set_option maxRecDepth 100000 in
theorem ml_Fa_3 : Cond.methodLink "TaleHouse$Fact" 3 Lib.objectInit ∈ gtbl := gt_in 186 (by decide +kernel) rfl
set_option maxRecDepth 100000 in
theorem ml_Fa_15 : Cond.methodLink "TaleHouse$Fact" 15 m_Tp_open.1 ∈ gtbl := gt_in 548 (by decide +kernel) rfl
set_option maxRecDepth 100000 in
theorem ml_Fa_20 : Cond.methodLink "TaleHouse$Fact" 20 m_Tp_readName.1 ∈ gtbl := gt_in 552 (by decide +kernel) rfl
set_option maxRecDepth 100000 in
theorem ml_Fa_33 : Cond.methodLink "TaleHouse$Fact" 33 m_Tp_passWord.1 ∈ gtbl := gt_in 638 (by decide +kernel) rfl
set_option maxRecDepth 100000 in
theorem ml_Fa_44 : Cond.methodLink "TaleHouse$Fact" 44 m_Tp_needWord.1 ∈ gtbl := gt_in 644 (by decide +kernel) rfl
set_option maxRecDepth 100000 in
theorem ml_Fa_51 : Cond.methodLink "TaleHouse$Fact" 51 m_Tp_readNumber.1 ∈ gtbl := gt_in 655 (by decide +kernel) rfl
set_option maxRecDepth 100000 in
theorem ml_Fa_58 : Cond.methodLink "TaleHouse$Fact" 58 m_Tp_needSign.1 ∈ gtbl := gt_in 663 (by decide +kernel) rfl
set_option maxRecDepth 100000 in
theorem ml_Fa_62 : Cond.methodLink "TaleHouse$Fact" 62 m_Tp_needEnd.1 ∈ gtbl := gt_in 667 (by decide +kernel) rfl
set_option maxRecDepth 100000 in
theorem ml_Fa_68 : Cond.methodLink "TaleHouse$Fact" 68 m_Fa_quarrelWithLater.1 ∈ gtbl := gt_in 717 (by decide +kernel) rfl
set_option maxRecDepth 100000 in
theorem ml_Fs_3 : Cond.methodLink "TaleHouse$Facts" 3 Lib.objectInit ∈ gtbl := gt_in 179 (by decide +kernel) rfl
set_option maxRecDepth 100000 in
theorem ml_Fs_29 : Cond.methodLink "TaleHouse$Facts" 29 m_Fa_readFrom.1 ∈ gtbl := gt_in 544 (by decide +kernel) rfl
set_option maxRecDepth 100000 in
theorem ml_Fs_33 : Cond.methodLink "TaleHouse$Facts" 33 m_Tp_failed.1 ∈ gtbl := gt_in 671 (by decide +kernel) rfl
set_option maxRecDepth 100000 in
theorem ml_Fs_49 : Cond.methodLink "TaleHouse$Facts" 49 m_Fs_numbered.1 ∈ gtbl := gt_in 700 (by decide +kernel) rfl
set_option maxRecDepth 100000 in
theorem ml_Fs_56 : Cond.methodLink "TaleHouse$Facts" 56 m_Pa_haveEdition.1 ∈ gtbl := gt_in 704 (by decide +kernel) rfl
set_option maxRecDepth 100000 in
theorem ml_Fs_62 : Cond.methodLink "TaleHouse$Facts" 62 m_Fa_quarrelWith.1 ∈ gtbl := gt_in 713 (by decide +kernel) rfl
set_option maxRecDepth 100000 in
theorem ml_Fs_69 : Cond.methodLink "TaleHouse$Facts" 69 m_Fs_stands.1 ∈ gtbl := gt_in 729 (by decide +kernel) rfl
set_option maxRecDepth 100000 in
theorem ml_Fs_73 : Cond.methodLink "TaleHouse$Facts" 73 m_Fs_findQuarrelsOf.1 ∈ gtbl := gt_in 742 (by decide +kernel) rfl
set_option maxRecDepth 100000 in
theorem ml_Fs_77 : Cond.methodLink "TaleHouse$Facts" 77 m_Fs_quarrelOf.1 ∈ gtbl := gt_in 746 (by decide +kernel) rfl
set_option maxRecDepth 100000 in
theorem ml_Fs_81 : Cond.methodLink "TaleHouse$Facts" 81 m_Pa_lastEdition.1 ∈ gtbl := gt_in 733 (by decide +kernel) rfl
set_option maxRecDepth 100000 in
theorem ml_Fs_85 : Cond.methodLink "TaleHouse$Facts" 85 m_Jm_minI.1 ∈ gtbl := gt_in 737 (by decide +kernel) rfl
set_option maxRecDepth 100000 in
theorem ml_Fs_90 : Cond.methodLink "TaleHouse$Facts" 90 m_Fa_standsIn.1 ∈ gtbl := gt_in 738 (by decide +kernel) rfl
set_option maxRecDepth 100000 in
theorem ml_Fo_3 : Cond.methodLink "TaleHouse$Foretelling" 3 Lib.objectInit ∈ gtbl := gt_in 316 (by decide +kernel) rfl
set_option maxRecDepth 100000 in
theorem ml_Fo_23 : Cond.methodLink "TaleHouse$Foretelling" 23 m_Jm_minI.1 ∈ gtbl := gt_in 972 (by decide +kernel) rfl
set_option maxRecDepth 100000 in
theorem ml_Fo_37 : Cond.methodLink "TaleHouse$Foretelling" 37 m_Sh_printingCost.1 ∈ gtbl := gt_in 973 (by decide +kernel) rfl
set_option maxRecDepth 100000 in
theorem ml_Fo_40 : Cond.methodLink "TaleHouse$Foretelling" 40 m_Fo_worthOf.1 ∈ gtbl := gt_in 968 (by decide +kernel) rfl
set_option maxRecDepth 100000 in
theorem ml_Mn_3 : Cond.methodLink "TaleHouse$Manuscript" 3 Lib.objectInit ∈ gtbl := gt_in 59 (by decide +kernel) rfl
set_option maxRecDepth 100000 in
theorem ml_Mn_54 : Cond.methodLink "TaleHouse$Manuscript" 54 m_Mn_forgetBreakCosts.1 ∈ gtbl := gt_in 406 (by decide +kernel) rfl
set_option maxRecDepth 100000 in
theorem ml_Mn_58 : Cond.methodLink "TaleHouse$Manuscript" 58 m_Mn_breaksOf.1 ∈ gtbl := gt_in 418 (by decide +kernel) rfl
set_option maxRecDepth 100000 in
theorem ml_Mn_62 : Cond.methodLink "TaleHouse$Manuscript" 62 m_Br_cost.1 ∈ gtbl := gt_in 441 (by decide +kernel) rfl
set_option maxRecDepth 100000 in
theorem ml_Mn_66 : Cond.methodLink "TaleHouse$Manuscript" 66 m_Br_weigh.1 ∈ gtbl := gt_in 422 (by decide +kernel) rfl
set_option maxRecDepth 100000 in
theorem ml_Pa_3 : Cond.methodLink "TaleHouse$Parts" 3 Lib.objectInit ∈ gtbl := gt_in 160 (by decide +kernel) rfl
set_option maxRecDepth 100000 in
theorem ml_Pa_22 : Cond.methodLink "TaleHouse$Parts" 22 m_Pa_haveEdition.1 ∈ gtbl := gt_in 940 (by decide +kernel) rfl
set_option maxRecDepth 100000 in
theorem ml_Pa_33 : Cond.methodLink "TaleHouse$Parts" 33 m_Pa_daysLate.1 ∈ gtbl := gt_in 867 (by decide +kernel) rfl
set_option maxRecDepth 100000 in
theorem ml_Pa_37 : Cond.methodLink "TaleHouse$Parts" 37 m_Pa_dueDay.1 ∈ gtbl := gt_in 833 (by decide +kernel) rfl
set_option maxRecDepth 100000 in
theorem ml_Pa_40 : Cond.methodLink "TaleHouse$Parts" 40 m_Pa_daysBehind.1 ∈ gtbl := gt_in 837 (by decide +kernel) rfl
set_option maxRecDepth 100000 in
theorem ml_Pa_44 : Cond.methodLink "TaleHouse$Parts" 44 m_Pa_hasCome.1 ∈ gtbl := gt_in 841 (by decide +kernel) rfl
set_option maxRecDepth 100000 in
theorem ml_Pa_47 : Cond.methodLink "TaleHouse$Parts" 47 m_Jm_maxI.1 ∈ gtbl := gt_in 845 (by decide +kernel) rfl
set_option maxRecDepth 100000 in
theorem ml_Se_3 : Cond.methodLink "TaleHouse$Setting" 3 Lib.objectInit ∈ gtbl := gt_in 125 (by decide +kernel) rfl
set_option maxRecDepth 100000 in
theorem ml_Se_42 : Cond.methodLink "TaleHouse$Setting" 42 m_Ja_fill.1 ∈ gtbl := gt_in 460 (by decide +kernel) rfl
set_option maxRecDepth 100000 in
theorem ml_Se_48 : Cond.methodLink "TaleHouse$Setting" 48 m_Mn_weighBreaks.1 ∈ gtbl := gt_in 461 (by decide +kernel) rfl
set_option maxRecDepth 100000 in
theorem ml_Se_52 : Cond.methodLink "TaleHouse$Setting" 52 m_Se_weighFrom.1 ∈ gtbl := gt_in 462 (by decide +kernel) rfl
set_option maxRecDepth 100000 in
theorem ml_Se_56 : Cond.methodLink "TaleHouse$Setting" 56 m_Se_forgetPlaces.1 ∈ gtbl := gt_in 495 (by decide +kernel) rfl
set_option maxRecDepth 100000 in
theorem ml_Se_63 : Cond.methodLink "TaleHouse$Setting" 63 m_Se_fewestLeads.1 ∈ gtbl := gt_in 499 (by decide +kernel) rfl
set_option maxRecDepth 100000 in
theorem ml_Se_67 : Cond.methodLink "TaleHouse$Setting" 67 m_Se_note.1 ∈ gtbl := gt_in 503 (by decide +kernel) rfl
set_option maxRecDepth 100000 in
theorem ml_Se_74 : Cond.methodLink "TaleHouse$Setting" 74 m_Se_fewestLines.1 ∈ gtbl := gt_in 507 (by decide +kernel) rfl
set_option maxRecDepth 100000 in
theorem ml_Se_78 : Cond.methodLink "TaleHouse$Setting" 78 m_Se_placeLines.1 ∈ gtbl := gt_in 511 (by decide +kernel) rfl
set_option maxRecDepth 100000 in
theorem ml_Se_85 : Cond.methodLink "TaleHouse$Setting" 85 m_Mn_cutCost.1 ∈ gtbl := gt_in 466 (by decide +kernel) rfl
set_option maxRecDepth 100000 in
theorem ml_Se_89 : Cond.methodLink "TaleHouse$Setting" 89 m_Se_leastUncut.1 ∈ gtbl := gt_in 470 (by decide +kernel) rfl
set_option maxRecDepth 100000 in
theorem ml_Se_96 : Cond.methodLink "TaleHouse$Setting" 96 m_Jm_minI.1 ∈ gtbl := gt_in 478 (by decide +kernel) rfl
set_option maxRecDepth 100000 in
theorem ml_Se_101 : Cond.methodLink "TaleHouse$Setting" 101 m_Mn_wordsOf.1 ∈ gtbl := gt_in 474 (by decide +kernel) rfl
set_option maxRecDepth 100000 in
theorem ml_Se_104 : Cond.methodLink "TaleHouse$Setting" 104 m_Se_costInLines.1 ∈ gtbl := gt_in 479 (by decide +kernel) rfl
set_option maxRecDepth 100000 in
theorem ml_Se_107 : Cond.methodLink "TaleHouse$Setting" 107 m_Mn_breakCost.1 ∈ gtbl := gt_in 483 (by decide +kernel) rfl
set_option maxRecDepth 100000 in
theorem ml_Se_110 : Cond.methodLink "TaleHouse$Setting" 110 m_Mn_widowCost.1 ∈ gtbl := gt_in 484 (by decide +kernel) rfl
set_option maxRecDepth 100000 in
theorem ml_Se_113 : Cond.methodLink "TaleHouse$Setting" 113 m_Mn_breaksOf.1 ∈ gtbl := gt_in 515 (by decide +kernel) rfl
set_option maxRecDepth 100000 in
theorem ml_Se_117 : Cond.methodLink "TaleHouse$Setting" 117 m_Br_wordsTaken.1 ∈ gtbl := gt_in 516 (by decide +kernel) rfl
set_option maxRecDepth 100000 in
theorem ml_Sh_3 : Cond.methodLink "TaleHouse$Shelf" 3 Lib.objectInit ∈ gtbl := gt_in 275 (by decide +kernel) rfl
set_option maxRecDepth 100000 in
theorem ml_Sh_41 : Cond.methodLink "TaleHouse$Shelf" 41 m_Sh_isSlot.1 ∈ gtbl := gt_in 818 (by decide +kernel) rfl
set_option maxRecDepth 100000 in
theorem ml_Sh_45 : Cond.methodLink "TaleHouse$Shelf" 45 m_Sh_printingCost.1 ∈ gtbl := gt_in 900 (by decide +kernel) rfl
set_option maxRecDepth 100000 in
theorem ml_Sh_53 : Cond.methodLink "TaleHouse$Shelf" 53 m_Sh_left.1 ∈ gtbl := gt_in 912 (by decide +kernel) rfl
set_option maxRecDepth 100000 in
theorem ml_Sh_63 : Cond.methodLink "TaleHouse$Shelf" 63 m_Jm_minI.1 ∈ gtbl := gt_in 946 (by decide +kernel) rfl
set_option maxRecDepth 100000 in
theorem ml_Tp_3 : Cond.methodLink "TaleHouse$Tape" 3 Lib.objectInit ∈ gtbl := gt_in 33 (by decide +kernel) rfl
set_option maxRecDepth 100000 in
theorem ml_Tp_28 : Cond.methodLink "TaleHouse$Tape" 28 m_Tp_failed.1 ∈ gtbl := gt_in 556 (by decide +kernel) rfl
set_option maxRecDepth 100000 in
theorem ml_Tp_32 : Cond.methodLink "TaleHouse$Tape" 32 m_Tp_lettersAhead.1 ∈ gtbl := gt_in 560 (by decide +kernel) rfl
set_option maxRecDepth 100000 in
theorem ml_Tp_36 : Cond.methodLink "TaleHouse$Tape" 36 m_Tp_isFactWord.1 ∈ gtbl := gt_in 572 (by decide +kernel) rfl
set_option maxRecDepth 100000 in
theorem ml_Tp_40 : Cond.methodLink "TaleHouse$Tape" 40 m_Tp_fail.1 ∈ gtbl := gt_in 632 (by decide +kernel) rfl
set_option maxRecDepth 100000 in
theorem ml_Tp_46 : Cond.methodLink "TaleHouse$Tape" 46 m_Tp_byteAt.1 ∈ gtbl := gt_in 568 (by decide +kernel) rfl
set_option maxRecDepth 100000 in
theorem ml_Tp_50 : Cond.methodLink "TaleHouse$Tape" 50 m_Tp_digitsAhead.1 ∈ gtbl := gt_in 659 (by decide +kernel) rfl
set_option maxRecDepth 100000 in
theorem ml_Tp_53 : Cond.methodLink "TaleHouse$Tape" 53 m_Tp_isWord.1 ∈ gtbl := gt_in 577 (by decide +kernel) rfl
set_option maxRecDepth 100000 in
theorem ml_Tp_57 : Cond.methodLink "TaleHouse$Tape" 57 m_Tp_passWord.1 ∈ gtbl := gt_in 648 (by decide +kernel) rfl
set_option maxRecDepth 100000 in
theorem ml_Tp_61 : Cond.methodLink "TaleHouse$Tape" 61 m_Tp_failNext.1 ∈ gtbl := gt_in 649 (by decide +kernel) rfl
set_option maxRecDepth 100000 in
theorem ml_Tp_64 : Cond.methodLink "TaleHouse$Tape" 64 m_Tp_skipBlanks.1 ∈ gtbl := gt_in 564 (by decide +kernel) rfl
set_option maxRecDepth 100000 in
theorem ml_Tp_75 : Cond.methodLink "TaleHouse$Tape" 75 m_Js_length.1 ∈ gtbl := gt_in 581 (by decide +kernel) rfl
set_option maxRecDepth 100000 in
theorem ml_Tp_80 : Cond.methodLink "TaleHouse$Tape" 80 m_Js_charAt.1 ∈ gtbl := gt_in 591 (by decide +kernel) rfl
set_option maxRecDepth 100000 in
theorem ml_Lw_9 : Cond.methodLink "TaleHouseLaw" 9 m_TH_init.1 ∈ gtbl := gt_in 22 (by decide +kernel) rfl
set_option maxRecDepth 100000 in
theorem ml_Lw_12 : Cond.methodLink "TaleHouseLaw" 12 m_Md_init.1 ∈ gtbl := gt_in 986 (by decide +kernel) rfl
set_option maxRecDepth 100000 in
theorem ml_Lw_13 : Cond.methodLink "TaleHouseLaw" 13 m_TH_feed.1 ∈ gtbl := gt_in 353 (by decide +kernel) rfl
set_option maxRecDepth 100000 in
theorem ml_Lw_17 : Cond.methodLink "TaleHouseLaw" 17 m_Md_feed.1 ∈ gtbl := gt_in 1147 (by decide +kernel) rfl
set_option maxRecDepth 100000 in
theorem ml_Lw_18 : Cond.methodLink "TaleHouseLaw" 18 m_TH_end.1 ∈ gtbl := gt_in 365 (by decide +kernel) rfl
set_option maxRecDepth 100000 in
theorem ml_Lw_22 : Cond.methodLink "TaleHouseLaw" 22 m_Md_end.1 ∈ gtbl := gt_in 1155 (by decide +kernel) rfl
set_option maxRecDepth 100000 in
theorem ml_Lw_23 : Cond.methodLink "TaleHouseLaw" 23 m_TH_paragraph.1 ∈ gtbl := gt_in 373 (by decide +kernel) rfl
set_option maxRecDepth 100000 in
theorem ml_Lw_27 : Cond.methodLink "TaleHouseLaw" 27 m_Md_paragraph.1 ∈ gtbl := gt_in 1159 (by decide +kernel) rfl
set_option maxRecDepth 100000 in
theorem ml_Lw_28 : Cond.methodLink "TaleHouseLaw" 28 m_TH_word.1 ∈ gtbl := gt_in 382 (by decide +kernel) rfl
set_option maxRecDepth 100000 in
theorem ml_Lw_31 : Cond.methodLink "TaleHouseLaw" 31 m_Md_word.1 ∈ gtbl := gt_in 1167 (by decide +kernel) rfl
set_option maxRecDepth 100000 in
theorem ml_Lw_32 : Cond.methodLink "TaleHouseLaw" 32 m_TH_clear.1 ∈ gtbl := gt_in 390 (by decide +kernel) rfl
set_option maxRecDepth 100000 in
theorem ml_Lw_36 : Cond.methodLink "TaleHouseLaw" 36 m_Md_clear.1 ∈ gtbl := gt_in 1171 (by decide +kernel) rfl
set_option maxRecDepth 100000 in
theorem ml_Lw_37 : Cond.methodLink "TaleHouseLaw" 37 m_TH_page.1 ∈ gtbl := gt_in 398 (by decide +kernel) rfl
set_option maxRecDepth 100000 in
theorem ml_Lw_41 : Cond.methodLink "TaleHouseLaw" 41 m_Md_page.1 ∈ gtbl := gt_in 1175 (by decide +kernel) rfl
set_option maxRecDepth 100000 in
theorem ml_Lw_42 : Cond.methodLink "TaleHouseLaw" 42 m_TH_lines.1 ∈ gtbl := gt_in 410 (by decide +kernel) rfl
set_option maxRecDepth 100000 in
theorem ml_Lw_46 : Cond.methodLink "TaleHouseLaw" 46 m_Md_lines.1 ∈ gtbl := gt_in 1179 (by decide +kernel) rfl
set_option maxRecDepth 100000 in
theorem ml_Lw_47 : Cond.methodLink "TaleHouseLaw" 47 m_TH_fill.1 ∈ gtbl := gt_in 451 (by decide +kernel) rfl
set_option maxRecDepth 100000 in
theorem ml_Lw_50 : Cond.methodLink "TaleHouseLaw" 50 m_Md_fill.1 ∈ gtbl := gt_in 1192 (by decide +kernel) rfl
set_option maxRecDepth 100000 in
theorem ml_Lw_51 : Cond.methodLink "TaleHouseLaw" 51 m_TH_set.1 ∈ gtbl := gt_in 520 (by decide +kernel) rfl
set_option maxRecDepth 100000 in
theorem ml_Lw_54 : Cond.methodLink "TaleHouseLaw" 54 m_Md_set.1 ∈ gtbl := gt_in 1219 (by decide +kernel) rfl
set_option maxRecDepth 100000 in
theorem ml_Lw_55 : Cond.methodLink "TaleHouseLaw" 55 m_TH_line.1 ∈ gtbl := gt_in 528 (by decide +kernel) rfl
set_option maxRecDepth 100000 in
theorem ml_Lw_58 : Cond.methodLink "TaleHouseLaw" 58 m_Md_line.1 ∈ gtbl := gt_in 1223 (by decide +kernel) rfl
set_option maxRecDepth 100000 in
theorem ml_Lw_59 : Cond.methodLink "TaleHouseLaw" 59 m_TH_fact.1 ∈ gtbl := gt_in 536 (by decide +kernel) rfl
set_option maxRecDepth 100000 in
theorem ml_Lw_62 : Cond.methodLink "TaleHouseLaw" 62 m_Md_fact.1 ∈ gtbl := gt_in 1231 (by decide +kernel) rfl
set_option maxRecDepth 100000 in
theorem ml_Lw_63 : Cond.methodLink "TaleHouseLaw" 63 m_TH_fault.1 ∈ gtbl := gt_in 688 (by decide +kernel) rfl
set_option maxRecDepth 100000 in
theorem ml_Lw_66 : Cond.methodLink "TaleHouseLaw" 66 m_Md_fault.1 ∈ gtbl := gt_in 1227 (by decide +kernel) rfl
set_option maxRecDepth 100000 in
theorem ml_Lw_67 : Cond.methodLink "TaleHouseLaw" 67 m_TH_strike.1 ∈ gtbl := gt_in 692 (by decide +kernel) rfl
set_option maxRecDepth 100000 in
theorem ml_Lw_71 : Cond.methodLink "TaleHouseLaw" 71 m_Md_strike.1 ∈ gtbl := gt_in 1293 (by decide +kernel) rfl
set_option maxRecDepth 100000 in
theorem ml_Lw_72 : Cond.methodLink "TaleHouseLaw" 72 m_TH_quarrel.1 ∈ gtbl := gt_in 705 (by decide +kernel) rfl
set_option maxRecDepth 100000 in
theorem ml_Lw_75 : Cond.methodLink "TaleHouseLaw" 75 m_Md_quarrel.1 ∈ gtbl := gt_in 1297 (by decide +kernel) rfl
set_option maxRecDepth 100000 in
theorem ml_Lw_76 : Cond.methodLink "TaleHouseLaw" 76 m_TH_quarrels.1 ∈ gtbl := gt_in 721 (by decide +kernel) rfl
set_option maxRecDepth 100000 in
theorem ml_Lw_79 : Cond.methodLink "TaleHouseLaw" 79 m_Md_quarrels.1 ∈ gtbl := gt_in 1309 (by decide +kernel) rfl
set_option maxRecDepth 100000 in
theorem ml_Lw_80 : Cond.methodLink "TaleHouseLaw" 80 m_TH_found.1 ∈ gtbl := gt_in 747 (by decide +kernel) rfl
set_option maxRecDepth 100000 in
theorem ml_Lw_83 : Cond.methodLink "TaleHouseLaw" 83 m_Md_found.1 ∈ gtbl := gt_in 1317 (by decide +kernel) rfl
set_option maxRecDepth 100000 in
theorem ml_Lw_84 : Cond.methodLink "TaleHouseLaw" 84 m_TH_mend.1 ∈ gtbl := gt_in 755 (by decide +kernel) rfl
set_option maxRecDepth 100000 in
theorem ml_Lw_87 : Cond.methodLink "TaleHouseLaw" 87 m_Md_mend.1 ∈ gtbl := gt_in 1321 (by decide +kernel) rfl
set_option maxRecDepth 100000 in
theorem ml_Lw_88 : Cond.methodLink "TaleHouseLaw" 88 m_TH_agree.1 ∈ gtbl := gt_in 763 (by decide +kernel) rfl
set_option maxRecDepth 100000 in
theorem ml_Lw_91 : Cond.methodLink "TaleHouseLaw" 91 m_Md_agree.1 ∈ gtbl := gt_in 1325 (by decide +kernel) rfl
set_option maxRecDepth 100000 in
theorem ml_Lw_92 : Cond.methodLink "TaleHouseLaw" 92 m_TH_agreed.1 ∈ gtbl := gt_in 793 (by decide +kernel) rfl
set_option maxRecDepth 100000 in
theorem ml_Lw_95 : Cond.methodLink "TaleHouseLaw" 95 m_Md_agreed.1 ∈ gtbl := gt_in 1337 (by decide +kernel) rfl
set_option maxRecDepth 100000 in
theorem ml_Lw_96 : Cond.methodLink "TaleHouseLaw" 96 m_TH_share.1 ∈ gtbl := gt_in 805 (by decide +kernel) rfl
set_option maxRecDepth 100000 in
theorem ml_Lw_100 : Cond.methodLink "TaleHouseLaw" 100 m_Md_share.1 ∈ gtbl := gt_in 1341 (by decide +kernel) rfl
set_option maxRecDepth 100000 in
theorem ml_Lw_101 : Cond.methodLink "TaleHouseLaw" 101 m_TH_start.1 ∈ gtbl := gt_in 851 (by decide +kernel) rfl
set_option maxRecDepth 100000 in
theorem ml_Lw_104 : Cond.methodLink "TaleHouseLaw" 104 m_Md_start.1 ∈ gtbl := gt_in 1357 (by decide +kernel) rfl
set_option maxRecDepth 100000 in
theorem ml_Lw_105 : Cond.methodLink "TaleHouseLaw" 105 m_TH_came.1 ∈ gtbl := gt_in 859 (by decide +kernel) rfl
set_option maxRecDepth 100000 in
theorem ml_Lw_108 : Cond.methodLink "TaleHouseLaw" 108 m_Md_came.1 ∈ gtbl := gt_in 1361 (by decide +kernel) rfl
set_option maxRecDepth 100000 in
theorem ml_Lw_109 : Cond.methodLink "TaleHouseLaw" 109 m_TH_due.1 ∈ gtbl := gt_in 868 (by decide +kernel) rfl
set_option maxRecDepth 100000 in
theorem ml_Lw_112 : Cond.methodLink "TaleHouseLaw" 112 m_Md_due.1 ∈ gtbl := gt_in 1356 (by decide +kernel) rfl
set_option maxRecDepth 100000 in
theorem ml_Lw_113 : Cond.methodLink "TaleHouseLaw" 113 m_TH_prices.1 ∈ gtbl := gt_in 873 (by decide +kernel) rfl
set_option maxRecDepth 100000 in
theorem ml_Lw_116 : Cond.methodLink "TaleHouseLaw" 116 m_Md_prices.1 ∈ gtbl := gt_in 1365 (by decide +kernel) rfl
set_option maxRecDepth 100000 in
theorem ml_Lw_117 : Cond.methodLink "TaleHouseLaw" 117 m_TH_keep.1 ∈ gtbl := gt_in 881 (by decide +kernel) rfl
set_option maxRecDepth 100000 in
theorem ml_Lw_121 : Cond.methodLink "TaleHouseLaw" 121 m_Md_keep.1 ∈ gtbl := gt_in 1369 (by decide +kernel) rfl
set_option maxRecDepth 100000 in
theorem ml_Lw_122 : Cond.methodLink "TaleHouseLaw" 122 m_TH_print.1 ∈ gtbl := gt_in 890 (by decide +kernel) rfl
set_option maxRecDepth 100000 in
theorem ml_Lw_126 : Cond.methodLink "TaleHouseLaw" 126 m_Md_print.1 ∈ gtbl := gt_in 1376 (by decide +kernel) rfl
set_option maxRecDepth 100000 in
theorem ml_Lw_127 : Cond.methodLink "TaleHouseLaw" 127 m_TH_sell.1 ∈ gtbl := gt_in 904 (by decide +kernel) rfl
set_option maxRecDepth 100000 in
theorem ml_Lw_130 : Cond.methodLink "TaleHouseLaw" 130 m_Md_sell.1 ∈ gtbl := gt_in 1380 (by decide +kernel) rfl
set_option maxRecDepth 100000 in
theorem ml_Lw_131 : Cond.methodLink "TaleHouseLaw" 131 m_TH_pulp.1 ∈ gtbl := gt_in 916 (by decide +kernel) rfl
set_option maxRecDepth 100000 in
theorem ml_Lw_134 : Cond.methodLink "TaleHouseLaw" 134 m_Md_pulp.1 ∈ gtbl := gt_in 1388 (by decide +kernel) rfl
set_option maxRecDepth 100000 in
theorem ml_Lw_135 : Cond.methodLink "TaleHouseLaw" 135 m_TH_stock.1 ∈ gtbl := gt_in 924 (by decide +kernel) rfl
set_option maxRecDepth 100000 in
theorem ml_Lw_138 : Cond.methodLink "TaleHouseLaw" 138 m_Md_stock.1 ∈ gtbl := gt_in 1392 (by decide +kernel) rfl
set_option maxRecDepth 100000 in
theorem ml_Lw_139 : Cond.methodLink "TaleHouseLaw" 139 m_TH_volume.1 ∈ gtbl := gt_in 932 (by decide +kernel) rfl
set_option maxRecDepth 100000 in
theorem ml_Lw_143 : Cond.methodLink "TaleHouseLaw" 143 m_Md_volume.1 ∈ gtbl := gt_in 1396 (by decide +kernel) rfl
set_option maxRecDepth 100000 in
theorem ml_Lw_144 : Cond.methodLink "TaleHouseLaw" 144 m_TH_foretell.1 ∈ gtbl := gt_in 951 (by decide +kernel) rfl
set_option maxRecDepth 100000 in
theorem ml_Lw_147 : Cond.methodLink "TaleHouseLaw" 147 m_Md_foretell.1 ∈ gtbl := gt_in 1400 (by decide +kernel) rfl
set_option maxRecDepth 100000 in
theorem ml_Lw_148 : Cond.methodLink "TaleHouseLaw" 148 m_TH_best.1 ∈ gtbl := gt_in 960 (by decide +kernel) rfl
set_option maxRecDepth 100000 in
theorem ml_Lw_151 : Cond.methodLink "TaleHouseLaw" 151 m_Md_best.1 ∈ gtbl := gt_in 1409 (by decide +kernel) rfl
set_option maxRecDepth 100000 in
theorem ml_Lw_152 : Cond.methodLink "TaleHouseLaw" 152 m_TH_worth.1 ∈ gtbl := gt_in 974 (by decide +kernel) rfl
set_option maxRecDepth 100000 in
theorem ml_Lw_156 : Cond.methodLink "TaleHouseLaw" 156 m_Md_worth.1 ∈ gtbl := gt_in 1404 (by decide +kernel) rfl
set_option maxRecDepth 100000 in
theorem ml_Lw_157 : Cond.methodLink "TaleHouseLaw" 157 m_TH_purse.1 ∈ gtbl := gt_in 980 (by decide +kernel) rfl
set_option maxRecDepth 100000 in
theorem ml_Lw_161 : Cond.methodLink "TaleHouseLaw" 161 m_Md_purse.1 ∈ gtbl := gt_in 1414 (by decide +kernel) rfl
set_option maxRecDepth 100000 in
theorem ml_Md_11 : Cond.methodLink "TaleHouseModel" 11 Lib.objectInit ∈ gtbl := gt_in 989 (by decide +kernel) rfl
set_option maxRecDepth 100000 in
theorem ml_Md_169 : Cond.methodLink "TaleHouseModel" 169 m_Md_put.1 ∈ gtbl := gt_in 1151 (by decide +kernel) rfl
set_option maxRecDepth 100000 in
theorem ml_Md_174 : Cond.methodLink "TaleHouseModel" 174 m_Md_is.1 ∈ gtbl := gt_in 1164 (by decide +kernel) rfl
set_option maxRecDepth 100000 in
theorem ml_Md_179 : Cond.methodLink "TaleHouseModel" 179 m_Md_cost.1 ∈ gtbl := gt_in 1188 (by decide +kernel) rfl
set_option maxRecDepth 100000 in
theorem ml_Md_183 : Cond.methodLink "TaleHouseModel" 183 m_Md_breaks.1 ∈ gtbl := gt_in 1183 (by decide +kernel) rfl
set_option maxRecDepth 100000 in
theorem ml_Md_186 : Cond.methodLink "TaleHouseModel" 186 m_Md_price.1 ∈ gtbl := gt_in 1207 (by decide +kernel) rfl
set_option maxRecDepth 100000 in
theorem ml_Md_189 : Cond.methodLink "TaleHouseModel" 189 m_Md_at.1 ∈ gtbl := gt_in 1200 (by decide +kernel) rfl
set_option maxRecDepth 100000 in
theorem ml_Md_191 : Cond.methodLink "TaleHouseModel" 191 m_Md_gone.1 ∈ gtbl := gt_in 1196 (by decide +kernel) rfl
set_option maxRecDepth 100000 in
theorem ml_Md_194 : Cond.methodLink "TaleHouseModel" 194 m_Md_stands6.1 ∈ gtbl := gt_in 1203 (by decide +kernel) rfl
set_option maxRecDepth 100000 in
theorem ml_Md_198 : Cond.methodLink "TaleHouseModel" 198 m_Md_tells.1 ∈ gtbl := gt_in 1211 (by decide +kernel) rfl
set_option maxRecDepth 100000 in
theorem ml_Md_201 : Cond.methodLink "TaleHouseModel" 201 m_Md_lays.1 ∈ gtbl := gt_in 1215 (by decide +kernel) rfl
set_option maxRecDepth 100000 in
theorem ml_Md_205 : Cond.methodLink "TaleHouseModel" 205 m_Md_here.1 ∈ gtbl := gt_in 1243 (by decide +kernel) rfl
set_option maxRecDepth 100000 in
theorem ml_Md_209 : Cond.methodLink "TaleHouseModel" 209 m_Md_blame.1 ∈ gtbl := gt_in 1250 (by decide +kernel) rfl
set_option maxRecDepth 100000 in
theorem ml_Md_212 : Cond.methodLink "TaleHouseModel" 212 m_Md_isLetter.1 ∈ gtbl := gt_in 1247 (by decide +kernel) rfl
set_option maxRecDepth 100000 in
theorem ml_Md_218 : Cond.methodLink "TaleHouseModel" 218 m_Md_wordEnd.1 ∈ gtbl := gt_in 1254 (by decide +kernel) rfl
set_option maxRecDepth 100000 in
theorem ml_Md_221 : Cond.methodLink "TaleHouseModel" 221 m_Md_spells.1 ∈ gtbl := gt_in 1259 (by decide +kernel) rfl
set_option maxRecDepth 100000 in
theorem ml_Md_225 : Cond.methodLink "TaleHouseModel" 225 m_Md_isDigit.1 ∈ gtbl := gt_in 1275 (by decide +kernel) rfl
set_option maxRecDepth 100000 in
theorem ml_Md_228 : Cond.methodLink "TaleHouseModel" 228 m_Md_digits.1 ∈ gtbl := gt_in 1271 (by decide +kernel) rfl
set_option maxRecDepth 100000 in
theorem ml_Md_231 : Cond.methodLink "TaleHouseModel" 231 m_Md_must.1 ∈ gtbl := gt_in 1282 (by decide +kernel) rfl
set_option maxRecDepth 100000 in
theorem ml_Md_234 : Cond.methodLink "TaleHouseModel" 234 m_Md_isPart.1 ∈ gtbl := gt_in 1290 (by decide +kernel) rfl
set_option maxRecDepth 100000 in
theorem ml_Md_245 : Cond.methodLink "TaleHouseModel" 245 m_Md_begins.1 ∈ gtbl := gt_in 1235 (by decide +kernel) rfl
set_option maxRecDepth 100000 in
theorem ml_Md_248 : Cond.methodLink "TaleHouseModel" 248 m_Md_name.1 ∈ gtbl := gt_in 1239 (by decide +kernel) rfl
set_option maxRecDepth 100000 in
theorem ml_Md_251 : Cond.methodLink "TaleHouseModel" 251 m_Md_passes.1 ∈ gtbl := gt_in 1267 (by decide +kernel) rfl
set_option maxRecDepth 100000 in
theorem ml_Md_255 : Cond.methodLink "TaleHouseModel" 255 m_Md_ends.1 ∈ gtbl := gt_in 1278 (by decide +kernel) rfl
set_option maxRecDepth 100000 in
theorem ml_Md_258 : Cond.methodLink "TaleHouseModel" 258 m_Md_isEdition.1 ∈ gtbl := gt_in 1286 (by decide +kernel) rfl
set_option maxRecDepth 100000 in
theorem ml_Md_262 : Cond.methodLink "TaleHouseModel" 262 m_Md_isAlike.1 ∈ gtbl := gt_in 1305 (by decide +kernel) rfl
set_option maxRecDepth 100000 in
theorem ml_Md_265 : Cond.methodLink "TaleHouseModel" 265 m_Md_quarrels0.1 ∈ gtbl := gt_in 1301 (by decide +kernel) rfl
set_option maxRecDepth 100000 in
theorem ml_Md_269 : Cond.methodLink "TaleHouseModel" 269 m_Md_stands2.1 ∈ gtbl := gt_in 1313 (by decide +kernel) rfl
set_option maxRecDepth 100000 in
theorem ml_Md_271 : Cond.methodLink "TaleHouseModel" 271 m_Md_number.1 ∈ gtbl := gt_in 1329 (by decide +kernel) rfl
set_option maxRecDepth 100000 in
theorem ml_Md_281 : Cond.methodLink "TaleHouseModel" 281 m_Md_agreed.1 ∈ gtbl := gt_in 1345 (by decide +kernel) rfl
set_option maxRecDepth 100000 in
theorem ml_Md_289 : Cond.methodLink "TaleHouseModel" 289 m_Md_lateDays.1 ∈ gtbl := gt_in 1348 (by decide +kernel) rfl
set_option maxRecDepth 100000 in
theorem ml_Md_292 : Cond.methodLink "TaleHouseModel" 292 m_Md_due.1 ∈ gtbl := gt_in 1352 (by decide +kernel) rfl
set_option maxRecDepth 100000 in
theorem ml_Md_295 : Cond.methodLink "TaleHouseModel" 295 m_Md_row.1 ∈ gtbl := gt_in 1373 (by decide +kernel) rfl
set_option maxRecDepth 100000 in
theorem ml_Md_298 : Cond.methodLink "TaleHouseModel" 298 m_Md_stays.1 ∈ gtbl := gt_in 1384 (by decide +kernel) rfl
set_option maxRecDepth 100000 in
theorem ml_Md_303 : Cond.methodLink "TaleHouseModel" 303 m_Md_worth.1 ∈ gtbl := gt_in 1413 (by decide +kernel) rfl
set_option maxRecDepth 100000 in
theorem ml_Js_335 : Cond.methodLink "java/lang/String" 335 m_Js_coder.1 ∈ gtbl := gt_in 585 (by decide +kernel) rfl
set_option maxRecDepth 100000 in
theorem ml_Js_492 : Cond.methodLink "java/lang/String" 492 m_Js_isLatin1.1 ∈ gtbl := gt_in 595 (by decide +kernel) rfl
set_option maxRecDepth 100000 in
theorem ml_Js_495 : Cond.methodLink "java/lang/String" 495 m_Jl_charAt.1 ∈ gtbl := gt_in 599 (by decide +kernel) rfl
set_option maxRecDepth 100000 in
theorem ml_Jl_9 : Cond.methodLink "java/lang/StringLatin1" 9 m_Js_checkIndex.1 ∈ gtbl := gt_in 602 (by decide +kernel) rfl
set_option maxRecDepth 100000 in
theorem ml_Ju_414 : Cond.methodLink "java/lang/StringUTF16" 414 m_Js_checkIndex.1 ∈ gtbl := gt_in 619 (by decide +kernel) rfl
set_option maxRecDepth 100000 in
theorem mn_TH_9 : ∃ host, Cond.methodLinkNest "TaleHouse" 9 m_Tp_init.1 host ∈ tables_1 := ⟨"TaleHouse", List.mem_of_getElem? (i := 30) (by decide +kernel)⟩
set_option maxRecDepth 100000 in
theorem mn_TH_18 : ∃ host, Cond.methodLinkNest "TaleHouse" 18 m_Mn_init.1 host ∈ tables_1 := ⟨"TaleHouse", List.mem_of_getElem? (i := 56) (by decide +kernel)⟩
set_option maxRecDepth 100000 in
theorem mn_TH_25 : ∃ host, Cond.methodLinkNest "TaleHouse" 25 m_Se_init.1 host ∈ tables_1 := ⟨"TaleHouse", List.mem_of_getElem? (i := 122) (by decide +kernel)⟩
set_option maxRecDepth 100000 in
theorem mn_TH_32 : ∃ host, Cond.methodLinkNest "TaleHouse" 32 m_Pa_init.1 host ∈ tables_1 := ⟨"TaleHouse", List.mem_of_getElem? (i := 157) (by decide +kernel)⟩
set_option maxRecDepth 100000 in
theorem mn_TH_39 : ∃ host, Cond.methodLinkNest "TaleHouse" 39 m_Fs_init.1 host ∈ tables_1 := ⟨"TaleHouse", List.mem_of_getElem? (i := 176) (by decide +kernel)⟩
set_option maxRecDepth 100000 in
theorem mn_TH_46 : ∃ host, Cond.methodLinkNest "TaleHouse" 46 m_As_init.1 host ∈ tables_1 := ⟨"TaleHouse", List.mem_of_getElem? (i := 232) (by decide +kernel)⟩
set_option maxRecDepth 100000 in
theorem mn_TH_53 : ∃ host, Cond.methodLinkNest "TaleHouse" 53 m_Sh_init.1 host ∈ tables_1 := ⟨"TaleHouse", List.mem_of_getElem? (i := 272) (by decide +kernel)⟩
set_option maxRecDepth 100000 in
theorem mn_TH_60 : ∃ host, Cond.methodLinkNest "TaleHouse" 60 m_Fo_init.1 host ∈ tables_1 := ⟨"TaleHouse", List.mem_of_getElem? (i := 313) (by decide +kernel)⟩
set_option maxRecDepth 100000 in
theorem mn_As_17 : ∃ host, Cond.methodLinkNest "TaleHouse$Agreements" 17 m_Ag_init.1 host ∈ tables_1 := ⟨"TaleHouse", List.mem_of_getElem? (i := 239) (by decide +kernel)⟩
set_option maxRecDepth 100000 in
theorem mn_Fs_24 : ∃ host, Cond.methodLinkNest "TaleHouse$Facts" 24 m_Fa_init.1 host ∈ tables_1 := ⟨"TaleHouse", List.mem_of_getElem? (i := 183) (by decide +kernel)⟩
set_option maxRecDepth 100000 in
theorem mn_Mn_32 : ∃ host, Cond.methodLinkNest "TaleHouse$Manuscript" 32 m_Br_init.1 host ∈ tables_1 := ⟨"TaleHouse", List.mem_of_getElem? (i := 64) (by decide +kernel)⟩
set_option maxRecDepth 100000 in
theorem mn_Pa_18 : ∃ host, Cond.methodLinkNest "TaleHouse$Parts" 18 m_TH_isPart.1 host ∈ tables_1 := ⟨"TaleHouse", List.mem_of_getElem? (i := 680) (by decide +kernel)⟩
set_option maxRecDepth 100000 in
theorem mn_Se_92 : ∃ host, Cond.methodLinkNest "TaleHouse$Setting" 92 m_TH_plus.1 host ∈ tables_1 := ⟨"TaleHouse", List.mem_of_getElem? (i := 488) (by decide +kernel)⟩
set_option maxRecDepth 100000 in
theorem mn_Sh_57 : ∃ host, Cond.methodLinkNest "TaleHouse$Shelf" 57 m_TH_slot.1 host ∈ tables_1 := ⟨"TaleHouse", List.mem_of_getElem? (i := 815) (by decide +kernel)⟩
set_option maxRecDepth 100000 in
theorem kO : Cond.instanceMethod Lib.objectInit ∈ gtbl ∧ Cond.code Lib.objectInit ⟨#[0xb1]⟩ 1 none ∈ gtbl := ⟨gt_in 26 (by decide +kernel) rfl, gt_in 27 (by decide +kernel) rfl⟩
end
section
/-! ROWS: a store of an object; a call on a String constant. -/
section XM2
variable {S : XS} {M : XM} {pc : Nat} {ls : List (Option Value)} {st : List Value} {h h1 : XH} {r rv : Option Value} {h' : XH} {Q : Option Value → XH → Prop}
theorem b_st2 {st' : List Value} (e2 : st = st') (k : BW S M pc ls st' h Q) : BW S M pc ls st h Q := by subst e2; exact k
theorem x_aast {a t n cj v : Nat} {vs : List Value} {f : Nat → Option Nat} {i : Int32} (hd : decode M.2.1 pc = .ok (.aastore, 1)) (he : h[a]? = some (.inl (t, n, .inr (.inr (.inr (.inr f)))))) (hv : h[v]? = some (.inr (cj, vs))) (htc : (t = 3 ∧ cj = 3) ∨ (t = 4 ∧ cj = 0)) (hin : vp_in i n) (hh : h.set a (.inl (t, n, .inr (.inr (.inr (.inr (va_up f i.toNatClampNeg (some v))))))) = h1) (kk : AW S M (pc + 1) ls st h1 r h') : AW S M pc ls (.ref v :: .int i :: .ref a :: st) h r h' := by
  subst hh
  obtain ⟨e1, e2⟩ := xsa (y := .inr (.inr (.inr (.inr (va_up f i.toNatClampNeg (some v)))))) he
  refine ⟨by rw [← e1, ← e2]; exact kk.1, fun l K p e s m args below meth c n0 z0 H locs L C hn hz hR hS hL => ?_⟩
  have hlt : i.toNatClampNeg < n := Nat.not_le.mp fun q => hin (Or.inr q)
  have h0 : ¬ i < 0 := fun q => hin (Or.inl q)
  have hK := C.2.2.2.2.2.2.2.2.1.1
  obtain ⟨rc, hc, hty⟩ : ∃ rc : vw_C, xcl[cj]? = some rc ∧ (xtys K)[t]? = some (K.2.2.1 t, .object rc.1) := by
    rcases htc with ⟨rfl, rfl⟩ | ⟨rfl, rfl⟩
    · exact ⟨_, rfl, rfl⟩
    · exact ⟨_, rfl, rfl⟩
  obtain ⟨r', hr', cellV, g1, g2, g3, -⟩ := hR.2 v _ (xw_get hv)
  have hcls := (hK.1 cj rc hc).2
  obtain ⟨kA, comp, k1, k2, k3, -⟩ := (hK.2 t _ hty).2
  have hcomp : comp = K.2.1.1 cj := Option.some.inj (k3.symm.trans hcls.1)
  subst hcomp
  obtain ⟨kC, hkC, -⟩ := hcls.2
  refine W.aast (a := K.1 + a) (v := K.1 + v) C.1 C.2.1 (hR.2 a _ (xw_get he)) (fun q h => by cases h) (fun h => by cases h) k1 k2 rfl hkC ⟨h0, by show _ < (arrV _ _ _).slots.size; rw [arrV_size]; exact hlt⟩ g1 (fun q h => by rw [g3] at h; cases h) (by rw [g2]; exact hkC) (by rw [g2]; exact va_assign hcls) rfl rfl hd fun H1 w1 w2 w3 => ?_
  have hR1 : XR K (h.set a (.inl (t, n, .inr (.inr (.inr (.inr (va_up f i.toNatClampNeg (some v)))))))) H1 := by
    refine hR.set he w2 ?_ w3
    show H1[K.1 + a]? = some (vp_cell (K.2.2.1 t) (n, .inr (.inr (.inr (.inr (fun j => xf K (va_up f i.toNatClampNeg (some v) j)))))))
    rw [w1]
    show some ((vp_cell (K.2.2.1 t) (n, .inr (.inr (.inr (.inr (fun j => xf K (f j))))))).setSlot _ _) = _
    rw [vp_cell_q, vp_cell_q, arrV_store]
    congr 2
    funext q
    by_cases hq : q = i.toNatClampNeg
    · subst hq
      simp [updV, va_up, va_rf, xf]
    · simp [updV, va_up, hq]
  exact xgo kk e1 e2 C hn hz hR1 (hS.put w2 w3 (Nat.le_add_right _ _)) hL
theorem b_aast {a t n cj v : Nat} {vs : List Value} {f : Nat → Option Nat} {i : Int32} (hd : decode M.2.1 pc = .ok (.aastore, 1)) (he : h[a]? = some (.inl (t, n, .inr (.inr (.inr (.inr f)))))) (hv : h[v]? = some (.inr (cj, vs))) (htc : (t = 3 ∧ cj = 3) ∨ (t = 4 ∧ cj = 0)) (hin : vp_in i n) (hh : h.set a (.inl (t, n, .inr (.inr (.inr (.inr (va_up f i.toNatClampNeg (some v))))))) = h1) (kk : BW S M (pc + 1) ls st h1 Q) : BW S M pc ls (.ref v :: .int i :: .ref a :: st) h Q := by
  obtain ⟨r, h9, q, w⟩ := kk
  exact ⟨r, h9, q, x_aast hd he hv htc hin hh w⟩
def xLT (M Mc : XM) (index n : Nat) : Prop := xLk M Mc n ∧ Cond.methodLink M.1.cls index Mc.1 ∈ gtbl ∧ Cond.instanceMethod Mc.1 ∈ gtbl ∧ Cond.selects Mc.1.cls Mc.1 Mc.1 ∈ gtbl ∧ Mc.1.cls = "java/lang/String"
theorem x_callT {index b n : Nat} {Mc : XM} {As stk : List Value} (hd : decode M.2.1 pc = .ok (.invokevirtual index, 3)) (hl : xLT M Mc index n) (hb7 : b < 7) (hn9 : As.length = n) (hs9 : stk = As.reverse ++ .retAddr b :: st) (hst : (st.map fun v => v.category).sum ≤ 8) (hM : AM S Mc (.retAddr b :: As) h rv h1) (kk : AW S M (pc + 3) ls (rv.toList ++ st) h1 r h') : AW S M pc ls stk h r h' := by
  subst hs9
  refine ⟨⟨Nat.le_trans hM.1.1 kk.1.1, Nat.le_trans hM.1.2 kk.1.2⟩, fun l K p e s m args below meth c n0 z0 H locs L C hn hz hR hS hL => ?_⟩
  obtain ⟨⟨l1, l2, l3, l4⟩, l5, l6, l7, l8⟩ := hl
  have hts := C.2.2.2.2.2.1
  have k1 := kk.1
  have m1 := hM.1
  obtain ⟨adV, hV⟩ := C.2.2.2.2.2.2.2.2.1.2.2.2.2.1
  refine xrun C hn hz hM.1 hS hL (va_runV (As := As.map (xv K)) (rest := st.map (xv K)) (b := K.2.2.2 b) (C := Mc.1.cls) ⟨C.1, C.2.1, C.2.2.2.1, C.2.2.2.2.1, hts⟩ (hM.2 l K) ⟨callB_of n hts (xGW l2) rfl rfl rfl (hts _ l1) (hts _ l5) l3 l4, hts _ l6, hts _ l7⟩ ⟨xP_blind, by rw [l8]; exact vk_recv hV hb7 hS, xP_at (l := l) (as := .retAddr b :: As) C hR hS⟩ rfl (by rw [List.length_map]; exact hn9) hL.1 ?_ (lv_room (by rw [xv_cats]; exact hst)) hd ⟨?_, ?_⟩) kk
  · show List.map (xv K) (As.reverse ++ .retAddr b :: st) = _
    rw [List.map_append, List.map_reverse]
    rfl
  · show h.length - n0 + (h1.length - h.length) ≤ h'.length - n0
    omega
  · show xsz h - z0 + (xsz h1 - xsz h) ≤ xsz h' - z0
    omega
theorem b_callTi {index b n : Nat} {Mc : XM} {As stk : List Value} {Qc : Int32 → St → Prop} (hd : decode M.2.1 pc = .ok (.invokevirtual index, 3)) (hl : xLT M Mc index n) (hb7 : b < 7) (hn9 : As.length = n) (hs9 : stk = As.reverse ++ .retAddr b :: st) (hst : (st.map fun v => v.category).sum ≤ 8) (hM : CM S Mc (.retAddr b :: As) h (qI Qc)) (kk : ∀ (v : Int32) (τ : St), Qc v τ → BW S M (pc + 3) ls (.int v :: st) (enc τ) Q) : BW S M pc ls stk h Q := by
  obtain ⟨r1, h2, qc0, w1⟩ := hM
  obtain ⟨v, τ, rfl, rfl, qc⟩ := qc0
  obtain ⟨r, h9, q, w⟩ := kk v τ qc
  exact ⟨r, h9, q, x_callT hd hl hb7 hn9 hs9 hst w1 w⟩
end XM2
set_option maxRecDepth 100000 in
theorem kT_Js_length : Cond.instanceMethod m_Js_length.1 ∈ gtbl ∧ Cond.selects m_Js_length.1.cls m_Js_length.1 m_Js_length.1 ∈ gtbl ∧ m_Js_length.1.cls = "java/lang/String" := ⟨gt_in 582 (by decide +kernel) rfl, gt_in 583 (by decide +kernel) rfl, rfl⟩
set_option maxRecDepth 100000 in
theorem kT_Js_charAt : Cond.instanceMethod m_Js_charAt.1 ∈ gtbl ∧ Cond.selects m_Js_charAt.1.cls m_Js_charAt.1 m_Js_charAt.1 ∈ gtbl ∧ m_Js_charAt.1.cls = "java/lang/String" := ⟨gt_in 592 (by decide +kernel) rfl, gt_in 593 (by decide +kernel) rfl, rfl⟩
end
section
/-! block rules, by program -/
theorem d_Tp_hasRoom_0 : decode m_Tp_hasRoom.2.1 0 = .ok (.aload_n 0, 1) := by decide +kernel
theorem d_Tp_hasRoom_1 : decode m_Tp_hasRoom.2.1 1 = .ok (.getfield 19, 3) := by decide +kernel
theorem d_Tp_hasRoom_4 : decode m_Tp_hasRoom.2.1 4 = .ok (.bipush 20, 2) := by decide +kernel
theorem d_Tp_hasRoom_6 : decode m_Tp_hasRoom.2.1 6 = .ok (.iadd, 1) := by decide +kernel
theorem d_Tp_hasRoom_7 : decode m_Tp_hasRoom.2.1 7 = .ok (.sipush 200, 3) := by decide +kernel
theorem d_Tp_hasRoom_10 : decode m_Tp_hasRoom.2.1 10 = .ok (.if_icmp .gt 7, 3) := by decide +kernel
theorem d_Tp_hasRoom_13 : decode m_Tp_hasRoom.2.1 13 = .ok (.iconst 1, 1) := by decide +kernel
theorem d_Tp_hasRoom_14 : decode m_Tp_hasRoom.2.1 14 = .ok (.goto 4, 3) := by decide +kernel
theorem d_Tp_hasRoom_17 : decode m_Tp_hasRoom.2.1 17 = .ok (.iconst 0, 1) := by decide +kernel
theorem d_Tp_hasRoom_18 : decode m_Tp_hasRoom.2.1 18 = .ok (.ireturn, 1) := by decide +kernel
set_option maxHeartbeats 4000000 in
set_option maxRecDepth 100000 in
theorem B_Tp_hasRoom_0 {S : XS} {Q : Int32 → St → Prop} (σ : St)  (H : (((200 : Int32) < ((gX σ 0) + (20 : Int32)) → Q (0 : Int32) σ) ∧ (¬ (200 : Int32) < ((gX σ 0) + (20 : Int32)) → Q (1 : Int32) σ))) : BW S m_Tp_hasRoom 0 [some (.ref 1)] [] (enc σ) (qI Q) := by
  refine b_aload_n d_Tp_hasRoom_0 rfl rfl ?_
  refine b_getf (v := .int (gX σ 0)) d_Tp_hasRoom_1 fl_Tp_19 (eg_1 σ) rfl ?_
  refine b_bipush (v := (20 : Int32)) d_Tp_hasRoom_4 (by decide) ?_
  refine b_iadd d_Tp_hasRoom_6  ?_
  refine b_sipush (v := (200 : Int32)) d_Tp_hasRoom_7 (by decide) ?_
  refine b_icmp_gt (tgt := 17) d_Tp_hasRoom_10 (by decide) (fun c1 => ?_) (fun c1 => ?_)
  · have H := H.1 c1
    refine b_iconst (v := (0 : Int32)) d_Tp_hasRoom_17 (by decide) ?_
    exact b_iret (ty := .boolean) d_Tp_hasRoom_18 rfl rfl ⟨_, _, rfl, rfl, H⟩
  · have H := H.2 c1
    refine b_iconst (v := (1 : Int32)) d_Tp_hasRoom_13 (by decide) ?_
    refine b_goto (tgt := 18) d_Tp_hasRoom_14 (by decide) ?_
    exact b_iret (ty := .boolean) d_Tp_hasRoom_18 rfl rfl ⟨_, _, rfl, rfl, H⟩
theorem C_Tp_hasRoom {S : XS} {Q : Int32 → St → Prop} (σ : St)  (H : BW S m_Tp_hasRoom 0 [some (.ref 1)] [] (enc σ) (qI Q)) : CM S m_Tp_hasRoom [.ref 1] (enc σ) (qI Q) := b_meth (by decide) (Nat.le_of_ble_eq_true rfl) rfl H
theorem d_Tp_append_0 : decode m_Tp_append.2.1 0 = .ok (.bipush 24, 2) := by decide +kernel
theorem d_Tp_append_2 : decode m_Tp_append.2.1 2 = .ok (.istore_n 2, 1) := by decide +kernel
theorem d_Tp_append_3 : decode m_Tp_append.2.1 3 = .ok (.iload_n 2, 1) := by decide +kernel
theorem d_Tp_append_4 : decode m_Tp_append.2.1 4 = .ok (.ifCond .lt 45, 3) := by decide +kernel
theorem d_Tp_append_7 : decode m_Tp_append.2.1 7 = .ok (.aload_n 0, 1) := by decide +kernel
theorem d_Tp_append_8 : decode m_Tp_append.2.1 8 = .ok (.getfield 19, 3) := by decide +kernel
theorem d_Tp_append_11 : decode m_Tp_append.2.1 11 = .ok (.sipush 200, 3) := by decide +kernel
theorem d_Tp_append_14 : decode m_Tp_append.2.1 14 = .ok (.if_icmp .ge 35, 3) := by decide +kernel
theorem d_Tp_append_17 : decode m_Tp_append.2.1 17 = .ok (.aload_n 0, 1) := by decide +kernel
theorem d_Tp_append_18 : decode m_Tp_append.2.1 18 = .ok (.getfield 11, 3) := by decide +kernel
theorem d_Tp_append_21 : decode m_Tp_append.2.1 21 = .ok (.aload_n 0, 1) := by decide +kernel
theorem d_Tp_append_22 : decode m_Tp_append.2.1 22 = .ok (.getfield 19, 3) := by decide +kernel
theorem d_Tp_append_25 : decode m_Tp_append.2.1 25 = .ok (.iload_n 1, 1) := by decide +kernel
theorem d_Tp_append_26 : decode m_Tp_append.2.1 26 = .ok (.iload_n 2, 1) := by decide +kernel
theorem d_Tp_append_27 : decode m_Tp_append.2.1 27 = .ok (.iushr, 1) := by decide +kernel
theorem d_Tp_append_28 : decode m_Tp_append.2.1 28 = .ok (.sipush 255, 3) := by decide +kernel
theorem d_Tp_append_31 : decode m_Tp_append.2.1 31 = .ok (.iand, 1) := by decide +kernel
theorem d_Tp_append_32 : decode m_Tp_append.2.1 32 = .ok (.iastore, 1) := by decide +kernel
theorem d_Tp_append_33 : decode m_Tp_append.2.1 33 = .ok (.aload_n 0, 1) := by decide +kernel
theorem d_Tp_append_34 : decode m_Tp_append.2.1 34 = .ok (.dup, 1) := by decide +kernel
theorem d_Tp_append_35 : decode m_Tp_append.2.1 35 = .ok (.getfield 19, 3) := by decide +kernel
theorem d_Tp_append_38 : decode m_Tp_append.2.1 38 = .ok (.iconst 1, 1) := by decide +kernel
theorem d_Tp_append_39 : decode m_Tp_append.2.1 39 = .ok (.iadd, 1) := by decide +kernel
theorem d_Tp_append_40 : decode m_Tp_append.2.1 40 = .ok (.putfield 19, 3) := by decide +kernel
theorem d_Tp_append_43 : decode m_Tp_append.2.1 43 = .ok (.iinc 2 (-8), 3) := by decide +kernel
theorem d_Tp_append_46 : decode m_Tp_append.2.1 46 = .ok (.goto (-43), 3) := by decide +kernel
theorem d_Tp_append_49 : decode m_Tp_append.2.1 49 = .ok (.return_, 1) := by decide +kernel
set_option maxHeartbeats 4000000 in
set_option maxRecDepth 100000 in
theorem B_Tp_append_0 {S : XS} {Q : St → Prop} (σ : St) (x1 : Int32) (H : BW S m_Tp_append 3 [some (.ref 1), some (.int x1), some (.int (24 : Int32))] [] (enc σ) (qV Q)) : BW S m_Tp_append 0 [some (.ref 1), some (.int x1), none] [] (enc σ) (qV Q) := by
  refine b_bipush (v := (24 : Int32)) d_Tp_append_0 (by decide) ?_
  refine b_istore_n (ls' := [some (.ref 1), some (.int x1), some (.int (24 : Int32))]) d_Tp_append_2 rfl (Nat.le_of_ble_eq_true rfl) rfl ?_
  exact b_mask [true, true, true] rfl H
set_option maxHeartbeats 4000000 in
set_option maxRecDepth 100000 in
theorem B_Tp_append_3 {S : XS} {Q : St → Prop} (σ : St) (x1 : Int32) (x2 : Int32) (H : ((x2 < 0 → Q σ) ∧ (¬ x2 < 0 → (((200 : Int32) ≤ (gX σ 0) → Q σ) ∧ (¬ (200 : Int32) ≤ (gX σ 0) → (vp_in (gX σ 0) 200) ∧ BW S m_Tp_append 3 [some (.ref 1), some (.int x1), some (.int (x2 + (-8 : Int32)))] [] (enc (sX (sA σ 0 (upd (gA σ 0) (gX σ 0).toNatClampNeg ((((x1).toUInt32 >>> ((x2).toUInt32 &&& Int32.toUInt32 31)).toInt32) &&& (255 : Int32)))) 0 ((gX σ 0) + (1 : Int32)))) (qV Q)))))) : BW S m_Tp_append 3 [some (.ref 1), some (.int x1), some (.int x2)] [] (enc σ) (qV Q) := by
  refine b_iload_n d_Tp_append_3 rfl rfl ?_
  refine b_if_lt (tgt := 49) d_Tp_append_4 (by decide) (fun c3 => ?_) (fun c3 => ?_)
  · have H := H.1 c3
    exact b_vret d_Tp_append_49 rfl ⟨_, rfl, rfl, H⟩
  · have H := H.2 c3
    refine b_aload_n d_Tp_append_7 rfl rfl ?_
    refine b_getf (v := .int (gX σ 0)) d_Tp_append_8 fl_Tp_19 (eg_1 σ) rfl ?_
    refine b_sipush (v := (200 : Int32)) d_Tp_append_11 (by decide) ?_
    refine b_icmp_ge (tgt := 49) d_Tp_append_14 (by decide) (fun c2 => ?_) (fun c2 => ?_)
    · have H := H.1 c2
      exact b_vret d_Tp_append_49 rfl ⟨_, rfl, rfl, H⟩
    · have H := H.2 c2
      refine b_aload_n d_Tp_append_17 rfl rfl ?_
      refine b_getf (v := .ref 2) d_Tp_append_18 fl_Tp_11 (eg_1 σ) rfl ?_
      refine b_aload_n d_Tp_append_21 rfl rfl ?_
      refine b_getf (v := .int (gX σ 0)) d_Tp_append_22 fl_Tp_19 (eg_1 σ) rfl ?_
      refine b_iload_n d_Tp_append_25 rfl rfl ?_
      refine b_iload_n d_Tp_append_26 rfl rfl ?_
      refine b_iushr d_Tp_append_27  ?_
      refine b_sipush (v := (255 : Int32)) d_Tp_append_28 (by decide) ?_
      refine b_iand d_Tp_append_31  ?_
      obtain ⟨h1, H⟩ := H
      refine b_iast (h1 := enc (sA σ 0 (upd (gA σ 0) (gX σ 0).toNatClampNeg ((((x1).toUInt32 >>> ((x2).toUInt32 &&& Int32.toUInt32 31)).toInt32) &&& (255 : Int32))))) d_Tp_append_32 (eg_2 σ) h1 (es_2 σ (upd (gA σ 0) (gX σ 0).toNatClampNeg ((((x1).toUInt32 >>> ((x2).toUInt32 &&& Int32.toUInt32 31)).toInt32) &&& (255 : Int32)))) ?_
      refine b_aload_n d_Tp_append_33 rfl rfl ?_
      refine b_dup d_Tp_append_34 rfl ?_
      refine b_getf (v := .int (gX σ 0)) d_Tp_append_35 fl_Tp_19 (eg_1 (sA σ 0 (upd (gA σ 0) (gX σ 0).toNatClampNeg ((((x1).toUInt32 >>> ((x2).toUInt32 &&& Int32.toUInt32 31)).toInt32) &&& (255 : Int32))))) rfl ?_
      refine b_iconst (v := (1 : Int32)) d_Tp_append_38 (by decide) ?_
      refine b_iadd d_Tp_append_39  ?_
      refine b_putf (ty := .int) (h1 := enc (sX (sA σ 0 (upd (gA σ 0) (gX σ 0).toNatClampNeg ((((x1).toUInt32 >>> ((x2).toUInt32 &&& Int32.toUInt32 31)).toInt32) &&& (255 : Int32)))) 0 ((gX σ 0) + (1 : Int32)))) d_Tp_append_40 fl_Tp_19 ft_10_1 (fun _ => ⟨rfl, rfl⟩) (eg_1 (sA σ 0 (upd (gA σ 0) (gX σ 0).toNatClampNeg ((((x1).toUInt32 >>> ((x2).toUInt32 &&& Int32.toUInt32 31)).toInt32) &&& (255 : Int32))))) (Nat.le_of_ble_eq_true rfl) (es_1_1 (sA σ 0 (upd (gA σ 0) (gX σ 0).toNatClampNeg ((((x1).toUInt32 >>> ((x2).toUInt32 &&& Int32.toUInt32 31)).toInt32) &&& (255 : Int32)))) ((gX σ 0) + (1 : Int32))) ?_
      refine b_iinc (v := (x2 + (-8 : Int32))) (ls' := [some (.ref 1), some (.int x1), some (.int (x2 + (-8 : Int32)))]) d_Tp_append_43 rfl rfl (Nat.le_of_ble_eq_true rfl) rfl ?_
      refine b_goto (tgt := 3) d_Tp_append_46 (by decide) ?_
      exact b_mask [true, true, true] rfl H
theorem C_Tp_append {S : XS} {Q : St → Prop} (σ : St) (x1 : Int32) (H : BW S m_Tp_append 0 [some (.ref 1), some (.int x1), none] [] (enc σ) (qV Q)) : CM S m_Tp_append [.ref 1, .int x1] (enc σ) (qV Q) := b_meth (by decide) (Nat.le_of_ble_eq_true rfl) rfl H
theorem d_Tp_shorten_0 : decode m_Tp_shorten.2.1 0 = .ok (.iload_n 1, 1) := by decide +kernel
theorem d_Tp_shorten_1 : decode m_Tp_shorten.2.1 1 = .ok (.ifCond .lt 11, 3) := by decide +kernel
theorem d_Tp_shorten_4 : decode m_Tp_shorten.2.1 4 = .ok (.iload_n 1, 1) := by decide +kernel
theorem d_Tp_shorten_5 : decode m_Tp_shorten.2.1 5 = .ok (.aload_n 0, 1) := by decide +kernel
theorem d_Tp_shorten_6 : decode m_Tp_shorten.2.1 6 = .ok (.getfield 19, 3) := by decide +kernel
theorem d_Tp_shorten_9 : decode m_Tp_shorten.2.1 9 = .ok (.if_icmp .le 5, 3) := by decide +kernel
theorem d_Tp_shorten_12 : decode m_Tp_shorten.2.1 12 = .ok (.iconst 0, 1) := by decide +kernel
theorem d_Tp_shorten_13 : decode m_Tp_shorten.2.1 13 = .ok (.ireturn, 1) := by decide +kernel
theorem d_Tp_shorten_14 : decode m_Tp_shorten.2.1 14 = .ok (.aload_n 0, 1) := by decide +kernel
theorem d_Tp_shorten_15 : decode m_Tp_shorten.2.1 15 = .ok (.iload_n 1, 1) := by decide +kernel
theorem d_Tp_shorten_16 : decode m_Tp_shorten.2.1 16 = .ok (.putfield 19, 3) := by decide +kernel
theorem d_Tp_shorten_19 : decode m_Tp_shorten.2.1 19 = .ok (.iconst 1, 1) := by decide +kernel
theorem d_Tp_shorten_20 : decode m_Tp_shorten.2.1 20 = .ok (.ireturn, 1) := by decide +kernel
set_option maxHeartbeats 4000000 in
set_option maxRecDepth 100000 in
theorem B_Tp_shorten_0 {S : XS} {Q : Int32 → St → Prop} (σ : St) (x1 : Int32) (H : ((x1 < 0 → Q (0 : Int32) σ) ∧ (¬ x1 < 0 → ((x1 ≤ (gX σ 0) → Q (1 : Int32) (sX σ 0 x1)) ∧ (¬ x1 ≤ (gX σ 0) → Q (0 : Int32) σ))))) : BW S m_Tp_shorten 0 [some (.ref 1), some (.int x1)] [] (enc σ) (qI Q) := by
  refine b_iload_n d_Tp_shorten_0 rfl rfl ?_
  refine b_if_lt (tgt := 12) d_Tp_shorten_1 (by decide) (fun c2 => ?_) (fun c2 => ?_)
  · have H := H.1 c2
    refine b_iconst (v := (0 : Int32)) d_Tp_shorten_12 (by decide) ?_
    exact b_iret (ty := .boolean) d_Tp_shorten_13 rfl rfl ⟨_, _, rfl, rfl, H⟩
  · have H := H.2 c2
    refine b_iload_n d_Tp_shorten_4 rfl rfl ?_
    refine b_aload_n d_Tp_shorten_5 rfl rfl ?_
    refine b_getf (v := .int (gX σ 0)) d_Tp_shorten_6 fl_Tp_19 (eg_1 σ) rfl ?_
    refine b_icmp_le (tgt := 14) d_Tp_shorten_9 (by decide) (fun c1 => ?_) (fun c1 => ?_)
    · have H := H.1 c1
      refine b_aload_n d_Tp_shorten_14 rfl rfl ?_
      refine b_iload_n d_Tp_shorten_15 rfl rfl ?_
      refine b_putf (ty := .int) (h1 := enc (sX σ 0 x1)) d_Tp_shorten_16 fl_Tp_19 ft_10_1 (fun _ => ⟨rfl, rfl⟩) (eg_1 σ) (Nat.le_of_ble_eq_true rfl) (es_1_1 σ x1) ?_
      refine b_iconst (v := (1 : Int32)) d_Tp_shorten_19 (by decide) ?_
      exact b_iret (ty := .boolean) d_Tp_shorten_20 rfl rfl ⟨_, _, rfl, rfl, H⟩
    · have H := H.2 c1
      refine b_iconst (v := (0 : Int32)) d_Tp_shorten_12 (by decide) ?_
      exact b_iret (ty := .boolean) d_Tp_shorten_13 rfl rfl ⟨_, _, rfl, rfl, H⟩
theorem C_Tp_shorten {S : XS} {Q : Int32 → St → Prop} (σ : St) (x1 : Int32) (H : BW S m_Tp_shorten 0 [some (.ref 1), some (.int x1)] [] (enc σ) (qI Q)) : CM S m_Tp_shorten [.ref 1, .int x1] (enc σ) (qI Q) := b_meth (by decide) (Nat.le_of_ble_eq_true rfl) rfl H
theorem d_Tp_discard_0 : decode m_Tp_discard.2.1 0 = .ok (.aload_n 0, 1) := by decide +kernel
theorem d_Tp_discard_1 : decode m_Tp_discard.2.1 1 = .ok (.iconst 0, 1) := by decide +kernel
theorem d_Tp_discard_2 : decode m_Tp_discard.2.1 2 = .ok (.putfield 19, 3) := by decide +kernel
theorem d_Tp_discard_5 : decode m_Tp_discard.2.1 5 = .ok (.return_, 1) := by decide +kernel
set_option maxHeartbeats 4000000 in
set_option maxRecDepth 100000 in
theorem B_Tp_discard_0 {S : XS} {Q : St → Prop} (σ : St)  (H : Q (sX σ 0 (0 : Int32))) : BW S m_Tp_discard 0 [some (.ref 1)] [] (enc σ) (qV Q) := by
  refine b_aload_n d_Tp_discard_0 rfl rfl ?_
  refine b_iconst (v := (0 : Int32)) d_Tp_discard_1 (by decide) ?_
  refine b_putf (ty := .int) (h1 := enc (sX σ 0 (0 : Int32))) d_Tp_discard_2 fl_Tp_19 ft_10_1 (fun _ => ⟨rfl, rfl⟩) (eg_1 σ) (Nat.le_of_ble_eq_true rfl) (es_1_1 σ (0 : Int32)) ?_
  exact b_vret d_Tp_discard_5 rfl ⟨_, rfl, rfl, H⟩
theorem C_Tp_discard {S : XS} {Q : St → Prop} (σ : St)  (H : BW S m_Tp_discard 0 [some (.ref 1)] [] (enc σ) (qV Q)) : CM S m_Tp_discard [.ref 1] (enc σ) (qV Q) := b_meth (by decide) (Nat.le_of_ble_eq_true rfl) rfl H
theorem d_Tp_open_0 : decode m_Tp_open.2.1 0 = .ok (.aload_n 0, 1) := by decide +kernel
theorem d_Tp_open_1 : decode m_Tp_open.2.1 1 = .ok (.iconst 0, 1) := by decide +kernel
theorem d_Tp_open_2 : decode m_Tp_open.2.1 2 = .ok (.putfield 22, 3) := by decide +kernel
theorem d_Tp_open_5 : decode m_Tp_open.2.1 5 = .ok (.aload_n 0, 1) := by decide +kernel
theorem d_Tp_open_6 : decode m_Tp_open.2.1 6 = .ok (.iconst 0, 1) := by decide +kernel
theorem d_Tp_open_7 : decode m_Tp_open.2.1 7 = .ok (.putfield 25, 3) := by decide +kernel
theorem d_Tp_open_10 : decode m_Tp_open.2.1 10 = .ok (.aload_n 0, 1) := by decide +kernel
theorem d_Tp_open_11 : decode m_Tp_open.2.1 11 = .ok (.iconst (-1), 1) := by decide +kernel
theorem d_Tp_open_12 : decode m_Tp_open.2.1 12 = .ok (.putfield 15, 3) := by decide +kernel
theorem d_Tp_open_15 : decode m_Tp_open.2.1 15 = .ok (.return_, 1) := by decide +kernel
set_option maxHeartbeats 4000000 in
set_option maxRecDepth 100000 in
theorem B_Tp_open_0 {S : XS} {Q : St → Prop} (σ : St)  (H : Q (sX (sX (sX σ 1 (0 : Int32)) 2 (0 : Int32)) 3 (-1 : Int32))) : BW S m_Tp_open 0 [some (.ref 1)] [] (enc σ) (qV Q) := by
  refine b_aload_n d_Tp_open_0 rfl rfl ?_
  refine b_iconst (v := (0 : Int32)) d_Tp_open_1 (by decide) ?_
  refine b_putf (ty := .int) (h1 := enc (sX σ 1 (0 : Int32))) d_Tp_open_2 fl_Tp_22 ft_10_2 (fun _ => ⟨rfl, rfl⟩) (eg_1 σ) (Nat.le_of_ble_eq_true rfl) (es_1_2 σ (0 : Int32)) ?_
  refine b_aload_n d_Tp_open_5 rfl rfl ?_
  refine b_iconst (v := (0 : Int32)) d_Tp_open_6 (by decide) ?_
  refine b_putf (ty := .int) (h1 := enc (sX (sX σ 1 (0 : Int32)) 2 (0 : Int32))) d_Tp_open_7 fl_Tp_25 ft_10_3 (fun _ => ⟨rfl, rfl⟩) (eg_1 (sX σ 1 (0 : Int32))) (Nat.le_of_ble_eq_true rfl) (es_1_3 (sX σ 1 (0 : Int32)) (0 : Int32)) ?_
  refine b_aload_n d_Tp_open_10 rfl rfl ?_
  refine b_iconst (v := (-1 : Int32)) d_Tp_open_11 (by decide) ?_
  refine b_putf (ty := .int) (h1 := enc (sX (sX (sX σ 1 (0 : Int32)) 2 (0 : Int32)) 3 (-1 : Int32))) d_Tp_open_12 fl_Tp_15 ft_10_4 (fun _ => ⟨rfl, rfl⟩) (eg_1 (sX (sX σ 1 (0 : Int32)) 2 (0 : Int32))) (Nat.le_of_ble_eq_true rfl) (es_1_4 (sX (sX σ 1 (0 : Int32)) 2 (0 : Int32)) (-1 : Int32)) ?_
  exact b_vret d_Tp_open_15 rfl ⟨_, rfl, rfl, H⟩
theorem C_Tp_open {S : XS} {Q : St → Prop} (σ : St)  (H : BW S m_Tp_open 0 [some (.ref 1)] [] (enc σ) (qV Q)) : CM S m_Tp_open [.ref 1] (enc σ) (qV Q) := b_meth (by decide) (Nat.le_of_ble_eq_true rfl) rfl H
theorem d_Tp_failed_0 : decode m_Tp_failed.2.1 0 = .ok (.aload_n 0, 1) := by decide +kernel
theorem d_Tp_failed_1 : decode m_Tp_failed.2.1 1 = .ok (.getfield 25, 3) := by decide +kernel
theorem d_Tp_failed_4 : decode m_Tp_failed.2.1 4 = .ok (.ifCond .eq 7, 3) := by decide +kernel
theorem d_Tp_failed_7 : decode m_Tp_failed.2.1 7 = .ok (.iconst 1, 1) := by decide +kernel
theorem d_Tp_failed_8 : decode m_Tp_failed.2.1 8 = .ok (.goto 4, 3) := by decide +kernel
theorem d_Tp_failed_11 : decode m_Tp_failed.2.1 11 = .ok (.iconst 0, 1) := by decide +kernel
theorem d_Tp_failed_12 : decode m_Tp_failed.2.1 12 = .ok (.ireturn, 1) := by decide +kernel
set_option maxHeartbeats 4000000 in
set_option maxRecDepth 100000 in
theorem B_Tp_failed_0 {S : XS} {Q : Int32 → St → Prop} (σ : St)  (H : (((gX σ 2) = 0 → Q (0 : Int32) σ) ∧ (¬ (gX σ 2) = 0 → Q (1 : Int32) σ))) : BW S m_Tp_failed 0 [some (.ref 1)] [] (enc σ) (qI Q) := by
  refine b_aload_n d_Tp_failed_0 rfl rfl ?_
  refine b_getf (v := .int (gX σ 2)) d_Tp_failed_1 fl_Tp_25 (eg_1 σ) rfl ?_
  refine b_if_eq (tgt := 11) d_Tp_failed_4 (by decide) (fun c1 => ?_) (fun c1 => ?_)
  · have H := H.1 c1
    refine b_iconst (v := (0 : Int32)) d_Tp_failed_11 (by decide) ?_
    exact b_iret (ty := .boolean) d_Tp_failed_12 rfl rfl ⟨_, _, rfl, rfl, H⟩
  · have H := H.2 c1
    refine b_iconst (v := (1 : Int32)) d_Tp_failed_7 (by decide) ?_
    refine b_goto (tgt := 12) d_Tp_failed_8 (by decide) ?_
    exact b_iret (ty := .boolean) d_Tp_failed_12 rfl rfl ⟨_, _, rfl, rfl, H⟩
theorem C_Tp_failed {S : XS} {Q : Int32 → St → Prop} (σ : St)  (H : BW S m_Tp_failed 0 [some (.ref 1)] [] (enc σ) (qI Q)) : CM S m_Tp_failed [.ref 1] (enc σ) (qI Q) := b_meth (by decide) (Nat.le_of_ble_eq_true rfl) rfl H
theorem d_Tp_readName_0 : decode m_Tp_readName.2.1 0 = .ok (.aload_n 0, 1) := by decide +kernel
theorem d_Tp_readName_1 : decode m_Tp_readName.2.1 1 = .ok (.invokevirtual 28, 3) := by decide +kernel
theorem d_Tp_readName_4 : decode m_Tp_readName.2.1 4 = .ok (.ifCond .eq 5, 3) := by decide +kernel
theorem d_Tp_readName_7 : decode m_Tp_readName.2.1 7 = .ok (.lconst 0, 1) := by decide +kernel
theorem d_Tp_readName_8 : decode m_Tp_readName.2.1 8 = .ok (.lreturn, 1) := by decide +kernel
theorem d_Tp_readName_9 : decode m_Tp_readName.2.1 9 = .ok (.aload_n 0, 1) := by decide +kernel
theorem d_Tp_readName_10 : decode m_Tp_readName.2.1 10 = .ok (.invokevirtual 32, 3) := by decide +kernel
theorem d_Tp_readName_13 : decode m_Tp_readName.2.1 13 = .ok (.istore_n 1, 1) := by decide +kernel
theorem d_Tp_readName_14 : decode m_Tp_readName.2.1 14 = .ok (.iload_n 1, 1) := by decide +kernel
theorem d_Tp_readName_15 : decode m_Tp_readName.2.1 15 = .ok (.ifCond .eq 11, 3) := by decide +kernel
theorem d_Tp_readName_18 : decode m_Tp_readName.2.1 18 = .ok (.aload_n 0, 1) := by decide +kernel
theorem d_Tp_readName_19 : decode m_Tp_readName.2.1 19 = .ok (.iload_n 1, 1) := by decide +kernel
theorem d_Tp_readName_20 : decode m_Tp_readName.2.1 20 = .ok (.invokevirtual 36, 3) := by decide +kernel
theorem d_Tp_readName_23 : decode m_Tp_readName.2.1 23 = .ok (.ifCond .eq 14, 3) := by decide +kernel
theorem d_Tp_readName_26 : decode m_Tp_readName.2.1 26 = .ok (.aload_n 0, 1) := by decide +kernel
theorem d_Tp_readName_27 : decode m_Tp_readName.2.1 27 = .ok (.iconst 1, 1) := by decide +kernel
theorem d_Tp_readName_28 : decode m_Tp_readName.2.1 28 = .ok (.aload_n 0, 1) := by decide +kernel
theorem d_Tp_readName_29 : decode m_Tp_readName.2.1 29 = .ok (.getfield 22, 3) := by decide +kernel
theorem d_Tp_readName_32 : decode m_Tp_readName.2.1 32 = .ok (.invokevirtual 40, 3) := by decide +kernel
theorem d_Tp_readName_35 : decode m_Tp_readName.2.1 35 = .ok (.lconst 0, 1) := by decide +kernel
theorem d_Tp_readName_36 : decode m_Tp_readName.2.1 36 = .ok (.lreturn, 1) := by decide +kernel
theorem d_Tp_readName_37 : decode m_Tp_readName.2.1 37 = .ok (.iload_n 1, 1) := by decide +kernel
theorem d_Tp_readName_38 : decode m_Tp_readName.2.1 38 = .ok (.bipush 10, 2) := by decide +kernel
theorem d_Tp_readName_40 : decode m_Tp_readName.2.1 40 = .ok (.if_icmp .le 17, 3) := by decide +kernel
theorem d_Tp_readName_43 : decode m_Tp_readName.2.1 43 = .ok (.aload_n 0, 1) := by decide +kernel
theorem d_Tp_readName_44 : decode m_Tp_readName.2.1 44 = .ok (.iconst 1, 1) := by decide +kernel
theorem d_Tp_readName_45 : decode m_Tp_readName.2.1 45 = .ok (.aload_n 0, 1) := by decide +kernel
theorem d_Tp_readName_46 : decode m_Tp_readName.2.1 46 = .ok (.getfield 22, 3) := by decide +kernel
theorem d_Tp_readName_49 : decode m_Tp_readName.2.1 49 = .ok (.bipush 10, 2) := by decide +kernel
theorem d_Tp_readName_51 : decode m_Tp_readName.2.1 51 = .ok (.iadd, 1) := by decide +kernel
theorem d_Tp_readName_52 : decode m_Tp_readName.2.1 52 = .ok (.invokevirtual 40, 3) := by decide +kernel
theorem d_Tp_readName_55 : decode m_Tp_readName.2.1 55 = .ok (.lconst 0, 1) := by decide +kernel
theorem d_Tp_readName_56 : decode m_Tp_readName.2.1 56 = .ok (.lreturn, 1) := by decide +kernel
theorem d_Tp_readName_57 : decode m_Tp_readName.2.1 57 = .ok (.lconst 0, 1) := by decide +kernel
theorem d_Tp_readName_58 : decode m_Tp_readName.2.1 58 = .ok (.lstore_n 2, 1) := by decide +kernel
theorem d_Tp_readName_59 : decode m_Tp_readName.2.1 59 = .ok (.iconst 0, 1) := by decide +kernel
theorem d_Tp_readName_60 : decode m_Tp_readName.2.1 60 = .ok (.istore 4, 2) := by decide +kernel
theorem d_Tp_readName_62 : decode m_Tp_readName.2.1 62 = .ok (.iload 4, 2) := by decide +kernel
theorem d_Tp_readName_64 : decode m_Tp_readName.2.1 64 = .ok (.iload_n 1, 1) := by decide +kernel
theorem d_Tp_readName_65 : decode m_Tp_readName.2.1 65 = .ok (.if_icmp .ge 33, 3) := by decide +kernel
theorem d_Tp_readName_68 : decode m_Tp_readName.2.1 68 = .ok (.lload_n 2, 1) := by decide +kernel
theorem d_Tp_readName_69 : decode m_Tp_readName.2.1 69 = .ok (.ldc2_w 44, 3) := by decide +kernel
theorem d_Tp_readName_72 : decode m_Tp_readName.2.1 72 = .ok (.lmul, 1) := by decide +kernel
theorem d_Tp_readName_73 : decode m_Tp_readName.2.1 73 = .ok (.aload_n 0, 1) := by decide +kernel
theorem d_Tp_readName_74 : decode m_Tp_readName.2.1 74 = .ok (.aload_n 0, 1) := by decide +kernel
theorem d_Tp_readName_75 : decode m_Tp_readName.2.1 75 = .ok (.getfield 22, 3) := by decide +kernel
theorem d_Tp_readName_78 : decode m_Tp_readName.2.1 78 = .ok (.iload 4, 2) := by decide +kernel
theorem d_Tp_readName_80 : decode m_Tp_readName.2.1 80 = .ok (.iadd, 1) := by decide +kernel
theorem d_Tp_readName_81 : decode m_Tp_readName.2.1 81 = .ok (.invokevirtual 46, 3) := by decide +kernel
theorem d_Tp_readName_84 : decode m_Tp_readName.2.1 84 = .ok (.bipush 97, 2) := by decide +kernel
theorem d_Tp_readName_86 : decode m_Tp_readName.2.1 86 = .ok (.isub, 1) := by decide +kernel
theorem d_Tp_readName_87 : decode m_Tp_readName.2.1 87 = .ok (.iconst 1, 1) := by decide +kernel
theorem d_Tp_readName_88 : decode m_Tp_readName.2.1 88 = .ok (.iadd, 1) := by decide +kernel
theorem d_Tp_readName_89 : decode m_Tp_readName.2.1 89 = .ok (.i2l, 1) := by decide +kernel
theorem d_Tp_readName_90 : decode m_Tp_readName.2.1 90 = .ok (.ladd, 1) := by decide +kernel
theorem d_Tp_readName_91 : decode m_Tp_readName.2.1 91 = .ok (.lstore_n 2, 1) := by decide +kernel
theorem d_Tp_readName_92 : decode m_Tp_readName.2.1 92 = .ok (.iinc 4 1, 3) := by decide +kernel
theorem d_Tp_readName_95 : decode m_Tp_readName.2.1 95 = .ok (.goto (-33), 3) := by decide +kernel
theorem d_Tp_readName_98 : decode m_Tp_readName.2.1 98 = .ok (.aload_n 0, 1) := by decide +kernel
theorem d_Tp_readName_99 : decode m_Tp_readName.2.1 99 = .ok (.dup, 1) := by decide +kernel
theorem d_Tp_readName_100 : decode m_Tp_readName.2.1 100 = .ok (.getfield 22, 3) := by decide +kernel
theorem d_Tp_readName_103 : decode m_Tp_readName.2.1 103 = .ok (.iload_n 1, 1) := by decide +kernel
theorem d_Tp_readName_104 : decode m_Tp_readName.2.1 104 = .ok (.iadd, 1) := by decide +kernel
theorem d_Tp_readName_105 : decode m_Tp_readName.2.1 105 = .ok (.putfield 22, 3) := by decide +kernel
theorem d_Tp_readName_108 : decode m_Tp_readName.2.1 108 = .ok (.lload_n 2, 1) := by decide +kernel
theorem d_Tp_readName_109 : decode m_Tp_readName.2.1 109 = .ok (.lreturn, 1) := by decide +kernel
set_option maxHeartbeats 4000000 in
set_option maxRecDepth 100000 in
theorem B_Tp_readName_0 {S : XS} {Q : Int64 → St → Prop} (σ : St)  (H : CM S m_Tp_failed [.ref 1] (enc σ) (qI (fun v1 τ2 => ((v1 = 0 → CM S m_Tp_lettersAhead [.ref 1] (enc τ2) (qI (fun v3 τ4 => ((v3 = 0 → CM S m_Tp_fail [.ref 1, .int (1 : Int32), .int (gX τ4 1)] (enc τ4) (qV (fun τ6 => Q (0 : Int64) τ6))) ∧ (¬ v3 = 0 → CM S m_Tp_isFactWord [.ref 1, .int v3] (enc τ4) (qI (fun v7 τ8 => ((v7 = 0 → ((v3 ≤ (10 : Int32) → BW S m_Tp_readName 62 [some (.ref 1), some (.int v3), some (.long (0 : Int64)), none, some (.int (0 : Int32))] [] (enc τ8) (qL Q)) ∧ (¬ v3 ≤ (10 : Int32) → CM S m_Tp_fail [.ref 1, .int (1 : Int32), .int ((gX τ8 1) + (10 : Int32))] (enc τ8) (qV (fun τ10 => Q (0 : Int64) τ10))))) ∧ (¬ v7 = 0 → CM S m_Tp_fail [.ref 1, .int (1 : Int32), .int (gX τ8 1)] (enc τ8) (qV (fun τ13 => Q (0 : Int64) τ13))))))))))) ∧ (¬ v1 = 0 → Q (0 : Int64) τ2))))) : BW S m_Tp_readName 0 [some (.ref 1), none, none, none, none] [] (enc σ) (qL Q) := by
  refine b_aload_n d_Tp_readName_0 rfl rfl ?_
  refine b_callVi (Mc := m_Tp_failed) (As := []) (st := []) d_Tp_readName_1 ⟨⟨kA_Tp_failed.1, kA_Tp_failed.2.1, kA_Tp_failed.2.2, by decide⟩, ml_Tp_28, kV_Tp_failed⟩ (eg_1 σ) rfl rfl (Nat.le_of_ble_eq_true rfl) H (fun v1 τ2 H => ?_)
  refine b_if_eq (tgt := 9) d_Tp_readName_4 (by decide) (fun c16 => ?_) (fun c16 => ?_)
  · have H := H.1 c16
    refine b_aload_n d_Tp_readName_9 rfl rfl ?_
    refine b_callVi (Mc := m_Tp_lettersAhead) (As := []) (st := []) d_Tp_readName_10 ⟨⟨kA_Tp_lettersAhead.1, kA_Tp_lettersAhead.2.1, kA_Tp_lettersAhead.2.2, by decide⟩, ml_Tp_32, kV_Tp_lettersAhead⟩ (eg_1 τ2) rfl rfl (Nat.le_of_ble_eq_true rfl) H (fun v3 τ4 H => ?_)
    refine b_istore_n (ls' := [some (.ref 1), some (.int v3), none, none, none]) d_Tp_readName_13 rfl (Nat.le_of_ble_eq_true rfl) rfl ?_
    refine b_iload_n d_Tp_readName_14 rfl rfl ?_
    refine b_if_eq (tgt := 26) d_Tp_readName_15 (by decide) (fun c15 => ?_) (fun c15 => ?_)
    · have H := H.1 c15
      refine b_aload_n d_Tp_readName_26 rfl rfl ?_
      refine b_iconst (v := (1 : Int32)) d_Tp_readName_27 (by decide) ?_
      refine b_aload_n d_Tp_readName_28 rfl rfl ?_
      refine b_getf (v := .int (gX τ4 1)) d_Tp_readName_29 fl_Tp_22 (eg_1 τ4) rfl ?_
      refine b_callVv (Mc := m_Tp_fail) (As := [.int (1 : Int32), .int (gX τ4 1)]) (st := []) d_Tp_readName_32 ⟨⟨kA_Tp_fail.1, kA_Tp_fail.2.1, kA_Tp_fail.2.2, by decide⟩, ml_Tp_40, kV_Tp_fail⟩ (eg_1 τ4) rfl rfl (Nat.le_of_ble_eq_true rfl) H (fun τ6 H => ?_)
      refine b_lconst (v := (0 : Int64)) d_Tp_readName_35 (by decide) ?_
      exact b_lret d_Tp_readName_36 rfl ⟨_, _, rfl, rfl, H⟩
    · have H := H.2 c15
      refine b_aload_n d_Tp_readName_18 rfl rfl ?_
      refine b_iload_n d_Tp_readName_19 rfl rfl ?_
      refine b_callVi (Mc := m_Tp_isFactWord) (As := [.int v3]) (st := []) d_Tp_readName_20 ⟨⟨kA_Tp_isFactWord.1, kA_Tp_isFactWord.2.1, kA_Tp_isFactWord.2.2, by decide⟩, ml_Tp_36, kV_Tp_isFactWord⟩ (eg_1 τ4) rfl rfl (Nat.le_of_ble_eq_true rfl) H (fun v7 τ8 H => ?_)
      refine b_if_eq (tgt := 37) d_Tp_readName_23 (by decide) (fun c14 => ?_) (fun c14 => ?_)
      · have H := H.1 c14
        refine b_iload_n d_Tp_readName_37 rfl rfl ?_
        refine b_bipush (v := (10 : Int32)) d_Tp_readName_38 (by decide) ?_
        refine b_icmp_le (tgt := 57) d_Tp_readName_40 (by decide) (fun c11 => ?_) (fun c11 => ?_)
        · have H := H.1 c11
          refine b_lconst (v := (0 : Int64)) d_Tp_readName_57 (by decide) ?_
          refine b_lstore_n (ls' := [some (.ref 1), some (.int v3), some (.long (0 : Int64)), none, none]) d_Tp_readName_58 rfl (Nat.le_of_ble_eq_true rfl) rfl ?_
          refine b_iconst (v := (0 : Int32)) d_Tp_readName_59 (by decide) ?_
          refine b_istore (ls' := [some (.ref 1), some (.int v3), some (.long (0 : Int64)), none, some (.int (0 : Int32))]) d_Tp_readName_60 (Nat.le_of_ble_eq_true rfl) rfl ?_
          exact b_mask [true, true, true, true, true] rfl H
        · have H := H.2 c11
          refine b_aload_n d_Tp_readName_43 rfl rfl ?_
          refine b_iconst (v := (1 : Int32)) d_Tp_readName_44 (by decide) ?_
          refine b_aload_n d_Tp_readName_45 rfl rfl ?_
          refine b_getf (v := .int (gX τ8 1)) d_Tp_readName_46 fl_Tp_22 (eg_1 τ8) rfl ?_
          refine b_bipush (v := (10 : Int32)) d_Tp_readName_49 (by decide) ?_
          refine b_iadd d_Tp_readName_51  ?_
          refine b_callVv (Mc := m_Tp_fail) (As := [.int (1 : Int32), .int ((gX τ8 1) + (10 : Int32))]) (st := []) d_Tp_readName_52 ⟨⟨kA_Tp_fail.1, kA_Tp_fail.2.1, kA_Tp_fail.2.2, by decide⟩, ml_Tp_40, kV_Tp_fail⟩ (eg_1 τ8) rfl rfl (Nat.le_of_ble_eq_true rfl) H (fun τ10 H => ?_)
          refine b_lconst (v := (0 : Int64)) d_Tp_readName_55 (by decide) ?_
          exact b_lret d_Tp_readName_56 rfl ⟨_, _, rfl, rfl, H⟩
      · have H := H.2 c14
        refine b_aload_n d_Tp_readName_26 rfl rfl ?_
        refine b_iconst (v := (1 : Int32)) d_Tp_readName_27 (by decide) ?_
        refine b_aload_n d_Tp_readName_28 rfl rfl ?_
        refine b_getf (v := .int (gX τ8 1)) d_Tp_readName_29 fl_Tp_22 (eg_1 τ8) rfl ?_
        refine b_callVv (Mc := m_Tp_fail) (As := [.int (1 : Int32), .int (gX τ8 1)]) (st := []) d_Tp_readName_32 ⟨⟨kA_Tp_fail.1, kA_Tp_fail.2.1, kA_Tp_fail.2.2, by decide⟩, ml_Tp_40, kV_Tp_fail⟩ (eg_1 τ8) rfl rfl (Nat.le_of_ble_eq_true rfl) H (fun τ13 H => ?_)
        refine b_lconst (v := (0 : Int64)) d_Tp_readName_35 (by decide) ?_
        exact b_lret d_Tp_readName_36 rfl ⟨_, _, rfl, rfl, H⟩
  · have H := H.2 c16
    refine b_lconst (v := (0 : Int64)) d_Tp_readName_7 (by decide) ?_
    exact b_lret d_Tp_readName_8 rfl ⟨_, _, rfl, rfl, H⟩
set_option maxHeartbeats 4000000 in
set_option maxRecDepth 100000 in
theorem B_Tp_readName_62 {S : XS} {Q : Int64 → St → Prop} (σ : St) (x1 : Int32) (x2 : Int64) (x4 : Int32) (H : ((x1 ≤ x4 → Q x2 (sX σ 1 ((gX σ 1) + x1))) ∧ (¬ x1 ≤ x4 → CM S m_Tp_byteAt [.ref 1, .int ((gX σ 1) + x4)] (enc σ) (qI (fun v17 τ18 => BW S m_Tp_readName 62 [some (.ref 1), some (.int x1), some (.long ((x2 * (27 : Int64)) + (((v17 - (97 : Int32)) + (1 : Int32))).toInt64)), none, some (.int (x4 + (1 : Int32)))] [] (enc τ18) (qL Q)))))) : BW S m_Tp_readName 62 [some (.ref 1), some (.int x1), some (.long x2), none, some (.int x4)] [] (enc σ) (qL Q) := by
  refine b_iload d_Tp_readName_62 rfl ?_
  refine b_iload_n d_Tp_readName_64 rfl rfl ?_
  refine b_icmp_ge (tgt := 98) d_Tp_readName_65 (by decide) (fun c19 => ?_) (fun c19 => ?_)
  · have H := H.1 c19
    refine b_aload_n d_Tp_readName_98 rfl rfl ?_
    refine b_dup d_Tp_readName_99 rfl ?_
    refine b_getf (v := .int (gX σ 1)) d_Tp_readName_100 fl_Tp_22 (eg_1 σ) rfl ?_
    refine b_iload_n d_Tp_readName_103 rfl rfl ?_
    refine b_iadd d_Tp_readName_104  ?_
    refine b_putf (ty := .int) (h1 := enc (sX σ 1 ((gX σ 1) + x1))) d_Tp_readName_105 fl_Tp_22 ft_10_2 (fun _ => ⟨rfl, rfl⟩) (eg_1 σ) (Nat.le_of_ble_eq_true rfl) (es_1_2 σ ((gX σ 1) + x1)) ?_
    refine b_lload_n d_Tp_readName_108 rfl rfl ?_
    exact b_lret d_Tp_readName_109 rfl ⟨_, _, rfl, rfl, H⟩
  · have H := H.2 c19
    refine b_lload_n d_Tp_readName_68 rfl rfl ?_
    refine b_ldc2 (v := (27 : Int64)) d_Tp_readName_69 cn_Tp_44 ?_
    refine b_lmul d_Tp_readName_72  ?_
    refine b_aload_n d_Tp_readName_73 rfl rfl ?_
    refine b_aload_n d_Tp_readName_74 rfl rfl ?_
    refine b_getf (v := .int (gX σ 1)) d_Tp_readName_75 fl_Tp_22 (eg_1 σ) rfl ?_
    refine b_iload d_Tp_readName_78 rfl ?_
    refine b_iadd d_Tp_readName_80  ?_
    refine b_callVi (Mc := m_Tp_byteAt) (As := [.int ((gX σ 1) + x4)]) (st := [.long (x2 * (27 : Int64))]) d_Tp_readName_81 ⟨⟨kA_Tp_byteAt.1, kA_Tp_byteAt.2.1, kA_Tp_byteAt.2.2, by decide⟩, ml_Tp_46, kV_Tp_byteAt⟩ (eg_1 σ) rfl rfl (Nat.le_of_ble_eq_true rfl) H (fun v17 τ18 H => ?_)
    refine b_bipush (v := (97 : Int32)) d_Tp_readName_84 (by decide) ?_
    refine b_isub d_Tp_readName_86  ?_
    refine b_iconst (v := (1 : Int32)) d_Tp_readName_87 (by decide) ?_
    refine b_iadd d_Tp_readName_88  ?_
    refine b_i2l d_Tp_readName_89 ?_
    refine b_ladd d_Tp_readName_90  ?_
    refine b_lstore_n (ls' := [some (.ref 1), some (.int x1), some (.long ((x2 * (27 : Int64)) + (((v17 - (97 : Int32)) + (1 : Int32))).toInt64)), none, some (.int x4)]) d_Tp_readName_91 rfl (Nat.le_of_ble_eq_true rfl) rfl ?_
    refine b_iinc (v := (x4 + (1 : Int32))) (ls' := [some (.ref 1), some (.int x1), some (.long ((x2 * (27 : Int64)) + (((v17 - (97 : Int32)) + (1 : Int32))).toInt64)), none, some (.int (x4 + (1 : Int32)))]) d_Tp_readName_92 rfl rfl (Nat.le_of_ble_eq_true rfl) rfl ?_
    refine b_goto (tgt := 62) d_Tp_readName_95 (by decide) ?_
    exact b_mask [true, true, true, true, true] rfl H
theorem C_Tp_readName {S : XS} {Q : Int64 → St → Prop} (σ : St)  (H : BW S m_Tp_readName 0 [some (.ref 1), none, none, none, none] [] (enc σ) (qL Q)) : CM S m_Tp_readName [.ref 1] (enc σ) (qL Q) := b_meth (by decide) (Nat.le_of_ble_eq_true rfl) rfl H
theorem d_Tp_readNumber_0 : decode m_Tp_readNumber.2.1 0 = .ok (.aload_n 0, 1) := by decide +kernel
theorem d_Tp_readNumber_1 : decode m_Tp_readNumber.2.1 1 = .ok (.invokevirtual 28, 3) := by decide +kernel
theorem d_Tp_readNumber_4 : decode m_Tp_readNumber.2.1 4 = .ok (.ifCond .eq 5, 3) := by decide +kernel
theorem d_Tp_readNumber_7 : decode m_Tp_readNumber.2.1 7 = .ok (.iconst 0, 1) := by decide +kernel
theorem d_Tp_readNumber_8 : decode m_Tp_readNumber.2.1 8 = .ok (.ireturn, 1) := by decide +kernel
theorem d_Tp_readNumber_9 : decode m_Tp_readNumber.2.1 9 = .ok (.aload_n 0, 1) := by decide +kernel
theorem d_Tp_readNumber_10 : decode m_Tp_readNumber.2.1 10 = .ok (.invokevirtual 50, 3) := by decide +kernel
theorem d_Tp_readNumber_13 : decode m_Tp_readNumber.2.1 13 = .ok (.istore_n 3, 1) := by decide +kernel
theorem d_Tp_readNumber_14 : decode m_Tp_readNumber.2.1 14 = .ok (.iload_n 3, 1) := by decide +kernel
theorem d_Tp_readNumber_15 : decode m_Tp_readNumber.2.1 15 = .ok (.ifCond .ne 14, 3) := by decide +kernel
theorem d_Tp_readNumber_18 : decode m_Tp_readNumber.2.1 18 = .ok (.aload_n 0, 1) := by decide +kernel
theorem d_Tp_readNumber_19 : decode m_Tp_readNumber.2.1 19 = .ok (.iconst 1, 1) := by decide +kernel
theorem d_Tp_readNumber_20 : decode m_Tp_readNumber.2.1 20 = .ok (.aload_n 0, 1) := by decide +kernel
theorem d_Tp_readNumber_21 : decode m_Tp_readNumber.2.1 21 = .ok (.getfield 22, 3) := by decide +kernel
theorem d_Tp_readNumber_24 : decode m_Tp_readNumber.2.1 24 = .ok (.invokevirtual 40, 3) := by decide +kernel
theorem d_Tp_readNumber_27 : decode m_Tp_readNumber.2.1 27 = .ok (.iconst 0, 1) := by decide +kernel
theorem d_Tp_readNumber_28 : decode m_Tp_readNumber.2.1 28 = .ok (.ireturn, 1) := by decide +kernel
theorem d_Tp_readNumber_29 : decode m_Tp_readNumber.2.1 29 = .ok (.iload_n 3, 1) := by decide +kernel
theorem d_Tp_readNumber_30 : decode m_Tp_readNumber.2.1 30 = .ok (.iconst 5, 1) := by decide +kernel
theorem d_Tp_readNumber_31 : decode m_Tp_readNumber.2.1 31 = .ok (.if_icmp .le 16, 3) := by decide +kernel
theorem d_Tp_readNumber_34 : decode m_Tp_readNumber.2.1 34 = .ok (.aload_n 0, 1) := by decide +kernel
theorem d_Tp_readNumber_35 : decode m_Tp_readNumber.2.1 35 = .ok (.iconst 1, 1) := by decide +kernel
theorem d_Tp_readNumber_36 : decode m_Tp_readNumber.2.1 36 = .ok (.aload_n 0, 1) := by decide +kernel
theorem d_Tp_readNumber_37 : decode m_Tp_readNumber.2.1 37 = .ok (.getfield 22, 3) := by decide +kernel
theorem d_Tp_readNumber_40 : decode m_Tp_readNumber.2.1 40 = .ok (.iconst 5, 1) := by decide +kernel
theorem d_Tp_readNumber_41 : decode m_Tp_readNumber.2.1 41 = .ok (.iadd, 1) := by decide +kernel
theorem d_Tp_readNumber_42 : decode m_Tp_readNumber.2.1 42 = .ok (.invokevirtual 40, 3) := by decide +kernel
theorem d_Tp_readNumber_45 : decode m_Tp_readNumber.2.1 45 = .ok (.iconst 0, 1) := by decide +kernel
theorem d_Tp_readNumber_46 : decode m_Tp_readNumber.2.1 46 = .ok (.ireturn, 1) := by decide +kernel
theorem d_Tp_readNumber_47 : decode m_Tp_readNumber.2.1 47 = .ok (.iconst 0, 1) := by decide +kernel
theorem d_Tp_readNumber_48 : decode m_Tp_readNumber.2.1 48 = .ok (.istore 4, 2) := by decide +kernel
theorem d_Tp_readNumber_50 : decode m_Tp_readNumber.2.1 50 = .ok (.iconst 0, 1) := by decide +kernel
theorem d_Tp_readNumber_51 : decode m_Tp_readNumber.2.1 51 = .ok (.istore 5, 2) := by decide +kernel
theorem d_Tp_readNumber_53 : decode m_Tp_readNumber.2.1 53 = .ok (.iload 5, 2) := by decide +kernel
theorem d_Tp_readNumber_55 : decode m_Tp_readNumber.2.1 55 = .ok (.iload_n 3, 1) := by decide +kernel
theorem d_Tp_readNumber_56 : decode m_Tp_readNumber.2.1 56 = .ok (.if_icmp .ge 31, 3) := by decide +kernel
theorem d_Tp_readNumber_59 : decode m_Tp_readNumber.2.1 59 = .ok (.iload 4, 2) := by decide +kernel
theorem d_Tp_readNumber_61 : decode m_Tp_readNumber.2.1 61 = .ok (.bipush 10, 2) := by decide +kernel
theorem d_Tp_readNumber_63 : decode m_Tp_readNumber.2.1 63 = .ok (.imul, 1) := by decide +kernel
theorem d_Tp_readNumber_64 : decode m_Tp_readNumber.2.1 64 = .ok (.aload_n 0, 1) := by decide +kernel
theorem d_Tp_readNumber_65 : decode m_Tp_readNumber.2.1 65 = .ok (.aload_n 0, 1) := by decide +kernel
theorem d_Tp_readNumber_66 : decode m_Tp_readNumber.2.1 66 = .ok (.getfield 22, 3) := by decide +kernel
theorem d_Tp_readNumber_69 : decode m_Tp_readNumber.2.1 69 = .ok (.iload 5, 2) := by decide +kernel
theorem d_Tp_readNumber_71 : decode m_Tp_readNumber.2.1 71 = .ok (.iadd, 1) := by decide +kernel
theorem d_Tp_readNumber_72 : decode m_Tp_readNumber.2.1 72 = .ok (.invokevirtual 46, 3) := by decide +kernel
theorem d_Tp_readNumber_75 : decode m_Tp_readNumber.2.1 75 = .ok (.bipush 48, 2) := by decide +kernel
theorem d_Tp_readNumber_77 : decode m_Tp_readNumber.2.1 77 = .ok (.isub, 1) := by decide +kernel
theorem d_Tp_readNumber_78 : decode m_Tp_readNumber.2.1 78 = .ok (.iadd, 1) := by decide +kernel
theorem d_Tp_readNumber_79 : decode m_Tp_readNumber.2.1 79 = .ok (.istore 4, 2) := by decide +kernel
theorem d_Tp_readNumber_81 : decode m_Tp_readNumber.2.1 81 = .ok (.iinc 5 1, 3) := by decide +kernel
theorem d_Tp_readNumber_84 : decode m_Tp_readNumber.2.1 84 = .ok (.goto (-31), 3) := by decide +kernel
theorem d_Tp_readNumber_87 : decode m_Tp_readNumber.2.1 87 = .ok (.iload 4, 2) := by decide +kernel
theorem d_Tp_readNumber_89 : decode m_Tp_readNumber.2.1 89 = .ok (.iload_n 1, 1) := by decide +kernel
theorem d_Tp_readNumber_90 : decode m_Tp_readNumber.2.1 90 = .ok (.if_icmp .lt 9, 3) := by decide +kernel
theorem d_Tp_readNumber_93 : decode m_Tp_readNumber.2.1 93 = .ok (.iload 4, 2) := by decide +kernel
theorem d_Tp_readNumber_95 : decode m_Tp_readNumber.2.1 95 = .ok (.iload_n 2, 1) := by decide +kernel
theorem d_Tp_readNumber_96 : decode m_Tp_readNumber.2.1 96 = .ok (.if_icmp .le 14, 3) := by decide +kernel
theorem d_Tp_readNumber_99 : decode m_Tp_readNumber.2.1 99 = .ok (.aload_n 0, 1) := by decide +kernel
theorem d_Tp_readNumber_100 : decode m_Tp_readNumber.2.1 100 = .ok (.iconst 2, 1) := by decide +kernel
theorem d_Tp_readNumber_101 : decode m_Tp_readNumber.2.1 101 = .ok (.aload_n 0, 1) := by decide +kernel
theorem d_Tp_readNumber_102 : decode m_Tp_readNumber.2.1 102 = .ok (.getfield 22, 3) := by decide +kernel
theorem d_Tp_readNumber_105 : decode m_Tp_readNumber.2.1 105 = .ok (.invokevirtual 40, 3) := by decide +kernel
theorem d_Tp_readNumber_108 : decode m_Tp_readNumber.2.1 108 = .ok (.iconst 0, 1) := by decide +kernel
theorem d_Tp_readNumber_109 : decode m_Tp_readNumber.2.1 109 = .ok (.ireturn, 1) := by decide +kernel
theorem d_Tp_readNumber_110 : decode m_Tp_readNumber.2.1 110 = .ok (.aload_n 0, 1) := by decide +kernel
theorem d_Tp_readNumber_111 : decode m_Tp_readNumber.2.1 111 = .ok (.dup, 1) := by decide +kernel
theorem d_Tp_readNumber_112 : decode m_Tp_readNumber.2.1 112 = .ok (.getfield 22, 3) := by decide +kernel
theorem d_Tp_readNumber_115 : decode m_Tp_readNumber.2.1 115 = .ok (.iload_n 3, 1) := by decide +kernel
theorem d_Tp_readNumber_116 : decode m_Tp_readNumber.2.1 116 = .ok (.iadd, 1) := by decide +kernel
theorem d_Tp_readNumber_117 : decode m_Tp_readNumber.2.1 117 = .ok (.putfield 22, 3) := by decide +kernel
theorem d_Tp_readNumber_120 : decode m_Tp_readNumber.2.1 120 = .ok (.iload 4, 2) := by decide +kernel
theorem d_Tp_readNumber_122 : decode m_Tp_readNumber.2.1 122 = .ok (.ireturn, 1) := by decide +kernel
set_option maxHeartbeats 4000000 in
set_option maxRecDepth 100000 in
theorem B_Tp_readNumber_0 {S : XS} {Q : Int32 → St → Prop} (σ : St) (x1 : Int32) (x2 : Int32) (H : CM S m_Tp_failed [.ref 1] (enc σ) (qI (fun v1 τ2 => ((v1 = 0 → CM S m_Tp_digitsAhead [.ref 1] (enc τ2) (qI (fun v3 τ4 => ((¬ v3 = 0 → ((v3 ≤ (5 : Int32) → BW S m_Tp_readNumber 53 [some (.ref 1), some (.int x1), some (.int x2), some (.int v3), some (.int (0 : Int32)), some (.int (0 : Int32))] [] (enc τ4) (qI Q)) ∧ (¬ v3 ≤ (5 : Int32) → CM S m_Tp_fail [.ref 1, .int (1 : Int32), .int ((gX τ4 1) + (5 : Int32))] (enc τ4) (qV (fun τ6 => Q (0 : Int32) τ6))))) ∧ (v3 = 0 → CM S m_Tp_fail [.ref 1, .int (1 : Int32), .int (gX τ4 1)] (enc τ4) (qV (fun τ9 => Q (0 : Int32) τ9))))))) ∧ (¬ v1 = 0 → Q (0 : Int32) τ2))))) : BW S m_Tp_readNumber 0 [some (.ref 1), some (.int x1), some (.int x2), none, none, none] [] (enc σ) (qI Q) := by
  refine b_aload_n d_Tp_readNumber_0 rfl rfl ?_
  refine b_callVi (Mc := m_Tp_failed) (As := []) (st := []) d_Tp_readNumber_1 ⟨⟨kA_Tp_failed.1, kA_Tp_failed.2.1, kA_Tp_failed.2.2, by decide⟩, ml_Tp_28, kV_Tp_failed⟩ (eg_1 σ) rfl rfl (Nat.le_of_ble_eq_true rfl) H (fun v1 τ2 H => ?_)
  refine b_if_eq (tgt := 9) d_Tp_readNumber_4 (by decide) (fun c11 => ?_) (fun c11 => ?_)
  · have H := H.1 c11
    refine b_aload_n d_Tp_readNumber_9 rfl rfl ?_
    refine b_callVi (Mc := m_Tp_digitsAhead) (As := []) (st := []) d_Tp_readNumber_10 ⟨⟨kA_Tp_digitsAhead.1, kA_Tp_digitsAhead.2.1, kA_Tp_digitsAhead.2.2, by decide⟩, ml_Tp_50, kV_Tp_digitsAhead⟩ (eg_1 τ2) rfl rfl (Nat.le_of_ble_eq_true rfl) H (fun v3 τ4 H => ?_)
    refine b_istore_n (ls' := [some (.ref 1), some (.int x1), some (.int x2), some (.int v3), none, none]) d_Tp_readNumber_13 rfl (Nat.le_of_ble_eq_true rfl) rfl ?_
    refine b_iload_n d_Tp_readNumber_14 rfl rfl ?_
    refine b_if_ne (tgt := 29) d_Tp_readNumber_15 (by decide) (fun c10 => ?_) (fun c10 => ?_)
    · have H := H.1 c10
      refine b_iload_n d_Tp_readNumber_29 rfl rfl ?_
      refine b_iconst (v := (5 : Int32)) d_Tp_readNumber_30 (by decide) ?_
      refine b_icmp_le (tgt := 47) d_Tp_readNumber_31 (by decide) (fun c7 => ?_) (fun c7 => ?_)
      · have H := H.1 c7
        refine b_iconst (v := (0 : Int32)) d_Tp_readNumber_47 (by decide) ?_
        refine b_istore (ls' := [some (.ref 1), some (.int x1), some (.int x2), some (.int v3), some (.int (0 : Int32)), none]) d_Tp_readNumber_48 (Nat.le_of_ble_eq_true rfl) rfl ?_
        refine b_iconst (v := (0 : Int32)) d_Tp_readNumber_50 (by decide) ?_
        refine b_istore (ls' := [some (.ref 1), some (.int x1), some (.int x2), some (.int v3), some (.int (0 : Int32)), some (.int (0 : Int32))]) d_Tp_readNumber_51 (Nat.le_of_ble_eq_true rfl) rfl ?_
        exact b_mask [true, true, true, true, true, true] rfl H
      · have H := H.2 c7
        refine b_aload_n d_Tp_readNumber_34 rfl rfl ?_
        refine b_iconst (v := (1 : Int32)) d_Tp_readNumber_35 (by decide) ?_
        refine b_aload_n d_Tp_readNumber_36 rfl rfl ?_
        refine b_getf (v := .int (gX τ4 1)) d_Tp_readNumber_37 fl_Tp_22 (eg_1 τ4) rfl ?_
        refine b_iconst (v := (5 : Int32)) d_Tp_readNumber_40 (by decide) ?_
        refine b_iadd d_Tp_readNumber_41  ?_
        refine b_callVv (Mc := m_Tp_fail) (As := [.int (1 : Int32), .int ((gX τ4 1) + (5 : Int32))]) (st := []) d_Tp_readNumber_42 ⟨⟨kA_Tp_fail.1, kA_Tp_fail.2.1, kA_Tp_fail.2.2, by decide⟩, ml_Tp_40, kV_Tp_fail⟩ (eg_1 τ4) rfl rfl (Nat.le_of_ble_eq_true rfl) H (fun τ6 H => ?_)
        refine b_iconst (v := (0 : Int32)) d_Tp_readNumber_45 (by decide) ?_
        exact b_iret (ty := .int) d_Tp_readNumber_46 rfl rfl ⟨_, _, rfl, rfl, H⟩
    · have H := H.2 c10
      refine b_aload_n d_Tp_readNumber_18 rfl rfl ?_
      refine b_iconst (v := (1 : Int32)) d_Tp_readNumber_19 (by decide) ?_
      refine b_aload_n d_Tp_readNumber_20 rfl rfl ?_
      refine b_getf (v := .int (gX τ4 1)) d_Tp_readNumber_21 fl_Tp_22 (eg_1 τ4) rfl ?_
      refine b_callVv (Mc := m_Tp_fail) (As := [.int (1 : Int32), .int (gX τ4 1)]) (st := []) d_Tp_readNumber_24 ⟨⟨kA_Tp_fail.1, kA_Tp_fail.2.1, kA_Tp_fail.2.2, by decide⟩, ml_Tp_40, kV_Tp_fail⟩ (eg_1 τ4) rfl rfl (Nat.le_of_ble_eq_true rfl) H (fun τ9 H => ?_)
      refine b_iconst (v := (0 : Int32)) d_Tp_readNumber_27 (by decide) ?_
      exact b_iret (ty := .int) d_Tp_readNumber_28 rfl rfl ⟨_, _, rfl, rfl, H⟩
  · have H := H.2 c11
    refine b_iconst (v := (0 : Int32)) d_Tp_readNumber_7 (by decide) ?_
    exact b_iret (ty := .int) d_Tp_readNumber_8 rfl rfl ⟨_, _, rfl, rfl, H⟩
set_option maxHeartbeats 4000000 in
set_option maxRecDepth 100000 in
theorem B_Tp_readNumber_53 {S : XS} {Q : Int32 → St → Prop} (σ : St) (x1 : Int32) (x2 : Int32) (x3 : Int32) (x4 : Int32) (x5 : Int32) (H : ((x3 ≤ x5 → ((x4 < x1 → CM S m_Tp_fail [.ref 1, .int (2 : Int32), .int (gX σ 1)] (enc σ) (qV (fun τ13 => Q (0 : Int32) τ13))) ∧ (¬ x4 < x1 → ((x4 ≤ x2 → Q x4 (sX σ 1 ((gX σ 1) + x3))) ∧ (¬ x4 ≤ x2 → CM S m_Tp_fail [.ref 1, .int (2 : Int32), .int (gX σ 1)] (enc σ) (qV (fun τ15 => Q (0 : Int32) τ15))))))) ∧ (¬ x3 ≤ x5 → CM S m_Tp_byteAt [.ref 1, .int ((gX σ 1) + x5)] (enc σ) (qI (fun v18 τ19 => BW S m_Tp_readNumber 53 [some (.ref 1), some (.int x1), some (.int x2), some (.int x3), some (.int ((x4 * (10 : Int32)) + (v18 - (48 : Int32)))), some (.int (x5 + (1 : Int32)))] [] (enc τ19) (qI Q)))))) : BW S m_Tp_readNumber 53 [some (.ref 1), some (.int x1), some (.int x2), some (.int x3), some (.int x4), some (.int x5)] [] (enc σ) (qI Q) := by
  refine b_iload d_Tp_readNumber_53 rfl ?_
  refine b_iload_n d_Tp_readNumber_55 rfl rfl ?_
  refine b_icmp_ge (tgt := 87) d_Tp_readNumber_56 (by decide) (fun c20 => ?_) (fun c20 => ?_)
  · have H := H.1 c20
    refine b_iload d_Tp_readNumber_87 rfl ?_
    refine b_iload_n d_Tp_readNumber_89 rfl rfl ?_
    refine b_icmp_lt (tgt := 99) d_Tp_readNumber_90 (by decide) (fun c17 => ?_) (fun c17 => ?_)
    · have H := H.1 c17
      refine b_aload_n d_Tp_readNumber_99 rfl rfl ?_
      refine b_iconst (v := (2 : Int32)) d_Tp_readNumber_100 (by decide) ?_
      refine b_aload_n d_Tp_readNumber_101 rfl rfl ?_
      refine b_getf (v := .int (gX σ 1)) d_Tp_readNumber_102 fl_Tp_22 (eg_1 σ) rfl ?_
      refine b_callVv (Mc := m_Tp_fail) (As := [.int (2 : Int32), .int (gX σ 1)]) (st := []) d_Tp_readNumber_105 ⟨⟨kA_Tp_fail.1, kA_Tp_fail.2.1, kA_Tp_fail.2.2, by decide⟩, ml_Tp_40, kV_Tp_fail⟩ (eg_1 σ) rfl rfl (Nat.le_of_ble_eq_true rfl) H (fun τ13 H => ?_)
      refine b_iconst (v := (0 : Int32)) d_Tp_readNumber_108 (by decide) ?_
      exact b_iret (ty := .int) d_Tp_readNumber_109 rfl rfl ⟨_, _, rfl, rfl, H⟩
    · have H := H.2 c17
      refine b_iload d_Tp_readNumber_93 rfl ?_
      refine b_iload_n d_Tp_readNumber_95 rfl rfl ?_
      refine b_icmp_le (tgt := 110) d_Tp_readNumber_96 (by decide) (fun c16 => ?_) (fun c16 => ?_)
      · have H := H.1 c16
        refine b_aload_n d_Tp_readNumber_110 rfl rfl ?_
        refine b_dup d_Tp_readNumber_111 rfl ?_
        refine b_getf (v := .int (gX σ 1)) d_Tp_readNumber_112 fl_Tp_22 (eg_1 σ) rfl ?_
        refine b_iload_n d_Tp_readNumber_115 rfl rfl ?_
        refine b_iadd d_Tp_readNumber_116  ?_
        refine b_putf (ty := .int) (h1 := enc (sX σ 1 ((gX σ 1) + x3))) d_Tp_readNumber_117 fl_Tp_22 ft_10_2 (fun _ => ⟨rfl, rfl⟩) (eg_1 σ) (Nat.le_of_ble_eq_true rfl) (es_1_2 σ ((gX σ 1) + x3)) ?_
        refine b_iload d_Tp_readNumber_120 rfl ?_
        exact b_iret (ty := .int) d_Tp_readNumber_122 rfl rfl ⟨_, _, rfl, rfl, H⟩
      · have H := H.2 c16
        refine b_aload_n d_Tp_readNumber_99 rfl rfl ?_
        refine b_iconst (v := (2 : Int32)) d_Tp_readNumber_100 (by decide) ?_
        refine b_aload_n d_Tp_readNumber_101 rfl rfl ?_
        refine b_getf (v := .int (gX σ 1)) d_Tp_readNumber_102 fl_Tp_22 (eg_1 σ) rfl ?_
        refine b_callVv (Mc := m_Tp_fail) (As := [.int (2 : Int32), .int (gX σ 1)]) (st := []) d_Tp_readNumber_105 ⟨⟨kA_Tp_fail.1, kA_Tp_fail.2.1, kA_Tp_fail.2.2, by decide⟩, ml_Tp_40, kV_Tp_fail⟩ (eg_1 σ) rfl rfl (Nat.le_of_ble_eq_true rfl) H (fun τ15 H => ?_)
        refine b_iconst (v := (0 : Int32)) d_Tp_readNumber_108 (by decide) ?_
        exact b_iret (ty := .int) d_Tp_readNumber_109 rfl rfl ⟨_, _, rfl, rfl, H⟩
  · have H := H.2 c20
    refine b_iload d_Tp_readNumber_59 rfl ?_
    refine b_bipush (v := (10 : Int32)) d_Tp_readNumber_61 (by decide) ?_
    refine b_imul d_Tp_readNumber_63  ?_
    refine b_aload_n d_Tp_readNumber_64 rfl rfl ?_
    refine b_aload_n d_Tp_readNumber_65 rfl rfl ?_
    refine b_getf (v := .int (gX σ 1)) d_Tp_readNumber_66 fl_Tp_22 (eg_1 σ) rfl ?_
    refine b_iload d_Tp_readNumber_69 rfl ?_
    refine b_iadd d_Tp_readNumber_71  ?_
    refine b_callVi (Mc := m_Tp_byteAt) (As := [.int ((gX σ 1) + x5)]) (st := [.int (x4 * (10 : Int32))]) d_Tp_readNumber_72 ⟨⟨kA_Tp_byteAt.1, kA_Tp_byteAt.2.1, kA_Tp_byteAt.2.2, by decide⟩, ml_Tp_46, kV_Tp_byteAt⟩ (eg_1 σ) rfl rfl (Nat.le_of_ble_eq_true rfl) H (fun v18 τ19 H => ?_)
    refine b_bipush (v := (48 : Int32)) d_Tp_readNumber_75 (by decide) ?_
    refine b_isub d_Tp_readNumber_77  ?_
    refine b_iadd d_Tp_readNumber_78  ?_
    refine b_istore (ls' := [some (.ref 1), some (.int x1), some (.int x2), some (.int x3), some (.int ((x4 * (10 : Int32)) + (v18 - (48 : Int32)))), some (.int x5)]) d_Tp_readNumber_79 (Nat.le_of_ble_eq_true rfl) rfl ?_
    refine b_iinc (v := (x5 + (1 : Int32))) (ls' := [some (.ref 1), some (.int x1), some (.int x2), some (.int x3), some (.int ((x4 * (10 : Int32)) + (v18 - (48 : Int32)))), some (.int (x5 + (1 : Int32)))]) d_Tp_readNumber_81 rfl rfl (Nat.le_of_ble_eq_true rfl) rfl ?_
    refine b_goto (tgt := 53) d_Tp_readNumber_84 (by decide) ?_
    exact b_mask [true, true, true, true, true, true] rfl H
theorem C_Tp_readNumber {S : XS} {Q : Int32 → St → Prop} (σ : St) (x1 : Int32) (x2 : Int32) (H : BW S m_Tp_readNumber 0 [some (.ref 1), some (.int x1), some (.int x2), none, none, none] [] (enc σ) (qI Q)) : CM S m_Tp_readNumber [.ref 1, .int x1, .int x2] (enc σ) (qI Q) := b_meth (by decide) (Nat.le_of_ble_eq_true rfl) rfl H
theorem d_Tp_passWord_0 : decode m_Tp_passWord.2.1 0 = .ok (.aload_n 0, 1) := by decide +kernel
theorem d_Tp_passWord_1 : decode m_Tp_passWord.2.1 1 = .ok (.invokevirtual 28, 3) := by decide +kernel
theorem d_Tp_passWord_4 : decode m_Tp_passWord.2.1 4 = .ok (.ifCond .eq 5, 3) := by decide +kernel
theorem d_Tp_passWord_7 : decode m_Tp_passWord.2.1 7 = .ok (.iconst 0, 1) := by decide +kernel
theorem d_Tp_passWord_8 : decode m_Tp_passWord.2.1 8 = .ok (.ireturn, 1) := by decide +kernel
theorem d_Tp_passWord_9 : decode m_Tp_passWord.2.1 9 = .ok (.aload_n 0, 1) := by decide +kernel
theorem d_Tp_passWord_10 : decode m_Tp_passWord.2.1 10 = .ok (.invokevirtual 32, 3) := by decide +kernel
theorem d_Tp_passWord_13 : decode m_Tp_passWord.2.1 13 = .ok (.istore_n 2, 1) := by decide +kernel
theorem d_Tp_passWord_14 : decode m_Tp_passWord.2.1 14 = .ok (.aload_n 0, 1) := by decide +kernel
theorem d_Tp_passWord_15 : decode m_Tp_passWord.2.1 15 = .ok (.aload_n 1, 1) := by decide +kernel
theorem d_Tp_passWord_16 : decode m_Tp_passWord.2.1 16 = .ok (.iload_n 2, 1) := by decide +kernel
theorem d_Tp_passWord_17 : decode m_Tp_passWord.2.1 17 = .ok (.invokevirtual 53, 3) := by decide +kernel
theorem d_Tp_passWord_20 : decode m_Tp_passWord.2.1 20 = .ok (.ifCond .ne 5, 3) := by decide +kernel
theorem d_Tp_passWord_23 : decode m_Tp_passWord.2.1 23 = .ok (.iconst 0, 1) := by decide +kernel
theorem d_Tp_passWord_24 : decode m_Tp_passWord.2.1 24 = .ok (.ireturn, 1) := by decide +kernel
theorem d_Tp_passWord_25 : decode m_Tp_passWord.2.1 25 = .ok (.aload_n 0, 1) := by decide +kernel
theorem d_Tp_passWord_26 : decode m_Tp_passWord.2.1 26 = .ok (.dup, 1) := by decide +kernel
theorem d_Tp_passWord_27 : decode m_Tp_passWord.2.1 27 = .ok (.getfield 22, 3) := by decide +kernel
theorem d_Tp_passWord_30 : decode m_Tp_passWord.2.1 30 = .ok (.iload_n 2, 1) := by decide +kernel
theorem d_Tp_passWord_31 : decode m_Tp_passWord.2.1 31 = .ok (.iadd, 1) := by decide +kernel
theorem d_Tp_passWord_32 : decode m_Tp_passWord.2.1 32 = .ok (.putfield 22, 3) := by decide +kernel
theorem d_Tp_passWord_35 : decode m_Tp_passWord.2.1 35 = .ok (.iconst 1, 1) := by decide +kernel
theorem d_Tp_passWord_36 : decode m_Tp_passWord.2.1 36 = .ok (.ireturn, 1) := by decide +kernel
set_option maxHeartbeats 4000000 in
set_option maxRecDepth 100000 in
theorem B_Tp_passWord_0 {S : XS} {Q : Int32 → St → Prop} (σ : St) (t1 : Nat) (H : CM S m_Tp_failed [.ref 1] (enc σ) (qI (fun v1 τ2 => ((v1 = 0 → CM S m_Tp_lettersAhead [.ref 1] (enc τ2) (qI (fun v3 τ4 => CM S m_Tp_isWord [.ref 1, .retAddr t1, .int v3] (enc τ4) (qI (fun v5 τ6 => ((¬ v5 = 0 → Q (1 : Int32) (sX τ6 1 ((gX τ6 1) + v3))) ∧ (v5 = 0 → Q (0 : Int32) τ6))))))) ∧ (¬ v1 = 0 → Q (0 : Int32) τ2))))) : BW S m_Tp_passWord 0 [some (.ref 1), some (.retAddr t1), none] [] (enc σ) (qI Q) := by
  refine b_aload_n d_Tp_passWord_0 rfl rfl ?_
  refine b_callVi (Mc := m_Tp_failed) (As := []) (st := []) d_Tp_passWord_1 ⟨⟨kA_Tp_failed.1, kA_Tp_failed.2.1, kA_Tp_failed.2.2, by decide⟩, ml_Tp_28, kV_Tp_failed⟩ (eg_1 σ) rfl rfl (Nat.le_of_ble_eq_true rfl) H (fun v1 τ2 H => ?_)
  refine b_if_eq (tgt := 9) d_Tp_passWord_4 (by decide) (fun c8 => ?_) (fun c8 => ?_)
  · have H := H.1 c8
    refine b_aload_n d_Tp_passWord_9 rfl rfl ?_
    refine b_callVi (Mc := m_Tp_lettersAhead) (As := []) (st := []) d_Tp_passWord_10 ⟨⟨kA_Tp_lettersAhead.1, kA_Tp_lettersAhead.2.1, kA_Tp_lettersAhead.2.2, by decide⟩, ml_Tp_32, kV_Tp_lettersAhead⟩ (eg_1 τ2) rfl rfl (Nat.le_of_ble_eq_true rfl) H (fun v3 τ4 H => ?_)
    refine b_istore_n (ls' := [some (.ref 1), some (.retAddr t1), some (.int v3)]) d_Tp_passWord_13 rfl (Nat.le_of_ble_eq_true rfl) rfl ?_
    refine b_aload_n d_Tp_passWord_14 rfl rfl ?_
    refine b_aload_nS d_Tp_passWord_15 rfl rfl ?_
    refine b_iload_n d_Tp_passWord_16 rfl rfl ?_
    refine b_callVi (Mc := m_Tp_isWord) (As := [.retAddr t1, .int v3]) (st := []) d_Tp_passWord_17 ⟨⟨kA_Tp_isWord.1, kA_Tp_isWord.2.1, kA_Tp_isWord.2.2, by decide⟩, ml_Tp_53, kV_Tp_isWord⟩ (eg_1 τ4) rfl rfl (Nat.le_of_ble_eq_true rfl) H (fun v5 τ6 H => ?_)
    refine b_if_ne (tgt := 25) d_Tp_passWord_20 (by decide) (fun c7 => ?_) (fun c7 => ?_)
    · have H := H.1 c7
      refine b_aload_n d_Tp_passWord_25 rfl rfl ?_
      refine b_dup d_Tp_passWord_26 rfl ?_
      refine b_getf (v := .int (gX τ6 1)) d_Tp_passWord_27 fl_Tp_22 (eg_1 τ6) rfl ?_
      refine b_iload_n d_Tp_passWord_30 rfl rfl ?_
      refine b_iadd d_Tp_passWord_31  ?_
      refine b_putf (ty := .int) (h1 := enc (sX τ6 1 ((gX τ6 1) + v3))) d_Tp_passWord_32 fl_Tp_22 ft_10_2 (fun _ => ⟨rfl, rfl⟩) (eg_1 τ6) (Nat.le_of_ble_eq_true rfl) (es_1_2 τ6 ((gX τ6 1) + v3)) ?_
      refine b_iconst (v := (1 : Int32)) d_Tp_passWord_35 (by decide) ?_
      exact b_iret (ty := .boolean) d_Tp_passWord_36 rfl rfl ⟨_, _, rfl, rfl, H⟩
    · have H := H.2 c7
      refine b_iconst (v := (0 : Int32)) d_Tp_passWord_23 (by decide) ?_
      exact b_iret (ty := .boolean) d_Tp_passWord_24 rfl rfl ⟨_, _, rfl, rfl, H⟩
  · have H := H.2 c8
    refine b_iconst (v := (0 : Int32)) d_Tp_passWord_7 (by decide) ?_
    exact b_iret (ty := .boolean) d_Tp_passWord_8 rfl rfl ⟨_, _, rfl, rfl, H⟩
theorem C_Tp_passWord {S : XS} {Q : Int32 → St → Prop} (σ : St) (t1 : Nat) (H : BW S m_Tp_passWord 0 [some (.ref 1), some (.retAddr t1), none] [] (enc σ) (qI Q)) : CM S m_Tp_passWord [.ref 1, .retAddr t1] (enc σ) (qI Q) := b_meth (by decide) (Nat.le_of_ble_eq_true rfl) rfl H
theorem d_Tp_needWord_0 : decode m_Tp_needWord.2.1 0 = .ok (.aload_n 0, 1) := by decide +kernel
theorem d_Tp_needWord_1 : decode m_Tp_needWord.2.1 1 = .ok (.aload_n 1, 1) := by decide +kernel
theorem d_Tp_needWord_2 : decode m_Tp_needWord.2.1 2 = .ok (.invokevirtual 57, 3) := by decide +kernel
theorem d_Tp_needWord_5 : decode m_Tp_needWord.2.1 5 = .ok (.ifCond .ne 7, 3) := by decide +kernel
theorem d_Tp_needWord_8 : decode m_Tp_needWord.2.1 8 = .ok (.aload_n 0, 1) := by decide +kernel
theorem d_Tp_needWord_9 : decode m_Tp_needWord.2.1 9 = .ok (.invokevirtual 61, 3) := by decide +kernel
theorem d_Tp_needWord_12 : decode m_Tp_needWord.2.1 12 = .ok (.return_, 1) := by decide +kernel
set_option maxHeartbeats 4000000 in
set_option maxRecDepth 100000 in
theorem B_Tp_needWord_0 {S : XS} {Q : St → Prop} (σ : St) (t1 : Nat) (H : CM S m_Tp_passWord [.ref 1, .retAddr t1] (enc σ) (qI (fun v1 τ2 => ((¬ v1 = 0 → Q τ2) ∧ (v1 = 0 → CM S m_Tp_failNext [.ref 1] (enc τ2) (qV (fun τ4 => Q τ4))))))) : BW S m_Tp_needWord 0 [some (.ref 1), some (.retAddr t1)] [] (enc σ) (qV Q) := by
  refine b_aload_n d_Tp_needWord_0 rfl rfl ?_
  refine b_aload_nS d_Tp_needWord_1 rfl rfl ?_
  refine b_callVi (Mc := m_Tp_passWord) (As := [.retAddr t1]) (st := []) d_Tp_needWord_2 ⟨⟨kA_Tp_passWord.1, kA_Tp_passWord.2.1, kA_Tp_passWord.2.2, by decide⟩, ml_Tp_57, kV_Tp_passWord⟩ (eg_1 σ) rfl rfl (Nat.le_of_ble_eq_true rfl) H (fun v1 τ2 H => ?_)
  refine b_if_ne (tgt := 12) d_Tp_needWord_5 (by decide) (fun c5 => ?_) (fun c5 => ?_)
  · have H := H.1 c5
    exact b_vret d_Tp_needWord_12 rfl ⟨_, rfl, rfl, H⟩
  · have H := H.2 c5
    refine b_aload_n d_Tp_needWord_8 rfl rfl ?_
    refine b_callVv (Mc := m_Tp_failNext) (As := []) (st := []) d_Tp_needWord_9 ⟨⟨kA_Tp_failNext.1, kA_Tp_failNext.2.1, kA_Tp_failNext.2.2, by decide⟩, ml_Tp_61, kV_Tp_failNext⟩ (eg_1 τ2) rfl rfl (Nat.le_of_ble_eq_true rfl) H (fun τ4 H => ?_)
    exact b_vret d_Tp_needWord_12 rfl ⟨_, rfl, rfl, H⟩
theorem C_Tp_needWord {S : XS} {Q : St → Prop} (σ : St) (t1 : Nat) (H : BW S m_Tp_needWord 0 [some (.ref 1), some (.retAddr t1)] [] (enc σ) (qV Q)) : CM S m_Tp_needWord [.ref 1, .retAddr t1] (enc σ) (qV Q) := b_meth (by decide) (Nat.le_of_ble_eq_true rfl) rfl H
theorem d_Tp_needSign_0 : decode m_Tp_needSign.2.1 0 = .ok (.aload_n 0, 1) := by decide +kernel
theorem d_Tp_needSign_1 : decode m_Tp_needSign.2.1 1 = .ok (.invokevirtual 64, 3) := by decide +kernel
theorem d_Tp_needSign_4 : decode m_Tp_needSign.2.1 4 = .ok (.aload_n 0, 1) := by decide +kernel
theorem d_Tp_needSign_5 : decode m_Tp_needSign.2.1 5 = .ok (.aload_n 0, 1) := by decide +kernel
theorem d_Tp_needSign_6 : decode m_Tp_needSign.2.1 6 = .ok (.getfield 22, 3) := by decide +kernel
theorem d_Tp_needSign_9 : decode m_Tp_needSign.2.1 9 = .ok (.invokevirtual 46, 3) := by decide +kernel
theorem d_Tp_needSign_12 : decode m_Tp_needSign.2.1 12 = .ok (.iload_n 1, 1) := by decide +kernel
theorem d_Tp_needSign_13 : decode m_Tp_needSign.2.1 13 = .ok (.if_icmp .ne 16, 3) := by decide +kernel
theorem d_Tp_needSign_16 : decode m_Tp_needSign.2.1 16 = .ok (.aload_n 0, 1) := by decide +kernel
theorem d_Tp_needSign_17 : decode m_Tp_needSign.2.1 17 = .ok (.dup, 1) := by decide +kernel
theorem d_Tp_needSign_18 : decode m_Tp_needSign.2.1 18 = .ok (.getfield 22, 3) := by decide +kernel
theorem d_Tp_needSign_21 : decode m_Tp_needSign.2.1 21 = .ok (.iconst 1, 1) := by decide +kernel
theorem d_Tp_needSign_22 : decode m_Tp_needSign.2.1 22 = .ok (.iadd, 1) := by decide +kernel
theorem d_Tp_needSign_23 : decode m_Tp_needSign.2.1 23 = .ok (.putfield 22, 3) := by decide +kernel
theorem d_Tp_needSign_26 : decode m_Tp_needSign.2.1 26 = .ok (.goto 7, 3) := by decide +kernel
theorem d_Tp_needSign_29 : decode m_Tp_needSign.2.1 29 = .ok (.aload_n 0, 1) := by decide +kernel
theorem d_Tp_needSign_30 : decode m_Tp_needSign.2.1 30 = .ok (.invokevirtual 61, 3) := by decide +kernel
theorem d_Tp_needSign_33 : decode m_Tp_needSign.2.1 33 = .ok (.return_, 1) := by decide +kernel
set_option maxHeartbeats 4000000 in
set_option maxRecDepth 100000 in
theorem B_Tp_needSign_0 {S : XS} {Q : St → Prop} (σ : St) (x1 : Int32) (H : CM S m_Tp_skipBlanks [.ref 1] (enc σ) (qV (fun τ2 => CM S m_Tp_byteAt [.ref 1, .int (gX τ2 1)] (enc τ2) (qI (fun v3 τ4 => ((¬ v3 = x1 → CM S m_Tp_failNext [.ref 1] (enc τ4) (qV (fun τ6 => Q τ6))) ∧ (v3 = x1 → Q (sX τ4 1 ((gX τ4 1) + (1 : Int32)))))))))) : BW S m_Tp_needSign 0 [some (.ref 1), some (.int x1)] [] (enc σ) (qV Q) := by
  refine b_aload_n d_Tp_needSign_0 rfl rfl ?_
  refine b_callVv (Mc := m_Tp_skipBlanks) (As := []) (st := []) d_Tp_needSign_1 ⟨⟨kA_Tp_skipBlanks.1, kA_Tp_skipBlanks.2.1, kA_Tp_skipBlanks.2.2, by decide⟩, ml_Tp_64, kV_Tp_skipBlanks⟩ (eg_1 σ) rfl rfl (Nat.le_of_ble_eq_true rfl) H (fun τ2 H => ?_)
  refine b_aload_n d_Tp_needSign_4 rfl rfl ?_
  refine b_aload_n d_Tp_needSign_5 rfl rfl ?_
  refine b_getf (v := .int (gX τ2 1)) d_Tp_needSign_6 fl_Tp_22 (eg_1 τ2) rfl ?_
  refine b_callVi (Mc := m_Tp_byteAt) (As := [.int (gX τ2 1)]) (st := []) d_Tp_needSign_9 ⟨⟨kA_Tp_byteAt.1, kA_Tp_byteAt.2.1, kA_Tp_byteAt.2.2, by decide⟩, ml_Tp_46, kV_Tp_byteAt⟩ (eg_1 τ2) rfl rfl (Nat.le_of_ble_eq_true rfl) H (fun v3 τ4 H => ?_)
  refine b_iload_n d_Tp_needSign_12 rfl rfl ?_
  refine b_icmp_ne (tgt := 29) d_Tp_needSign_13 (by decide) (fun c7 => ?_) (fun c7 => ?_)
  · have H := H.1 c7
    refine b_aload_n d_Tp_needSign_29 rfl rfl ?_
    refine b_callVv (Mc := m_Tp_failNext) (As := []) (st := []) d_Tp_needSign_30 ⟨⟨kA_Tp_failNext.1, kA_Tp_failNext.2.1, kA_Tp_failNext.2.2, by decide⟩, ml_Tp_61, kV_Tp_failNext⟩ (eg_1 τ4) rfl rfl (Nat.le_of_ble_eq_true rfl) H (fun τ6 H => ?_)
    exact b_vret d_Tp_needSign_33 rfl ⟨_, rfl, rfl, H⟩
  · have H := H.2 c7
    refine b_aload_n d_Tp_needSign_16 rfl rfl ?_
    refine b_dup d_Tp_needSign_17 rfl ?_
    refine b_getf (v := .int (gX τ4 1)) d_Tp_needSign_18 fl_Tp_22 (eg_1 τ4) rfl ?_
    refine b_iconst (v := (1 : Int32)) d_Tp_needSign_21 (by decide) ?_
    refine b_iadd d_Tp_needSign_22  ?_
    refine b_putf (ty := .int) (h1 := enc (sX τ4 1 ((gX τ4 1) + (1 : Int32)))) d_Tp_needSign_23 fl_Tp_22 ft_10_2 (fun _ => ⟨rfl, rfl⟩) (eg_1 τ4) (Nat.le_of_ble_eq_true rfl) (es_1_2 τ4 ((gX τ4 1) + (1 : Int32))) ?_
    refine b_goto (tgt := 33) d_Tp_needSign_26 (by decide) ?_
    exact b_vret d_Tp_needSign_33 rfl ⟨_, rfl, rfl, H⟩
theorem C_Tp_needSign {S : XS} {Q : St → Prop} (σ : St) (x1 : Int32) (H : BW S m_Tp_needSign 0 [some (.ref 1), some (.int x1)] [] (enc σ) (qV Q)) : CM S m_Tp_needSign [.ref 1, .int x1] (enc σ) (qV Q) := b_meth (by decide) (Nat.le_of_ble_eq_true rfl) rfl H
theorem d_Tp_needEnd_0 : decode m_Tp_needEnd.2.1 0 = .ok (.aload_n 0, 1) := by decide +kernel
theorem d_Tp_needEnd_1 : decode m_Tp_needEnd.2.1 1 = .ok (.invokevirtual 64, 3) := by decide +kernel
theorem d_Tp_needEnd_4 : decode m_Tp_needEnd.2.1 4 = .ok (.aload_n 0, 1) := by decide +kernel
theorem d_Tp_needEnd_5 : decode m_Tp_needEnd.2.1 5 = .ok (.getfield 22, 3) := by decide +kernel
theorem d_Tp_needEnd_8 : decode m_Tp_needEnd.2.1 8 = .ok (.aload_n 0, 1) := by decide +kernel
theorem d_Tp_needEnd_9 : decode m_Tp_needEnd.2.1 9 = .ok (.getfield 19, 3) := by decide +kernel
theorem d_Tp_needEnd_12 : decode m_Tp_needEnd.2.1 12 = .ok (.if_icmp .ge 7, 3) := by decide +kernel
theorem d_Tp_needEnd_15 : decode m_Tp_needEnd.2.1 15 = .ok (.aload_n 0, 1) := by decide +kernel
theorem d_Tp_needEnd_16 : decode m_Tp_needEnd.2.1 16 = .ok (.invokevirtual 61, 3) := by decide +kernel
theorem d_Tp_needEnd_19 : decode m_Tp_needEnd.2.1 19 = .ok (.return_, 1) := by decide +kernel
set_option maxHeartbeats 4000000 in
set_option maxRecDepth 100000 in
theorem B_Tp_needEnd_0 {S : XS} {Q : St → Prop} (σ : St)  (H : CM S m_Tp_skipBlanks [.ref 1] (enc σ) (qV (fun τ2 => (((gX τ2 0) ≤ (gX τ2 1) → Q τ2) ∧ (¬ (gX τ2 0) ≤ (gX τ2 1) → CM S m_Tp_failNext [.ref 1] (enc τ2) (qV (fun τ4 => Q τ4))))))) : BW S m_Tp_needEnd 0 [some (.ref 1)] [] (enc σ) (qV Q) := by
  refine b_aload_n d_Tp_needEnd_0 rfl rfl ?_
  refine b_callVv (Mc := m_Tp_skipBlanks) (As := []) (st := []) d_Tp_needEnd_1 ⟨⟨kA_Tp_skipBlanks.1, kA_Tp_skipBlanks.2.1, kA_Tp_skipBlanks.2.2, by decide⟩, ml_Tp_64, kV_Tp_skipBlanks⟩ (eg_1 σ) rfl rfl (Nat.le_of_ble_eq_true rfl) H (fun τ2 H => ?_)
  refine b_aload_n d_Tp_needEnd_4 rfl rfl ?_
  refine b_getf (v := .int (gX τ2 1)) d_Tp_needEnd_5 fl_Tp_22 (eg_1 τ2) rfl ?_
  refine b_aload_n d_Tp_needEnd_8 rfl rfl ?_
  refine b_getf (v := .int (gX τ2 0)) d_Tp_needEnd_9 fl_Tp_19 (eg_1 τ2) rfl ?_
  refine b_icmp_ge (tgt := 19) d_Tp_needEnd_12 (by decide) (fun c5 => ?_) (fun c5 => ?_)
  · have H := H.1 c5
    exact b_vret d_Tp_needEnd_19 rfl ⟨_, rfl, rfl, H⟩
  · have H := H.2 c5
    refine b_aload_n d_Tp_needEnd_15 rfl rfl ?_
    refine b_callVv (Mc := m_Tp_failNext) (As := []) (st := []) d_Tp_needEnd_16 ⟨⟨kA_Tp_failNext.1, kA_Tp_failNext.2.1, kA_Tp_failNext.2.2, by decide⟩, ml_Tp_61, kV_Tp_failNext⟩ (eg_1 τ2) rfl rfl (Nat.le_of_ble_eq_true rfl) H (fun τ4 H => ?_)
    exact b_vret d_Tp_needEnd_19 rfl ⟨_, rfl, rfl, H⟩
theorem C_Tp_needEnd {S : XS} {Q : St → Prop} (σ : St)  (H : BW S m_Tp_needEnd 0 [some (.ref 1)] [] (enc σ) (qV Q)) : CM S m_Tp_needEnd [.ref 1] (enc σ) (qV Q) := b_meth (by decide) (Nat.le_of_ble_eq_true rfl) rfl H
theorem d_Tp_failNext_0 : decode m_Tp_failNext.2.1 0 = .ok (.aload_n 0, 1) := by decide +kernel
theorem d_Tp_failNext_1 : decode m_Tp_failNext.2.1 1 = .ok (.invokevirtual 64, 3) := by decide +kernel
theorem d_Tp_failNext_4 : decode m_Tp_failNext.2.1 4 = .ok (.aload_n 0, 1) := by decide +kernel
theorem d_Tp_failNext_5 : decode m_Tp_failNext.2.1 5 = .ok (.iconst 1, 1) := by decide +kernel
theorem d_Tp_failNext_6 : decode m_Tp_failNext.2.1 6 = .ok (.aload_n 0, 1) := by decide +kernel
theorem d_Tp_failNext_7 : decode m_Tp_failNext.2.1 7 = .ok (.getfield 22, 3) := by decide +kernel
theorem d_Tp_failNext_10 : decode m_Tp_failNext.2.1 10 = .ok (.invokevirtual 40, 3) := by decide +kernel
theorem d_Tp_failNext_13 : decode m_Tp_failNext.2.1 13 = .ok (.return_, 1) := by decide +kernel
set_option maxHeartbeats 4000000 in
set_option maxRecDepth 100000 in
theorem B_Tp_failNext_0 {S : XS} {Q : St → Prop} (σ : St)  (H : CM S m_Tp_skipBlanks [.ref 1] (enc σ) (qV (fun τ2 => CM S m_Tp_fail [.ref 1, .int (1 : Int32), .int (gX τ2 1)] (enc τ2) (qV (fun τ4 => Q τ4))))) : BW S m_Tp_failNext 0 [some (.ref 1)] [] (enc σ) (qV Q) := by
  refine b_aload_n d_Tp_failNext_0 rfl rfl ?_
  refine b_callVv (Mc := m_Tp_skipBlanks) (As := []) (st := []) d_Tp_failNext_1 ⟨⟨kA_Tp_skipBlanks.1, kA_Tp_skipBlanks.2.1, kA_Tp_skipBlanks.2.2, by decide⟩, ml_Tp_64, kV_Tp_skipBlanks⟩ (eg_1 σ) rfl rfl (Nat.le_of_ble_eq_true rfl) H (fun τ2 H => ?_)
  refine b_aload_n d_Tp_failNext_4 rfl rfl ?_
  refine b_iconst (v := (1 : Int32)) d_Tp_failNext_5 (by decide) ?_
  refine b_aload_n d_Tp_failNext_6 rfl rfl ?_
  refine b_getf (v := .int (gX τ2 1)) d_Tp_failNext_7 fl_Tp_22 (eg_1 τ2) rfl ?_
  refine b_callVv (Mc := m_Tp_fail) (As := [.int (1 : Int32), .int (gX τ2 1)]) (st := []) d_Tp_failNext_10 ⟨⟨kA_Tp_fail.1, kA_Tp_fail.2.1, kA_Tp_fail.2.2, by decide⟩, ml_Tp_40, kV_Tp_fail⟩ (eg_1 τ2) rfl rfl (Nat.le_of_ble_eq_true rfl) H (fun τ4 H => ?_)
  exact b_vret d_Tp_failNext_13 rfl ⟨_, rfl, rfl, H⟩
theorem C_Tp_failNext {S : XS} {Q : St → Prop} (σ : St)  (H : BW S m_Tp_failNext 0 [some (.ref 1)] [] (enc σ) (qV Q)) : CM S m_Tp_failNext [.ref 1] (enc σ) (qV Q) := b_meth (by decide) (Nat.le_of_ble_eq_true rfl) rfl H
theorem d_Tp_fail_0 : decode m_Tp_fail.2.1 0 = .ok (.aload_n 0, 1) := by decide +kernel
theorem d_Tp_fail_1 : decode m_Tp_fail.2.1 1 = .ok (.invokevirtual 28, 3) := by decide +kernel
theorem d_Tp_fail_4 : decode m_Tp_fail.2.1 4 = .ok (.ifCond .ne 13, 3) := by decide +kernel
theorem d_Tp_fail_7 : decode m_Tp_fail.2.1 7 = .ok (.aload_n 0, 1) := by decide +kernel
theorem d_Tp_fail_8 : decode m_Tp_fail.2.1 8 = .ok (.iload_n 1, 1) := by decide +kernel
theorem d_Tp_fail_9 : decode m_Tp_fail.2.1 9 = .ok (.putfield 25, 3) := by decide +kernel
theorem d_Tp_fail_12 : decode m_Tp_fail.2.1 12 = .ok (.aload_n 0, 1) := by decide +kernel
theorem d_Tp_fail_13 : decode m_Tp_fail.2.1 13 = .ok (.iload_n 2, 1) := by decide +kernel
theorem d_Tp_fail_14 : decode m_Tp_fail.2.1 14 = .ok (.putfield 15, 3) := by decide +kernel
theorem d_Tp_fail_17 : decode m_Tp_fail.2.1 17 = .ok (.return_, 1) := by decide +kernel
set_option maxHeartbeats 4000000 in
set_option maxRecDepth 100000 in
theorem B_Tp_fail_0 {S : XS} {Q : St → Prop} (σ : St) (x1 : Int32) (x2 : Int32) (H : CM S m_Tp_failed [.ref 1] (enc σ) (qI (fun v1 τ2 => ((¬ v1 = 0 → Q τ2) ∧ (v1 = 0 → Q (sX (sX τ2 2 x1) 3 x2)))))) : BW S m_Tp_fail 0 [some (.ref 1), some (.int x1), some (.int x2)] [] (enc σ) (qV Q) := by
  refine b_aload_n d_Tp_fail_0 rfl rfl ?_
  refine b_callVi (Mc := m_Tp_failed) (As := []) (st := []) d_Tp_fail_1 ⟨⟨kA_Tp_failed.1, kA_Tp_failed.2.1, kA_Tp_failed.2.2, by decide⟩, ml_Tp_28, kV_Tp_failed⟩ (eg_1 σ) rfl rfl (Nat.le_of_ble_eq_true rfl) H (fun v1 τ2 H => ?_)
  refine b_if_ne (tgt := 17) d_Tp_fail_4 (by decide) (fun c3 => ?_) (fun c3 => ?_)
  · have H := H.1 c3
    exact b_vret d_Tp_fail_17 rfl ⟨_, rfl, rfl, H⟩
  · have H := H.2 c3
    refine b_aload_n d_Tp_fail_7 rfl rfl ?_
    refine b_iload_n d_Tp_fail_8 rfl rfl ?_
    refine b_putf (ty := .int) (h1 := enc (sX τ2 2 x1)) d_Tp_fail_9 fl_Tp_25 ft_10_3 (fun _ => ⟨rfl, rfl⟩) (eg_1 τ2) (Nat.le_of_ble_eq_true rfl) (es_1_3 τ2 x1) ?_
    refine b_aload_n d_Tp_fail_12 rfl rfl ?_
    refine b_iload_n d_Tp_fail_13 rfl rfl ?_
    refine b_putf (ty := .int) (h1 := enc (sX (sX τ2 2 x1) 3 x2)) d_Tp_fail_14 fl_Tp_15 ft_10_4 (fun _ => ⟨rfl, rfl⟩) (eg_1 (sX τ2 2 x1)) (Nat.le_of_ble_eq_true rfl) (es_1_4 (sX τ2 2 x1) x2) ?_
    exact b_vret d_Tp_fail_17 rfl ⟨_, rfl, rfl, H⟩
theorem C_Tp_fail {S : XS} {Q : St → Prop} (σ : St) (x1 : Int32) (x2 : Int32) (H : BW S m_Tp_fail 0 [some (.ref 1), some (.int x1), some (.int x2)] [] (enc σ) (qV Q)) : CM S m_Tp_fail [.ref 1, .int x1, .int x2] (enc σ) (qV Q) := b_meth (by decide) (Nat.le_of_ble_eq_true rfl) rfl H
theorem d_Tp_lettersAhead_0 : decode m_Tp_lettersAhead.2.1 0 = .ok (.aload_n 0, 1) := by decide +kernel
theorem d_Tp_lettersAhead_1 : decode m_Tp_lettersAhead.2.1 1 = .ok (.invokevirtual 64, 3) := by decide +kernel
theorem d_Tp_lettersAhead_4 : decode m_Tp_lettersAhead.2.1 4 = .ok (.aload_n 0, 1) := by decide +kernel
theorem d_Tp_lettersAhead_5 : decode m_Tp_lettersAhead.2.1 5 = .ok (.getfield 22, 3) := by decide +kernel
theorem d_Tp_lettersAhead_8 : decode m_Tp_lettersAhead.2.1 8 = .ok (.istore_n 1, 1) := by decide +kernel
theorem d_Tp_lettersAhead_9 : decode m_Tp_lettersAhead.2.1 9 = .ok (.iload_n 1, 1) := by decide +kernel
theorem d_Tp_lettersAhead_10 : decode m_Tp_lettersAhead.2.1 10 = .ok (.aload_n 0, 1) := by decide +kernel
theorem d_Tp_lettersAhead_11 : decode m_Tp_lettersAhead.2.1 11 = .ok (.getfield 19, 3) := by decide +kernel
theorem d_Tp_lettersAhead_14 : decode m_Tp_lettersAhead.2.1 14 = .ok (.if_icmp .ge 29, 3) := by decide +kernel
theorem d_Tp_lettersAhead_17 : decode m_Tp_lettersAhead.2.1 17 = .ok (.aload_n 0, 1) := by decide +kernel
theorem d_Tp_lettersAhead_18 : decode m_Tp_lettersAhead.2.1 18 = .ok (.iload_n 1, 1) := by decide +kernel
theorem d_Tp_lettersAhead_19 : decode m_Tp_lettersAhead.2.1 19 = .ok (.invokevirtual 46, 3) := by decide +kernel
theorem d_Tp_lettersAhead_22 : decode m_Tp_lettersAhead.2.1 22 = .ok (.bipush 97, 2) := by decide +kernel
theorem d_Tp_lettersAhead_24 : decode m_Tp_lettersAhead.2.1 24 = .ok (.if_icmp .lt 19, 3) := by decide +kernel
theorem d_Tp_lettersAhead_27 : decode m_Tp_lettersAhead.2.1 27 = .ok (.aload_n 0, 1) := by decide +kernel
theorem d_Tp_lettersAhead_28 : decode m_Tp_lettersAhead.2.1 28 = .ok (.iload_n 1, 1) := by decide +kernel
theorem d_Tp_lettersAhead_29 : decode m_Tp_lettersAhead.2.1 29 = .ok (.invokevirtual 46, 3) := by decide +kernel
theorem d_Tp_lettersAhead_32 : decode m_Tp_lettersAhead.2.1 32 = .ok (.bipush 122, 2) := by decide +kernel
theorem d_Tp_lettersAhead_34 : decode m_Tp_lettersAhead.2.1 34 = .ok (.if_icmp .gt 9, 3) := by decide +kernel
theorem d_Tp_lettersAhead_37 : decode m_Tp_lettersAhead.2.1 37 = .ok (.iinc 1 1, 3) := by decide +kernel
theorem d_Tp_lettersAhead_40 : decode m_Tp_lettersAhead.2.1 40 = .ok (.goto (-31), 3) := by decide +kernel
theorem d_Tp_lettersAhead_43 : decode m_Tp_lettersAhead.2.1 43 = .ok (.iload_n 1, 1) := by decide +kernel
theorem d_Tp_lettersAhead_44 : decode m_Tp_lettersAhead.2.1 44 = .ok (.aload_n 0, 1) := by decide +kernel
theorem d_Tp_lettersAhead_45 : decode m_Tp_lettersAhead.2.1 45 = .ok (.getfield 22, 3) := by decide +kernel
theorem d_Tp_lettersAhead_48 : decode m_Tp_lettersAhead.2.1 48 = .ok (.isub, 1) := by decide +kernel
theorem d_Tp_lettersAhead_49 : decode m_Tp_lettersAhead.2.1 49 = .ok (.ireturn, 1) := by decide +kernel
set_option maxHeartbeats 4000000 in
set_option maxRecDepth 100000 in
theorem B_Tp_lettersAhead_0 {S : XS} {Q : Int32 → St → Prop} (σ : St)  (H : CM S m_Tp_skipBlanks [.ref 1] (enc σ) (qV (fun τ2 => BW S m_Tp_lettersAhead 9 [some (.ref 1), some (.int (gX τ2 1))] [] (enc τ2) (qI Q)))) : BW S m_Tp_lettersAhead 0 [some (.ref 1), none] [] (enc σ) (qI Q) := by
  refine b_aload_n d_Tp_lettersAhead_0 rfl rfl ?_
  refine b_callVv (Mc := m_Tp_skipBlanks) (As := []) (st := []) d_Tp_lettersAhead_1 ⟨⟨kA_Tp_skipBlanks.1, kA_Tp_skipBlanks.2.1, kA_Tp_skipBlanks.2.2, by decide⟩, ml_Tp_64, kV_Tp_skipBlanks⟩ (eg_1 σ) rfl rfl (Nat.le_of_ble_eq_true rfl) H (fun τ2 H => ?_)
  refine b_aload_n d_Tp_lettersAhead_4 rfl rfl ?_
  refine b_getf (v := .int (gX τ2 1)) d_Tp_lettersAhead_5 fl_Tp_22 (eg_1 τ2) rfl ?_
  refine b_istore_n (ls' := [some (.ref 1), some (.int (gX τ2 1))]) d_Tp_lettersAhead_8 rfl (Nat.le_of_ble_eq_true rfl) rfl ?_
  exact b_mask [true, true] rfl H
set_option maxHeartbeats 4000000 in
set_option maxRecDepth 100000 in
theorem B_Tp_lettersAhead_9 {S : XS} {Q : Int32 → St → Prop} (σ : St) (x1 : Int32) (H : (((gX σ 0) ≤ x1 → Q (x1 - (gX σ 1)) σ) ∧ (¬ (gX σ 0) ≤ x1 → CM S m_Tp_byteAt [.ref 1, .int x1] (enc σ) (qI (fun v3 τ4 => ((v3 < (97 : Int32) → Q (x1 - (gX τ4 1)) τ4) ∧ (¬ v3 < (97 : Int32) → CM S m_Tp_byteAt [.ref 1, .int x1] (enc τ4) (qI (fun v5 τ6 => (((122 : Int32) < v5 → Q (x1 - (gX τ6 1)) τ6) ∧ (¬ (122 : Int32) < v5 → BW S m_Tp_lettersAhead 9 [some (.ref 1), some (.int (x1 + (1 : Int32)))] [] (enc τ6) (qI Q)))))))))))) : BW S m_Tp_lettersAhead 9 [some (.ref 1), some (.int x1)] [] (enc σ) (qI Q) := by
  refine b_iload_n d_Tp_lettersAhead_9 rfl rfl ?_
  refine b_aload_n d_Tp_lettersAhead_10 rfl rfl ?_
  refine b_getf (v := .int (gX σ 0)) d_Tp_lettersAhead_11 fl_Tp_19 (eg_1 σ) rfl ?_
  refine b_icmp_ge (tgt := 43) d_Tp_lettersAhead_14 (by decide) (fun c9 => ?_) (fun c9 => ?_)
  · have H := H.1 c9
    refine b_iload_n d_Tp_lettersAhead_43 rfl rfl ?_
    refine b_aload_n d_Tp_lettersAhead_44 rfl rfl ?_
    refine b_getf (v := .int (gX σ 1)) d_Tp_lettersAhead_45 fl_Tp_22 (eg_1 σ) rfl ?_
    refine b_isub d_Tp_lettersAhead_48  ?_
    exact b_iret (ty := .int) d_Tp_lettersAhead_49 rfl rfl ⟨_, _, rfl, rfl, H⟩
  · have H := H.2 c9
    refine b_aload_n d_Tp_lettersAhead_17 rfl rfl ?_
    refine b_iload_n d_Tp_lettersAhead_18 rfl rfl ?_
    refine b_callVi (Mc := m_Tp_byteAt) (As := [.int x1]) (st := []) d_Tp_lettersAhead_19 ⟨⟨kA_Tp_byteAt.1, kA_Tp_byteAt.2.1, kA_Tp_byteAt.2.2, by decide⟩, ml_Tp_46, kV_Tp_byteAt⟩ (eg_1 σ) rfl rfl (Nat.le_of_ble_eq_true rfl) H (fun v3 τ4 H => ?_)
    refine b_bipush (v := (97 : Int32)) d_Tp_lettersAhead_22 (by decide) ?_
    refine b_icmp_lt (tgt := 43) d_Tp_lettersAhead_24 (by decide) (fun c8 => ?_) (fun c8 => ?_)
    · have H := H.1 c8
      refine b_iload_n d_Tp_lettersAhead_43 rfl rfl ?_
      refine b_aload_n d_Tp_lettersAhead_44 rfl rfl ?_
      refine b_getf (v := .int (gX τ4 1)) d_Tp_lettersAhead_45 fl_Tp_22 (eg_1 τ4) rfl ?_
      refine b_isub d_Tp_lettersAhead_48  ?_
      exact b_iret (ty := .int) d_Tp_lettersAhead_49 rfl rfl ⟨_, _, rfl, rfl, H⟩
    · have H := H.2 c8
      refine b_aload_n d_Tp_lettersAhead_27 rfl rfl ?_
      refine b_iload_n d_Tp_lettersAhead_28 rfl rfl ?_
      refine b_callVi (Mc := m_Tp_byteAt) (As := [.int x1]) (st := []) d_Tp_lettersAhead_29 ⟨⟨kA_Tp_byteAt.1, kA_Tp_byteAt.2.1, kA_Tp_byteAt.2.2, by decide⟩, ml_Tp_46, kV_Tp_byteAt⟩ (eg_1 τ4) rfl rfl (Nat.le_of_ble_eq_true rfl) H (fun v5 τ6 H => ?_)
      refine b_bipush (v := (122 : Int32)) d_Tp_lettersAhead_32 (by decide) ?_
      refine b_icmp_gt (tgt := 43) d_Tp_lettersAhead_34 (by decide) (fun c7 => ?_) (fun c7 => ?_)
      · have H := H.1 c7
        refine b_iload_n d_Tp_lettersAhead_43 rfl rfl ?_
        refine b_aload_n d_Tp_lettersAhead_44 rfl rfl ?_
        refine b_getf (v := .int (gX τ6 1)) d_Tp_lettersAhead_45 fl_Tp_22 (eg_1 τ6) rfl ?_
        refine b_isub d_Tp_lettersAhead_48  ?_
        exact b_iret (ty := .int) d_Tp_lettersAhead_49 rfl rfl ⟨_, _, rfl, rfl, H⟩
      · have H := H.2 c7
        refine b_iinc (v := (x1 + (1 : Int32))) (ls' := [some (.ref 1), some (.int (x1 + (1 : Int32)))]) d_Tp_lettersAhead_37 rfl rfl (Nat.le_of_ble_eq_true rfl) rfl ?_
        refine b_goto (tgt := 9) d_Tp_lettersAhead_40 (by decide) ?_
        exact b_mask [true, true] rfl H
theorem C_Tp_lettersAhead {S : XS} {Q : Int32 → St → Prop} (σ : St)  (H : BW S m_Tp_lettersAhead 0 [some (.ref 1), none] [] (enc σ) (qI Q)) : CM S m_Tp_lettersAhead [.ref 1] (enc σ) (qI Q) := b_meth (by decide) (Nat.le_of_ble_eq_true rfl) rfl H
theorem d_Tp_digitsAhead_0 : decode m_Tp_digitsAhead.2.1 0 = .ok (.aload_n 0, 1) := by decide +kernel
theorem d_Tp_digitsAhead_1 : decode m_Tp_digitsAhead.2.1 1 = .ok (.invokevirtual 64, 3) := by decide +kernel
theorem d_Tp_digitsAhead_4 : decode m_Tp_digitsAhead.2.1 4 = .ok (.aload_n 0, 1) := by decide +kernel
theorem d_Tp_digitsAhead_5 : decode m_Tp_digitsAhead.2.1 5 = .ok (.getfield 22, 3) := by decide +kernel
theorem d_Tp_digitsAhead_8 : decode m_Tp_digitsAhead.2.1 8 = .ok (.istore_n 1, 1) := by decide +kernel
theorem d_Tp_digitsAhead_9 : decode m_Tp_digitsAhead.2.1 9 = .ok (.iload_n 1, 1) := by decide +kernel
theorem d_Tp_digitsAhead_10 : decode m_Tp_digitsAhead.2.1 10 = .ok (.aload_n 0, 1) := by decide +kernel
theorem d_Tp_digitsAhead_11 : decode m_Tp_digitsAhead.2.1 11 = .ok (.getfield 19, 3) := by decide +kernel
theorem d_Tp_digitsAhead_14 : decode m_Tp_digitsAhead.2.1 14 = .ok (.if_icmp .ge 29, 3) := by decide +kernel
theorem d_Tp_digitsAhead_17 : decode m_Tp_digitsAhead.2.1 17 = .ok (.aload_n 0, 1) := by decide +kernel
theorem d_Tp_digitsAhead_18 : decode m_Tp_digitsAhead.2.1 18 = .ok (.iload_n 1, 1) := by decide +kernel
theorem d_Tp_digitsAhead_19 : decode m_Tp_digitsAhead.2.1 19 = .ok (.invokevirtual 46, 3) := by decide +kernel
theorem d_Tp_digitsAhead_22 : decode m_Tp_digitsAhead.2.1 22 = .ok (.bipush 48, 2) := by decide +kernel
theorem d_Tp_digitsAhead_24 : decode m_Tp_digitsAhead.2.1 24 = .ok (.if_icmp .lt 19, 3) := by decide +kernel
theorem d_Tp_digitsAhead_27 : decode m_Tp_digitsAhead.2.1 27 = .ok (.aload_n 0, 1) := by decide +kernel
theorem d_Tp_digitsAhead_28 : decode m_Tp_digitsAhead.2.1 28 = .ok (.iload_n 1, 1) := by decide +kernel
theorem d_Tp_digitsAhead_29 : decode m_Tp_digitsAhead.2.1 29 = .ok (.invokevirtual 46, 3) := by decide +kernel
theorem d_Tp_digitsAhead_32 : decode m_Tp_digitsAhead.2.1 32 = .ok (.bipush 57, 2) := by decide +kernel
theorem d_Tp_digitsAhead_34 : decode m_Tp_digitsAhead.2.1 34 = .ok (.if_icmp .gt 9, 3) := by decide +kernel
theorem d_Tp_digitsAhead_37 : decode m_Tp_digitsAhead.2.1 37 = .ok (.iinc 1 1, 3) := by decide +kernel
theorem d_Tp_digitsAhead_40 : decode m_Tp_digitsAhead.2.1 40 = .ok (.goto (-31), 3) := by decide +kernel
theorem d_Tp_digitsAhead_43 : decode m_Tp_digitsAhead.2.1 43 = .ok (.iload_n 1, 1) := by decide +kernel
theorem d_Tp_digitsAhead_44 : decode m_Tp_digitsAhead.2.1 44 = .ok (.aload_n 0, 1) := by decide +kernel
theorem d_Tp_digitsAhead_45 : decode m_Tp_digitsAhead.2.1 45 = .ok (.getfield 22, 3) := by decide +kernel
theorem d_Tp_digitsAhead_48 : decode m_Tp_digitsAhead.2.1 48 = .ok (.isub, 1) := by decide +kernel
theorem d_Tp_digitsAhead_49 : decode m_Tp_digitsAhead.2.1 49 = .ok (.ireturn, 1) := by decide +kernel
set_option maxHeartbeats 4000000 in
set_option maxRecDepth 100000 in
theorem B_Tp_digitsAhead_0 {S : XS} {Q : Int32 → St → Prop} (σ : St)  (H : CM S m_Tp_skipBlanks [.ref 1] (enc σ) (qV (fun τ2 => BW S m_Tp_digitsAhead 9 [some (.ref 1), some (.int (gX τ2 1))] [] (enc τ2) (qI Q)))) : BW S m_Tp_digitsAhead 0 [some (.ref 1), none] [] (enc σ) (qI Q) := by
  refine b_aload_n d_Tp_digitsAhead_0 rfl rfl ?_
  refine b_callVv (Mc := m_Tp_skipBlanks) (As := []) (st := []) d_Tp_digitsAhead_1 ⟨⟨kA_Tp_skipBlanks.1, kA_Tp_skipBlanks.2.1, kA_Tp_skipBlanks.2.2, by decide⟩, ml_Tp_64, kV_Tp_skipBlanks⟩ (eg_1 σ) rfl rfl (Nat.le_of_ble_eq_true rfl) H (fun τ2 H => ?_)
  refine b_aload_n d_Tp_digitsAhead_4 rfl rfl ?_
  refine b_getf (v := .int (gX τ2 1)) d_Tp_digitsAhead_5 fl_Tp_22 (eg_1 τ2) rfl ?_
  refine b_istore_n (ls' := [some (.ref 1), some (.int (gX τ2 1))]) d_Tp_digitsAhead_8 rfl (Nat.le_of_ble_eq_true rfl) rfl ?_
  exact b_mask [true, true] rfl H
set_option maxHeartbeats 4000000 in
set_option maxRecDepth 100000 in
theorem B_Tp_digitsAhead_9 {S : XS} {Q : Int32 → St → Prop} (σ : St) (x1 : Int32) (H : (((gX σ 0) ≤ x1 → Q (x1 - (gX σ 1)) σ) ∧ (¬ (gX σ 0) ≤ x1 → CM S m_Tp_byteAt [.ref 1, .int x1] (enc σ) (qI (fun v3 τ4 => ((v3 < (48 : Int32) → Q (x1 - (gX τ4 1)) τ4) ∧ (¬ v3 < (48 : Int32) → CM S m_Tp_byteAt [.ref 1, .int x1] (enc τ4) (qI (fun v5 τ6 => (((57 : Int32) < v5 → Q (x1 - (gX τ6 1)) τ6) ∧ (¬ (57 : Int32) < v5 → BW S m_Tp_digitsAhead 9 [some (.ref 1), some (.int (x1 + (1 : Int32)))] [] (enc τ6) (qI Q)))))))))))) : BW S m_Tp_digitsAhead 9 [some (.ref 1), some (.int x1)] [] (enc σ) (qI Q) := by
  refine b_iload_n d_Tp_digitsAhead_9 rfl rfl ?_
  refine b_aload_n d_Tp_digitsAhead_10 rfl rfl ?_
  refine b_getf (v := .int (gX σ 0)) d_Tp_digitsAhead_11 fl_Tp_19 (eg_1 σ) rfl ?_
  refine b_icmp_ge (tgt := 43) d_Tp_digitsAhead_14 (by decide) (fun c9 => ?_) (fun c9 => ?_)
  · have H := H.1 c9
    refine b_iload_n d_Tp_digitsAhead_43 rfl rfl ?_
    refine b_aload_n d_Tp_digitsAhead_44 rfl rfl ?_
    refine b_getf (v := .int (gX σ 1)) d_Tp_digitsAhead_45 fl_Tp_22 (eg_1 σ) rfl ?_
    refine b_isub d_Tp_digitsAhead_48  ?_
    exact b_iret (ty := .int) d_Tp_digitsAhead_49 rfl rfl ⟨_, _, rfl, rfl, H⟩
  · have H := H.2 c9
    refine b_aload_n d_Tp_digitsAhead_17 rfl rfl ?_
    refine b_iload_n d_Tp_digitsAhead_18 rfl rfl ?_
    refine b_callVi (Mc := m_Tp_byteAt) (As := [.int x1]) (st := []) d_Tp_digitsAhead_19 ⟨⟨kA_Tp_byteAt.1, kA_Tp_byteAt.2.1, kA_Tp_byteAt.2.2, by decide⟩, ml_Tp_46, kV_Tp_byteAt⟩ (eg_1 σ) rfl rfl (Nat.le_of_ble_eq_true rfl) H (fun v3 τ4 H => ?_)
    refine b_bipush (v := (48 : Int32)) d_Tp_digitsAhead_22 (by decide) ?_
    refine b_icmp_lt (tgt := 43) d_Tp_digitsAhead_24 (by decide) (fun c8 => ?_) (fun c8 => ?_)
    · have H := H.1 c8
      refine b_iload_n d_Tp_digitsAhead_43 rfl rfl ?_
      refine b_aload_n d_Tp_digitsAhead_44 rfl rfl ?_
      refine b_getf (v := .int (gX τ4 1)) d_Tp_digitsAhead_45 fl_Tp_22 (eg_1 τ4) rfl ?_
      refine b_isub d_Tp_digitsAhead_48  ?_
      exact b_iret (ty := .int) d_Tp_digitsAhead_49 rfl rfl ⟨_, _, rfl, rfl, H⟩
    · have H := H.2 c8
      refine b_aload_n d_Tp_digitsAhead_27 rfl rfl ?_
      refine b_iload_n d_Tp_digitsAhead_28 rfl rfl ?_
      refine b_callVi (Mc := m_Tp_byteAt) (As := [.int x1]) (st := []) d_Tp_digitsAhead_29 ⟨⟨kA_Tp_byteAt.1, kA_Tp_byteAt.2.1, kA_Tp_byteAt.2.2, by decide⟩, ml_Tp_46, kV_Tp_byteAt⟩ (eg_1 τ4) rfl rfl (Nat.le_of_ble_eq_true rfl) H (fun v5 τ6 H => ?_)
      refine b_bipush (v := (57 : Int32)) d_Tp_digitsAhead_32 (by decide) ?_
      refine b_icmp_gt (tgt := 43) d_Tp_digitsAhead_34 (by decide) (fun c7 => ?_) (fun c7 => ?_)
      · have H := H.1 c7
        refine b_iload_n d_Tp_digitsAhead_43 rfl rfl ?_
        refine b_aload_n d_Tp_digitsAhead_44 rfl rfl ?_
        refine b_getf (v := .int (gX τ6 1)) d_Tp_digitsAhead_45 fl_Tp_22 (eg_1 τ6) rfl ?_
        refine b_isub d_Tp_digitsAhead_48  ?_
        exact b_iret (ty := .int) d_Tp_digitsAhead_49 rfl rfl ⟨_, _, rfl, rfl, H⟩
      · have H := H.2 c7
        refine b_iinc (v := (x1 + (1 : Int32))) (ls' := [some (.ref 1), some (.int (x1 + (1 : Int32)))]) d_Tp_digitsAhead_37 rfl rfl (Nat.le_of_ble_eq_true rfl) rfl ?_
        refine b_goto (tgt := 9) d_Tp_digitsAhead_40 (by decide) ?_
        exact b_mask [true, true] rfl H
theorem C_Tp_digitsAhead {S : XS} {Q : Int32 → St → Prop} (σ : St)  (H : BW S m_Tp_digitsAhead 0 [some (.ref 1), none] [] (enc σ) (qI Q)) : CM S m_Tp_digitsAhead [.ref 1] (enc σ) (qI Q) := b_meth (by decide) (Nat.le_of_ble_eq_true rfl) rfl H
theorem d_Tp_skipBlanks_0 : decode m_Tp_skipBlanks.2.1 0 = .ok (.aload_n 0, 1) := by decide +kernel
theorem d_Tp_skipBlanks_1 : decode m_Tp_skipBlanks.2.1 1 = .ok (.getfield 22, 3) := by decide +kernel
theorem d_Tp_skipBlanks_4 : decode m_Tp_skipBlanks.2.1 4 = .ok (.aload_n 0, 1) := by decide +kernel
theorem d_Tp_skipBlanks_5 : decode m_Tp_skipBlanks.2.1 5 = .ok (.getfield 19, 3) := by decide +kernel
theorem d_Tp_skipBlanks_8 : decode m_Tp_skipBlanks.2.1 8 = .ok (.if_icmp .ge 44, 3) := by decide +kernel
theorem d_Tp_skipBlanks_11 : decode m_Tp_skipBlanks.2.1 11 = .ok (.aload_n 0, 1) := by decide +kernel
theorem d_Tp_skipBlanks_12 : decode m_Tp_skipBlanks.2.1 12 = .ok (.getfield 11, 3) := by decide +kernel
theorem d_Tp_skipBlanks_15 : decode m_Tp_skipBlanks.2.1 15 = .ok (.aload_n 0, 1) := by decide +kernel
theorem d_Tp_skipBlanks_16 : decode m_Tp_skipBlanks.2.1 16 = .ok (.getfield 22, 3) := by decide +kernel
theorem d_Tp_skipBlanks_19 : decode m_Tp_skipBlanks.2.1 19 = .ok (.iaload, 1) := by decide +kernel
theorem d_Tp_skipBlanks_20 : decode m_Tp_skipBlanks.2.1 20 = .ok (.bipush 10, 2) := by decide +kernel
theorem d_Tp_skipBlanks_22 : decode m_Tp_skipBlanks.2.1 22 = .ok (.if_icmp .eq 17, 3) := by decide +kernel
theorem d_Tp_skipBlanks_25 : decode m_Tp_skipBlanks.2.1 25 = .ok (.aload_n 0, 1) := by decide +kernel
theorem d_Tp_skipBlanks_26 : decode m_Tp_skipBlanks.2.1 26 = .ok (.getfield 11, 3) := by decide +kernel
theorem d_Tp_skipBlanks_29 : decode m_Tp_skipBlanks.2.1 29 = .ok (.aload_n 0, 1) := by decide +kernel
theorem d_Tp_skipBlanks_30 : decode m_Tp_skipBlanks.2.1 30 = .ok (.getfield 22, 3) := by decide +kernel
theorem d_Tp_skipBlanks_33 : decode m_Tp_skipBlanks.2.1 33 = .ok (.iaload, 1) := by decide +kernel
theorem d_Tp_skipBlanks_34 : decode m_Tp_skipBlanks.2.1 34 = .ok (.bipush 32, 2) := by decide +kernel
theorem d_Tp_skipBlanks_36 : decode m_Tp_skipBlanks.2.1 36 = .ok (.if_icmp .ne 16, 3) := by decide +kernel
theorem d_Tp_skipBlanks_39 : decode m_Tp_skipBlanks.2.1 39 = .ok (.aload_n 0, 1) := by decide +kernel
theorem d_Tp_skipBlanks_40 : decode m_Tp_skipBlanks.2.1 40 = .ok (.dup, 1) := by decide +kernel
theorem d_Tp_skipBlanks_41 : decode m_Tp_skipBlanks.2.1 41 = .ok (.getfield 22, 3) := by decide +kernel
theorem d_Tp_skipBlanks_44 : decode m_Tp_skipBlanks.2.1 44 = .ok (.iconst 1, 1) := by decide +kernel
theorem d_Tp_skipBlanks_45 : decode m_Tp_skipBlanks.2.1 45 = .ok (.iadd, 1) := by decide +kernel
theorem d_Tp_skipBlanks_46 : decode m_Tp_skipBlanks.2.1 46 = .ok (.putfield 22, 3) := by decide +kernel
theorem d_Tp_skipBlanks_49 : decode m_Tp_skipBlanks.2.1 49 = .ok (.goto (-49), 3) := by decide +kernel
theorem d_Tp_skipBlanks_52 : decode m_Tp_skipBlanks.2.1 52 = .ok (.return_, 1) := by decide +kernel
set_option maxHeartbeats 4000000 in
set_option maxRecDepth 100000 in
theorem B_Tp_skipBlanks_0 {S : XS} {Q : St → Prop} (σ : St)  (H : (((gX σ 0) ≤ (gX σ 1) → Q σ) ∧ (¬ (gX σ 0) ≤ (gX σ 1) → (vp_in (gX σ 1) 200) ∧ ((((gA σ 0) (gX σ 1).toNatClampNeg) = (10 : Int32) → BW S m_Tp_skipBlanks 0 [some (.ref 1)] [] (enc (sX σ 1 ((gX σ 1) + (1 : Int32)))) (qV Q)) ∧ (¬ ((gA σ 0) (gX σ 1).toNatClampNeg) = (10 : Int32) → ((¬ ((gA σ 0) (gX σ 1).toNatClampNeg) = (32 : Int32) → Q σ) ∧ (((gA σ 0) (gX σ 1).toNatClampNeg) = (32 : Int32) → BW S m_Tp_skipBlanks 0 [some (.ref 1)] [] (enc (sX σ 1 ((gX σ 1) + (1 : Int32)))) (qV Q)))))))) : BW S m_Tp_skipBlanks 0 [some (.ref 1)] [] (enc σ) (qV Q) := by
  refine b_aload_n d_Tp_skipBlanks_0 rfl rfl ?_
  refine b_getf (v := .int (gX σ 1)) d_Tp_skipBlanks_1 fl_Tp_22 (eg_1 σ) rfl ?_
  refine b_aload_n d_Tp_skipBlanks_4 rfl rfl ?_
  refine b_getf (v := .int (gX σ 0)) d_Tp_skipBlanks_5 fl_Tp_19 (eg_1 σ) rfl ?_
  refine b_icmp_ge (tgt := 52) d_Tp_skipBlanks_8 (by decide) (fun c4 => ?_) (fun c4 => ?_)
  · have H := H.1 c4
    exact b_vret d_Tp_skipBlanks_52 rfl ⟨_, rfl, rfl, H⟩
  · have H := H.2 c4
    refine b_aload_n d_Tp_skipBlanks_11 rfl rfl ?_
    refine b_getf (v := .ref 2) d_Tp_skipBlanks_12 fl_Tp_11 (eg_1 σ) rfl ?_
    refine b_aload_n d_Tp_skipBlanks_15 rfl rfl ?_
    refine b_getf (v := .int (gX σ 1)) d_Tp_skipBlanks_16 fl_Tp_22 (eg_1 σ) rfl ?_
    obtain ⟨h1, H⟩ := H
    refine b_iald d_Tp_skipBlanks_19 (eg_2 σ) h1 ?_
    refine b_st2 (st' := [.int ((gA σ 0) (gX σ 1).toNatClampNeg)]) rfl ?_
    refine b_bipush (v := (10 : Int32)) d_Tp_skipBlanks_20 (by decide) ?_
    refine b_icmp_eq (tgt := 39) d_Tp_skipBlanks_22 (by decide) (fun c3 => ?_) (fun c3 => ?_)
    · have H := H.1 c3
      refine b_aload_n d_Tp_skipBlanks_39 rfl rfl ?_
      refine b_dup d_Tp_skipBlanks_40 rfl ?_
      refine b_getf (v := .int (gX σ 1)) d_Tp_skipBlanks_41 fl_Tp_22 (eg_1 σ) rfl ?_
      refine b_iconst (v := (1 : Int32)) d_Tp_skipBlanks_44 (by decide) ?_
      refine b_iadd d_Tp_skipBlanks_45  ?_
      refine b_putf (ty := .int) (h1 := enc (sX σ 1 ((gX σ 1) + (1 : Int32)))) d_Tp_skipBlanks_46 fl_Tp_22 ft_10_2 (fun _ => ⟨rfl, rfl⟩) (eg_1 σ) (Nat.le_of_ble_eq_true rfl) (es_1_2 σ ((gX σ 1) + (1 : Int32))) ?_
      refine b_goto (tgt := 0) d_Tp_skipBlanks_49 (by decide) ?_
      exact b_mask [true] rfl H
    · have H := H.2 c3
      refine b_aload_n d_Tp_skipBlanks_25 rfl rfl ?_
      refine b_getf (v := .ref 2) d_Tp_skipBlanks_26 fl_Tp_11 (eg_1 σ) rfl ?_
      refine b_aload_n d_Tp_skipBlanks_29 rfl rfl ?_
      refine b_getf (v := .int (gX σ 1)) d_Tp_skipBlanks_30 fl_Tp_22 (eg_1 σ) rfl ?_
      refine b_iald d_Tp_skipBlanks_33 (eg_2 σ) h1 ?_
      refine b_st2 (st' := [.int ((gA σ 0) (gX σ 1).toNatClampNeg)]) rfl ?_
      refine b_bipush (v := (32 : Int32)) d_Tp_skipBlanks_34 (by decide) ?_
      refine b_icmp_ne (tgt := 52) d_Tp_skipBlanks_36 (by decide) (fun c2 => ?_) (fun c2 => ?_)
      · have H := H.1 c2
        exact b_vret d_Tp_skipBlanks_52 rfl ⟨_, rfl, rfl, H⟩
      · have H := H.2 c2
        refine b_aload_n d_Tp_skipBlanks_39 rfl rfl ?_
        refine b_dup d_Tp_skipBlanks_40 rfl ?_
        refine b_getf (v := .int (gX σ 1)) d_Tp_skipBlanks_41 fl_Tp_22 (eg_1 σ) rfl ?_
        refine b_iconst (v := (1 : Int32)) d_Tp_skipBlanks_44 (by decide) ?_
        refine b_iadd d_Tp_skipBlanks_45  ?_
        refine b_putf (ty := .int) (h1 := enc (sX σ 1 ((gX σ 1) + (1 : Int32)))) d_Tp_skipBlanks_46 fl_Tp_22 ft_10_2 (fun _ => ⟨rfl, rfl⟩) (eg_1 σ) (Nat.le_of_ble_eq_true rfl) (es_1_2 σ ((gX σ 1) + (1 : Int32))) ?_
        refine b_goto (tgt := 0) d_Tp_skipBlanks_49 (by decide) ?_
        exact b_mask [true] rfl H
theorem C_Tp_skipBlanks {S : XS} {Q : St → Prop} (σ : St)  (H : BW S m_Tp_skipBlanks 0 [some (.ref 1)] [] (enc σ) (qV Q)) : CM S m_Tp_skipBlanks [.ref 1] (enc σ) (qV Q) := b_meth (by decide) (Nat.le_of_ble_eq_true rfl) rfl H
theorem d_Tp_byteAt_0 : decode m_Tp_byteAt.2.1 0 = .ok (.iload_n 1, 1) := by decide +kernel
theorem d_Tp_byteAt_1 : decode m_Tp_byteAt.2.1 1 = .ok (.ifCond .lt 27, 3) := by decide +kernel
theorem d_Tp_byteAt_4 : decode m_Tp_byteAt.2.1 4 = .ok (.iload_n 1, 1) := by decide +kernel
theorem d_Tp_byteAt_5 : decode m_Tp_byteAt.2.1 5 = .ok (.aload_n 0, 1) := by decide +kernel
theorem d_Tp_byteAt_6 : decode m_Tp_byteAt.2.1 6 = .ok (.getfield 19, 3) := by decide +kernel
theorem d_Tp_byteAt_9 : decode m_Tp_byteAt.2.1 9 = .ok (.if_icmp .ge 19, 3) := by decide +kernel
theorem d_Tp_byteAt_12 : decode m_Tp_byteAt.2.1 12 = .ok (.iload_n 1, 1) := by decide +kernel
theorem d_Tp_byteAt_13 : decode m_Tp_byteAt.2.1 13 = .ok (.sipush 200, 3) := by decide +kernel
theorem d_Tp_byteAt_16 : decode m_Tp_byteAt.2.1 16 = .ok (.if_icmp .ge 12, 3) := by decide +kernel
theorem d_Tp_byteAt_19 : decode m_Tp_byteAt.2.1 19 = .ok (.aload_n 0, 1) := by decide +kernel
theorem d_Tp_byteAt_20 : decode m_Tp_byteAt.2.1 20 = .ok (.getfield 11, 3) := by decide +kernel
theorem d_Tp_byteAt_23 : decode m_Tp_byteAt.2.1 23 = .ok (.iload_n 1, 1) := by decide +kernel
theorem d_Tp_byteAt_24 : decode m_Tp_byteAt.2.1 24 = .ok (.iaload, 1) := by decide +kernel
theorem d_Tp_byteAt_25 : decode m_Tp_byteAt.2.1 25 = .ok (.goto 4, 3) := by decide +kernel
theorem d_Tp_byteAt_28 : decode m_Tp_byteAt.2.1 28 = .ok (.iconst (-1), 1) := by decide +kernel
theorem d_Tp_byteAt_29 : decode m_Tp_byteAt.2.1 29 = .ok (.ireturn, 1) := by decide +kernel
set_option maxHeartbeats 4000000 in
set_option maxRecDepth 100000 in
theorem B_Tp_byteAt_0 {S : XS} {Q : Int32 → St → Prop} (σ : St) (x1 : Int32) (H : ((x1 < 0 → Q (-1 : Int32) σ) ∧ (¬ x1 < 0 → (((gX σ 0) ≤ x1 → Q (-1 : Int32) σ) ∧ (¬ (gX σ 0) ≤ x1 → (((200 : Int32) ≤ x1 → Q (-1 : Int32) σ) ∧ (¬ (200 : Int32) ≤ x1 → (vp_in x1 200) ∧ Q ((gA σ 0) x1.toNatClampNeg) σ))))))) : BW S m_Tp_byteAt 0 [some (.ref 1), some (.int x1)] [] (enc σ) (qI Q) := by
  refine b_iload_n d_Tp_byteAt_0 rfl rfl ?_
  refine b_if_lt (tgt := 28) d_Tp_byteAt_1 (by decide) (fun c4 => ?_) (fun c4 => ?_)
  · have H := H.1 c4
    refine b_iconst (v := (-1 : Int32)) d_Tp_byteAt_28 (by decide) ?_
    exact b_iret (ty := .int) d_Tp_byteAt_29 rfl rfl ⟨_, _, rfl, rfl, H⟩
  · have H := H.2 c4
    refine b_iload_n d_Tp_byteAt_4 rfl rfl ?_
    refine b_aload_n d_Tp_byteAt_5 rfl rfl ?_
    refine b_getf (v := .int (gX σ 0)) d_Tp_byteAt_6 fl_Tp_19 (eg_1 σ) rfl ?_
    refine b_icmp_ge (tgt := 28) d_Tp_byteAt_9 (by decide) (fun c3 => ?_) (fun c3 => ?_)
    · have H := H.1 c3
      refine b_iconst (v := (-1 : Int32)) d_Tp_byteAt_28 (by decide) ?_
      exact b_iret (ty := .int) d_Tp_byteAt_29 rfl rfl ⟨_, _, rfl, rfl, H⟩
    · have H := H.2 c3
      refine b_iload_n d_Tp_byteAt_12 rfl rfl ?_
      refine b_sipush (v := (200 : Int32)) d_Tp_byteAt_13 (by decide) ?_
      refine b_icmp_ge (tgt := 28) d_Tp_byteAt_16 (by decide) (fun c2 => ?_) (fun c2 => ?_)
      · have H := H.1 c2
        refine b_iconst (v := (-1 : Int32)) d_Tp_byteAt_28 (by decide) ?_
        exact b_iret (ty := .int) d_Tp_byteAt_29 rfl rfl ⟨_, _, rfl, rfl, H⟩
      · have H := H.2 c2
        refine b_aload_n d_Tp_byteAt_19 rfl rfl ?_
        refine b_getf (v := .ref 2) d_Tp_byteAt_20 fl_Tp_11 (eg_1 σ) rfl ?_
        refine b_iload_n d_Tp_byteAt_23 rfl rfl ?_
        obtain ⟨h1, H⟩ := H
        refine b_iald d_Tp_byteAt_24 (eg_2 σ) h1 ?_
        refine b_st2 (st' := [.int ((gA σ 0) x1.toNatClampNeg)]) rfl ?_
        refine b_goto (tgt := 29) d_Tp_byteAt_25 (by decide) ?_
        exact b_iret (ty := .int) d_Tp_byteAt_29 rfl rfl ⟨_, _, rfl, rfl, H⟩
theorem C_Tp_byteAt {S : XS} {Q : Int32 → St → Prop} (σ : St) (x1 : Int32) (H : BW S m_Tp_byteAt 0 [some (.ref 1), some (.int x1)] [] (enc σ) (qI Q)) : CM S m_Tp_byteAt [.ref 1, .int x1] (enc σ) (qI Q) := b_meth (by decide) (Nat.le_of_ble_eq_true rfl) rfl H
theorem d_Tp_isFactWord_0 : decode m_Tp_isFactWord.2.1 0 = .ok (.aload_n 0, 1) := by decide +kernel
theorem d_Tp_isFactWord_1 : decode m_Tp_isFactWord.2.1 1 = .ok (.ldc 67, 2) := by decide +kernel
theorem d_Tp_isFactWord_3 : decode m_Tp_isFactWord.2.1 3 = .ok (.iload_n 1, 1) := by decide +kernel
theorem d_Tp_isFactWord_4 : decode m_Tp_isFactWord.2.1 4 = .ok (.invokevirtual 53, 3) := by decide +kernel
theorem d_Tp_isFactWord_7 : decode m_Tp_isFactWord.2.1 7 = .ok (.ifCond .ne 33, 3) := by decide +kernel
theorem d_Tp_isFactWord_10 : decode m_Tp_isFactWord.2.1 10 = .ok (.aload_n 0, 1) := by decide +kernel
theorem d_Tp_isFactWord_11 : decode m_Tp_isFactWord.2.1 11 = .ok (.ldc 69, 2) := by decide +kernel
theorem d_Tp_isFactWord_13 : decode m_Tp_isFactWord.2.1 13 = .ok (.iload_n 1, 1) := by decide +kernel
theorem d_Tp_isFactWord_14 : decode m_Tp_isFactWord.2.1 14 = .ok (.invokevirtual 53, 3) := by decide +kernel
theorem d_Tp_isFactWord_17 : decode m_Tp_isFactWord.2.1 17 = .ok (.ifCond .ne 23, 3) := by decide +kernel
theorem d_Tp_isFactWord_20 : decode m_Tp_isFactWord.2.1 20 = .ok (.aload_n 0, 1) := by decide +kernel
theorem d_Tp_isFactWord_21 : decode m_Tp_isFactWord.2.1 21 = .ok (.ldc 71, 2) := by decide +kernel
theorem d_Tp_isFactWord_23 : decode m_Tp_isFactWord.2.1 23 = .ok (.iload_n 1, 1) := by decide +kernel
theorem d_Tp_isFactWord_24 : decode m_Tp_isFactWord.2.1 24 = .ok (.invokevirtual 53, 3) := by decide +kernel
theorem d_Tp_isFactWord_27 : decode m_Tp_isFactWord.2.1 27 = .ok (.ifCond .ne 13, 3) := by decide +kernel
theorem d_Tp_isFactWord_30 : decode m_Tp_isFactWord.2.1 30 = .ok (.aload_n 0, 1) := by decide +kernel
theorem d_Tp_isFactWord_31 : decode m_Tp_isFactWord.2.1 31 = .ok (.ldc 73, 2) := by decide +kernel
theorem d_Tp_isFactWord_33 : decode m_Tp_isFactWord.2.1 33 = .ok (.iload_n 1, 1) := by decide +kernel
theorem d_Tp_isFactWord_34 : decode m_Tp_isFactWord.2.1 34 = .ok (.invokevirtual 53, 3) := by decide +kernel
theorem d_Tp_isFactWord_37 : decode m_Tp_isFactWord.2.1 37 = .ok (.ifCond .eq 7, 3) := by decide +kernel
theorem d_Tp_isFactWord_40 : decode m_Tp_isFactWord.2.1 40 = .ok (.iconst 1, 1) := by decide +kernel
theorem d_Tp_isFactWord_41 : decode m_Tp_isFactWord.2.1 41 = .ok (.goto 4, 3) := by decide +kernel
theorem d_Tp_isFactWord_44 : decode m_Tp_isFactWord.2.1 44 = .ok (.iconst 0, 1) := by decide +kernel
theorem d_Tp_isFactWord_45 : decode m_Tp_isFactWord.2.1 45 = .ok (.ireturn, 1) := by decide +kernel
set_option maxHeartbeats 4000000 in
set_option maxRecDepth 100000 in
theorem B_Tp_isFactWord_0 {S : XS} {Q : Int32 → St → Prop} (σ : St) (x1 : Int32) (H : CM S m_Tp_isWord [.ref 1, .retAddr 0, .int x1] (enc σ) (qI (fun v1 τ2 => ((¬ v1 = 0 → Q (1 : Int32) τ2) ∧ (v1 = 0 → CM S m_Tp_isWord [.ref 1, .retAddr 1, .int x1] (enc τ2) (qI (fun v3 τ4 => ((¬ v3 = 0 → Q (1 : Int32) τ4) ∧ (v3 = 0 → CM S m_Tp_isWord [.ref 1, .retAddr 2, .int x1] (enc τ4) (qI (fun v5 τ6 => ((¬ v5 = 0 → Q (1 : Int32) τ6) ∧ (v5 = 0 → CM S m_Tp_isWord [.ref 1, .retAddr 3, .int x1] (enc τ6) (qI (fun v7 τ8 => ((v7 = 0 → Q (0 : Int32) τ8) ∧ (¬ v7 = 0 → Q (1 : Int32) τ8))))))))))))))))) : BW S m_Tp_isFactWord 0 [some (.ref 1), some (.int x1)] [] (enc σ) (qI Q) := by
  refine b_aload_n d_Tp_isFactWord_0 rfl rfl ?_
  refine b_ldcS (n := 0) (tx := "born") d_Tp_isFactWord_1 (by decide +kernel) ?_
  refine b_iload_n d_Tp_isFactWord_3 rfl rfl ?_
  refine b_callVi (Mc := m_Tp_isWord) (As := [.retAddr 0, .int x1]) (st := []) d_Tp_isFactWord_4 ⟨⟨kA_Tp_isWord.1, kA_Tp_isWord.2.1, kA_Tp_isWord.2.2, by decide⟩, ml_Tp_53, kV_Tp_isWord⟩ (eg_1 σ) rfl rfl (Nat.le_of_ble_eq_true rfl) H (fun v1 τ2 H => ?_)
  refine b_if_ne (tgt := 40) d_Tp_isFactWord_7 (by decide) (fun c12 => ?_) (fun c12 => ?_)
  · have H := H.1 c12
    refine b_iconst (v := (1 : Int32)) d_Tp_isFactWord_40 (by decide) ?_
    refine b_goto (tgt := 45) d_Tp_isFactWord_41 (by decide) ?_
    exact b_iret (ty := .boolean) d_Tp_isFactWord_45 rfl rfl ⟨_, _, rfl, rfl, H⟩
  · have H := H.2 c12
    refine b_aload_n d_Tp_isFactWord_10 rfl rfl ?_
    refine b_ldcS (n := 1) (tx := "dead") d_Tp_isFactWord_11 (by decide +kernel) ?_
    refine b_iload_n d_Tp_isFactWord_13 rfl rfl ?_
    refine b_callVi (Mc := m_Tp_isWord) (As := [.retAddr 1, .int x1]) (st := []) d_Tp_isFactWord_14 ⟨⟨kA_Tp_isWord.1, kA_Tp_isWord.2.1, kA_Tp_isWord.2.2, by decide⟩, ml_Tp_53, kV_Tp_isWord⟩ (eg_1 τ2) rfl rfl (Nat.le_of_ble_eq_true rfl) H (fun v3 τ4 H => ?_)
    refine b_if_ne (tgt := 40) d_Tp_isFactWord_17 (by decide) (fun c11 => ?_) (fun c11 => ?_)
    · have H := H.1 c11
      refine b_iconst (v := (1 : Int32)) d_Tp_isFactWord_40 (by decide) ?_
      refine b_goto (tgt := 45) d_Tp_isFactWord_41 (by decide) ?_
      exact b_iret (ty := .boolean) d_Tp_isFactWord_45 rfl rfl ⟨_, _, rfl, rfl, H⟩
    · have H := H.2 c11
      refine b_aload_n d_Tp_isFactWord_20 rfl rfl ?_
      refine b_ldcS (n := 2) (tx := "in") d_Tp_isFactWord_21 (by decide +kernel) ?_
      refine b_iload_n d_Tp_isFactWord_23 rfl rfl ?_
      refine b_callVi (Mc := m_Tp_isWord) (As := [.retAddr 2, .int x1]) (st := []) d_Tp_isFactWord_24 ⟨⟨kA_Tp_isWord.1, kA_Tp_isWord.2.1, kA_Tp_isWord.2.2, by decide⟩, ml_Tp_53, kV_Tp_isWord⟩ (eg_1 τ4) rfl rfl (Nat.le_of_ble_eq_true rfl) H (fun v5 τ6 H => ?_)
      refine b_if_ne (tgt := 40) d_Tp_isFactWord_27 (by decide) (fun c10 => ?_) (fun c10 => ?_)
      · have H := H.1 c10
        refine b_iconst (v := (1 : Int32)) d_Tp_isFactWord_40 (by decide) ?_
        refine b_goto (tgt := 45) d_Tp_isFactWord_41 (by decide) ?_
        exact b_iret (ty := .boolean) d_Tp_isFactWord_45 rfl rfl ⟨_, _, rfl, rfl, H⟩
      · have H := H.2 c10
        refine b_aload_n d_Tp_isFactWord_30 rfl rfl ?_
        refine b_ldcS (n := 3) (tx := "on") d_Tp_isFactWord_31 (by decide +kernel) ?_
        refine b_iload_n d_Tp_isFactWord_33 rfl rfl ?_
        refine b_callVi (Mc := m_Tp_isWord) (As := [.retAddr 3, .int x1]) (st := []) d_Tp_isFactWord_34 ⟨⟨kA_Tp_isWord.1, kA_Tp_isWord.2.1, kA_Tp_isWord.2.2, by decide⟩, ml_Tp_53, kV_Tp_isWord⟩ (eg_1 τ6) rfl rfl (Nat.le_of_ble_eq_true rfl) H (fun v7 τ8 H => ?_)
        refine b_if_eq (tgt := 44) d_Tp_isFactWord_37 (by decide) (fun c9 => ?_) (fun c9 => ?_)
        · have H := H.1 c9
          refine b_iconst (v := (0 : Int32)) d_Tp_isFactWord_44 (by decide) ?_
          exact b_iret (ty := .boolean) d_Tp_isFactWord_45 rfl rfl ⟨_, _, rfl, rfl, H⟩
        · have H := H.2 c9
          refine b_iconst (v := (1 : Int32)) d_Tp_isFactWord_40 (by decide) ?_
          refine b_goto (tgt := 45) d_Tp_isFactWord_41 (by decide) ?_
          exact b_iret (ty := .boolean) d_Tp_isFactWord_45 rfl rfl ⟨_, _, rfl, rfl, H⟩
theorem C_Tp_isFactWord {S : XS} {Q : Int32 → St → Prop} (σ : St) (x1 : Int32) (H : BW S m_Tp_isFactWord 0 [some (.ref 1), some (.int x1)] [] (enc σ) (qI Q)) : CM S m_Tp_isFactWord [.ref 1, .int x1] (enc σ) (qI Q) := b_meth (by decide) (Nat.le_of_ble_eq_true rfl) rfl H
theorem d_Tp_isWord_0 : decode m_Tp_isWord.2.1 0 = .ok (.iload_n 2, 1) := by decide +kernel
theorem d_Tp_isWord_1 : decode m_Tp_isWord.2.1 1 = .ok (.aload_n 1, 1) := by decide +kernel
theorem d_Tp_isWord_2 : decode m_Tp_isWord.2.1 2 = .ok (.invokevirtual 75, 3) := by decide +kernel
theorem d_Tp_isWord_5 : decode m_Tp_isWord.2.1 5 = .ok (.if_icmp .eq 5, 3) := by decide +kernel
theorem d_Tp_isWord_8 : decode m_Tp_isWord.2.1 8 = .ok (.iconst 0, 1) := by decide +kernel
theorem d_Tp_isWord_9 : decode m_Tp_isWord.2.1 9 = .ok (.ireturn, 1) := by decide +kernel
theorem d_Tp_isWord_10 : decode m_Tp_isWord.2.1 10 = .ok (.iconst 0, 1) := by decide +kernel
theorem d_Tp_isWord_11 : decode m_Tp_isWord.2.1 11 = .ok (.istore_n 3, 1) := by decide +kernel
theorem d_Tp_isWord_12 : decode m_Tp_isWord.2.1 12 = .ok (.iload_n 3, 1) := by decide +kernel
theorem d_Tp_isWord_13 : decode m_Tp_isWord.2.1 13 = .ok (.iload_n 2, 1) := by decide +kernel
theorem d_Tp_isWord_14 : decode m_Tp_isWord.2.1 14 = .ok (.if_icmp .ge 29, 3) := by decide +kernel
theorem d_Tp_isWord_17 : decode m_Tp_isWord.2.1 17 = .ok (.aload_n 0, 1) := by decide +kernel
theorem d_Tp_isWord_18 : decode m_Tp_isWord.2.1 18 = .ok (.aload_n 0, 1) := by decide +kernel
theorem d_Tp_isWord_19 : decode m_Tp_isWord.2.1 19 = .ok (.getfield 22, 3) := by decide +kernel
theorem d_Tp_isWord_22 : decode m_Tp_isWord.2.1 22 = .ok (.iload_n 3, 1) := by decide +kernel
theorem d_Tp_isWord_23 : decode m_Tp_isWord.2.1 23 = .ok (.iadd, 1) := by decide +kernel
theorem d_Tp_isWord_24 : decode m_Tp_isWord.2.1 24 = .ok (.invokevirtual 46, 3) := by decide +kernel
theorem d_Tp_isWord_27 : decode m_Tp_isWord.2.1 27 = .ok (.aload_n 1, 1) := by decide +kernel
theorem d_Tp_isWord_28 : decode m_Tp_isWord.2.1 28 = .ok (.iload_n 3, 1) := by decide +kernel
theorem d_Tp_isWord_29 : decode m_Tp_isWord.2.1 29 = .ok (.invokevirtual 80, 3) := by decide +kernel
theorem d_Tp_isWord_32 : decode m_Tp_isWord.2.1 32 = .ok (.if_icmp .eq 5, 3) := by decide +kernel
theorem d_Tp_isWord_35 : decode m_Tp_isWord.2.1 35 = .ok (.iconst 0, 1) := by decide +kernel
theorem d_Tp_isWord_36 : decode m_Tp_isWord.2.1 36 = .ok (.ireturn, 1) := by decide +kernel
theorem d_Tp_isWord_37 : decode m_Tp_isWord.2.1 37 = .ok (.iinc 3 1, 3) := by decide +kernel
theorem d_Tp_isWord_40 : decode m_Tp_isWord.2.1 40 = .ok (.goto (-28), 3) := by decide +kernel
theorem d_Tp_isWord_43 : decode m_Tp_isWord.2.1 43 = .ok (.iconst 1, 1) := by decide +kernel
theorem d_Tp_isWord_44 : decode m_Tp_isWord.2.1 44 = .ok (.ireturn, 1) := by decide +kernel
set_option maxHeartbeats 4000000 in
set_option maxRecDepth 100000 in
theorem B_Tp_isWord_0 {S : XS} {Q : Int32 → St → Prop} (σ : St) (t1 : Nat) (x2 : Int32) (H : (t1 < 7) ∧ CM S m_Js_length [.retAddr t1] (enc σ) (qI (fun v1 τ2 => ((x2 = v1 → BW S m_Tp_isWord 12 [some (.ref 1), some (.retAddr t1), some (.int x2), some (.int (0 : Int32))] [] (enc τ2) (qI Q)) ∧ (¬ x2 = v1 → Q (0 : Int32) τ2))))) : BW S m_Tp_isWord 0 [some (.ref 1), some (.retAddr t1), some (.int x2), none] [] (enc σ) (qI Q) := by
  refine b_iload_n d_Tp_isWord_0 rfl rfl ?_
  refine b_aload_nS d_Tp_isWord_1 rfl rfl ?_
  obtain ⟨h3, H⟩ := H
  refine b_callTi (Mc := m_Js_length) (As := []) (st := [.int x2]) d_Tp_isWord_2 ⟨⟨kA_Js_length.1, kA_Js_length.2.1, kA_Js_length.2.2, by decide⟩, ml_Tp_75, kT_Js_length⟩ h3 rfl rfl (Nat.le_of_ble_eq_true rfl) H (fun v1 τ2 H => ?_)
  refine b_icmp_eq (tgt := 10) d_Tp_isWord_5 (by decide) (fun c4 => ?_) (fun c4 => ?_)
  · have H := H.1 c4
    refine b_iconst (v := (0 : Int32)) d_Tp_isWord_10 (by decide) ?_
    refine b_istore_n (ls' := [some (.ref 1), some (.retAddr t1), some (.int x2), some (.int (0 : Int32))]) d_Tp_isWord_11 rfl (Nat.le_of_ble_eq_true rfl) rfl ?_
    exact b_mask [true, true, true, true] rfl H
  · have H := H.2 c4
    refine b_iconst (v := (0 : Int32)) d_Tp_isWord_8 (by decide) ?_
    exact b_iret (ty := .boolean) d_Tp_isWord_9 rfl rfl ⟨_, _, rfl, rfl, H⟩
set_option maxHeartbeats 4000000 in
set_option maxRecDepth 100000 in
theorem B_Tp_isWord_12 {S : XS} {Q : Int32 → St → Prop} (σ : St) (t1 : Nat) (x2 : Int32) (x3 : Int32) (H : ((x2 ≤ x3 → Q (1 : Int32) σ) ∧ (¬ x2 ≤ x3 → CM S m_Tp_byteAt [.ref 1, .int ((gX σ 1) + x3)] (enc σ) (qI (fun v5 τ6 => (t1 < 7) ∧ CM S m_Js_charAt [.retAddr t1, .int x3] (enc τ6) (qI (fun v7 τ8 => ((v5 = v7 → BW S m_Tp_isWord 12 [some (.ref 1), some (.retAddr t1), some (.int x2), some (.int (x3 + (1 : Int32)))] [] (enc τ8) (qI Q)) ∧ (¬ v5 = v7 → Q (0 : Int32) τ8))))))))) : BW S m_Tp_isWord 12 [some (.ref 1), some (.retAddr t1), some (.int x2), some (.int x3)] [] (enc σ) (qI Q) := by
  refine b_iload_n d_Tp_isWord_12 rfl rfl ?_
  refine b_iload_n d_Tp_isWord_13 rfl rfl ?_
  refine b_icmp_ge (tgt := 43) d_Tp_isWord_14 (by decide) (fun c11 => ?_) (fun c11 => ?_)
  · have H := H.1 c11
    refine b_iconst (v := (1 : Int32)) d_Tp_isWord_43 (by decide) ?_
    exact b_iret (ty := .boolean) d_Tp_isWord_44 rfl rfl ⟨_, _, rfl, rfl, H⟩
  · have H := H.2 c11
    refine b_aload_n d_Tp_isWord_17 rfl rfl ?_
    refine b_aload_n d_Tp_isWord_18 rfl rfl ?_
    refine b_getf (v := .int (gX σ 1)) d_Tp_isWord_19 fl_Tp_22 (eg_1 σ) rfl ?_
    refine b_iload_n d_Tp_isWord_22 rfl rfl ?_
    refine b_iadd d_Tp_isWord_23  ?_
    refine b_callVi (Mc := m_Tp_byteAt) (As := [.int ((gX σ 1) + x3)]) (st := []) d_Tp_isWord_24 ⟨⟨kA_Tp_byteAt.1, kA_Tp_byteAt.2.1, kA_Tp_byteAt.2.2, by decide⟩, ml_Tp_46, kV_Tp_byteAt⟩ (eg_1 σ) rfl rfl (Nat.le_of_ble_eq_true rfl) H (fun v5 τ6 H => ?_)
    refine b_aload_nS d_Tp_isWord_27 rfl rfl ?_
    refine b_iload_n d_Tp_isWord_28 rfl rfl ?_
    obtain ⟨h9, H⟩ := H
    refine b_callTi (Mc := m_Js_charAt) (As := [.int x3]) (st := [.int v5]) d_Tp_isWord_29 ⟨⟨kA_Js_charAt.1, kA_Js_charAt.2.1, kA_Js_charAt.2.2, by decide⟩, ml_Tp_80, kT_Js_charAt⟩ h9 rfl rfl (Nat.le_of_ble_eq_true rfl) H (fun v7 τ8 H => ?_)
    refine b_icmp_eq (tgt := 37) d_Tp_isWord_32 (by decide) (fun c10 => ?_) (fun c10 => ?_)
    · have H := H.1 c10
      refine b_iinc (v := (x3 + (1 : Int32))) (ls' := [some (.ref 1), some (.retAddr t1), some (.int x2), some (.int (x3 + (1 : Int32)))]) d_Tp_isWord_37 rfl rfl (Nat.le_of_ble_eq_true rfl) rfl ?_
      refine b_goto (tgt := 12) d_Tp_isWord_40 (by decide) ?_
      exact b_mask [true, true, true, true] rfl H
    · have H := H.2 c10
      refine b_iconst (v := (0 : Int32)) d_Tp_isWord_35 (by decide) ?_
      exact b_iret (ty := .boolean) d_Tp_isWord_36 rfl rfl ⟨_, _, rfl, rfl, H⟩
theorem C_Tp_isWord {S : XS} {Q : Int32 → St → Prop} (σ : St) (t1 : Nat) (x2 : Int32) (H : BW S m_Tp_isWord 0 [some (.ref 1), some (.retAddr t1), some (.int x2), none] [] (enc σ) (qI Q)) : CM S m_Tp_isWord [.ref 1, .retAddr t1, .int x2] (enc σ) (qI Q) := b_meth (by decide) (Nat.le_of_ble_eq_true rfl) rfl H
end
