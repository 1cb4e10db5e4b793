-- ===== PART A: goes FIRST, ahead of the names: the tables' words, and 'selects' of the private methods out of them =====
/-- a private method of a class that the tables say can be made, by its rows of tables_1 -/
def lw_okq (q : MethodName × Nat) : Prop := (q.1.cls ≠ "java/lang/invoke/MethodHandle" ∧ q.1.cls ≠ "java/lang/invoke/VarHandle") ∧ Cond.instantiable q.1.cls q.2 ∈ tables_1 ∧ Cond.privateMethod q.1 ∈ tables_1 ∧ Cond.instanceMethod q.1 ∈ tables_1
theorem lw_p0 : lw_okq (⟨"ToneHouse$Octave", "isCoprime", "(I)Z"⟩, 3) := ⟨⟨by decide +kernel, by decide +kernel⟩, List.mem_of_getElem? (i := 31) (by decide +kernel), List.mem_of_getElem? (i := 281) (by decide +kernel), List.mem_of_getElem? (i := 282) (by decide +kernel)⟩
theorem lw_p1 : lw_okq (⟨"ToneHouse$Octave", "nameAll", "(I)V"⟩, 3) := ⟨⟨by decide +kernel, by decide +kernel⟩, List.mem_of_getElem? (i := 31) (by decide +kernel), List.mem_of_getElem? (i := 307) (by decide +kernel), List.mem_of_getElem? (i := 308) (by decide +kernel)⟩
theorem lw_p2 : lw_okq (⟨"ToneHouse$Octave", "nameClass", "(II)V"⟩, 3) := ⟨⟨by decide +kernel, by decide +kernel⟩, List.mem_of_getElem? (i := 31) (by decide +kernel), List.mem_of_getElem? (i := 314) (by decide +kernel), List.mem_of_getElem? (i := 315) (by decide +kernel)⟩
theorem lw_p3 : lw_okq (⟨"ToneHouse$Octave", "isNameOfSize", "(III)Z"⟩, 3) := ⟨⟨by decide +kernel, by decide +kernel⟩, List.mem_of_getElem? (i := 31) (by decide +kernel), List.mem_of_getElem? (i := 346) (by decide +kernel), List.mem_of_getElem? (i := 347) (by decide +kernel)⟩
theorem lw_p4 : lw_okq (⟨"ToneHouse$Octave", "haveSameIntervals", "(II)Z"⟩, 3) := ⟨⟨by decide +kernel, by decide +kernel⟩, List.mem_of_getElem? (i := 31) (by decide +kernel), List.mem_of_getElem? (i := 380) (by decide +kernel), List.mem_of_getElem? (i := 381) (by decide +kernel)⟩
theorem lw_p5 : lw_okq (⟨"ToneHouse$Leading", "list", "(I[I)V"⟩, 6) := ⟨⟨by decide +kernel, by decide +kernel⟩, List.mem_of_getElem? (i := 51) (by decide +kernel), List.mem_of_getElem? (i := 404) (by decide +kernel), List.mem_of_getElem? (i := 405) (by decide +kernel)⟩
theorem lw_p6 : lw_okq (⟨"ToneHouse$Leading", "weigh", "(I)V"⟩, 6) := ⟨⟨by decide +kernel, by decide +kernel⟩, List.mem_of_getElem? (i := 51) (by decide +kernel), List.mem_of_getElem? (i := 418) (by decide +kernel), List.mem_of_getElem? (i := 419) (by decide +kernel)⟩
theorem lw_p7 : lw_okq (⟨"ToneHouse$Leading", "sumBy", "(III)I"⟩, 6) := ⟨⟨by decide +kernel, by decide +kernel⟩, List.mem_of_getElem? (i := 51) (by decide +kernel), List.mem_of_getElem? (i := 423) (by decide +kernel), List.mem_of_getElem? (i := 424) (by decide +kernel)⟩
theorem lw_p8 : lw_okq (⟨"ToneHouse$Leading", "firstBest", "(II)I"⟩, 6) := ⟨⟨by decide +kernel, by decide +kernel⟩, List.mem_of_getElem? (i := 51) (by decide +kernel), List.mem_of_getElem? (i := 445) (by decide +kernel), List.mem_of_getElem? (i := 446) (by decide +kernel)⟩
theorem lw_p9 : lw_okq (⟨"ToneHouse$Roads", "startFromImages", "(LToneHouse$Octave;I)V"⟩, 3) := ⟨⟨by decide +kernel, by decide +kernel⟩, List.mem_of_getElem? (i := 76) (by decide +kernel), List.mem_of_getElem? (i := 458) (by decide +kernel), List.mem_of_getElem? (i := 459) (by decide +kernel)⟩
theorem lw_p10 : lw_okq (⟨"ToneHouse$Roads", "reach", "(II)V"⟩, 3) := ⟨⟨by decide +kernel, by decide +kernel⟩, List.mem_of_getElem? (i := 76) (by decide +kernel), List.mem_of_getElem? (i := 465) (by decide +kernel), List.mem_of_getElem? (i := 466) (by decide +kernel)⟩
theorem lw_p11 : lw_okq (⟨"ToneHouse$Roads", "moveOn", "(II)V"⟩, 3) := ⟨⟨by decide +kernel, by decide +kernel⟩, List.mem_of_getElem? (i := 76) (by decide +kernel), List.mem_of_getElem? (i := 469) (by decide +kernel), List.mem_of_getElem? (i := 470) (by decide +kernel)⟩
theorem lw_p12 : lw_okq (⟨"ToneHouse", "hasRow", "(I)Z"⟩, 9) := ⟨⟨by decide +kernel, by decide +kernel⟩, List.mem_of_getElem? (i := 23) (by decide +kernel), List.mem_of_getElem? (i := 494) (by decide +kernel), List.mem_of_getElem? (i := 495) (by decide +kernel)⟩
theorem lw_p13 : lw_okq (⟨"ToneHouse$FullRows", "list", "(I)V"⟩, 5) := ⟨⟨by decide +kernel, by decide +kernel⟩, List.mem_of_getElem? (i := 92) (by decide +kernel), List.mem_of_getElem? (i := 536) (by decide +kernel), List.mem_of_getElem? (i := 537) (by decide +kernel)⟩
theorem lw_p14 : lw_okq (⟨"ToneHouse$FullRows", "lengthen", "(IIIIIJ)V"⟩, 5) := ⟨⟨by decide +kernel, by decide +kernel⟩, List.mem_of_getElem? (i := 92) (by decide +kernel), List.mem_of_getElem? (i := 540) (by decide +kernel), List.mem_of_getElem? (i := 541) (by decide +kernel)⟩
theorem lw_p15 : lw_okq (⟨"ToneHouse$FullRows", "add", "(J)V"⟩, 5) := ⟨⟨by decide +kernel, by decide +kernel⟩, List.mem_of_getElem? (i := 92) (by decide +kernel), List.mem_of_getElem? (i := 544) (by decide +kernel), List.mem_of_getElem? (i := 545) (by decide +kernel)⟩
def lw_privs_1 : List (MethodName × Nat) := [(⟨"ToneHouse$Octave", "isCoprime", "(I)Z"⟩, 3), (⟨"ToneHouse$Octave", "nameAll", "(I)V"⟩, 3), (⟨"ToneHouse$Octave", "nameClass", "(II)V"⟩, 3), (⟨"ToneHouse$Octave", "isNameOfSize", "(III)Z"⟩, 3), (⟨"ToneHouse$Octave", "haveSameIntervals", "(II)Z"⟩, 3), (⟨"ToneHouse$Leading", "list", "(I[I)V"⟩, 6), (⟨"ToneHouse$Leading", "weigh", "(I)V"⟩, 6), (⟨"ToneHouse$Leading", "sumBy", "(III)I"⟩, 6), (⟨"ToneHouse$Leading", "firstBest", "(II)I"⟩, 6), (⟨"ToneHouse$Roads", "startFromImages", "(LToneHouse$Octave;I)V"⟩, 3), (⟨"ToneHouse$Roads", "reach", "(II)V"⟩, 3), (⟨"ToneHouse$Roads", "moveOn", "(II)V"⟩, 3), (⟨"ToneHouse", "hasRow", "(I)Z"⟩, 9), (⟨"ToneHouse$FullRows", "list", "(I)V"⟩, 5), (⟨"ToneHouse$FullRows", "lengthen", "(IIIIIJ)V"⟩, 5), (⟨"ToneHouse$FullRows", "add", "(J)V"⟩, 5)]
theorem lw_r1 : ∀ q ∈ lw_privs_1, lw_okq q := List.forall_mem_cons.mpr ⟨lw_p0, List.forall_mem_cons.mpr ⟨lw_p1, List.forall_mem_cons.mpr ⟨lw_p2, List.forall_mem_cons.mpr ⟨lw_p3, List.forall_mem_cons.mpr ⟨lw_p4, List.forall_mem_cons.mpr ⟨lw_p5, List.forall_mem_cons.mpr ⟨lw_p6, List.forall_mem_cons.mpr ⟨lw_p7, List.forall_mem_cons.mpr ⟨lw_p8, List.forall_mem_cons.mpr ⟨lw_p9, List.forall_mem_cons.mpr ⟨lw_p10, List.forall_mem_cons.mpr ⟨lw_p11, List.forall_mem_cons.mpr ⟨lw_p12, List.forall_mem_cons.mpr ⟨lw_p13, List.forall_mem_cons.mpr ⟨lw_p14, List.forall_mem_cons.mpr ⟨lw_p15, fun _ h => absurd h List.not_mem_nil⟩⟩⟩⟩⟩⟩⟩⟩⟩⟩⟩⟩⟩⟩⟩⟩
theorem lw_p16 : lw_okq (⟨"ToneHouse$Round", "cover", "(III)V"⟩, 5) := ⟨⟨by decide +kernel, by decide +kernel⟩, List.mem_of_getElem? (i := 115) (by decide +kernel), List.mem_of_getElem? (i := 580) (by decide +kernel), List.mem_of_getElem? (i := 581) (by decide +kernel)⟩
theorem lw_p17 : lw_okq (⟨"ToneHouse$Round", "add", "(I)V"⟩, 5) := ⟨⟨by decide +kernel, by decide +kernel⟩, List.mem_of_getElem? (i := 115) (by decide +kernel), List.mem_of_getElem? (i := 584) (by decide +kernel), List.mem_of_getElem? (i := 585) (by decide +kernel)⟩
theorem lw_p18 : lw_okq (⟨"ToneHouse$Round", "sort", "()V"⟩, 5) := ⟨⟨by decide +kernel, by decide +kernel⟩, List.mem_of_getElem? (i := 115) (by decide +kernel), List.mem_of_getElem? (i := 601) (by decide +kernel), List.mem_of_getElem? (i := 602) (by decide +kernel)⟩
theorem lw_p19 : lw_okq (⟨"ToneHouse$Round", "sink", "(II)V"⟩, 5) := ⟨⟨by decide +kernel, by decide +kernel⟩, List.mem_of_getElem? (i := 115) (by decide +kernel), List.mem_of_getElem? (i := 605) (by decide +kernel), List.mem_of_getElem? (i := 606) (by decide +kernel)⟩
theorem lw_p20 : lw_okq (⟨"ToneHouse$Reader", "advance", "()V"⟩, 9) := ⟨⟨by decide +kernel, by decide +kernel⟩, List.mem_of_getElem? (i := 137) (by decide +kernel), List.mem_of_getElem? (i := 663) (by decide +kernel), List.mem_of_getElem? (i := 664) (by decide +kernel)⟩
theorem lw_p21 : lw_okq (⟨"ToneHouse$Reader", "readWord", "(I)LToneHouse$Token;"⟩, 9) := ⟨⟨by decide +kernel, by decide +kernel⟩, List.mem_of_getElem? (i := 137) (by decide +kernel), List.mem_of_getElem? (i := 677) (by decide +kernel), List.mem_of_getElem? (i := 678) (by decide +kernel)⟩
theorem lw_p22 : lw_okq (⟨"ToneHouse$Reader", "readNumber", "()LToneHouse$Token;"⟩, 9) := ⟨⟨by decide +kernel, by decide +kernel⟩, List.mem_of_getElem? (i := 137) (by decide +kernel), List.mem_of_getElem? (i := 749) (by decide +kernel), List.mem_of_getElem? (i := 750) (by decide +kernel)⟩
theorem lw_p23 : lw_okq (⟨"ToneHouse$Reader", "readRow", "()Z"⟩, 9) := ⟨⟨by decide +kernel, by decide +kernel⟩, List.mem_of_getElem? (i := 137) (by decide +kernel), List.mem_of_getElem? (i := 759) (by decide +kernel), List.mem_of_getElem? (i := 760) (by decide +kernel)⟩
theorem lw_p24 : lw_okq (⟨"ToneHouse$Reader", "holds", "(ZI)Z"⟩, 9) := ⟨⟨by decide +kernel, by decide +kernel⟩, List.mem_of_getElem? (i := 137) (by decide +kernel), List.mem_of_getElem? (i := 767) (by decide +kernel), List.mem_of_getElem? (i := 768) (by decide +kernel)⟩
theorem lw_p25 : lw_okq (⟨"ToneHouse$Reader", "passes", "(LToneHouse$Token;)Z"⟩, 9) := ⟨⟨by decide +kernel, by decide +kernel⟩, List.mem_of_getElem? (i := 137) (by decide +kernel), List.mem_of_getElem? (i := 775) (by decide +kernel), List.mem_of_getElem? (i := 776) (by decide +kernel)⟩
theorem lw_p26 : lw_okq (⟨"ToneHouse$Reader", "readNotes", "()J"⟩, 9) := ⟨⟨by decide +kernel, by decide +kernel⟩, List.mem_of_getElem? (i := 137) (by decide +kernel), List.mem_of_getElem? (i := 779) (by decide +kernel), List.mem_of_getElem? (i := 780) (by decide +kernel)⟩
theorem lw_p27 : lw_okq (⟨"ToneHouse$Reader", "readVoice", "()Z"⟩, 9) := ⟨⟨by decide +kernel, by decide +kernel⟩, List.mem_of_getElem? (i := 137) (by decide +kernel), List.mem_of_getElem? (i := 788) (by decide +kernel), List.mem_of_getElem? (i := 789) (by decide +kernel)⟩
theorem lw_p28 : lw_okq (⟨"ToneHouse$Reader", "passesNumber", "(I)Z"⟩, 9) := ⟨⟨by decide +kernel, by decide +kernel⟩, List.mem_of_getElem? (i := 137) (by decide +kernel), List.mem_of_getElem? (i := 854) (by decide +kernel), List.mem_of_getElem? (i := 855) (by decide +kernel)⟩
theorem lw_p29 : lw_okq (⟨"ToneHouse$Score", "writeRow", "(LToneHouse$ByteRow;II)V"⟩, 8) := ⟨⟨by decide +kernel, by decide +kernel⟩, List.mem_of_getElem? (i := 156) (by decide +kernel), List.mem_of_getElem? (i := 964) (by decide +kernel), List.mem_of_getElem? (i := 965) (by decide +kernel)⟩
theorem lw_p30 : lw_okq (⟨"ToneHouse$Score", "writeVoice", "(LToneHouse$ByteRow;I)V"⟩, 8) := ⟨⟨by decide +kernel, by decide +kernel⟩, List.mem_of_getElem? (i := 156) (by decide +kernel), List.mem_of_getElem? (i := 980) (by decide +kernel), List.mem_of_getElem? (i := 981) (by decide +kernel)⟩
theorem lw_p31 : lw_okq (⟨"ToneHouseModel", "isSet", "(I)Z"⟩, 49) := ⟨⟨by decide +kernel, by decide +kernel⟩, List.mem_of_getElem? (i := 1005) (by decide +kernel), List.mem_of_getElem? (i := 1167) (by decide +kernel), List.mem_of_getElem? (i := 1168) (by decide +kernel)⟩
def lw_privs_2 : List (MethodName × Nat) := [(⟨"ToneHouse$Round", "cover", "(III)V"⟩, 5), (⟨"ToneHouse$Round", "add", "(I)V"⟩, 5), (⟨"ToneHouse$Round", "sort", "()V"⟩, 5), (⟨"ToneHouse$Round", "sink", "(II)V"⟩, 5), (⟨"ToneHouse$Reader", "advance", "()V"⟩, 9), (⟨"ToneHouse$Reader", "readWord", "(I)LToneHouse$Token;"⟩, 9), (⟨"ToneHouse$Reader", "readNumber", "()LToneHouse$Token;"⟩, 9), (⟨"ToneHouse$Reader", "readRow", "()Z"⟩, 9), (⟨"ToneHouse$Reader", "holds", "(ZI)Z"⟩, 9), (⟨"ToneHouse$Reader", "passes", "(LToneHouse$Token;)Z"⟩, 9), (⟨"ToneHouse$Reader", "readNotes", "()J"⟩, 9), (⟨"ToneHouse$Reader", "readVoice", "()Z"⟩, 9), (⟨"ToneHouse$Reader", "passesNumber", "(I)Z"⟩, 9), (⟨"ToneHouse$Score", "writeRow", "(LToneHouse$ByteRow;II)V"⟩, 8), (⟨"ToneHouse$Score", "writeVoice", "(LToneHouse$ByteRow;I)V"⟩, 8), (⟨"ToneHouseModel", "isSet", "(I)Z"⟩, 49)]
theorem lw_r2 : ∀ q ∈ lw_privs_2, lw_okq q := List.forall_mem_cons.mpr ⟨lw_p16, List.forall_mem_cons.mpr ⟨lw_p17, List.forall_mem_cons.mpr ⟨lw_p18, List.forall_mem_cons.mpr ⟨lw_p19, List.forall_mem_cons.mpr ⟨lw_p20, List.forall_mem_cons.mpr ⟨lw_p21, List.forall_mem_cons.mpr ⟨lw_p22, List.forall_mem_cons.mpr ⟨lw_p23, List.forall_mem_cons.mpr ⟨lw_p24, List.forall_mem_cons.mpr ⟨lw_p25, List.forall_mem_cons.mpr ⟨lw_p26, List.forall_mem_cons.mpr ⟨lw_p27, List.forall_mem_cons.mpr ⟨lw_p28, List.forall_mem_cons.mpr ⟨lw_p29, List.forall_mem_cons.mpr ⟨lw_p30, List.forall_mem_cons.mpr ⟨lw_p31, fun _ h => absurd h List.not_mem_nil⟩⟩⟩⟩⟩⟩⟩⟩⟩⟩⟩⟩⟩⟩⟩⟩
theorem lw_p32 : lw_okq (⟨"ToneHouseModel", "isOf", "(II)Z"⟩, 49) := ⟨⟨by decide +kernel, by decide +kernel⟩, List.mem_of_getElem? (i := 1005) (by decide +kernel), List.mem_of_getElem? (i := 1171) (by decide +kernel), List.mem_of_getElem? (i := 1172) (by decide +kernel)⟩
theorem lw_p33 : lw_okq (⟨"ToneHouseModel", "common", "(II)I"⟩, 49) := ⟨⟨by decide +kernel, by decide +kernel⟩, List.mem_of_getElem? (i := 1005) (by decide +kernel), List.mem_of_getElem? (i := 1175) (by decide +kernel), List.mem_of_getElem? (i := 1176) (by decide +kernel)⟩
theorem lw_p34 : lw_okq (⟨"ToneHouseModel", "imageOf", "(III)I"⟩, 49) := ⟨⟨by decide +kernel, by decide +kernel⟩, List.mem_of_getElem? (i := 1005) (by decide +kernel), List.mem_of_getElem? (i := 1179) (by decide +kernel), List.mem_of_getElem? (i := 1180) (by decide +kernel)⟩
theorem lw_p35 : lw_okq (⟨"ToneHouseModel", "has", "(II)Z"⟩, 49) := ⟨⟨by decide +kernel, by decide +kernel⟩, List.mem_of_getElem? (i := 1005) (by decide +kernel), List.mem_of_getElem? (i := 1183) (by decide +kernel), List.mem_of_getElem? (i := 1184) (by decide +kernel)⟩
theorem lw_p36 : lw_okq (⟨"ToneHouseModel", "isGroup", "(I)Z"⟩, 49) := ⟨⟨by decide +kernel, by decide +kernel⟩, List.mem_of_getElem? (i := 1005) (by decide +kernel), List.mem_of_getElem? (i := 1191) (by decide +kernel), List.mem_of_getElem? (i := 1192) (by decide +kernel)⟩
theorem lw_p37 : lw_okq (⟨"ToneHouseModel", "nameIn", "(II)I"⟩, 49) := ⟨⟨by decide +kernel, by decide +kernel⟩, List.mem_of_getElem? (i := 1005) (by decide +kernel), List.mem_of_getElem? (i := 1195) (by decide +kernel), List.mem_of_getElem? (i := 1196) (by decide +kernel)⟩
theorem lw_p38 : lw_okq (⟨"ToneHouseModel", "images", "(III)I"⟩, 49) := ⟨⟨by decide +kernel, by decide +kernel⟩, List.mem_of_getElem? (i := 1005) (by decide +kernel), List.mem_of_getElem? (i := 1203) (by decide +kernel), List.mem_of_getElem? (i := 1204) (by decide +kernel)⟩
theorem lw_p39 : lw_okq (⟨"ToneHouseModel", "isMany", "(II)Z"⟩, 49) := ⟨⟨by decide +kernel, by decide +kernel⟩, List.mem_of_getElem? (i := 1005) (by decide +kernel), List.mem_of_getElem? (i := 1211) (by decide +kernel), List.mem_of_getElem? (i := 1212) (by decide +kernel)⟩
theorem lw_p40 : lw_okq (⟨"ToneHouseModel", "ones", "(I)I"⟩, 49) := ⟨⟨by decide +kernel, by decide +kernel⟩, List.mem_of_getElem? (i := 1005) (by decide +kernel), List.mem_of_getElem? (i := 1215) (by decide +kernel), List.mem_of_getElem? (i := 1216) (by decide +kernel)⟩
theorem lw_p41 : lw_okq (⟨"ToneHouseModel", "pairs", "(II)I"⟩, 49) := ⟨⟨by decide +kernel, by decide +kernel⟩, List.mem_of_getElem? (i := 1005) (by decide +kernel), List.mem_of_getElem? (i := 1227) (by decide +kernel), List.mem_of_getElem? (i := 1228) (by decide +kernel)⟩
theorem lw_p42 : lw_okq (⟨"ToneHouseModel", "apart", "(II)I"⟩, 49) := ⟨⟨by decide +kernel, by decide +kernel⟩, List.mem_of_getElem? (i := 1005) (by decide +kernel), List.mem_of_getElem? (i := 1231) (by decide +kernel), List.mem_of_getElem? (i := 1232) (by decide +kernel)⟩
theorem lw_p43 : lw_okq (⟨"ToneHouseModel", "pair", "(II)I"⟩, 49) := ⟨⟨by decide +kernel, by decide +kernel⟩, List.mem_of_getElem? (i := 1005) (by decide +kernel), List.mem_of_getElem? (i := 1247) (by decide +kernel), List.mem_of_getElem? (i := 1248) (by decide +kernel)⟩
theorem lw_p44 : lw_okq (⟨"ToneHouseModel", "steps", "(II)I"⟩, 49) := ⟨⟨by decide +kernel, by decide +kernel⟩, List.mem_of_getElem? (i := 1005) (by decide +kernel), List.mem_of_getElem? (i := 1251) (by decide +kernel), List.mem_of_getElem? (i := 1252) (by decide +kernel)⟩
theorem lw_p45 : lw_okq (⟨"ToneHouseModel", "isSlot", "(I)Z"⟩, 49) := ⟨⟨by decide +kernel, by decide +kernel⟩, List.mem_of_getElem? (i := 1005) (by decide +kernel), List.mem_of_getElem? (i := 1263) (by decide +kernel), List.mem_of_getElem? (i := 1264) (by decide +kernel)⟩
theorem lw_p46 : lw_okq (⟨"ToneHouseModel", "hasRow", "(I)Z"⟩, 49) := ⟨⟨by decide +kernel, by decide +kernel⟩, List.mem_of_getElem? (i := 1005) (by decide +kernel), List.mem_of_getElem? (i := 1272) (by decide +kernel), List.mem_of_getElem? (i := 1273) (by decide +kernel)⟩
theorem lw_p47 : lw_okq (⟨"ToneHouseModel", "isKind", "(I)Z"⟩, 49) := ⟨⟨by decide +kernel, by decide +kernel⟩, List.mem_of_getElem? (i := 1005) (by decide +kernel), List.mem_of_getElem? (i := 1276) (by decide +kernel), List.mem_of_getElem? (i := 1277) (by decide +kernel)⟩
def lw_privs_3 : List (MethodName × Nat) := [(⟨"ToneHouseModel", "isOf", "(II)Z"⟩, 49), (⟨"ToneHouseModel", "common", "(II)I"⟩, 49), (⟨"ToneHouseModel", "imageOf", "(III)I"⟩, 49), (⟨"ToneHouseModel", "has", "(II)Z"⟩, 49), (⟨"ToneHouseModel", "isGroup", "(I)Z"⟩, 49), (⟨"ToneHouseModel", "nameIn", "(II)I"⟩, 49), (⟨"ToneHouseModel", "images", "(III)I"⟩, 49), (⟨"ToneHouseModel", "isMany", "(II)Z"⟩, 49), (⟨"ToneHouseModel", "ones", "(I)I"⟩, 49), (⟨"ToneHouseModel", "pairs", "(II)I"⟩, 49), (⟨"ToneHouseModel", "apart", "(II)I"⟩, 49), (⟨"ToneHouseModel", "pair", "(II)I"⟩, 49), (⟨"ToneHouseModel", "steps", "(II)I"⟩, 49), (⟨"ToneHouseModel", "isSlot", "(I)Z"⟩, 49), (⟨"ToneHouseModel", "hasRow", "(I)Z"⟩, 49), (⟨"ToneHouseModel", "isKind", "(I)Z"⟩, 49)]
theorem lw_r3 : ∀ q ∈ lw_privs_3, lw_okq q := List.forall_mem_cons.mpr ⟨lw_p32, List.forall_mem_cons.mpr ⟨lw_p33, List.forall_mem_cons.mpr ⟨lw_p34, List.forall_mem_cons.mpr ⟨lw_p35, List.forall_mem_cons.mpr ⟨lw_p36, List.forall_mem_cons.mpr ⟨lw_p37, List.forall_mem_cons.mpr ⟨lw_p38, List.forall_mem_cons.mpr ⟨lw_p39, List.forall_mem_cons.mpr ⟨lw_p40, List.forall_mem_cons.mpr ⟨lw_p41, List.forall_mem_cons.mpr ⟨lw_p42, List.forall_mem_cons.mpr ⟨lw_p43, List.forall_mem_cons.mpr ⟨lw_p44, List.forall_mem_cons.mpr ⟨lw_p45, List.forall_mem_cons.mpr ⟨lw_p46, List.forall_mem_cons.mpr ⟨lw_p47, fun _ h => absurd h List.not_mem_nil⟩⟩⟩⟩⟩⟩⟩⟩⟩⟩⟩⟩⟩⟩⟩⟩
theorem lw_p48 : lw_okq (⟨"ToneHouseModel", "formOf", "(IIII)I"⟩, 49) := ⟨⟨by decide +kernel, by decide +kernel⟩, List.mem_of_getElem? (i := 1005) (by decide +kernel), List.mem_of_getElem? (i := 1280) (by decide +kernel), List.mem_of_getElem? (i := 1281) (by decide +kernel)⟩
theorem lw_p49 : lw_okq (⟨"ToneHouseModel", "becomes", "(III)I"⟩, 49) := ⟨⟨by decide +kernel, by decide +kernel⟩, List.mem_of_getElem? (i := 1005) (by decide +kernel), List.mem_of_getElem? (i := 1284) (by decide +kernel), List.mem_of_getElem? (i := 1285) (by decide +kernel)⟩
theorem lw_p50 : lw_okq (⟨"ToneHouseModel", "isFull", "(I)Z"⟩, 49) := ⟨⟨by decide +kernel, by decide +kernel⟩, List.mem_of_getElem? (i := 1005) (by decide +kernel), List.mem_of_getElem? (i := 1292) (by decide +kernel), List.mem_of_getElem? (i := 1293) (by decide +kernel)⟩
theorem lw_p51 : lw_okq (⟨"ToneHouseModel", "isSame", "(IIIII)Z"⟩, 49) := ⟨⟨by decide +kernel, by decide +kernel⟩, List.mem_of_getElem? (i := 1005) (by decide +kernel), List.mem_of_getElem? (i := 1296) (by decide +kernel), List.mem_of_getElem? (i := 1297) (by decide +kernel)⟩
theorem lw_p52 : lw_okq (⟨"ToneHouseModel", "findFulls", "()V"⟩, 49) := ⟨⟨by decide +kernel, by decide +kernel⟩, List.mem_of_getElem? (i := 1005) (by decide +kernel), List.mem_of_getElem? (i := 1312) (by decide +kernel), List.mem_of_getElem? (i := 1313) (by decide +kernel)⟩
theorem lw_p53 : lw_okq (⟨"ToneHouseModel", "isRound", "(II)Z"⟩, 49) := ⟨⟨by decide +kernel, by decide +kernel⟩, List.mem_of_getElem? (i := 1005) (by decide +kernel), List.mem_of_getElem? (i := 1328) (by decide +kernel), List.mem_of_getElem? (i := 1329) (by decide +kernel)⟩
theorem lw_p54 : lw_okq (⟨"ToneHouseModel", "findEntries", "(II)V"⟩, 49) := ⟨⟨by decide +kernel, by decide +kernel⟩, List.mem_of_getElem? (i := 1005) (by decide +kernel), List.mem_of_getElem? (i := 1332) (by decide +kernel), List.mem_of_getElem? (i := 1333) (by decide +kernel)⟩
theorem lw_p55 : lw_okq (⟨"ToneHouseModel", "filled", "(III)I"⟩, 49) := ⟨⟨by decide +kernel, by decide +kernel⟩, List.mem_of_getElem? (i := 1005) (by decide +kernel), List.mem_of_getElem? (i := 1336) (by decide +kernel), List.mem_of_getElem? (i := 1337) (by decide +kernel)⟩
theorem lw_p56 : lw_okq (⟨"ToneHouseModel", "later", "(III)I"⟩, 49) := ⟨⟨by decide +kernel, by decide +kernel⟩, List.mem_of_getElem? (i := 1005) (by decide +kernel), List.mem_of_getElem? (i := 1340) (by decide +kernel), List.mem_of_getElem? (i := 1341) (by decide +kernel)⟩
theorem lw_p57 : lw_okq (⟨"ToneHouseModel", "put", "(I)V"⟩, 49) := ⟨⟨by decide +kernel, by decide +kernel⟩, List.mem_of_getElem? (i := 1005) (by decide +kernel), List.mem_of_getElem? (i := 1344) (by decide +kernel), List.mem_of_getElem? (i := 1345) (by decide +kernel)⟩
theorem lw_p58 : lw_okq (⟨"ToneHouseModel", "periodOf", "(II)I"⟩, 49) := ⟨⟨by decide +kernel, by decide +kernel⟩, List.mem_of_getElem? (i := 1005) (by decide +kernel), List.mem_of_getElem? (i := 1356) (by decide +kernel), List.mem_of_getElem? (i := 1357) (by decide +kernel)⟩
theorem lw_p59 : lw_okq (⟨"ToneHouseModel", "between", "(II)I"⟩, 49) := ⟨⟨by decide +kernel, by decide +kernel⟩, List.mem_of_getElem? (i := 1005) (by decide +kernel), List.mem_of_getElem? (i := 1368) (by decide +kernel), List.mem_of_getElem? (i := 1369) (by decide +kernel)⟩
theorem lw_p60 : lw_okq (⟨"ToneHouseModel", "sung", "(II)I"⟩, 49) := ⟨⟨by decide +kernel, by decide +kernel⟩, List.mem_of_getElem? (i := 1005) (by decide +kernel), List.mem_of_getElem? (i := 1372) (by decide +kernel), List.mem_of_getElem? (i := 1373) (by decide +kernel)⟩
theorem lw_p61 : lw_okq (⟨"ToneHouseModel", "noteOf", "(II)I"⟩, 49) := ⟨⟨by decide +kernel, by decide +kernel⟩, List.mem_of_getElem? (i := 1005) (by decide +kernel), List.mem_of_getElem? (i := 1376) (by decide +kernel), List.mem_of_getElem? (i := 1377) (by decide +kernel)⟩
theorem lw_p62 : lw_okq (⟨"ToneHouseModel", "isVoice", "(I)Z"⟩, 49) := ⟨⟨by decide +kernel, by decide +kernel⟩, List.mem_of_getElem? (i := 1005) (by decide +kernel), List.mem_of_getElem? (i := 1384) (by decide +kernel), List.mem_of_getElem? (i := 1385) (by decide +kernel)⟩
theorem lw_p63 : lw_okq (⟨"ToneHouseModel", "clashesOf", "(I)I"⟩, 49) := ⟨⟨by decide +kernel, by decide +kernel⟩, List.mem_of_getElem? (i := 1005) (by decide +kernel), List.mem_of_getElem? (i := 1388) (by decide +kernel), List.mem_of_getElem? (i := 1389) (by decide +kernel)⟩
def lw_privs_4 : List (MethodName × Nat) := [(⟨"ToneHouseModel", "formOf", "(IIII)I"⟩, 49), (⟨"ToneHouseModel", "becomes", "(III)I"⟩, 49), (⟨"ToneHouseModel", "isFull", "(I)Z"⟩, 49), (⟨"ToneHouseModel", "isSame", "(IIIII)Z"⟩, 49), (⟨"ToneHouseModel", "findFulls", "()V"⟩, 49), (⟨"ToneHouseModel", "isRound", "(II)Z"⟩, 49), (⟨"ToneHouseModel", "findEntries", "(II)V"⟩, 49), (⟨"ToneHouseModel", "filled", "(III)I"⟩, 49), (⟨"ToneHouseModel", "later", "(III)I"⟩, 49), (⟨"ToneHouseModel", "put", "(I)V"⟩, 49), (⟨"ToneHouseModel", "periodOf", "(II)I"⟩, 49), (⟨"ToneHouseModel", "between", "(II)I"⟩, 49), (⟨"ToneHouseModel", "sung", "(II)I"⟩, 49), (⟨"ToneHouseModel", "noteOf", "(II)I"⟩, 49), (⟨"ToneHouseModel", "isVoice", "(I)Z"⟩, 49), (⟨"ToneHouseModel", "clashesOf", "(I)I"⟩, 49)]
theorem lw_r4 : ∀ q ∈ lw_privs_4, lw_okq q := List.forall_mem_cons.mpr ⟨lw_p48, List.forall_mem_cons.mpr ⟨lw_p49, List.forall_mem_cons.mpr ⟨lw_p50, List.forall_mem_cons.mpr ⟨lw_p51, List.forall_mem_cons.mpr ⟨lw_p52, List.forall_mem_cons.mpr ⟨lw_p53, List.forall_mem_cons.mpr ⟨lw_p54, List.forall_mem_cons.mpr ⟨lw_p55, List.forall_mem_cons.mpr ⟨lw_p56, List.forall_mem_cons.mpr ⟨lw_p57, List.forall_mem_cons.mpr ⟨lw_p58, List.forall_mem_cons.mpr ⟨lw_p59, List.forall_mem_cons.mpr ⟨lw_p60, List.forall_mem_cons.mpr ⟨lw_p61, List.forall_mem_cons.mpr ⟨lw_p62, List.forall_mem_cons.mpr ⟨lw_p63, fun _ h => absurd h List.not_mem_nil⟩⟩⟩⟩⟩⟩⟩⟩⟩⟩⟩⟩⟩⟩⟩⟩
theorem lw_p64 : lw_okq (⟨"ToneHouseModel", "isBeat", "(I)Z"⟩, 49) := ⟨⟨by decide +kernel, by decide +kernel⟩, List.mem_of_getElem? (i := 1005) (by decide +kernel), List.mem_of_getElem? (i := 1396) (by decide +kernel), List.mem_of_getElem? (i := 1397) (by decide +kernel)⟩
theorem lw_p65 : lw_okq (⟨"ToneHouseModel", "lay", "(I)V"⟩, 49) := ⟨⟨by decide +kernel, by decide +kernel⟩, List.mem_of_getElem? (i := 1005) (by decide +kernel), List.mem_of_getElem? (i := 1416) (by decide +kernel), List.mem_of_getElem? (i := 1417) (by decide +kernel)⟩
theorem lw_p66 : lw_okq (⟨"ToneHouseModel", "say", "(I)V"⟩, 49) := ⟨⟨by decide +kernel, by decide +kernel⟩, List.mem_of_getElem? (i := 1005) (by decide +kernel), List.mem_of_getElem? (i := 1436) (by decide +kernel), List.mem_of_getElem? (i := 1437) (by decide +kernel)⟩
theorem lw_p67 : lw_okq (⟨"ToneHouseModel", "sayLetter", "(I)V"⟩, 49) := ⟨⟨by decide +kernel, by decide +kernel⟩, List.mem_of_getElem? (i := 1005) (by decide +kernel), List.mem_of_getElem? (i := 1440) (by decide +kernel), List.mem_of_getElem? (i := 1441) (by decide +kernel)⟩
theorem lw_p68 : lw_okq (⟨"ToneHouseModel", "sayNumber", "(I)V"⟩, 49) := ⟨⟨by decide +kernel, by decide +kernel⟩, List.mem_of_getElem? (i := 1005) (by decide +kernel), List.mem_of_getElem? (i := 1444) (by decide +kernel), List.mem_of_getElem? (i := 1445) (by decide +kernel)⟩
theorem lw_p69 : lw_okq (⟨"ToneHouseModel", "reading", "()Z"⟩, 49) := ⟨⟨by decide +kernel, by decide +kernel⟩, List.mem_of_getElem? (i := 1005) (by decide +kernel), List.mem_of_getElem? (i := 1452) (by decide +kernel), List.mem_of_getElem? (i := 1453) (by decide +kernel)⟩
theorem lw_p70 : lw_okq (⟨"ToneHouseModel", "next", "()V"⟩, 49) := ⟨⟨by decide +kernel, by decide +kernel⟩, List.mem_of_getElem? (i := 1005) (by decide +kernel), List.mem_of_getElem? (i := 1456) (by decide +kernel), List.mem_of_getElem? (i := 1457) (by decide +kernel)⟩
theorem lw_p71 : lw_okq (⟨"ToneHouseModel", "raw", "(I)I"⟩, 49) := ⟨⟨by decide +kernel, by decide +kernel⟩, List.mem_of_getElem? (i := 1005) (by decide +kernel), List.mem_of_getElem? (i := 1460) (by decide +kernel), List.mem_of_getElem? (i := 1461) (by decide +kernel)⟩
theorem lw_p72 : lw_okq (⟨"ToneHouseModel", "isLetter", "(I)Z"⟩, 49) := ⟨⟨by decide +kernel, by decide +kernel⟩, List.mem_of_getElem? (i := 1005) (by decide +kernel), List.mem_of_getElem? (i := 1464) (by decide +kernel), List.mem_of_getElem? (i := 1465) (by decide +kernel)⟩
theorem lw_p73 : lw_okq (⟨"ToneHouseModel", "isDigit", "(I)Z"⟩, 49) := ⟨⟨by decide +kernel, by decide +kernel⟩, List.mem_of_getElem? (i := 1005) (by decide +kernel), List.mem_of_getElem? (i := 1468) (by decide +kernel), List.mem_of_getElem? (i := 1469) (by decide +kernel)⟩
theorem lw_p74 : lw_okq (⟨"ToneHouseModel", "readRow", "()Z"⟩, 49) := ⟨⟨by decide +kernel, by decide +kernel⟩, List.mem_of_getElem? (i := 1005) (by decide +kernel), List.mem_of_getElem? (i := 1472) (by decide +kernel), List.mem_of_getElem? (i := 1473) (by decide +kernel)⟩
theorem lw_p75 : lw_okq (⟨"ToneHouseModel", "fails", "(I)Z"⟩, 49) := ⟨⟨by decide +kernel, by decide +kernel⟩, List.mem_of_getElem? (i := 1005) (by decide +kernel), List.mem_of_getElem? (i := 1476) (by decide +kernel), List.mem_of_getElem? (i := 1477) (by decide +kernel)⟩
theorem lw_p76 : lw_okq (⟨"ToneHouseModel", "rowNamed", "(I)I"⟩, 49) := ⟨⟨by decide +kernel, by decide +kernel⟩, List.mem_of_getElem? (i := 1005) (by decide +kernel), List.mem_of_getElem? (i := 1480) (by decide +kernel), List.mem_of_getElem? (i := 1481) (by decide +kernel)⟩
theorem lw_p77 : lw_okq (⟨"ToneHouseModel", "isSign", "(I)Z"⟩, 49) := ⟨⟨by decide +kernel, by decide +kernel⟩, List.mem_of_getElem? (i := 1005) (by decide +kernel), List.mem_of_getElem? (i := 1484) (by decide +kernel), List.mem_of_getElem? (i := 1485) (by decide +kernel)⟩
theorem lw_p78 : lw_okq (⟨"ToneHouseModel", "readVoice", "()Z"⟩, 49) := ⟨⟨by decide +kernel, by decide +kernel⟩, List.mem_of_getElem? (i := 1005) (by decide +kernel), List.mem_of_getElem? (i := 1488) (by decide +kernel), List.mem_of_getElem? (i := 1489) (by decide +kernel)⟩
def lw_privs_5 : List (MethodName × Nat) := [(⟨"ToneHouseModel", "isBeat", "(I)Z"⟩, 49), (⟨"ToneHouseModel", "lay", "(I)V"⟩, 49), (⟨"ToneHouseModel", "say", "(I)V"⟩, 49), (⟨"ToneHouseModel", "sayLetter", "(I)V"⟩, 49), (⟨"ToneHouseModel", "sayNumber", "(I)V"⟩, 49), (⟨"ToneHouseModel", "reading", "()Z"⟩, 49), (⟨"ToneHouseModel", "next", "()V"⟩, 49), (⟨"ToneHouseModel", "raw", "(I)I"⟩, 49), (⟨"ToneHouseModel", "isLetter", "(I)Z"⟩, 49), (⟨"ToneHouseModel", "isDigit", "(I)Z"⟩, 49), (⟨"ToneHouseModel", "readRow", "()Z"⟩, 49), (⟨"ToneHouseModel", "fails", "(I)Z"⟩, 49), (⟨"ToneHouseModel", "rowNamed", "(I)I"⟩, 49), (⟨"ToneHouseModel", "isSign", "(I)Z"⟩, 49), (⟨"ToneHouseModel", "readVoice", "()Z"⟩, 49)]
theorem lw_r5 : ∀ q ∈ lw_privs_5, lw_okq q := List.forall_mem_cons.mpr ⟨lw_p64, List.forall_mem_cons.mpr ⟨lw_p65, List.forall_mem_cons.mpr ⟨lw_p66, List.forall_mem_cons.mpr ⟨lw_p67, List.forall_mem_cons.mpr ⟨lw_p68, List.forall_mem_cons.mpr ⟨lw_p69, List.forall_mem_cons.mpr ⟨lw_p70, List.forall_mem_cons.mpr ⟨lw_p71, List.forall_mem_cons.mpr ⟨lw_p72, List.forall_mem_cons.mpr ⟨lw_p73, List.forall_mem_cons.mpr ⟨lw_p74, List.forall_mem_cons.mpr ⟨lw_p75, List.forall_mem_cons.mpr ⟨lw_p76, List.forall_mem_cons.mpr ⟨lw_p77, List.forall_mem_cons.mpr ⟨lw_p78, fun _ h => absurd h List.not_mem_nil⟩⟩⟩⟩⟩⟩⟩⟩⟩⟩⟩⟩⟩⟩⟩
def lw_privs : List (MethodName × Nat) := lw_privs_1 ++ (lw_privs_2 ++ (lw_privs_3 ++ (lw_privs_4 ++ (lw_privs_5))))
def lw_tbl : List Cond := k2_sels lw_privs ++ tables_1
theorem lw_privs_ok : ∀ q ∈ lw_privs, lw_okq q := by
  show ∀ q ∈ lw_privs_1 ++ (lw_privs_2 ++ (lw_privs_3 ++ (lw_privs_4 ++ (lw_privs_5)))), lw_okq q
  exact List.forall_mem_append.mpr ⟨lw_r1, List.forall_mem_append.mpr ⟨lw_r2, List.forall_mem_append.mpr ⟨lw_r3, List.forall_mem_append.mpr ⟨lw_r4, lw_r5⟩⟩⟩⟩

def tt_R0 : String := "ToneHouse"
def tt_T0 : u_T := fun k => match k with
  | 0 => ("ToneHouse", "tones", "LToneHouse$Octave;", true)
  | 1 => ("ToneHouse", "leading", "LToneHouse$Leading;", true)
  | 2 => ("ToneHouse", "roads", "LToneHouse$Roads;", true)
  | 3 => ("ToneHouse", "fullRows", "LToneHouse$FullRows;", true)
  | 4 => ("ToneHouse", "round", "LToneHouse$Round;", true)
  | 5 => ("ToneHouse", "slots", "[J", true)
  | 6 => ("ToneHouse", "reader", "LToneHouse$Reader;", true)
  | 7 => ("ToneHouse", "written", "LToneHouse$ByteRow;", true)
  | _ => ("ToneHouse", "current", "LToneHouse$Score;", false)
def tt_ty0 : Nat → FieldType := fun k => match k with
  | 0 => .object "ToneHouse$Octave"
  | 1 => .object "ToneHouse$Leading"
  | 2 => .object "ToneHouse$Roads"
  | 3 => .object "ToneHouse$FullRows"
  | 4 => .object "ToneHouse$Round"
  | 5 => .array .long
  | 6 => .object "ToneHouse$Reader"
  | 7 => .object "ToneHouse$ByteRow"
  | _ => .object "ToneHouse$Score"
theorem tt_nm0 : ∀ a, a < 9 → ∀ b, b < 9 → a ≠ b → (tt_T0 a).2.1 ≠ (tt_T0 b).2.1 := by decide +kernel
theorem tt_tok0 : ∀ k, k < 9 → parseFieldDescriptor (tt_T0 k).2.2.1 = some (tt_ty0 k) := by decide +kernel
theorem tt_in0 : ∀ w ∈ u_ws tt_R0 tt_T0 9, w ∈ lw_tbl ∧ goodWord w = true := by decide +kernel
def tt_R1 : String := "ToneHouse$Octave"
def tt_T1 : u_T := fun k => match k with
  | 0 => ("ToneHouse$Octave", "n", "I", false)
  | 1 => ("ToneHouse$Octave", "names", "[[I", true)
  | _ => ("ToneHouse$Octave", "named", "[Z", true)
def tt_ty1 : Nat → FieldType := fun k => match k with
  | 0 => .int
  | 1 => .array (.array .int)
  | _ => .array .boolean
theorem tt_nm1 : ∀ a, a < 3 → ∀ b, b < 3 → a ≠ b → (tt_T1 a).2.1 ≠ (tt_T1 b).2.1 := by decide +kernel
theorem tt_tok1 : ∀ k, k < 3 → parseFieldDescriptor (tt_T1 k).2.2.1 = some (tt_ty1 k) := by decide +kernel
theorem tt_in1 : ∀ w ∈ u_ws tt_R1 tt_T1 3, w ∈ lw_tbl ∧ goodWord w = true := by decide +kernel
def tt_R2 : String := "ToneHouse$Leading"
def tt_T2 : u_T := fun k => match k with
  | 0 => ("ToneHouse$Leading", "sums", "[I", true)
  | 1 => ("ToneHouse$Leading", "ways", "[I", true)
  | 2 => ("ToneHouse$Leading", "from", "[I", true)
  | 3 => ("ToneHouse$Leading", "to", "[I", true)
  | 4 => ("ToneHouse$Leading", "n", "I", false)
  | _ => ("ToneHouse$Leading", "pairs", "I", false)
def tt_ty2 : Nat → FieldType := fun k => match k with
  | 0 => .array .int
  | 1 => .array .int
  | 2 => .array .int
  | 3 => .array .int
  | 4 => .int
  | _ => .int
theorem tt_nm2 : ∀ a, a < 6 → ∀ b, b < 6 → a ≠ b → (tt_T2 a).2.1 ≠ (tt_T2 b).2.1 := by decide +kernel
theorem tt_tok2 : ∀ k, k < 6 → parseFieldDescriptor (tt_T2 k).2.2.1 = some (tt_ty2 k) := by decide +kernel
theorem tt_in2 : ∀ w ∈ u_ws tt_R2 tt_T2 6, w ∈ lw_tbl ∧ goodWord w = true := by decide +kernel
def tt_R3 : String := "ToneHouse$Roads"
def tt_T3 : u_T := fun k => match k with
  | 0 => ("ToneHouse$Roads", "moves", "[I", true)
  | 1 => ("ToneHouse$Roads", "queue", "[I", true)
  | _ => ("ToneHouse$Roads", "queued", "I", false)
def tt_ty3 : Nat → FieldType := fun k => match k with
  | 0 => .array .int
  | 1 => .array .int
  | _ => .int
theorem tt_nm3 : ∀ a, a < 3 → ∀ b, b < 3 → a ≠ b → (tt_T3 a).2.1 ≠ (tt_T3 b).2.1 := by decide +kernel
theorem tt_tok3 : ∀ k, k < 3 → parseFieldDescriptor (tt_T3 k).2.2.1 = some (tt_ty3 k) := by decide +kernel
theorem tt_in3 : ∀ w ∈ u_ws tt_R3 tt_T3 3, w ∈ lw_tbl ∧ goodWord w = true := by decide +kernel
def tt_R4 : String := "ToneHouse$FullRows"
def tt_T4 : u_T := fun k => match k with
  | 0 => ("ToneHouse$FullRows", "rows", "[J", true)
  | 1 => ("ToneHouse$FullRows", "starts", "[I", true)
  | 2 => ("ToneHouse$FullRows", "ends", "[I", true)
  | 3 => ("ToneHouse$FullRows", "listed", "[Z", true)
  | _ => ("ToneHouse$FullRows", "used", "I", false)
def tt_ty4 : Nat → FieldType := fun k => match k with
  | 0 => .array .long
  | 1 => .array .int
  | 2 => .array .int
  | 3 => .array .boolean
  | _ => .int
theorem tt_nm4 : ∀ a, a < 5 → ∀ b, b < 5 → a ≠ b → (tt_T4 a).2.1 ≠ (tt_T4 b).2.1 := by decide +kernel
theorem tt_tok4 : ∀ k, k < 5 → parseFieldDescriptor (tt_T4 k).2.2.1 = some (tt_ty4 k) := by decide +kernel
theorem tt_in4 : ∀ w ∈ u_ws tt_R4 tt_T4 5, w ∈ lw_tbl ∧ goodWord w = true := by decide +kernel
def tt_R5 : String := "ToneHouse$Round"
def tt_T5 : u_T := fun k => match k with
  | 0 => ("ToneHouse$Round", "found", "[I", true)
  | 1 => ("ToneHouse$Round", "count", "I", false)
  | 2 => ("ToneHouse$Round", "sorted", "Z", false)
  | 3 => ("ToneHouse$Round", "beats", "I", false)
  | _ => ("ToneHouse$Round", "shape", "I", false)
def tt_ty5 : Nat → FieldType := fun k => match k with
  | 0 => .array .int
  | 1 => .int
  | 2 => .boolean
  | 3 => .int
  | _ => .int
theorem tt_nm5 : ∀ a, a < 5 → ∀ b, b < 5 → a ≠ b → (tt_T5 a).2.1 ≠ (tt_T5 b).2.1 := by decide +kernel
theorem tt_tok5 : ∀ k, k < 5 → parseFieldDescriptor (tt_T5 k).2.2.1 = some (tt_ty5 k) := by decide +kernel
theorem tt_in5 : ∀ w ∈ u_ws tt_R5 tt_T5 5, w ∈ lw_tbl ∧ goodWord w = true := by decide +kernel
def tt_R6 : String := "ToneHouse$Reader"
def tt_T6 : u_T := fun k => match k with
  | 0 => ("ToneHouse$Reader", "text", "LToneHouse$ByteRow;", true)
  | 1 => ("ToneHouse$Reader", "made", "LToneHouse$Score;", false)
  | 2 => ("ToneHouse$Reader", "n", "I", false)
  | 3 => ("ToneHouse$Reader", "token", "LToneHouse$Token;", false)
  | 4 => ("ToneHouse$Reader", "value", "I", false)
  | 5 => ("ToneHouse$Reader", "place", "I", false)
  | 6 => ("ToneHouse$Reader", "next", "I", false)
  | 7 => ("ToneHouse$Reader", "fault", "I", false)
  | _ => ("ToneHouse$Reader", "faultAt", "I", false)
def tt_ty6 : Nat → FieldType := fun k => match k with
  | 0 => .object "ToneHouse$ByteRow"
  | 1 => .object "ToneHouse$Score"
  | 2 => .int
  | 3 => .object "ToneHouse$Token"
  | 4 => .int
  | 5 => .int
  | 6 => .int
  | 7 => .int
  | _ => .int
theorem tt_nm6 : ∀ a, a < 9 → ∀ b, b < 9 → a ≠ b → (tt_T6 a).2.1 ≠ (tt_T6 b).2.1 := by decide +kernel
theorem tt_tok6 : ∀ k, k < 9 → parseFieldDescriptor (tt_T6 k).2.2.1 = some (tt_ty6 k) := by decide +kernel
theorem tt_in6 : ∀ w ∈ u_ws tt_R6 tt_T6 9, w ∈ lw_tbl ∧ goodWord w = true := by decide +kernel
def tt_R7 : String := "ToneHouse$ByteRow"
def tt_T7 : u_T := fun k => match k with
  | 0 => ("ToneHouse$ByteRow", "bytes", "[I", true)
  | _ => ("ToneHouse$ByteRow", "length", "I", false)
def tt_ty7 : Nat → FieldType := fun k => match k with
  | 0 => .array .int
  | _ => .int
theorem tt_nm7 : ∀ a, a < 2 → ∀ b, b < 2 → a ≠ b → (tt_T7 a).2.1 ≠ (tt_T7 b).2.1 := by decide +kernel
theorem tt_tok7 : ∀ k, k < 2 → parseFieldDescriptor (tt_T7 k).2.2.1 = some (tt_ty7 k) := by decide +kernel
theorem tt_in7 : ∀ w ∈ u_ws tt_R7 tt_T7 2, w ∈ lw_tbl ∧ goodWord w = true := by decide +kernel
def tt_R8 : String := "ToneHouse$Score"
def tt_T8 : u_T := fun k => match k with
  | 0 => ("ToneHouse$Score", "rows", "[J", true)
  | 1 => ("ToneHouse$Score", "letters", "[I", true)
  | 2 => ("ToneHouse$Score", "rowCount", "I", false)
  | 3 => ("ToneHouse$Score", "rowOf", "[I", true)
  | 4 => ("ToneHouse$Score", "kindOf", "[I", true)
  | 5 => ("ToneHouse$Score", "turnOf", "[I", true)
  | 6 => ("ToneHouse$Score", "beginOf", "[I", true)
  | _ => ("ToneHouse$Score", "voiceCount", "I", false)
def tt_ty8 : Nat → FieldType := fun k => match k with
  | 0 => .array .long
  | 1 => .array .int
  | 2 => .int
  | 3 => .array .int
  | 4 => .array .int
  | 5 => .array .int
  | 6 => .array .int
  | _ => .int
theorem tt_nm8 : ∀ a, a < 8 → ∀ b, b < 8 → a ≠ b → (tt_T8 a).2.1 ≠ (tt_T8 b).2.1 := by decide +kernel
theorem tt_tok8 : ∀ k, k < 8 → parseFieldDescriptor (tt_T8 k).2.2.1 = some (tt_ty8 k) := by decide +kernel
theorem tt_in8 : ∀ w ∈ u_ws tt_R8 tt_T8 8, w ∈ lw_tbl ∧ goodWord w = true := by decide +kernel
def tt_R9 : String := "ToneHouseModel"
def tt_T9 : u_T := fun k => match k with
  | 0 => ("ToneHouseModel", "told", "I", false)
  | 1 => ("ToneHouseModel", "n", "I", false)
  | 2 => ("ToneHouseModel", "met", "[Z", true)
  | 3 => ("ToneHouseModel", "note", "[I", true)
  | 4 => ("ToneHouseModel", "other", "[I", true)
  | 5 => ("ToneHouseModel", "least", "[I", true)
  | 6 => ("ToneHouseModel", "ways", "[I", true)
  | 7 => ("ToneHouseModel", "far", "[I", true)
  | 8 => ("ToneHouseModel", "queue", "[I", true)
  | 9 => ("ToneHouseModel", "isThere", "[Z", true)
  | 10 => ("ToneHouseModel", "slot", "[I", true)
  | 11 => ("ToneHouseModel", "fullFor", "I", false)
  | 12 => ("ToneHouseModel", "fulls", "I", false)
  | 13 => ("ToneHouseModel", "fullRow", "[J", true)
  | 14 => ("ToneHouseModel", "walk", "[I", true)
  | 15 => ("ToneHouseModel", "roundOf", "I", false)
  | 16 => ("ToneHouseModel", "motifOf", "I", false)
  | 17 => ("ToneHouseModel", "entries", "I", false)
  | 18 => ("ToneHouseModel", "entry", "[I", true)
  | 19 => ("ToneHouseModel", "beatAt", "[I", true)
  | 20 => ("ToneHouseModel", "choice", "[I", true)
  | 21 => ("ToneHouseModel", "covered", "[I", true)
  | 22 => ("ToneHouseModel", "chosen", "[I", true)
  | 23 => ("ToneHouseModel", "rowMany", "I", false)
  | 24 => ("ToneHouseModel", "rowName", "[I", true)
  | 25 => ("ToneHouseModel", "scoreRow", "[I", true)
  | 26 => ("ToneHouseModel", "voices", "I", false)
  | 27 => ("ToneHouseModel", "voiceRow", "[I", true)
  | 28 => ("ToneHouseModel", "voiceKind", "[I", true)
  | 29 => ("ToneHouseModel", "voiceBy", "[I", true)
  | 30 => ("ToneHouseModel", "voiceBeat", "[I", true)
  | 31 => ("ToneHouseModel", "tape", "[I", true)
  | 32 => ("ToneHouseModel", "taped", "I", false)
  | 33 => ("ToneHouseModel", "out", "[I", true)
  | 34 => ("ToneHouseModel", "outs", "I", false)
  | 35 => ("ToneHouseModel", "reads", "I", false)
  | 36 => ("ToneHouseModel", "from", "I", false)
  | 37 => ("ToneHouseModel", "token", "I", false)
  | 38 => ("ToneHouseModel", "worth", "I", false)
  | 39 => ("ToneHouseModel", "faultKind", "I", false)
  | 40 => ("ToneHouseModel", "faultPlace", "I", false)
  | 41 => ("ToneHouseModel", "newRows", "I", false)
  | 42 => ("ToneHouseModel", "newVoices", "I", false)
  | 43 => ("ToneHouseModel", "newName", "[I", true)
  | 44 => ("ToneHouseModel", "newRow", "[I", true)
  | 45 => ("ToneHouseModel", "newOf", "[I", true)
  | 46 => ("ToneHouseModel", "newKind", "[I", true)
  | 47 => ("ToneHouseModel", "newBy", "[I", true)
  | _ => ("ToneHouseModel", "newBeat", "[I", true)
def tt_ty9 : Nat → FieldType := fun k => match k with
  | 0 => .int
  | 1 => .int
  | 2 => .array .boolean
  | 3 => .array .int
  | 4 => .array .int
  | 5 => .array .int
  | 6 => .array .int
  | 7 => .array .int
  | 8 => .array .int
  | 9 => .array .boolean
  | 10 => .array .int
  | 11 => .int
  | 12 => .int
  | 13 => .array .long
  | 14 => .array .int
  | 15 => .int
  | 16 => .int
  | 17 => .int
  | 18 => .array .int
  | 19 => .array .int
  | 20 => .array .int
  | 21 => .array .int
  | 22 => .array .int
  | 23 => .int
  | 24 => .array .int
  | 25 => .array .int
  | 26 => .int
  | 27 => .array .int
  | 28 => .array .int
  | 29 => .array .int
  | 30 => .array .int
  | 31 => .array .int
  | 32 => .int
  | 33 => .array .int
  | 34 => .int
  | 35 => .int
  | 36 => .int
  | 37 => .int
  | 38 => .int
  | 39 => .int
  | 40 => .int
  | 41 => .int
  | 42 => .int
  | 43 => .array .int
  | 44 => .array .int
  | 45 => .array .int
  | 46 => .array .int
  | 47 => .array .int
  | _ => .array .int
theorem tt_nm9 : ∀ a, a < 49 → ∀ b, b < 49 → a ≠ b → (tt_T9 a).2.1 ≠ (tt_T9 b).2.1 := by decide +kernel
theorem tt_tok9 : ∀ k, k < 49 → parseFieldDescriptor (tt_T9 k).2.2.1 = some (tt_ty9 k) := by decide +kernel
theorem tt_in9 : ∀ w ∈ u_ws tt_R9 tt_T9 49, w ∈ lw_tbl ∧ goodWord w = true := by decide +kernel
abbrev tt_cl : List vw_C := [(tt_R0, tt_T0, 9), (tt_R1, tt_T1, 3), (tt_R2, tt_T2, 6), (tt_R3, tt_T3, 3), (tt_R4, tt_T4, 5), (tt_R5, tt_T5, 5), (tt_R6, tt_T6, 9), (tt_R7, tt_T7, 2), (tt_R8, tt_T8, 8), (tt_R9, tt_T9, 49)]
