section
-- ===== PART A: goes FIRST, ahead of the names: the tables' words, and 'selects' of the private methods out of them =====
/-- a private method of a class that the tables say can be made, by its rows of tables_1 -/
def lw_okq (q : MethodName × Nat) : Prop := (q.1.cls ≠ "java/lang/invoke/MethodHandle" ∧ q.1.cls ≠ "java/lang/invoke/VarHandle") ∧ Cond.instantiable q.1.cls q.2 ∈ tables_1 ∧ Cond.privateMethod q.1 ∈ tables_1 ∧ Cond.instanceMethod q.1 ∈ tables_1
theorem lw_p0 : lw_okq (⟨"ToneHouse$Octave", "isCoprime", "(I)Z"⟩, 3) := ⟨⟨by decide +kernel, by decide +kernel⟩, List.mem_of_getElem? (i := 31) (by decide +kernel), List.mem_of_getElem? (i := 281) (by decide +kernel), List.mem_of_getElem? (i := 282) (by decide +kernel)⟩
theorem lw_p1 : lw_okq (⟨"ToneHouse$Octave", "nameAll", "(I)V"⟩, 3) := ⟨⟨by decide +kernel, by decide +kernel⟩, List.mem_of_getElem? (i := 31) (by decide +kernel), List.mem_of_getElem? (i := 307) (by decide +kernel), List.mem_of_getElem? (i := 308) (by decide +kernel)⟩
theorem lw_p2 : lw_okq (⟨"ToneHouse$Octave", "nameClass", "(II)V"⟩, 3) := ⟨⟨by decide +kernel, by decide +kernel⟩, List.mem_of_getElem? (i := 31) (by decide +kernel), List.mem_of_getElem? (i := 314) (by decide +kernel), List.mem_of_getElem? (i := 315) (by decide +kernel)⟩
theorem lw_p3 : lw_okq (⟨"ToneHouse$Octave", "isNameOfSize", "(III)Z"⟩, 3) := ⟨⟨by decide +kernel, by decide +kernel⟩, List.mem_of_getElem? (i := 31) (by decide +kernel), List.mem_of_getElem? (i := 346) (by decide +kernel), List.mem_of_getElem? (i := 347) (by decide +kernel)⟩
theorem lw_p4 : lw_okq (⟨"ToneHouse$Octave", "haveSameIntervals", "(II)Z"⟩, 3) := ⟨⟨by decide +kernel, by decide +kernel⟩, List.mem_of_getElem? (i := 31) (by decide +kernel), List.mem_of_getElem? (i := 380) (by decide +kernel), List.mem_of_getElem? (i := 381) (by decide +kernel)⟩
theorem lw_p5 : lw_okq (⟨"ToneHouse$Leading", "list", "(I[I)V"⟩, 6) := ⟨⟨by decide +kernel, by decide +kernel⟩, List.mem_of_getElem? (i := 51) (by decide +kernel), List.mem_of_getElem? (i := 404) (by decide +kernel), List.mem_of_getElem? (i := 405) (by decide +kernel)⟩
theorem lw_p6 : lw_okq (⟨"ToneHouse$Leading", "weigh", "(I)V"⟩, 6) := ⟨⟨by decide +kernel, by decide +kernel⟩, List.mem_of_getElem? (i := 51) (by decide +kernel), List.mem_of_getElem? (i := 418) (by decide +kernel), List.mem_of_getElem? (i := 419) (by decide +kernel)⟩
theorem lw_p7 : lw_okq (⟨"ToneHouse$Leading", "sumBy", "(III)I"⟩, 6) := ⟨⟨by decide +kernel, by decide +kernel⟩, List.mem_of_getElem? (i := 51) (by decide +kernel), List.mem_of_getElem? (i := 423) (by decide +kernel), List.mem_of_getElem? (i := 424) (by decide +kernel)⟩
theorem lw_p8 : lw_okq (⟨"ToneHouse$Leading", "firstBest", "(II)I"⟩, 6) := ⟨⟨by decide +kernel, by decide +kernel⟩, List.mem_of_getElem? (i := 51) (by decide +kernel), List.mem_of_getElem? (i := 445) (by decide +kernel), List.mem_of_getElem? (i := 446) (by decide +kernel)⟩
theorem lw_p9 : lw_okq (⟨"ToneHouse$Roads", "startFromImages", "(LToneHouse$Octave;I)V"⟩, 3) := ⟨⟨by decide +kernel, by decide +kernel⟩, List.mem_of_getElem? (i := 76) (by decide +kernel), List.mem_of_getElem? (i := 458) (by decide +kernel), List.mem_of_getElem? (i := 459) (by decide +kernel)⟩
theorem lw_p10 : lw_okq (⟨"ToneHouse$Roads", "reach", "(II)V"⟩, 3) := ⟨⟨by decide +kernel, by decide +kernel⟩, List.mem_of_getElem? (i := 76) (by decide +kernel), List.mem_of_getElem? (i := 465) (by decide +kernel), List.mem_of_getElem? (i := 466) (by decide +kernel)⟩
theorem lw_p11 : lw_okq (⟨"ToneHouse$Roads", "moveOn", "(II)V"⟩, 3) := ⟨⟨by decide +kernel, by decide +kernel⟩, List.mem_of_getElem? (i := 76) (by decide +kernel), List.mem_of_getElem? (i := 469) (by decide +kernel), List.mem_of_getElem? (i := 470) (by decide +kernel)⟩
theorem lw_p12 : lw_okq (⟨"ToneHouse", "hasRow", "(I)Z"⟩, 9) := ⟨⟨by decide +kernel, by decide +kernel⟩, List.mem_of_getElem? (i := 23) (by decide +kernel), List.mem_of_getElem? (i := 494) (by decide +kernel), List.mem_of_getElem? (i := 495) (by decide +kernel)⟩
theorem lw_p13 : lw_okq (⟨"ToneHouse$FullRows", "list", "(I)V"⟩, 5) := ⟨⟨by decide +kernel, by decide +kernel⟩, List.mem_of_getElem? (i := 92) (by decide +kernel), List.mem_of_getElem? (i := 536) (by decide +kernel), List.mem_of_getElem? (i := 537) (by decide +kernel)⟩
theorem lw_p14 : lw_okq (⟨"ToneHouse$FullRows", "lengthen", "(IIIIIJ)V"⟩, 5) := ⟨⟨by decide +kernel, by decide +kernel⟩, List.mem_of_getElem? (i := 92) (by decide +kernel), List.mem_of_getElem? (i := 540) (by decide +kernel), List.mem_of_getElem? (i := 541) (by decide +kernel)⟩
theorem lw_p15 : lw_okq (⟨"ToneHouse$FullRows", "add", "(J)V"⟩, 5) := ⟨⟨by decide +kernel, by decide +kernel⟩, List.mem_of_getElem? (i := 92) (by decide +kernel), List.mem_of_getElem? (i := 544) (by decide +kernel), List.mem_of_getElem? (i := 545) (by decide +kernel)⟩
def lw_privs_1 : List (MethodName × Nat) := [(⟨"ToneHouse$Octave", "isCoprime", "(I)Z"⟩, 3), (⟨"ToneHouse$Octave", "nameAll", "(I)V"⟩, 3), (⟨"ToneHouse$Octave", "nameClass", "(II)V"⟩, 3), (⟨"ToneHouse$Octave", "isNameOfSize", "(III)Z"⟩, 3), (⟨"ToneHouse$Octave", "haveSameIntervals", "(II)Z"⟩, 3), (⟨"ToneHouse$Leading", "list", "(I[I)V"⟩, 6), (⟨"ToneHouse$Leading", "weigh", "(I)V"⟩, 6), (⟨"ToneHouse$Leading", "sumBy", "(III)I"⟩, 6), (⟨"ToneHouse$Leading", "firstBest", "(II)I"⟩, 6), (⟨"ToneHouse$Roads", "startFromImages", "(LToneHouse$Octave;I)V"⟩, 3), (⟨"ToneHouse$Roads", "reach", "(II)V"⟩, 3), (⟨"ToneHouse$Roads", "moveOn", "(II)V"⟩, 3), (⟨"ToneHouse", "hasRow", "(I)Z"⟩, 9), (⟨"ToneHouse$FullRows", "list", "(I)V"⟩, 5), (⟨"ToneHouse$FullRows", "lengthen", "(IIIIIJ)V"⟩, 5), (⟨"ToneHouse$FullRows", "add", "(J)V"⟩, 5)]
theorem lw_r1 : ∀ q ∈ lw_privs_1, lw_okq q := List.forall_mem_cons.mpr ⟨lw_p0, List.forall_mem_cons.mpr ⟨lw_p1, List.forall_mem_cons.mpr ⟨lw_p2, List.forall_mem_cons.mpr ⟨lw_p3, List.forall_mem_cons.mpr ⟨lw_p4, List.forall_mem_cons.mpr ⟨lw_p5, List.forall_mem_cons.mpr ⟨lw_p6, List.forall_mem_cons.mpr ⟨lw_p7, List.forall_mem_cons.mpr ⟨lw_p8, List.forall_mem_cons.mpr ⟨lw_p9, List.forall_mem_cons.mpr ⟨lw_p10, List.forall_mem_cons.mpr ⟨lw_p11, List.forall_mem_cons.mpr ⟨lw_p12, List.forall_mem_cons.mpr ⟨lw_p13, List.forall_mem_cons.mpr ⟨lw_p14, List.forall_mem_cons.mpr ⟨lw_p15, fun _ h => absurd h List.not_mem_nil⟩⟩⟩⟩⟩⟩⟩⟩⟩⟩⟩⟩⟩⟩⟩⟩
theorem lw_p16 : lw_okq (⟨"ToneHouse$Round", "cover", "(III)V"⟩, 5) := ⟨⟨by decide +kernel, by decide +kernel⟩, List.mem_of_getElem? (i := 115) (by decide +kernel), List.mem_of_getElem? (i := 580) (by decide +kernel), List.mem_of_getElem? (i := 581) (by decide +kernel)⟩
theorem lw_p17 : lw_okq (⟨"ToneHouse$Round", "add", "(I)V"⟩, 5) := ⟨⟨by decide +kernel, by decide +kernel⟩, List.mem_of_getElem? (i := 115) (by decide +kernel), List.mem_of_getElem? (i := 584) (by decide +kernel), List.mem_of_getElem? (i := 585) (by decide +kernel)⟩
theorem lw_p18 : lw_okq (⟨"ToneHouse$Round", "sort", "()V"⟩, 5) := ⟨⟨by decide +kernel, by decide +kernel⟩, List.mem_of_getElem? (i := 115) (by decide +kernel), List.mem_of_getElem? (i := 601) (by decide +kernel), List.mem_of_getElem? (i := 602) (by decide +kernel)⟩
theorem lw_p19 : lw_okq (⟨"ToneHouse$Round", "sink", "(II)V"⟩, 5) := ⟨⟨by decide +kernel, by decide +kernel⟩, List.mem_of_getElem? (i := 115) (by decide +kernel), List.mem_of_getElem? (i := 605) (by decide +kernel), List.mem_of_getElem? (i := 606) (by decide +kernel)⟩
theorem lw_p20 : lw_okq (⟨"ToneHouse$Reader", "advance", "()V"⟩, 9) := ⟨⟨by decide +kernel, by decide +kernel⟩, List.mem_of_getElem? (i := 137) (by decide +kernel), List.mem_of_getElem? (i := 663) (by decide +kernel), List.mem_of_getElem? (i := 664) (by decide +kernel)⟩
theorem lw_p21 : lw_okq (⟨"ToneHouse$Reader", "readWord", "(I)LToneHouse$Token;"⟩, 9) := ⟨⟨by decide +kernel, by decide +kernel⟩, List.mem_of_getElem? (i := 137) (by decide +kernel), List.mem_of_getElem? (i := 677) (by decide +kernel), List.mem_of_getElem? (i := 678) (by decide +kernel)⟩
theorem lw_p22 : lw_okq (⟨"ToneHouse$Reader", "readNumber", "()LToneHouse$Token;"⟩, 9) := ⟨⟨by decide +kernel, by decide +kernel⟩, List.mem_of_getElem? (i := 137) (by decide +kernel), List.mem_of_getElem? (i := 749) (by decide +kernel), List.mem_of_getElem? (i := 750) (by decide +kernel)⟩
theorem lw_p23 : lw_okq (⟨"ToneHouse$Reader", "readRow", "()Z"⟩, 9) := ⟨⟨by decide +kernel, by decide +kernel⟩, List.mem_of_getElem? (i := 137) (by decide +kernel), List.mem_of_getElem? (i := 759) (by decide +kernel), List.mem_of_getElem? (i := 760) (by decide +kernel)⟩
theorem lw_p24 : lw_okq (⟨"ToneHouse$Reader", "holds", "(ZI)Z"⟩, 9) := ⟨⟨by decide +kernel, by decide +kernel⟩, List.mem_of_getElem? (i := 137) (by decide +kernel), List.mem_of_getElem? (i := 767) (by decide +kernel), List.mem_of_getElem? (i := 768) (by decide +kernel)⟩
theorem lw_p25 : lw_okq (⟨"ToneHouse$Reader", "passes", "(LToneHouse$Token;)Z"⟩, 9) := ⟨⟨by decide +kernel, by decide +kernel⟩, List.mem_of_getElem? (i := 137) (by decide +kernel), List.mem_of_getElem? (i := 775) (by decide +kernel), List.mem_of_getElem? (i := 776) (by decide +kernel)⟩
theorem lw_p26 : lw_okq (⟨"ToneHouse$Reader", "readNotes", "()J"⟩, 9) := ⟨⟨by decide +kernel, by decide +kernel⟩, List.mem_of_getElem? (i := 137) (by decide +kernel), List.mem_of_getElem? (i := 779) (by decide +kernel), List.mem_of_getElem? (i := 780) (by decide +kernel)⟩
theorem lw_p27 : lw_okq (⟨"ToneHouse$Reader", "readVoice", "()Z"⟩, 9) := ⟨⟨by decide +kernel, by decide +kernel⟩, List.mem_of_getElem? (i := 137) (by decide +kernel), List.mem_of_getElem? (i := 788) (by decide +kernel), List.mem_of_getElem? (i := 789) (by decide +kernel)⟩
theorem lw_p28 : lw_okq (⟨"ToneHouse$Reader", "passesNumber", "(I)Z"⟩, 9) := ⟨⟨by decide +kernel, by decide +kernel⟩, List.mem_of_getElem? (i := 137) (by decide +kernel), List.mem_of_getElem? (i := 854) (by decide +kernel), List.mem_of_getElem? (i := 855) (by decide +kernel)⟩
theorem lw_p29 : lw_okq (⟨"ToneHouse$Score", "writeRow", "(LToneHouse$ByteRow;II)V"⟩, 8) := ⟨⟨by decide +kernel, by decide +kernel⟩, List.mem_of_getElem? (i := 156) (by decide +kernel), List.mem_of_getElem? (i := 964) (by decide +kernel), List.mem_of_getElem? (i := 965) (by decide +kernel)⟩
theorem lw_p30 : lw_okq (⟨"ToneHouse$Score", "writeVoice", "(LToneHouse$ByteRow;I)V"⟩, 8) := ⟨⟨by decide +kernel, by decide +kernel⟩, List.mem_of_getElem? (i := 156) (by decide +kernel), List.mem_of_getElem? (i := 980) (by decide +kernel), List.mem_of_getElem? (i := 981) (by decide +kernel)⟩
theorem lw_p31 : lw_okq (⟨"ToneHouseModel", "isSet", "(I)Z"⟩, 49) := ⟨⟨by decide +kernel, by decide +kernel⟩, List.mem_of_getElem? (i := 1005) (by decide +kernel), List.mem_of_getElem? (i := 1167) (by decide +kernel), List.mem_of_getElem? (i := 1168) (by decide +kernel)⟩
def lw_privs_2 : List (MethodName × Nat) := [(⟨"ToneHouse$Round", "cover", "(III)V"⟩, 5), (⟨"ToneHouse$Round", "add", "(I)V"⟩, 5), (⟨"ToneHouse$Round", "sort", "()V"⟩, 5), (⟨"ToneHouse$Round", "sink", "(II)V"⟩, 5), (⟨"ToneHouse$Reader", "advance", "()V"⟩, 9), (⟨"ToneHouse$Reader", "readWord", "(I)LToneHouse$Token;"⟩, 9), (⟨"ToneHouse$Reader", "readNumber", "()LToneHouse$Token;"⟩, 9), (⟨"ToneHouse$Reader", "readRow", "()Z"⟩, 9), (⟨"ToneHouse$Reader", "holds", "(ZI)Z"⟩, 9), (⟨"ToneHouse$Reader", "passes", "(LToneHouse$Token;)Z"⟩, 9), (⟨"ToneHouse$Reader", "readNotes", "()J"⟩, 9), (⟨"ToneHouse$Reader", "readVoice", "()Z"⟩, 9), (⟨"ToneHouse$Reader", "passesNumber", "(I)Z"⟩, 9), (⟨"ToneHouse$Score", "writeRow", "(LToneHouse$ByteRow;II)V"⟩, 8), (⟨"ToneHouse$Score", "writeVoice", "(LToneHouse$ByteRow;I)V"⟩, 8), (⟨"ToneHouseModel", "isSet", "(I)Z"⟩, 49)]
theorem lw_r2 : ∀ q ∈ lw_privs_2, lw_okq q := List.forall_mem_cons.mpr ⟨lw_p16, List.forall_mem_cons.mpr ⟨lw_p17, List.forall_mem_cons.mpr ⟨lw_p18, List.forall_mem_cons.mpr ⟨lw_p19, List.forall_mem_cons.mpr ⟨lw_p20, List.forall_mem_cons.mpr ⟨lw_p21, List.forall_mem_cons.mpr ⟨lw_p22, List.forall_mem_cons.mpr ⟨lw_p23, List.forall_mem_cons.mpr ⟨lw_p24, List.forall_mem_cons.mpr ⟨lw_p25, List.forall_mem_cons.mpr ⟨lw_p26, List.forall_mem_cons.mpr ⟨lw_p27, List.forall_mem_cons.mpr ⟨lw_p28, List.forall_mem_cons.mpr ⟨lw_p29, List.forall_mem_cons.mpr ⟨lw_p30, List.forall_mem_cons.mpr ⟨lw_p31, fun _ h => absurd h List.not_mem_nil⟩⟩⟩⟩⟩⟩⟩⟩⟩⟩⟩⟩⟩⟩⟩⟩
theorem lw_p32 : lw_okq (⟨"ToneHouseModel", "isOf", "(II)Z"⟩, 49) := ⟨⟨by decide +kernel, by decide +kernel⟩, List.mem_of_getElem? (i := 1005) (by decide +kernel), List.mem_of_getElem? (i := 1171) (by decide +kernel), List.mem_of_getElem? (i := 1172) (by decide +kernel)⟩
theorem lw_p33 : lw_okq (⟨"ToneHouseModel", "common", "(II)I"⟩, 49) := ⟨⟨by decide +kernel, by decide +kernel⟩, List.mem_of_getElem? (i := 1005) (by decide +kernel), List.mem_of_getElem? (i := 1175) (by decide +kernel), List.mem_of_getElem? (i := 1176) (by decide +kernel)⟩
theorem lw_p34 : lw_okq (⟨"ToneHouseModel", "imageOf", "(III)I"⟩, 49) := ⟨⟨by decide +kernel, by decide +kernel⟩, List.mem_of_getElem? (i := 1005) (by decide +kernel), List.mem_of_getElem? (i := 1179) (by decide +kernel), List.mem_of_getElem? (i := 1180) (by decide +kernel)⟩
theorem lw_p35 : lw_okq (⟨"ToneHouseModel", "has", "(II)Z"⟩, 49) := ⟨⟨by decide +kernel, by decide +kernel⟩, List.mem_of_getElem? (i := 1005) (by decide +kernel), List.mem_of_getElem? (i := 1183) (by decide +kernel), List.mem_of_getElem? (i := 1184) (by decide +kernel)⟩
theorem lw_p36 : lw_okq (⟨"ToneHouseModel", "isGroup", "(I)Z"⟩, 49) := ⟨⟨by decide +kernel, by decide +kernel⟩, List.mem_of_getElem? (i := 1005) (by decide +kernel), List.mem_of_getElem? (i := 1191) (by decide +kernel), List.mem_of_getElem? (i := 1192) (by decide +kernel)⟩
theorem lw_p37 : lw_okq (⟨"ToneHouseModel", "nameIn", "(II)I"⟩, 49) := ⟨⟨by decide +kernel, by decide +kernel⟩, List.mem_of_getElem? (i := 1005) (by decide +kernel), List.mem_of_getElem? (i := 1195) (by decide +kernel), List.mem_of_getElem? (i := 1196) (by decide +kernel)⟩
theorem lw_p38 : lw_okq (⟨"ToneHouseModel", "images", "(III)I"⟩, 49) := ⟨⟨by decide +kernel, by decide +kernel⟩, List.mem_of_getElem? (i := 1005) (by decide +kernel), List.mem_of_getElem? (i := 1203) (by decide +kernel), List.mem_of_getElem? (i := 1204) (by decide +kernel)⟩
theorem lw_p39 : lw_okq (⟨"ToneHouseModel", "isMany", "(II)Z"⟩, 49) := ⟨⟨by decide +kernel, by decide +kernel⟩, List.mem_of_getElem? (i := 1005) (by decide +kernel), List.mem_of_getElem? (i := 1211) (by decide +kernel), List.mem_of_getElem? (i := 1212) (by decide +kernel)⟩
theorem lw_p40 : lw_okq (⟨"ToneHouseModel", "ones", "(I)I"⟩, 49) := ⟨⟨by decide +kernel, by decide +kernel⟩, List.mem_of_getElem? (i := 1005) (by decide +kernel), List.mem_of_getElem? (i := 1215) (by decide +kernel), List.mem_of_getElem? (i := 1216) (by decide +kernel)⟩
theorem lw_p41 : lw_okq (⟨"ToneHouseModel", "pairs", "(II)I"⟩, 49) := ⟨⟨by decide +kernel, by decide +kernel⟩, List.mem_of_getElem? (i := 1005) (by decide +kernel), List.mem_of_getElem? (i := 1227) (by decide +kernel), List.mem_of_getElem? (i := 1228) (by decide +kernel)⟩
theorem lw_p42 : lw_okq (⟨"ToneHouseModel", "apart", "(II)I"⟩, 49) := ⟨⟨by decide +kernel, by decide +kernel⟩, List.mem_of_getElem? (i := 1005) (by decide +kernel), List.mem_of_getElem? (i := 1231) (by decide +kernel), List.mem_of_getElem? (i := 1232) (by decide +kernel)⟩
theorem lw_p43 : lw_okq (⟨"ToneHouseModel", "pair", "(II)I"⟩, 49) := ⟨⟨by decide +kernel, by decide +kernel⟩, List.mem_of_getElem? (i := 1005) (by decide +kernel), List.mem_of_getElem? (i := 1247) (by decide +kernel), List.mem_of_getElem? (i := 1248) (by decide +kernel)⟩
theorem lw_p44 : lw_okq (⟨"ToneHouseModel", "steps", "(II)I"⟩, 49) := ⟨⟨by decide +kernel, by decide +kernel⟩, List.mem_of_getElem? (i := 1005) (by decide +kernel), List.mem_of_getElem? (i := 1251) (by decide +kernel), List.mem_of_getElem? (i := 1252) (by decide +kernel)⟩
theorem lw_p45 : lw_okq (⟨"ToneHouseModel", "isSlot", "(I)Z"⟩, 49) := ⟨⟨by decide +kernel, by decide +kernel⟩, List.mem_of_getElem? (i := 1005) (by decide +kernel), List.mem_of_getElem? (i := 1263) (by decide +kernel), List.mem_of_getElem? (i := 1264) (by decide +kernel)⟩
theorem lw_p46 : lw_okq (⟨"ToneHouseModel", "hasRow", "(I)Z"⟩, 49) := ⟨⟨by decide +kernel, by decide +kernel⟩, List.mem_of_getElem? (i := 1005) (by decide +kernel), List.mem_of_getElem? (i := 1272) (by decide +kernel), List.mem_of_getElem? (i := 1273) (by decide +kernel)⟩
theorem lw_p47 : lw_okq (⟨"ToneHouseModel", "isKind", "(I)Z"⟩, 49) := ⟨⟨by decide +kernel, by decide +kernel⟩, List.mem_of_getElem? (i := 1005) (by decide +kernel), List.mem_of_getElem? (i := 1276) (by decide +kernel), List.mem_of_getElem? (i := 1277) (by decide +kernel)⟩
def lw_privs_3 : List (MethodName × Nat) := [(⟨"ToneHouseModel", "isOf", "(II)Z"⟩, 49), (⟨"ToneHouseModel", "common", "(II)I"⟩, 49), (⟨"ToneHouseModel", "imageOf", "(III)I"⟩, 49), (⟨"ToneHouseModel", "has", "(II)Z"⟩, 49), (⟨"ToneHouseModel", "isGroup", "(I)Z"⟩, 49), (⟨"ToneHouseModel", "nameIn", "(II)I"⟩, 49), (⟨"ToneHouseModel", "images", "(III)I"⟩, 49), (⟨"ToneHouseModel", "isMany", "(II)Z"⟩, 49), (⟨"ToneHouseModel", "ones", "(I)I"⟩, 49), (⟨"ToneHouseModel", "pairs", "(II)I"⟩, 49), (⟨"ToneHouseModel", "apart", "(II)I"⟩, 49), (⟨"ToneHouseModel", "pair", "(II)I"⟩, 49), (⟨"ToneHouseModel", "steps", "(II)I"⟩, 49), (⟨"ToneHouseModel", "isSlot", "(I)Z"⟩, 49), (⟨"ToneHouseModel", "hasRow", "(I)Z"⟩, 49), (⟨"ToneHouseModel", "isKind", "(I)Z"⟩, 49)]
theorem lw_r3 : ∀ q ∈ lw_privs_3, lw_okq q := List.forall_mem_cons.mpr ⟨lw_p32, List.forall_mem_cons.mpr ⟨lw_p33, List.forall_mem_cons.mpr ⟨lw_p34, List.forall_mem_cons.mpr ⟨lw_p35, List.forall_mem_cons.mpr ⟨lw_p36, List.forall_mem_cons.mpr ⟨lw_p37, List.forall_mem_cons.mpr ⟨lw_p38, List.forall_mem_cons.mpr ⟨lw_p39, List.forall_mem_cons.mpr ⟨lw_p40, List.forall_mem_cons.mpr ⟨lw_p41, List.forall_mem_cons.mpr ⟨lw_p42, List.forall_mem_cons.mpr ⟨lw_p43, List.forall_mem_cons.mpr ⟨lw_p44, List.forall_mem_cons.mpr ⟨lw_p45, List.forall_mem_cons.mpr ⟨lw_p46, List.forall_mem_cons.mpr ⟨lw_p47, fun _ h => absurd h List.not_mem_nil⟩⟩⟩⟩⟩⟩⟩⟩⟩⟩⟩⟩⟩⟩⟩⟩
theorem lw_p48 : lw_okq (⟨"ToneHouseModel", "formOf", "(IIII)I"⟩, 49) := ⟨⟨by decide +kernel, by decide +kernel⟩, List.mem_of_getElem? (i := 1005) (by decide +kernel), List.mem_of_getElem? (i := 1280) (by decide +kernel), List.mem_of_getElem? (i := 1281) (by decide +kernel)⟩
theorem lw_p49 : lw_okq (⟨"ToneHouseModel", "becomes", "(III)I"⟩, 49) := ⟨⟨by decide +kernel, by decide +kernel⟩, List.mem_of_getElem? (i := 1005) (by decide +kernel), List.mem_of_getElem? (i := 1284) (by decide +kernel), List.mem_of_getElem? (i := 1285) (by decide +kernel)⟩
theorem lw_p50 : lw_okq (⟨"ToneHouseModel", "isFull", "(I)Z"⟩, 49) := ⟨⟨by decide +kernel, by decide +kernel⟩, List.mem_of_getElem? (i := 1005) (by decide +kernel), List.mem_of_getElem? (i := 1292) (by decide +kernel), List.mem_of_getElem? (i := 1293) (by decide +kernel)⟩
theorem lw_p51 : lw_okq (⟨"ToneHouseModel", "isSame", "(IIIII)Z"⟩, 49) := ⟨⟨by decide +kernel, by decide +kernel⟩, List.mem_of_getElem? (i := 1005) (by decide +kernel), List.mem_of_getElem? (i := 1296) (by decide +kernel), List.mem_of_getElem? (i := 1297) (by decide +kernel)⟩
theorem lw_p52 : lw_okq (⟨"ToneHouseModel", "findFulls", "()V"⟩, 49) := ⟨⟨by decide +kernel, by decide +kernel⟩, List.mem_of_getElem? (i := 1005) (by decide +kernel), List.mem_of_getElem? (i := 1312) (by decide +kernel), List.mem_of_getElem? (i := 1313) (by decide +kernel)⟩
theorem lw_p53 : lw_okq (⟨"ToneHouseModel", "isRound", "(II)Z"⟩, 49) := ⟨⟨by decide +kernel, by decide +kernel⟩, List.mem_of_getElem? (i := 1005) (by decide +kernel), List.mem_of_getElem? (i := 1328) (by decide +kernel), List.mem_of_getElem? (i := 1329) (by decide +kernel)⟩
theorem lw_p54 : lw_okq (⟨"ToneHouseModel", "findEntries", "(II)V"⟩, 49) := ⟨⟨by decide +kernel, by decide +kernel⟩, List.mem_of_getElem? (i := 1005) (by decide +kernel), List.mem_of_getElem? (i := 1332) (by decide +kernel), List.mem_of_getElem? (i := 1333) (by decide +kernel)⟩
theorem lw_p55 : lw_okq (⟨"ToneHouseModel", "filled", "(III)I"⟩, 49) := ⟨⟨by decide +kernel, by decide +kernel⟩, List.mem_of_getElem? (i := 1005) (by decide +kernel), List.mem_of_getElem? (i := 1336) (by decide +kernel), List.mem_of_getElem? (i := 1337) (by decide +kernel)⟩
theorem lw_p56 : lw_okq (⟨"ToneHouseModel", "later", "(III)I"⟩, 49) := ⟨⟨by decide +kernel, by decide +kernel⟩, List.mem_of_getElem? (i := 1005) (by decide +kernel), List.mem_of_getElem? (i := 1340) (by decide +kernel), List.mem_of_getElem? (i := 1341) (by decide +kernel)⟩
theorem lw_p57 : lw_okq (⟨"ToneHouseModel", "put", "(I)V"⟩, 49) := ⟨⟨by decide +kernel, by decide +kernel⟩, List.mem_of_getElem? (i := 1005) (by decide +kernel), List.mem_of_getElem? (i := 1344) (by decide +kernel), List.mem_of_getElem? (i := 1345) (by decide +kernel)⟩
theorem lw_p58 : lw_okq (⟨"ToneHouseModel", "periodOf", "(II)I"⟩, 49) := ⟨⟨by decide +kernel, by decide +kernel⟩, List.mem_of_getElem? (i := 1005) (by decide +kernel), List.mem_of_getElem? (i := 1356) (by decide +kernel), List.mem_of_getElem? (i := 1357) (by decide +kernel)⟩
theorem lw_p59 : lw_okq (⟨"ToneHouseModel", "between", "(II)I"⟩, 49) := ⟨⟨by decide +kernel, by decide +kernel⟩, List.mem_of_getElem? (i := 1005) (by decide +kernel), List.mem_of_getElem? (i := 1368) (by decide +kernel), List.mem_of_getElem? (i := 1369) (by decide +kernel)⟩
theorem lw_p60 : lw_okq (⟨"ToneHouseModel", "sung", "(II)I"⟩, 49) := ⟨⟨by decide +kernel, by decide +kernel⟩, List.mem_of_getElem? (i := 1005) (by decide +kernel), List.mem_of_getElem? (i := 1372) (by decide +kernel), List.mem_of_getElem? (i := 1373) (by decide +kernel)⟩
theorem lw_p61 : lw_okq (⟨"ToneHouseModel", "noteOf", "(II)I"⟩, 49) := ⟨⟨by decide +kernel, by decide +kernel⟩, List.mem_of_getElem? (i := 1005) (by decide +kernel), List.mem_of_getElem? (i := 1376) (by decide +kernel), List.mem_of_getElem? (i := 1377) (by decide +kernel)⟩
theorem lw_p62 : lw_okq (⟨"ToneHouseModel", "isVoice", "(I)Z"⟩, 49) := ⟨⟨by decide +kernel, by decide +kernel⟩, List.mem_of_getElem? (i := 1005) (by decide +kernel), List.mem_of_getElem? (i := 1384) (by decide +kernel), List.mem_of_getElem? (i := 1385) (by decide +kernel)⟩
theorem lw_p63 : lw_okq (⟨"ToneHouseModel", "clashesOf", "(I)I"⟩, 49) := ⟨⟨by decide +kernel, by decide +kernel⟩, List.mem_of_getElem? (i := 1005) (by decide +kernel), List.mem_of_getElem? (i := 1388) (by decide +kernel), List.mem_of_getElem? (i := 1389) (by decide +kernel)⟩
def lw_privs_4 : List (MethodName × Nat) := [(⟨"ToneHouseModel", "formOf", "(IIII)I"⟩, 49), (⟨"ToneHouseModel", "becomes", "(III)I"⟩, 49), (⟨"ToneHouseModel", "isFull", "(I)Z"⟩, 49), (⟨"ToneHouseModel", "isSame", "(IIIII)Z"⟩, 49), (⟨"ToneHouseModel", "findFulls", "()V"⟩, 49), (⟨"ToneHouseModel", "isRound", "(II)Z"⟩, 49), (⟨"ToneHouseModel", "findEntries", "(II)V"⟩, 49), (⟨"ToneHouseModel", "filled", "(III)I"⟩, 49), (⟨"ToneHouseModel", "later", "(III)I"⟩, 49), (⟨"ToneHouseModel", "put", "(I)V"⟩, 49), (⟨"ToneHouseModel", "periodOf", "(II)I"⟩, 49), (⟨"ToneHouseModel", "between", "(II)I"⟩, 49), (⟨"ToneHouseModel", "sung", "(II)I"⟩, 49), (⟨"ToneHouseModel", "noteOf", "(II)I"⟩, 49), (⟨"ToneHouseModel", "isVoice", "(I)Z"⟩, 49), (⟨"ToneHouseModel", "clashesOf", "(I)I"⟩, 49)]
theorem lw_r4 : ∀ q ∈ lw_privs_4, lw_okq q := List.forall_mem_cons.mpr ⟨lw_p48, List.forall_mem_cons.mpr ⟨lw_p49, List.forall_mem_cons.mpr ⟨lw_p50, List.forall_mem_cons.mpr ⟨lw_p51, List.forall_mem_cons.mpr ⟨lw_p52, List.forall_mem_cons.mpr ⟨lw_p53, List.forall_mem_cons.mpr ⟨lw_p54, List.forall_mem_cons.mpr ⟨lw_p55, List.forall_mem_cons.mpr ⟨lw_p56, List.forall_mem_cons.mpr ⟨lw_p57, List.forall_mem_cons.mpr ⟨lw_p58, List.forall_mem_cons.mpr ⟨lw_p59, List.forall_mem_cons.mpr ⟨lw_p60, List.forall_mem_cons.mpr ⟨lw_p61, List.forall_mem_cons.mpr ⟨lw_p62, List.forall_mem_cons.mpr ⟨lw_p63, fun _ h => absurd h List.not_mem_nil⟩⟩⟩⟩⟩⟩⟩⟩⟩⟩⟩⟩⟩⟩⟩⟩
theorem lw_p64 : lw_okq (⟨"ToneHouseModel", "isBeat", "(I)Z"⟩, 49) := ⟨⟨by decide +kernel, by decide +kernel⟩, List.mem_of_getElem? (i := 1005) (by decide +kernel), List.mem_of_getElem? (i := 1396) (by decide +kernel), List.mem_of_getElem? (i := 1397) (by decide +kernel)⟩
theorem lw_p65 : lw_okq (⟨"ToneHouseModel", "lay", "(I)V"⟩, 49) := ⟨⟨by decide +kernel, by decide +kernel⟩, List.mem_of_getElem? (i := 1005) (by decide +kernel), List.mem_of_getElem? (i := 1416) (by decide +kernel), List.mem_of_getElem? (i := 1417) (by decide +kernel)⟩
theorem lw_p66 : lw_okq (⟨"ToneHouseModel", "say", "(I)V"⟩, 49) := ⟨⟨by decide +kernel, by decide +kernel⟩, List.mem_of_getElem? (i := 1005) (by decide +kernel), List.mem_of_getElem? (i := 1436) (by decide +kernel), List.mem_of_getElem? (i := 1437) (by decide +kernel)⟩
theorem lw_p67 : lw_okq (⟨"ToneHouseModel", "sayLetter", "(I)V"⟩, 49) := ⟨⟨by decide +kernel, by decide +kernel⟩, List.mem_of_getElem? (i := 1005) (by decide +kernel), List.mem_of_getElem? (i := 1440) (by decide +kernel), List.mem_of_getElem? (i := 1441) (by decide +kernel)⟩
theorem lw_p68 : lw_okq (⟨"ToneHouseModel", "sayNumber", "(I)V"⟩, 49) := ⟨⟨by decide +kernel, by decide +kernel⟩, List.mem_of_getElem? (i := 1005) (by decide +kernel), List.mem_of_getElem? (i := 1444) (by decide +kernel), List.mem_of_getElem? (i := 1445) (by decide +kernel)⟩
theorem lw_p69 : lw_okq (⟨"ToneHouseModel", "reading", "()Z"⟩, 49) := ⟨⟨by decide +kernel, by decide +kernel⟩, List.mem_of_getElem? (i := 1005) (by decide +kernel), List.mem_of_getElem? (i := 1452) (by decide +kernel), List.mem_of_getElem? (i := 1453) (by decide +kernel)⟩
theorem lw_p70 : lw_okq (⟨"ToneHouseModel", "next", "()V"⟩, 49) := ⟨⟨by decide +kernel, by decide +kernel⟩, List.mem_of_getElem? (i := 1005) (by decide +kernel), List.mem_of_getElem? (i := 1456) (by decide +kernel), List.mem_of_getElem? (i := 1457) (by decide +kernel)⟩
theorem lw_p71 : lw_okq (⟨"ToneHouseModel", "raw", "(I)I"⟩, 49) := ⟨⟨by decide +kernel, by decide +kernel⟩, List.mem_of_getElem? (i := 1005) (by decide +kernel), List.mem_of_getElem? (i := 1460) (by decide +kernel), List.mem_of_getElem? (i := 1461) (by decide +kernel)⟩
theorem lw_p72 : lw_okq (⟨"ToneHouseModel", "isLetter", "(I)Z"⟩, 49) := ⟨⟨by decide +kernel, by decide +kernel⟩, List.mem_of_getElem? (i := 1005) (by decide +kernel), List.mem_of_getElem? (i := 1464) (by decide +kernel), List.mem_of_getElem? (i := 1465) (by decide +kernel)⟩
theorem lw_p73 : lw_okq (⟨"ToneHouseModel", "isDigit", "(I)Z"⟩, 49) := ⟨⟨by decide +kernel, by decide +kernel⟩, List.mem_of_getElem? (i := 1005) (by decide +kernel), List.mem_of_getElem? (i := 1468) (by decide +kernel), List.mem_of_getElem? (i := 1469) (by decide +kernel)⟩
theorem lw_p74 : lw_okq (⟨"ToneHouseModel", "readRow", "()Z"⟩, 49) := ⟨⟨by decide +kernel, by decide +kernel⟩, List.mem_of_getElem? (i := 1005) (by decide +kernel), List.mem_of_getElem? (i := 1472) (by decide +kernel), List.mem_of_getElem? (i := 1473) (by decide +kernel)⟩
theorem lw_p75 : lw_okq (⟨"ToneHouseModel", "fails", "(I)Z"⟩, 49) := ⟨⟨by decide +kernel, by decide +kernel⟩, List.mem_of_getElem? (i := 1005) (by decide +kernel), List.mem_of_getElem? (i := 1476) (by decide +kernel), List.mem_of_getElem? (i := 1477) (by decide +kernel)⟩
theorem lw_p76 : lw_okq (⟨"ToneHouseModel", "rowNamed", "(I)I"⟩, 49) := ⟨⟨by decide +kernel, by decide +kernel⟩, List.mem_of_getElem? (i := 1005) (by decide +kernel), List.mem_of_getElem? (i := 1480) (by decide +kernel), List.mem_of_getElem? (i := 1481) (by decide +kernel)⟩
theorem lw_p77 : lw_okq (⟨"ToneHouseModel", "isSign", "(I)Z"⟩, 49) := ⟨⟨by decide +kernel, by decide +kernel⟩, List.mem_of_getElem? (i := 1005) (by decide +kernel), List.mem_of_getElem? (i := 1484) (by decide +kernel), List.mem_of_getElem? (i := 1485) (by decide +kernel)⟩
theorem lw_p78 : lw_okq (⟨"ToneHouseModel", "readVoice", "()Z"⟩, 49) := ⟨⟨by decide +kernel, by decide +kernel⟩, List.mem_of_getElem? (i := 1005) (by decide +kernel), List.mem_of_getElem? (i := 1488) (by decide +kernel), List.mem_of_getElem? (i := 1489) (by decide +kernel)⟩
def lw_privs_5 : List (MethodName × Nat) := [(⟨"ToneHouseModel", "isBeat", "(I)Z"⟩, 49), (⟨"ToneHouseModel", "lay", "(I)V"⟩, 49), (⟨"ToneHouseModel", "say", "(I)V"⟩, 49), (⟨"ToneHouseModel", "sayLetter", "(I)V"⟩, 49), (⟨"ToneHouseModel", "sayNumber", "(I)V"⟩, 49), (⟨"ToneHouseModel", "reading", "()Z"⟩, 49), (⟨"ToneHouseModel", "next", "()V"⟩, 49), (⟨"ToneHouseModel", "raw", "(I)I"⟩, 49), (⟨"ToneHouseModel", "isLetter", "(I)Z"⟩, 49), (⟨"ToneHouseModel", "isDigit", "(I)Z"⟩, 49), (⟨"ToneHouseModel", "readRow", "()Z"⟩, 49), (⟨"ToneHouseModel", "fails", "(I)Z"⟩, 49), (⟨"ToneHouseModel", "rowNamed", "(I)I"⟩, 49), (⟨"ToneHouseModel", "isSign", "(I)Z"⟩, 49), (⟨"ToneHouseModel", "readVoice", "()Z"⟩, 49)]
theorem lw_r5 : ∀ q ∈ lw_privs_5, lw_okq q := List.forall_mem_cons.mpr ⟨lw_p64, List.forall_mem_cons.mpr ⟨lw_p65, List.forall_mem_cons.mpr ⟨lw_p66, List.forall_mem_cons.mpr ⟨lw_p67, List.forall_mem_cons.mpr ⟨lw_p68, List.forall_mem_cons.mpr ⟨lw_p69, List.forall_mem_cons.mpr ⟨lw_p70, List.forall_mem_cons.mpr ⟨lw_p71, List.forall_mem_cons.mpr ⟨lw_p72, List.forall_mem_cons.mpr ⟨lw_p73, List.forall_mem_cons.mpr ⟨lw_p74, List.forall_mem_cons.mpr ⟨lw_p75, List.forall_mem_cons.mpr ⟨lw_p76, List.forall_mem_cons.mpr ⟨lw_p77, List.forall_mem_cons.mpr ⟨lw_p78, fun _ h => absurd h List.not_mem_nil⟩⟩⟩⟩⟩⟩⟩⟩⟩⟩⟩⟩⟩⟩⟩
def lw_privs : List (MethodName × Nat) := lw_privs_1 ++ (lw_privs_2 ++ (lw_privs_3 ++ (lw_privs_4 ++ (lw_privs_5))))
def lw_tbl : List Cond := k2_sels lw_privs ++ tables_1
theorem lw_privs_ok : ∀ q ∈ lw_privs, lw_okq q := by
  show ∀ q ∈ lw_privs_1 ++ (lw_privs_2 ++ (lw_privs_3 ++ (lw_privs_4 ++ (lw_privs_5)))), lw_okq q
  exact List.forall_mem_append.mpr ⟨lw_r1, List.forall_mem_append.mpr ⟨lw_r2, List.forall_mem_append.mpr ⟨lw_r3, List.forall_mem_append.mpr ⟨lw_r4, lw_r5⟩⟩⟩⟩

def tt_R0 : String := "ToneHouse"
def tt_T0 : u_T := fun k => match k with
  | 0 => ("ToneHouse", "tones", "LToneHouse$Octave;", true)
  | 1 => ("ToneHouse", "leading", "LToneHouse$Leading;", true)
  | 2 => ("ToneHouse", "roads", "LToneHouse$Roads;", true)
  | 3 => ("ToneHouse", "fullRows", "LToneHouse$FullRows;", true)
  | 4 => ("ToneHouse", "round", "LToneHouse$Round;", true)
  | 5 => ("ToneHouse", "slots", "[J", true)
  | 6 => ("ToneHouse", "reader", "LToneHouse$Reader;", true)
  | 7 => ("ToneHouse", "written", "LToneHouse$ByteRow;", true)
  | _ => ("ToneHouse", "current", "LToneHouse$Score;", false)
def tt_ty0 : Nat → FieldType := fun k => match k with
  | 0 => .object "ToneHouse$Octave"
  | 1 => .object "ToneHouse$Leading"
  | 2 => .object "ToneHouse$Roads"
  | 3 => .object "ToneHouse$FullRows"
  | 4 => .object "ToneHouse$Round"
  | 5 => .array .long
  | 6 => .object "ToneHouse$Reader"
  | 7 => .object "ToneHouse$ByteRow"
  | _ => .object "ToneHouse$Score"
theorem tt_nm0 : ∀ a, a < 9 → ∀ b, b < 9 → a ≠ b → (tt_T0 a).2.1 ≠ (tt_T0 b).2.1 := by decide +kernel
theorem tt_tok0 : ∀ k, k < 9 → parseFieldDescriptor (tt_T0 k).2.2.1 = some (tt_ty0 k) := by decide +kernel
theorem tt_in0 : ∀ w ∈ u_ws tt_R0 tt_T0 9, w ∈ lw_tbl ∧ goodWord w = true := by decide +kernel
def tt_R1 : String := "ToneHouse$Octave"
def tt_T1 : u_T := fun k => match k with
  | 0 => ("ToneHouse$Octave", "n", "I", false)
  | 1 => ("ToneHouse$Octave", "names", "[[I", true)
  | _ => ("ToneHouse$Octave", "named", "[Z", true)
def tt_ty1 : Nat → FieldType := fun k => match k with
  | 0 => .int
  | 1 => .array (.array .int)
  | _ => .array .boolean
theorem tt_nm1 : ∀ a, a < 3 → ∀ b, b < 3 → a ≠ b → (tt_T1 a).2.1 ≠ (tt_T1 b).2.1 := by decide +kernel
theorem tt_tok1 : ∀ k, k < 3 → parseFieldDescriptor (tt_T1 k).2.2.1 = some (tt_ty1 k) := by decide +kernel
theorem tt_in1 : ∀ w ∈ u_ws tt_R1 tt_T1 3, w ∈ lw_tbl ∧ goodWord w = true := by decide +kernel
def tt_R2 : String := "ToneHouse$Leading"
def tt_T2 : u_T := fun k => match k with
  | 0 => ("ToneHouse$Leading", "sums", "[I", true)
  | 1 => ("ToneHouse$Leading", "ways", "[I", true)
  | 2 => ("ToneHouse$Leading", "from", "[I", true)
  | 3 => ("ToneHouse$Leading", "to", "[I", true)
  | 4 => ("ToneHouse$Leading", "n", "I", false)
  | _ => ("ToneHouse$Leading", "pairs", "I", false)
def tt_ty2 : Nat → FieldType := fun k => match k with
  | 0 => .array .int
  | 1 => .array .int
  | 2 => .array .int
  | 3 => .array .int
  | 4 => .int
  | _ => .int
theorem tt_nm2 : ∀ a, a < 6 → ∀ b, b < 6 → a ≠ b → (tt_T2 a).2.1 ≠ (tt_T2 b).2.1 := by decide +kernel
theorem tt_tok2 : ∀ k, k < 6 → parseFieldDescriptor (tt_T2 k).2.2.1 = some (tt_ty2 k) := by decide +kernel
theorem tt_in2 : ∀ w ∈ u_ws tt_R2 tt_T2 6, w ∈ lw_tbl ∧ goodWord w = true := by decide +kernel
def tt_R3 : String := "ToneHouse$Roads"
def tt_T3 : u_T := fun k => match k with
  | 0 => ("ToneHouse$Roads", "moves", "[I", true)
  | 1 => ("ToneHouse$Roads", "queue", "[I", true)
  | _ => ("ToneHouse$Roads", "queued", "I", false)
def tt_ty3 : Nat → FieldType := fun k => match k with
  | 0 => .array .int
  | 1 => .array .int
  | _ => .int
theorem tt_nm3 : ∀ a, a < 3 → ∀ b, b < 3 → a ≠ b → (tt_T3 a).2.1 ≠ (tt_T3 b).2.1 := by decide +kernel
theorem tt_tok3 : ∀ k, k < 3 → parseFieldDescriptor (tt_T3 k).2.2.1 = some (tt_ty3 k) := by decide +kernel
theorem tt_in3 : ∀ w ∈ u_ws tt_R3 tt_T3 3, w ∈ lw_tbl ∧ goodWord w = true := by decide +kernel
def tt_R4 : String := "ToneHouse$FullRows"
def tt_T4 : u_T := fun k => match k with
  | 0 => ("ToneHouse$FullRows", "rows", "[J", true)
  | 1 => ("ToneHouse$FullRows", "starts", "[I", true)
  | 2 => ("ToneHouse$FullRows", "ends", "[I", true)
  | 3 => ("ToneHouse$FullRows", "listed", "[Z", true)
  | _ => ("ToneHouse$FullRows", "used", "I", false)
def tt_ty4 : Nat → FieldType := fun k => match k with
  | 0 => .array .long
  | 1 => .array .int
  | 2 => .array .int
  | 3 => .array .boolean
  | _ => .int
theorem tt_nm4 : ∀ a, a < 5 → ∀ b, b < 5 → a ≠ b → (tt_T4 a).2.1 ≠ (tt_T4 b).2.1 := by decide +kernel
theorem tt_tok4 : ∀ k, k < 5 → parseFieldDescriptor (tt_T4 k).2.2.1 = some (tt_ty4 k) := by decide +kernel
theorem tt_in4 : ∀ w ∈ u_ws tt_R4 tt_T4 5, w ∈ lw_tbl ∧ goodWord w = true := by decide +kernel
def tt_R5 : String := "ToneHouse$Round"
def tt_T5 : u_T := fun k => match k with
  | 0 => ("ToneHouse$Round", "found", "[I", true)
  | 1 => ("ToneHouse$Round", "count", "I", false)
  | 2 => ("ToneHouse$Round", "sorted", "Z", false)
  | 3 => ("ToneHouse$Round", "beats", "I", false)
  | _ => ("ToneHouse$Round", "shape", "I", false)
def tt_ty5 : Nat → FieldType := fun k => match k with
  | 0 => .array .int
  | 1 => .int
  | 2 => .boolean
  | 3 => .int
  | _ => .int
theorem tt_nm5 : ∀ a, a < 5 → ∀ b, b < 5 → a ≠ b → (tt_T5 a).2.1 ≠ (tt_T5 b).2.1 := by decide +kernel
theorem tt_tok5 : ∀ k, k < 5 → parseFieldDescriptor (tt_T5 k).2.2.1 = some (tt_ty5 k) := by decide +kernel
theorem tt_in5 : ∀ w ∈ u_ws tt_R5 tt_T5 5, w ∈ lw_tbl ∧ goodWord w = true := by decide +kernel
def tt_R6 : String := "ToneHouse$Reader"
def tt_T6 : u_T := fun k => match k with
  | 0 => ("ToneHouse$Reader", "text", "LToneHouse$ByteRow;", true)
  | 1 => ("ToneHouse$Reader", "made", "LToneHouse$Score;", false)
  | 2 => ("ToneHouse$Reader", "n", "I", false)
  | 3 => ("ToneHouse$Reader", "token", "LToneHouse$Token;", false)
  | 4 => ("ToneHouse$Reader", "value", "I", false)
  | 5 => ("ToneHouse$Reader", "place", "I", false)
  | 6 => ("ToneHouse$Reader", "next", "I", false)
  | 7 => ("ToneHouse$Reader", "fault", "I", false)
  | _ => ("ToneHouse$Reader", "faultAt", "I", false)
def tt_ty6 : Nat → FieldType := fun k => match k with
  | 0 => .object "ToneHouse$ByteRow"
  | 1 => .object "ToneHouse$Score"
  | 2 => .int
  | 3 => .object "ToneHouse$Token"
  | 4 => .int
  | 5 => .int
  | 6 => .int
  | 7 => .int
  | _ => .int
theorem tt_nm6 : ∀ a, a < 9 → ∀ b, b < 9 → a ≠ b → (tt_T6 a).2.1 ≠ (tt_T6 b).2.1 := by decide +kernel
theorem tt_tok6 : ∀ k, k < 9 → parseFieldDescriptor (tt_T6 k).2.2.1 = some (tt_ty6 k) := by decide +kernel
theorem tt_in6 : ∀ w ∈ u_ws tt_R6 tt_T6 9, w ∈ lw_tbl ∧ goodWord w = true := by decide +kernel
def tt_R7 : String := "ToneHouse$ByteRow"
def tt_T7 : u_T := fun k => match k with
  | 0 => ("ToneHouse$ByteRow", "bytes", "[I", true)
  | _ => ("ToneHouse$ByteRow", "length", "I", false)
def tt_ty7 : Nat → FieldType := fun k => match k with
  | 0 => .array .int
  | _ => .int
theorem tt_nm7 : ∀ a, a < 2 → ∀ b, b < 2 → a ≠ b → (tt_T7 a).2.1 ≠ (tt_T7 b).2.1 := by decide +kernel
theorem tt_tok7 : ∀ k, k < 2 → parseFieldDescriptor (tt_T7 k).2.2.1 = some (tt_ty7 k) := by decide +kernel
theorem tt_in7 : ∀ w ∈ u_ws tt_R7 tt_T7 2, w ∈ lw_tbl ∧ goodWord w = true := by decide +kernel
def tt_R8 : String := "ToneHouse$Score"
def tt_T8 : u_T := fun k => match k with
  | 0 => ("ToneHouse$Score", "rows", "[J", true)
  | 1 => ("ToneHouse$Score", "letters", "[I", true)
  | 2 => ("ToneHouse$Score", "rowCount", "I", false)
  | 3 => ("ToneHouse$Score", "rowOf", "[I", true)
  | 4 => ("ToneHouse$Score", "kindOf", "[I", true)
  | 5 => ("ToneHouse$Score", "turnOf", "[I", true)
  | 6 => ("ToneHouse$Score", "beginOf", "[I", true)
  | _ => ("ToneHouse$Score", "voiceCount", "I", false)
def tt_ty8 : Nat → FieldType := fun k => match k with
  | 0 => .array .long
  | 1 => .array .int
  | 2 => .int
  | 3 => .array .int
  | 4 => .array .int
  | 5 => .array .int
  | 6 => .array .int
  | _ => .int
theorem tt_nm8 : ∀ a, a < 8 → ∀ b, b < 8 → a ≠ b → (tt_T8 a).2.1 ≠ (tt_T8 b).2.1 := by decide +kernel
theorem tt_tok8 : ∀ k, k < 8 → parseFieldDescriptor (tt_T8 k).2.2.1 = some (tt_ty8 k) := by decide +kernel
theorem tt_in8 : ∀ w ∈ u_ws tt_R8 tt_T8 8, w ∈ lw_tbl ∧ goodWord w = true := by decide +kernel
def tt_R9 : String := "ToneHouseModel"
def tt_T9 : u_T := fun k => match k with
  | 0 => ("ToneHouseModel", "told", "I", false)
  | 1 => ("ToneHouseModel", "n", "I", false)
  | 2 => ("ToneHouseModel", "met", "[Z", true)
  | 3 => ("ToneHouseModel", "note", "[I", true)
  | 4 => ("ToneHouseModel", "other", "[I", true)
  | 5 => ("ToneHouseModel", "least", "[I", true)
  | 6 => ("ToneHouseModel", "ways", "[I", true)
  | 7 => ("ToneHouseModel", "far", "[I", true)
  | 8 => ("ToneHouseModel", "queue", "[I", true)
  | 9 => ("ToneHouseModel", "isThere", "[Z", true)
  | 10 => ("ToneHouseModel", "slot", "[I", true)
  | 11 => ("ToneHouseModel", "fullFor", "I", false)
  | 12 => ("ToneHouseModel", "fulls", "I", false)
  | 13 => ("ToneHouseModel", "fullRow", "[J", true)
  | 14 => ("ToneHouseModel", "walk", "[I", true)
  | 15 => ("ToneHouseModel", "roundOf", "I", false)
  | 16 => ("ToneHouseModel", "motifOf", "I", false)
  | 17 => ("ToneHouseModel", "entries", "I", false)
  | 18 => ("ToneHouseModel", "entry", "[I", true)
  | 19 => ("ToneHouseModel", "beatAt", "[I", true)
  | 20 => ("ToneHouseModel", "choice", "[I", true)
  | 21 => ("ToneHouseModel", "covered", "[I", true)
  | 22 => ("ToneHouseModel", "chosen", "[I", true)
  | 23 => ("ToneHouseModel", "rowMany", "I", false)
  | 24 => ("ToneHouseModel", "rowName", "[I", true)
  | 25 => ("ToneHouseModel", "scoreRow", "[I", true)
  | 26 => ("ToneHouseModel", "voices", "I", false)
  | 27 => ("ToneHouseModel", "voiceRow", "[I", true)
  | 28 => ("ToneHouseModel", "voiceKind", "[I", true)
  | 29 => ("ToneHouseModel", "voiceBy", "[I", true)
  | 30 => ("ToneHouseModel", "voiceBeat", "[I", true)
  | 31 => ("ToneHouseModel", "tape", "[I", true)
  | 32 => ("ToneHouseModel", "taped", "I", false)
  | 33 => ("ToneHouseModel", "out", "[I", true)
  | 34 => ("ToneHouseModel", "outs", "I", false)
  | 35 => ("ToneHouseModel", "reads", "I", false)
  | 36 => ("ToneHouseModel", "from", "I", false)
  | 37 => ("ToneHouseModel", "token", "I", false)
  | 38 => ("ToneHouseModel", "worth", "I", false)
  | 39 => ("ToneHouseModel", "faultKind", "I", false)
  | 40 => ("ToneHouseModel", "faultPlace", "I", false)
  | 41 => ("ToneHouseModel", "newRows", "I", false)
  | 42 => ("ToneHouseModel", "newVoices", "I", false)
  | 43 => ("ToneHouseModel", "newName", "[I", true)
  | 44 => ("ToneHouseModel", "newRow", "[I", true)
  | 45 => ("ToneHouseModel", "newOf", "[I", true)
  | 46 => ("ToneHouseModel", "newKind", "[I", true)
  | 47 => ("ToneHouseModel", "newBy", "[I", true)
  | _ => ("ToneHouseModel", "newBeat", "[I", true)
def tt_ty9 : Nat → FieldType := fun k => match k with
  | 0 => .int
  | 1 => .int
  | 2 => .array .boolean
  | 3 => .array .int
  | 4 => .array .int
  | 5 => .array .int
  | 6 => .array .int
  | 7 => .array .int
  | 8 => .array .int
  | 9 => .array .boolean
  | 10 => .array .int
  | 11 => .int
  | 12 => .int
  | 13 => .array .long
  | 14 => .array .int
  | 15 => .int
  | 16 => .int
  | 17 => .int
  | 18 => .array .int
  | 19 => .array .int
  | 20 => .array .int
  | 21 => .array .int
  | 22 => .array .int
  | 23 => .int
  | 24 => .array .int
  | 25 => .array .int
  | 26 => .int
  | 27 => .array .int
  | 28 => .array .int
  | 29 => .array .int
  | 30 => .array .int
  | 31 => .array .int
  | 32 => .int
  | 33 => .array .int
  | 34 => .int
  | 35 => .int
  | 36 => .int
  | 37 => .int
  | 38 => .int
  | 39 => .int
  | 40 => .int
  | 41 => .int
  | 42 => .int
  | 43 => .array .int
  | 44 => .array .int
  | 45 => .array .int
  | 46 => .array .int
  | 47 => .array .int
  | _ => .array .int
theorem tt_nm9 : ∀ a, a < 49 → ∀ b, b < 49 → a ≠ b → (tt_T9 a).2.1 ≠ (tt_T9 b).2.1 := by decide +kernel
theorem tt_tok9 : ∀ k, k < 49 → parseFieldDescriptor (tt_T9 k).2.2.1 = some (tt_ty9 k) := by decide +kernel
theorem tt_in9 : ∀ w ∈ u_ws tt_R9 tt_T9 49, w ∈ lw_tbl ∧ goodWord w = true := by decide +kernel
abbrev tt_cl : List vw_C := [(tt_R0, tt_T0, 9), (tt_R1, tt_T1, 3), (tt_R2, tt_T2, 6), (tt_R3, tt_T3, 3), (tt_R4, tt_T4, 5), (tt_R5, tt_T5, 5), (tt_R6, tt_T6, 9), (tt_R7, tt_T7, 2), (tt_R8, tt_T8, 8), (tt_R9, tt_T9, 49)]
end
section
/-! ===== places, methods, coded instructions ===== -/
abbrev tt_Sh : Type := (Nat × List Nat) ⊕ (Nat × Nat)
abbrev tt_Op : Type := Nat × Nat × Int × List (Int × Nat)
def tt_shp : List tt_Sh := [.inl (0, [5, 6, 7, 8, 9, 16, 10, 12, 3]), .inl (1, [0, 17, 21]), .inl (2, [22, 23, 24, 25, 0, 0]), .inl (3, [26, 27, 0]), .inl (4, [28, 29, 30, 31, 0]), .inl (5, [32, 0, 1, 0, 0]), .inl (6, [11, 3, 0, 3, 0, 0, 0, 0, 0]), .inl (7, [33, 0]), .inl (7, [34, 0]), .inl (8, [35, 36, 0, 37, 38, 39, 40, 0]), .inl (8, [41, 42, 0, 43, 44, 45, 46, 0]), .inl (9, [0, 0, 47, 48, 49, 50, 51, 52, 53, 54, 55, 0, 0, 56, 57, 0, 0, 0, 58, 59, 60, 61, 62, 0, 63, 64, 0, 65, 66, 67, 68, 69, 0, 70, 0, 0, 0, 0, 0, 0, 0, 0, 0, 71, 72, 73, 74, 75, 76]), .inr (1, 6), .inr (17, 3), .inr (0, 4096), .inr (0, 4096), .inr (0, 4096), .inr (2, 3), .inr (0, 4096), .inr (0, 4096), .inr (0, 12), .inr (0, 12), .inr (0, 4096), .inr (0, 4096), .inr (1, 4174), .inr (0, 13), .inr (0, 13), .inr (2, 13), .inr (0, 6561), .inr (0, 800), .inr (0, 800), .inr (1, 6), .inr (0, 6), .inr (0, 8), .inr (0, 8), .inr (0, 8), .inr (0, 8), .inr (1, 6), .inr (0, 6), .inr (0, 8), .inr (0, 8), .inr (0, 8), .inr (0, 8), .inr (2, 4096), .inr (0, 12), .inr (0, 12), .inr (0, 4096), .inr (0, 4096), .inr (0, 4096), .inr (0, 4096), .inr (2, 6), .inr (0, 72), .inr (1, 4000), .inr (0, 13), .inr (0, 8192), .inr (0, 25), .inr (0, 25), .inr (0, 25), .inr (0, 25), .inr (0, 6), .inr (0, 72), .inr (0, 8), .inr (0, 8), .inr (0, 8), .inr (0, 8), .inr (0, 800), .inr (0, 1000), .inr (0, 6), .inr (0, 72), .inr (0, 8), .inr (0, 8), .inr (0, 8), .inr (0, 8)]
def tt_NP : Nat := 73
def tt_NQ : Nat := 103
theorem tt_NP_eq : tt_NP = tt_shp.length := by decide +kernel
theorem tt_NPQ : tt_NP ≤ tt_NQ := by decide +kernel
def tt_EN : Nat := 73
def tt_ST : Nat := 82
def tt_SV : Nat := 92
def tt_XQ : Nat := 102
def tt_NS : Nat := 10
def tt_tok : List String := ["ROW", "VOICE", "AT", "LETTER", "NUMBER", "EQUALS", "SEMICOLON", "END", "STRANGE"]
def tt_len : List Nat := [3, 5, 2, 4, 4, 3, 2, 6, 4, 3]
def tt_byt : List (List Int32) := [[114, 111, 119], [118, 111, 105, 99, 101], [97, 116], [112, 105, 114, 117], [114, 111, 119, 32], [32, 61, 32], [59, 10], [118, 111, 105, 99, 101, 32], [32, 97, 116, 32], [32, 59, 10]]
def tt_ldc : List (String × Nat × String × Nat) := [("ToneHouse$Reader", 154, "row", 82), ("ToneHouse$Reader", 160, "voice", 83), ("ToneHouse$Reader", 162, "at", 84), ("ToneHouse$Reader", 110, "piru", 85), ("ToneHouse$Score", 75, "row ", 86), ("ToneHouse$Score", 87, " = ", 87), ("ToneHouse$Score", 92, ";\n", 88), ("ToneHouse$Score", 94, "voice ", 89), ("ToneHouse$Score", 96, "piru", 85), ("ToneHouse$Score", 104, " at ", 90), ("ToneHouse$Score", 106, " ;\n", 91)]
abbrev tt_M : Type := MethodName × ByteArray × Nat × Option FieldType × Bool × Nat × List Nat
def tt_ms : List tt_M := [
  (⟨"java/util/Arrays", "fill", "([JJ)V"⟩, prog_21_method_101_code, 5, none, true, 2, [302, 301, 0, 91]),
  (⟨"ToneHouse", "octave", "(I)Z"⟩, prog_1_method_2_code, 2, ((some .boolean)), false, 1, [334, 332, 333, 80]),
  (⟨"ToneHouse$Octave", "size", "()I"⟩, prog_5_method_2_code, 1, ((some .int)), false, 0, [338, 336, 337, 81]),
  (⟨"ToneHouse$Octave", "resize", "(I)V"⟩, prog_5_method_4_code, 3, none, false, 1, [342, 340, 341, 81]),
  (⟨"ToneHouse$Score", "clear", "()V"⟩, prog_9_method_2_code, 1, none, false, 0, [346, 344, 345, 88]),
  (⟨"ToneHouse", "image", "(III)I"⟩, prog_1_method_3_code, 4, ((some .int)), false, 3, [350, 348, 349, 80]),
  (⟨"ToneHouse$Octave", "hasSet", "(I)Z"⟩, prog_5_method_6_code, 2, ((some .boolean)), false, 1, [354, 352, 353, 81]),
  (⟨"ToneHouse$Octave", "hasFactor", "(II)Z"⟩, prog_5_method_8_code, 3, ((some .boolean)), false, 2, [358, 356, 357, 81]),
  (⟨"ToneHouse$Octave", "isCoprime", "(I)Z"⟩, prog_5_method_9_code, 3, ((some .boolean)), false, 1, [362, 361, 0, 81]),
  (⟨"ToneHouse$Octave", "hasNote", "(I)Z"⟩, prog_5_method_5_code, 2, ((some .boolean)), false, 1, [366, 364, 365, 81]),
  (⟨"ToneHouse$Octave", "multiplied", "(II)I"⟩, prog_5_method_10_code, 6, ((some .int)), false, 2, [370, 368, 369, 81]),
  (⟨"ToneHouse", "turned", "(III)I"⟩, prog_1_method_43_code, 3, ((some .int)), true, 3, [373, 372, 0, 80]),
  (⟨"ToneHouse", "name", "(II)I"⟩, prog_1_method_4_code, 3, ((some .int)), false, 2, [377, 375, 376, 80]),
  (⟨"ToneHouse", "isGroup", "(I)Z"⟩, prog_1_method_38_code, 1, ((some .boolean)), true, 1, [380, 379, 0, 80]),
  (⟨"ToneHouse$Octave", "leastImage", "(II)I"⟩, prog_5_method_13_code, 3, ((some .int)), false, 2, [384, 382, 383, 81]),
  (⟨"ToneHouse$Octave", "nameAll", "(I)V"⟩, prog_5_method_20_code, 3, none, false, 1, [388, 387, 1, 81]),
  (⟨"java/util/Arrays", "fill", "([II)V"⟩, prog_21_method_103_code, 4, none, true, 2, [391, 390, 0, 91]),
  (⟨"ToneHouse$Octave", "nameClass", "(II)V"⟩, prog_5_method_21_code, 6, none, false, 2, [395, 394, 2, 81]),
  (⟨"ToneHouse", "own", "(III)I"⟩, prog_1_method_5_code, 4, ((some .int)), false, 3, [402, 400, 401, 80]),
  (⟨"ToneHouse$Octave", "actsInto", "(III)I"⟩, prog_5_method_11_code, 8, ((some .int)), false, 3, [406, 404, 405, 81]),
  (⟨"ToneHouse$Octave", "allNotes", "()I"⟩, prog_5_method_3_code, 1, ((some .int)), false, 0, [410, 408, 409, 81]),
  (⟨"ToneHouse$Octave", "imagesInto", "(III)I"⟩, prog_5_method_12_code, 5, ((some .int)), false, 3, [414, 412, 413, 81]),
  (⟨"ToneHouse", "classes", "(II)I"⟩, prog_1_method_6_code, 3, ((some .int)), false, 2, [419, 417, 418, 80]),
  (⟨"ToneHouse$Octave", "countNames", "(II)I"⟩, prog_5_method_14_code, 5, ((some .int)), false, 2, [423, 421, 422, 81]),
  (⟨"ToneHouse$Octave", "isNameOfSize", "(III)Z"⟩, prog_5_method_19_code, 4, ((some .boolean)), false, 3, [427, 426, 3, 81]),
  (⟨"java/lang/Integer", "bitCount", "(I)I"⟩, prog_15_method_49_code, 1, ((some .int)), true, 1, [430, 429, 0, 93]),
  (⟨"ToneHouse", "nameOf", "(III)I"⟩, prog_1_method_7_code, 4, ((some .int)), false, 3, [437, 435, 436, 80]),
  (⟨"ToneHouse$Octave", "findName", "(III)I"⟩, prog_5_method_15_code, 6, ((some .int)), false, 3, [441, 439, 440, 81]),
  (⟨"ToneHouse", "interval", "(II)I"⟩, prog_1_method_8_code, 3, ((some .int)), false, 2, [445, 443, 444, 80]),
  (⟨"ToneHouse$Octave", "pairsApart", "(II)I"⟩, prog_5_method_16_code, 4, ((some .int)), false, 2, [449, 447, 448, 81]),
  (⟨"ToneHouse", "twin", "(I)I"⟩, prog_1_method_9_code, 2, ((some .int)), false, 1, [453, 451, 452, 80]),
  (⟨"ToneHouse$Octave", "leastTwin", "(I)I"⟩, prog_5_method_17_code, 5, ((some .int)), false, 1, [457, 455, 456, 81]),
  (⟨"ToneHouse$Octave", "haveSameIntervals", "(II)Z"⟩, prog_5_method_18_code, 4, ((some .boolean)), false, 2, [461, 460, 4, 81]),
  (⟨"ToneHouse", "within", "(III)I"⟩, prog_1_method_10_code, 4, ((some .int)), false, 3, [466, 464, 465, 80]),
  (⟨"ToneHouse", "lead", "(III)I"⟩, prog_1_method_11_code, 4, ((some .int)), false, 3, [470, 468, 469, 80]),
  (⟨"ToneHouse$Octave", "areOfOneSize", "(II)Z"⟩, prog_5_method_7_code, 3, ((some .boolean)), false, 2, [474, 472, 473, 81]),
  (⟨"ToneHouse$Leading", "solve", "(III)V"⟩, prog_4_method_2_code, 6, none, false, 3, [480, 478, 479, 82]),
  (⟨"ToneHouse$Leading", "list", "(I[I)V"⟩, prog_4_method_6_code, 5, none, false, 2, [485, 484, 5, 82]),
  (⟨"ToneHouse", "leastMember", "(I)I"⟩, prog_1_method_44_code, 1, ((some .int)), true, 1, [488, 487, 0, 80]),
  (⟨"java/lang/Integer", "numberOfTrailingZeros", "(I)I"⟩, prog_15_method_48_code, 2, ((some .int)), true, 1, [491, 490, 0, 93]),
  (⟨"ToneHouse", "withoutLeast", "(I)I"⟩, prog_1_method_45_code, 1, ((some .int)), true, 1, [495, 494, 0, 80]),
  (⟨"ToneHouse$Leading", "weigh", "(I)V"⟩, prog_4_method_7_code, 7, none, false, 1, [499, 498, 6, 82]),
  (⟨"ToneHouse$Leading", "sumBy", "(III)I"⟩, prog_4_method_9_code, 5, ((some .int)), false, 3, [504, 503, 7, 82]),
  (⟨"ToneHouse$Leading", "leastSum", "()I"⟩, prog_4_method_3_code, 1, ((some .int)), false, 0, [514, 512, 513, 82]),
  (⟨"ToneHouse$Leading", "leastCount", "()I"⟩, prog_4_method_4_code, 1, ((some .int)), false, 0, [518, 516, 517, 82]),
  (⟨"ToneHouse$Leading", "firstGoal", "(I)I"⟩, prog_4_method_5_code, 6, ((some .int)), false, 1, [522, 520, 521, 82]),
  (⟨"ToneHouse$Leading", "firstBest", "(II)I"⟩, prog_4_method_8_code, 4, ((some .int)), false, 2, [526, 525, 8, 82]),
  (⟨"ToneHouse", "road", "(II)I"⟩, prog_1_method_12_code, 3, ((some .int)), false, 2, [530, 528, 529, 80]),
  (⟨"ToneHouse$Roads", "fewestMoves", "(LToneHouse$Octave;II)I"⟩, prog_7_method_2_code, 5, ((some .int)), false, 3, [534, 532, 533, 83]),
  (⟨"ToneHouse$Roads", "startFromImages", "(LToneHouse$Octave;I)V"⟩, prog_7_method_3_code, 6, none, false, 2, [539, 538, 9, 83]),
  (⟨"ToneHouse$Roads", "reach", "(II)V"⟩, prog_7_method_5_code, 3, none, false, 2, [546, 545, 10, 83]),
  (⟨"ToneHouse$Roads", "moveOn", "(II)V"⟩, prog_7_method_4_code, 6, none, false, 2, [550, 549, 11, 83]),
  (⟨"ToneHouse", "row", "(IJ)Z"⟩, prog_1_method_13_code, 7, ((some .boolean)), false, 2, [555, 553, 554, 80]),
  (⟨"ToneHouse", "isSlot", "(I)Z"⟩, prog_1_method_40_code, 1, ((some .boolean)), true, 1, [558, 557, 0, 80]),
  (⟨"ToneHouse", "isRow", "(JI)Z"⟩, prog_1_method_48_code, 3, ((some .boolean)), true, 2, [561, 560, 0, 80]),
  (⟨"ToneHouse", "notesOf", "(JII)I"⟩, prog_1_method_49_code, 6, ((some .int)), true, 3, [564, 563, 0, 80]),
  (⟨"ToneHouse", "noteAt", "(JI)I"⟩, prog_1_method_47_code, 3, ((some .int)), true, 2, [567, 566, 0, 80]),
  (⟨"ToneHouse", "form", "(IIII)I"⟩, prog_1_method_14_code, 5, ((some .int)), false, 4, [571, 569, 570, 80]),
  (⟨"ToneHouse", "hasRow", "(I)Z"⟩, prog_1_method_41_code, 2, ((some .boolean)), false, 1, [575, 574, 12, 80]),
  (⟨"ToneHouse", "isKind", "(I)Z"⟩, prog_1_method_39_code, 1, ((some .boolean)), true, 1, [578, 577, 0, 80]),
  (⟨"ToneHouse", "formNote", "(JIIII)I"⟩, prog_1_method_50_code, 8, ((some .int)), true, 5, [581, 580, 0, 80]),
  (⟨"ToneHouse", "about", "(II)I"⟩, prog_1_method_15_code, 5, ((some .int)), false, 2, [585, 583, 584, 80]),
  (⟨"ToneHouse", "formsLikeItself", "(JI)I"⟩, prog_1_method_52_code, 6, ((some .int)), true, 2, [588, 587, 0, 80]),
  (⟨"ToneHouse", "formOf", "(JIII)J"⟩, prog_1_method_51_code, 8, ((some .long)), true, 4, [591, 590, 0, 80]),
  (⟨"ToneHouse", "isFull", "(JI)Z"⟩, prog_1_method_54_code, 5, ((some .boolean)), true, 2, [594, 593, 0, 80]),
  (⟨"ToneHouse", "gap", "(III)I"⟩, prog_1_method_53_code, 3, ((some .int)), true, 3, [597, 596, 0, 80]),
  (⟨"ToneHouse", "partners", "(II)I"⟩, prog_1_method_16_code, 7, ((some .int)), false, 2, [601, 599, 600, 80]),
  (⟨"ToneHouse", "split", "(II)I"⟩, prog_1_method_17_code, 6, ((some .int)), false, 2, [605, 603, 604, 80]),
  (⟨"ToneHouse", "full", "()I"⟩, prog_1_method_18_code, 1, ((some .int)), false, 0, [609, 607, 608, 80]),
  (⟨"ToneHouse$FullRows", "count", "(I)I"⟩, prog_3_method_2_code, 2, ((some .int)), false, 1, [613, 611, 612, 84]),
  (⟨"ToneHouse$FullRows", "list", "(I)V"⟩, prog_3_method_5_code, 3, none, false, 1, [617, 616, 13, 84]),
  (⟨"ToneHouse$FullRows", "lengthen", "(IIIIIJ)V"⟩, prog_3_method_6_code, 12, none, false, 6, [621, 620, 14, 84]),
  (⟨"ToneHouse$FullRows", "add", "(J)V"⟩, prog_3_method_7_code, 3, none, false, 1, [625, 624, 15, 84]),
  (⟨"ToneHouse", "pick", "(II)Z"⟩, prog_1_method_19_code, 4, ((some .boolean)), false, 2, [634, 632, 633, 80]),
  (⟨"ToneHouse$FullRows", "get", "(II)J"⟩, prog_3_method_3_code, 3, ((some .long)), false, 2, [638, 636, 637, 84]),
  (⟨"ToneHouse", "rank", "(I)I"⟩, prog_1_method_20_code, 2, ((some .int)), false, 1, [642, 640, 641, 80]),
  (⟨"ToneHouse$FullRows", "find", "(IJ)I"⟩, prog_3_method_4_code, 5, ((some .int)), false, 2, [646, 644, 645, 84]),
  (⟨"ToneHouse", "fills", "(II)I"⟩, prog_1_method_21_code, 3, ((some .int)), false, 2, [650, 648, 649, 80]),
  (⟨"ToneHouse", "isBeatSet", "(II)Z"⟩, prog_1_method_42_code, 2, ((some .boolean)), true, 2, [653, 652, 0, 80]),
  (⟨"ToneHouse$Round", "count", "(II)I"⟩, prog_8_method_2_code, 3, ((some .int)), false, 2, [657, 655, 656, 85]),
  (⟨"ToneHouse$Round", "cover", "(III)V"⟩, prog_8_method_5_code, 9, none, false, 3, [661, 660, 16, 85]),
  (⟨"ToneHouse$Round", "add", "(I)V"⟩, prog_8_method_6_code, 2, none, false, 1, [665, 664, 17, 85]),
  (⟨"ToneHouse", "fill", "(III)I"⟩, prog_1_method_22_code, 4, ((some .int)), false, 3, [674, 672, 673, 80]),
  (⟨"ToneHouse$Round", "get", "(I)I"⟩, prog_8_method_3_code, 2, ((some .int)), false, 1, [678, 676, 677, 85]),
  (⟨"ToneHouse$Round", "sort", "()V"⟩, prog_8_method_7_code, 3, none, false, 0, [682, 681, 18, 85]),
  (⟨"ToneHouse$Round", "sink", "(II)V"⟩, prog_8_method_8_code, 6, none, false, 2, [686, 685, 19, 85]),
  (⟨"ToneHouse", "pure", "(II)I"⟩, prog_1_method_23_code, 3, ((some .int)), false, 2, [690, 688, 689, 80]),
  (⟨"ToneHouse$Round", "countPure", "(II)I"⟩, prog_8_method_4_code, 6, ((some .int)), false, 2, [694, 692, 693, 85]),
  (⟨"ToneHouse", "leastPeriod", "(II)I"⟩, prog_1_method_46_code, 3, ((some .int)), true, 2, [697, 696, 0, 80]),
  (⟨"ToneHouse", "period", "(II)I"⟩, prog_1_method_24_code, 3, ((some .int)), false, 2, [702, 700, 701, 80]),
  (⟨"ToneHouse", "feed", "(IIIII)I"⟩, prog_1_method_25_code, 7, ((some .int)), false, 5, [707, 705, 706, 80]),
  (⟨"ToneHouse$Reader", "tape", "()LToneHouse$ByteRow;"⟩, prog_6_method_2_code, 1, ((some (.object "ToneHouse$ByteRow"))), false, 0, [711, 709, 710, 86]),
  (⟨"ToneHouse$ByteRow", "length", "()I"⟩, prog_2_method_2_code, 1, ((some .int)), false, 0, [715, 713, 714, 87]),
  (⟨"ToneHouse$ByteRow", "addFour", "(I)V"⟩, prog_2_method_7_code, 2, none, false, 1, [719, 717, 718, 87]),
  (⟨"ToneHouse$ByteRow", "add", "(I)V"⟩, prog_2_method_6_code, 2, none, false, 1, [723, 721, 722, 87]),
  (⟨"ToneHouse", "end", "(I)I"⟩, prog_1_method_26_code, 2, ((some .int)), false, 1, [727, 725, 726, 80]),
  (⟨"ToneHouse$ByteRow", "cut", "(I)V"⟩, prog_2_method_4_code, 2, none, false, 1, [731, 729, 730, 87]),
  (⟨"ToneHouse", "load", "()I"⟩, prog_1_method_27_code, 2, ((some .int)), false, 0, [735, 733, 734, 80]),
  (⟨"ToneHouse$Reader", "read", "(I)Z"⟩, prog_6_method_6_code, 4, ((some .boolean)), false, 1, [739, 737, 738, 86]),
  (⟨"ToneHouse$Reader", "advance", "()V"⟩, prog_6_method_13_code, 2, none, false, 0, [744, 743, 20, 86]),
  (⟨"ToneHouse$ByteRow", "get", "(I)I"⟩, prog_2_method_3_code, 2, ((some .int)), false, 1, [748, 746, 747, 87]),
  (⟨"ToneHouse$Reader", "isBlank", "(I)Z"⟩, prog_6_method_16_code, 1, ((some .boolean)), true, 1, [751, 750, 0, 86]),
  (⟨"ToneHouse$Reader", "isLetter", "(I)Z"⟩, prog_6_method_17_code, 1, ((some .boolean)), true, 1, [754, 753, 0, 86]),
  (⟨"ToneHouse$Reader", "readWord", "(I)LToneHouse$Token;"⟩, prog_6_method_14_code, 3, ((some (.object "ToneHouse$Token"))), false, 1, [758, 757, 21, 86]),
  (⟨"ToneHouse$ByteRow", "spells", "(Ljava/lang/String;II)Z"⟩, prog_2_method_10_code, 5, ((some .boolean)), false, 3, [767, 765, 766, 87]),
  (⟨"java/lang/String", "length", "()I"⟩, prog_17_method_54_code, 1, ((some .int)), false, 0, [771, 769, 770, 95]),
  (⟨"java/lang/String", "coder", "()B"⟩, prog_17_method_152_code, 1, ((some .byte)), false, 0, [775, 773, 774, 95]),
  (⟨"java/lang/String", "charAt", "(I)C"⟩, prog_17_method_56_code, 2, ((some .char)), false, 1, [781, 779, 780, 95]),
  (⟨"java/lang/String", "isLatin1", "()Z"⟩, prog_17_method_154_code, 1, ((some .boolean)), false, 0, [785, 783, 784, 95]),
  (⟨"java/lang/StringLatin1", "charAt", "([BI)C"⟩, prog_18_method_2_code, 2, ((some .char)), true, 2, [788, 787, 0, 96]),
  (⟨"java/lang/String", "checkIndex", "(II)V"⟩, prog_17_method_155_code, 2, none, true, 2, [791, 790, 0, 95]),
  (⟨"jdk/internal/util/Preconditions", "checkIndex", "(IILjava/util/function/BiFunction;)I"⟩, prog_22_method_11_code, 3, ((some .int)), true, 3, [796, 795, 0, 97]),
  (⟨"ToneHouse$Reader", "isDigit", "(I)Z"⟩, prog_6_method_18_code, 1, ((some .boolean)), true, 1, [826, 825, 0, 86]),
  (⟨"ToneHouse$Reader", "readNumber", "()LToneHouse$Token;"⟩, prog_6_method_15_code, 2, ((some (.object "ToneHouse$Token"))), false, 0, [830, 829, 22, 86]),
  (⟨"ToneHouse$Reader", "readRow", "()Z"⟩, prog_6_method_7_code, 4, ((some .boolean)), false, 0, [840, 839, 23, 86]),
  (⟨"ToneHouse$Score", "rowCount", "()I"⟩, prog_9_method_3_code, 1, ((some .int)), false, 0, [844, 842, 843, 88]),
  (⟨"ToneHouse$Reader", "holds", "(ZI)Z"⟩, prog_6_method_12_code, 3, ((some .boolean)), false, 2, [848, 847, 24, 86]),
  (⟨"ToneHouse$Score", "findRow", "(I)I"⟩, prog_9_method_11_code, 3, ((some .int)), false, 1, [852, 850, 851, 88]),
  (⟨"ToneHouse$Reader", "passes", "(LToneHouse$Token;)Z"⟩, prog_6_method_11_code, 2, ((some .boolean)), false, 1, [856, 855, 25, 86]),
  (⟨"ToneHouse$Reader", "readNotes", "()J"⟩, prog_6_method_8_code, 6, ((some .long)), false, 0, [860, 859, 26, 86]),
  (⟨"ToneHouse$Score", "addRow", "(IJ)V"⟩, prog_9_method_12_code, 4, none, false, 2, [865, 863, 864, 88]),
  (⟨"ToneHouse$Reader", "readVoice", "()Z"⟩, prog_6_method_9_code, 5, ((some .boolean)), false, 0, [869, 868, 27, 86]),
  (⟨"ToneHouse$Score", "voiceCount", "()I"⟩, prog_9_method_4_code, 1, ((some .int)), false, 0, [873, 871, 872, 88]),
  (⟨"java/lang/String", "indexOf", "(I)I"⟩, prog_17_method_79_code, 2, ((some .int)), false, 1, [878, 876, 877, 95]),
  (⟨"java/lang/String", "indexOf", "(II)I"⟩, prog_17_method_80_code, 3, ((some .int)), false, 2, [882, 880, 881, 95]),
  (⟨"java/lang/StringLatin1", "indexOf", "([BIII)I"⟩, prog_18_method_22_code, 4, ((some .int)), true, 4, [886, 885, 0, 96]),
  (⟨"java/lang/StringLatin1", "canEncode", "(I)Z"⟩, prog_18_method_4_code, 1, ((some .boolean)), true, 1, [889, 888, 0, 96]),
  (⟨"java/lang/StringLatin1", "indexOfChar", "([BIII)I"⟩, prog_18_method_23_code, 6, ((some .int)), true, 4, [896, 895, 0, 96]),
  (⟨"ToneHouse$Reader", "passesNumber", "(I)Z"⟩, prog_6_method_10_code, 2, ((some .boolean)), false, 1, [935, 934, 28, 86]),
  (⟨"ToneHouse$Score", "addVoice", "(IIII)V"⟩, prog_9_method_13_code, 5, none, false, 4, [939, 937, 938, 88]),
  (⟨"ToneHouse$Reader", "exchange", "(LToneHouse$Score;)LToneHouse$Score;"⟩, prog_6_method_5_code, 3, ((some (.object "ToneHouse$Score"))), false, 1, [943, 941, 942, 86]),
  (⟨"ToneHouse", "fault", "(I)I"⟩, prog_1_method_28_code, 2, ((some .int)), false, 1, [949, 947, 948, 80]),
  (⟨"ToneHouse$Reader", "faultKind", "()I"⟩, prog_6_method_3_code, 1, ((some .int)), false, 0, [953, 951, 952, 86]),
  (⟨"ToneHouse$Reader", "faultPlace", "()I"⟩, prog_6_method_4_code, 1, ((some .int)), false, 0, [957, 955, 956, 86]),
  (⟨"ToneHouse", "score", "(I)I"⟩, prog_1_method_29_code, 2, ((some .int)), false, 1, [961, 959, 960, 80]),
  (⟨"ToneHouse$Score", "allClashes", "(I)I"⟩, prog_9_method_17_code, 4, ((some .int)), false, 1, [966, 964, 965, 88]),
  (⟨"ToneHouse$Score", "clashesFrom", "(III)I"⟩, prog_9_method_16_code, 9, ((some .int)), false, 3, [970, 968, 969, 88]),
  (⟨"ToneHouse$Score", "sungRow", "(II)J"⟩, prog_9_method_14_code, 3, ((some .long)), false, 2, [974, 972, 973, 88]),
  (⟨"ToneHouse$Score", "sung", "(III)I"⟩, prog_9_method_15_code, 4, ((some .int)), false, 3, [979, 977, 978, 88]),
  (⟨"ToneHouse$Score", "beats", "(I)I"⟩, prog_9_method_18_code, 4, ((some .int)), false, 1, [985, 983, 984, 88]),
  (⟨"ToneHouse", "voice", "(II)I"⟩, prog_1_method_30_code, 3, ((some .int)), false, 2, [990, 988, 989, 80]),
  (⟨"ToneHouse$Score", "hasVoice", "(I)Z"⟩, prog_9_method_5_code, 2, ((some .boolean)), false, 1, [994, 992, 993, 88]),
  (⟨"ToneHouse$Score", "rowOf", "(I)I"⟩, prog_9_method_6_code, 2, ((some .int)), false, 1, [998, 996, 997, 88]),
  (⟨"ToneHouse$Score", "kindOf", "(I)I"⟩, prog_9_method_7_code, 2, ((some .int)), false, 1, [1002, 1000, 1001, 88]),
  (⟨"ToneHouse$Score", "turnOf", "(I)I"⟩, prog_9_method_8_code, 2, ((some .int)), false, 1, [1006, 1004, 1005, 88]),
  (⟨"ToneHouse$Score", "beginOf", "(I)I"⟩, prog_9_method_9_code, 2, ((some .int)), false, 1, [1010, 1008, 1009, 88]),
  (⟨"ToneHouse", "sings", "(II)I"⟩, prog_1_method_31_code, 3, ((some .int)), false, 2, [1015, 1013, 1014, 80]),
  (⟨"ToneHouse", "chord", "(I)I"⟩, prog_1_method_32_code, 5, ((some .int)), false, 1, [1020, 1018, 1019, 80]),
  (⟨"ToneHouse", "fit", "(II)I"⟩, prog_1_method_33_code, 7, ((some .int)), false, 2, [1024, 1022, 1023, 80]),
  (⟨"ToneHouse$Score", "moveTo", "(II)V"⟩, prog_9_method_10_code, 3, none, false, 2, [1028, 1026, 1027, 88]),
  (⟨"ToneHouse", "keep", "(II)Z"⟩, prog_1_method_34_code, 3, ((some .boolean)), false, 2, [1032, 1030, 1031, 80]),
  (⟨"ToneHouse", "write", "()I"⟩, prog_1_method_35_code, 1, ((some .int)), false, 0, [1037, 1035, 1036, 80]),
  (⟨"ToneHouse$Score", "writeTo", "(LToneHouse$ByteRow;I)V"⟩, prog_9_method_19_code, 4, none, false, 2, [1041, 1039, 1040, 88]),
  (⟨"ToneHouse$Score", "writeRow", "(LToneHouse$ByteRow;II)V"⟩, prog_9_method_20_code, 5, none, false, 3, [1045, 1044, 29, 88]),
  (⟨"ToneHouse$ByteRow", "addText", "(Ljava/lang/String;)V"⟩, prog_2_method_8_code, 3, none, false, 1, [1050, 1048, 1049, 87]),
  (⟨"ToneHouse$ByteRow", "addNumber", "(I)V"⟩, prog_2_method_9_code, 2, none, false, 1, [1056, 1054, 1055, 87]),
  (⟨"ToneHouse$Score", "writeVoice", "(LToneHouse$ByteRow;I)V"⟩, prog_9_method_21_code, 3, none, false, 2, [1061, 1060, 30, 88]),
  (⟨"ToneHouse", "out", "(I)I"⟩, prog_1_method_36_code, 2, ((some .int)), false, 1, [1070, 1068, 1069, 80]),
  (⟨"ToneHouse", "take", "()I"⟩, prog_1_method_37_code, 1, ((some .int)), false, 0, [1075, 1073, 1074, 80]),
  (⟨"ToneHouse$ByteRow", "copy", "(LToneHouse$ByteRow;)V"⟩, prog_2_method_5_code, 2, none, false, 1, [1079, 1077, 1078, 87]),
  (⟨"ToneHouseModel", "octave", "(I)Z"⟩, prog_12_method_11_code, 3, ((some .boolean)), false, 1, [1240, 1238, 1239, 92]),
  (⟨"ToneHouseModel", "image", "(III)I"⟩, prog_12_method_12_code, 4, ((some .int)), false, 3, [1244, 1242, 1243, 92]),
  (⟨"ToneHouseModel", "isSet", "(I)Z"⟩, prog_12_method_5_code, 2, ((some .boolean)), false, 1, [1248, 1247, 31, 92]),
  (⟨"ToneHouseModel", "isOf", "(II)Z"⟩, prog_12_method_7_code, 3, ((some .boolean)), false, 2, [1252, 1251, 32, 92]),
  (⟨"ToneHouseModel", "common", "(II)I"⟩, prog_12_method_6_code, 6, ((some .int)), false, 2, [1256, 1255, 33, 92]),
  (⟨"ToneHouseModel", "imageOf", "(III)I"⟩, prog_12_method_9_code, 6, ((some .int)), false, 3, [1260, 1259, 34, 92]),
  (⟨"ToneHouseModel", "has", "(II)Z"⟩, prog_12_method_3_code, 3, ((some .boolean)), false, 2, [1264, 1263, 35, 92]),
  (⟨"ToneHouseModel", "name", "(II)I"⟩, prog_12_method_13_code, 3, ((some .int)), false, 2, [1268, 1266, 1267, 92]),
  (⟨"ToneHouseModel", "isGroup", "(I)Z"⟩, prog_12_method_8_code, 2, ((some .boolean)), false, 1, [1272, 1271, 36, 92]),
  (⟨"ToneHouseModel", "nameIn", "(II)I"⟩, prog_12_method_10_code, 7, ((some .int)), false, 2, [1276, 1275, 37, 92]),
  (⟨"ToneHouseModel", "own", "(III)I"⟩, prog_12_method_14_code, 8, ((some .int)), false, 3, [1280, 1278, 1279, 92]),
  (⟨"ToneHouseModel", "images", "(III)I"⟩, prog_12_method_15_code, 8, ((some .int)), false, 3, [1284, 1283, 38, 92]),
  (⟨"ToneHouseModel", "classes", "(II)I"⟩, prog_12_method_17_code, 5, ((some .int)), false, 2, [1288, 1286, 1287, 92]),
  (⟨"ToneHouseModel", "isMany", "(II)Z"⟩, prog_12_method_16_code, 3, ((some .boolean)), false, 2, [1292, 1291, 39, 92]),
  (⟨"ToneHouseModel", "ones", "(I)I"⟩, prog_12_method_4_code, 4, ((some .int)), false, 1, [1296, 1295, 40, 92]),
  (⟨"ToneHouseModel", "nameOf", "(III)I"⟩, prog_12_method_18_code, 6, ((some .int)), false, 3, [1300, 1298, 1299, 92]),
  (⟨"ToneHouseModel", "interval", "(II)I"⟩, prog_12_method_21_code, 3, ((some .int)), false, 2, [1304, 1302, 1303, 92]),
  (⟨"ToneHouseModel", "pairs", "(II)I"⟩, prog_12_method_20_code, 6, ((some .int)), false, 2, [1308, 1307, 41, 92]),
  (⟨"ToneHouseModel", "apart", "(II)I"⟩, prog_12_method_19_code, 4, ((some .int)), false, 2, [1312, 1311, 42, 92]),
  (⟨"ToneHouseModel", "twin", "(I)I"⟩, prog_12_method_22_code, 6, ((some .int)), false, 1, [1316, 1314, 1315, 92]),
  (⟨"ToneHouseModel", "within", "(III)I"⟩, prog_12_method_23_code, 4, ((some .int)), false, 3, [1320, 1318, 1319, 92]),
  (⟨"ToneHouseModel", "lead", "(III)I"⟩, prog_12_method_26_code, 8, ((some .int)), false, 3, [1324, 1322, 1323, 92]),
  (⟨"ToneHouseModel", "pair", "(II)I"⟩, prog_12_method_25_code, 9, ((some .int)), false, 2, [1328, 1327, 43, 92]),
  (⟨"ToneHouseModel", "steps", "(II)I"⟩, prog_12_method_24_code, 3, ((some .int)), false, 2, [1332, 1331, 44, 92]),
  (⟨"ToneHouseModel", "road", "(II)I"⟩, prog_12_method_27_code, 11, ((some .int)), false, 2, [1336, 1334, 1335, 92]),
  (⟨"ToneHouseModel", "row", "(IJ)Z"⟩, prog_12_method_30_code, 7, ((some .boolean)), false, 2, [1340, 1338, 1339, 92]),
  (⟨"ToneHouseModel", "isSlot", "(I)Z"⟩, prog_12_method_28_code, 2, ((some .boolean)), false, 1, [1344, 1343, 45, 92]),
  (⟨"ToneHouseModel", "form", "(IIII)I"⟩, prog_12_method_34_code, 5, ((some .int)), false, 4, [1349, 1347, 1348, 92]),
  (⟨"ToneHouseModel", "hasRow", "(I)Z"⟩, prog_12_method_29_code, 2, ((some .boolean)), false, 1, [1353, 1352, 46, 92]),
  (⟨"ToneHouseModel", "isKind", "(I)Z"⟩, prog_12_method_33_code, 2, ((some .boolean)), false, 1, [1357, 1356, 47, 92]),
  (⟨"ToneHouseModel", "formOf", "(IIII)I"⟩, prog_12_method_32_code, 5, ((some .int)), false, 4, [1361, 1360, 48, 92]),
  (⟨"ToneHouseModel", "becomes", "(III)I"⟩, prog_12_method_31_code, 4, ((some .int)), false, 3, [1365, 1364, 49, 92]),
  (⟨"ToneHouseModel", "about", "(II)I"⟩, prog_12_method_37_code, 8, ((some .int)), false, 2, [1369, 1367, 1368, 92]),
  (⟨"ToneHouseModel", "isFull", "(I)Z"⟩, prog_12_method_36_code, 5, ((some .boolean)), false, 1, [1373, 1372, 50, 92]),
  (⟨"ToneHouseModel", "isSame", "(IIIII)Z"⟩, prog_12_method_35_code, 7, ((some .boolean)), false, 5, [1377, 1376, 51, 92]),
  (⟨"ToneHouseModel", "partners", "(II)I"⟩, prog_12_method_38_code, 8, ((some .int)), false, 2, [1381, 1379, 1380, 92]),
  (⟨"ToneHouseModel", "split", "(II)I"⟩, prog_12_method_39_code, 7, ((some .int)), false, 2, [1385, 1383, 1384, 92]),
  (⟨"ToneHouseModel", "full", "()I"⟩, prog_12_method_41_code, 1, ((some .int)), false, 0, [1389, 1387, 1388, 92]),
  (⟨"ToneHouseModel", "findFulls", "()V"⟩, prog_12_method_40_code, 8, none, false, 0, [1393, 1392, 52, 92]),
  (⟨"ToneHouseModel", "pick", "(II)Z"⟩, prog_12_method_42_code, 4, ((some .boolean)), false, 2, [1397, 1395, 1396, 92]),
  (⟨"ToneHouseModel", "rank", "(I)I"⟩, prog_12_method_43_code, 5, ((some .int)), false, 1, [1401, 1399, 1400, 92]),
  (⟨"ToneHouseModel", "fills", "(II)I"⟩, prog_12_method_49_code, 3, ((some .int)), false, 2, [1405, 1403, 1404, 92]),
  (⟨"ToneHouseModel", "isRound", "(II)Z"⟩, prog_12_method_44_code, 3, ((some .boolean)), false, 2, [1409, 1408, 53, 92]),
  (⟨"ToneHouseModel", "findEntries", "(II)V"⟩, prog_12_method_47_code, 9, none, false, 2, [1413, 1412, 54, 92]),
  (⟨"ToneHouseModel", "filled", "(III)I"⟩, prog_12_method_46_code, 4, ((some .int)), false, 3, [1417, 1416, 55, 92]),
  (⟨"ToneHouseModel", "later", "(III)I"⟩, prog_12_method_45_code, 4, ((some .int)), false, 3, [1421, 1420, 56, 92]),
  (⟨"ToneHouseModel", "put", "(I)V"⟩, prog_12_method_48_code, 3, none, false, 1, [1425, 1424, 57, 92]),
  (⟨"ToneHouseModel", "fill", "(III)I"⟩, prog_12_method_50_code, 4, ((some .int)), false, 3, [1429, 1427, 1428, 92]),
  (⟨"ToneHouseModel", "pure", "(II)I"⟩, prog_12_method_52_code, 5, ((some .int)), false, 2, [1433, 1431, 1432, 92]),
  (⟨"ToneHouseModel", "periodOf", "(II)I"⟩, prog_12_method_51_code, 4, ((some .int)), false, 2, [1437, 1436, 58, 92]),
  (⟨"ToneHouseModel", "period", "(II)I"⟩, prog_12_method_53_code, 3, ((some .int)), false, 2, [1441, 1439, 1440, 92]),
  (⟨"ToneHouseModel", "score", "(I)I"⟩, prog_12_method_58_code, 6, ((some .int)), false, 1, [1445, 1443, 1444, 92]),
  (⟨"ToneHouseModel", "between", "(II)I"⟩, prog_12_method_56_code, 5, ((some .int)), false, 2, [1449, 1448, 59, 92]),
  (⟨"ToneHouseModel", "sung", "(II)I"⟩, prog_12_method_55_code, 4, ((some .int)), false, 2, [1453, 1452, 60, 92]),
  (⟨"ToneHouseModel", "noteOf", "(II)I"⟩, prog_12_method_54_code, 3, ((some .int)), false, 2, [1457, 1456, 61, 92]),
  (⟨"ToneHouseModel", "voice", "(II)I"⟩, prog_12_method_60_code, 3, ((some .int)), false, 2, [1461, 1459, 1460, 92]),
  (⟨"ToneHouseModel", "isVoice", "(I)Z"⟩, prog_12_method_59_code, 2, ((some .boolean)), false, 1, [1465, 1464, 62, 92]),
  (⟨"ToneHouseModel", "clashesOf", "(I)I"⟩, prog_12_method_57_code, 4, ((some .int)), false, 1, [1469, 1468, 63, 92]),
  (⟨"ToneHouseModel", "sings", "(II)I"⟩, prog_12_method_62_code, 3, ((some .int)), false, 2, [1473, 1471, 1472, 92]),
  (⟨"ToneHouseModel", "isBeat", "(I)Z"⟩, prog_12_method_61_code, 2, ((some .boolean)), false, 1, [1477, 1476, 64, 92]),
  (⟨"ToneHouseModel", "chord", "(I)I"⟩, prog_12_method_63_code, 4, ((some .int)), false, 1, [1481, 1479, 1480, 92]),
  (⟨"ToneHouseModel", "fit", "(II)I"⟩, prog_12_method_64_code, 7, ((some .int)), false, 2, [1485, 1483, 1484, 92]),
  (⟨"ToneHouseModel", "keep", "(II)Z"⟩, prog_12_method_65_code, 4, ((some .boolean)), false, 2, [1489, 1487, 1488, 92]),
  (⟨"ToneHouseModel", "feed", "(IIIII)I"⟩, prog_12_method_67_code, 6, ((some .int)), false, 5, [1493, 1491, 1492, 92]),
  (⟨"ToneHouseModel", "lay", "(I)V"⟩, prog_12_method_66_code, 3, none, false, 1, [1497, 1496, 65, 92]),
  (⟨"ToneHouseModel", "end", "(I)I"⟩, prog_12_method_68_code, 2, ((some .int)), false, 1, [1501, 1499, 1500, 92]),
  (⟨"ToneHouseModel", "take", "()I"⟩, prog_12_method_69_code, 2, ((some .int)), false, 0, [1505, 1503, 1504, 92]),
  (⟨"ToneHouseModel", "out", "(I)I"⟩, prog_12_method_70_code, 2, ((some .int)), false, 1, [1509, 1507, 1508, 92]),
  (⟨"ToneHouseModel", "write", "()I"⟩, prog_12_method_74_code, 3, ((some .int)), false, 0, [1513, 1511, 1512, 92]),
  (⟨"ToneHouseModel", "say", "(I)V"⟩, prog_12_method_71_code, 2, none, false, 1, [1517, 1516, 66, 92]),
  (⟨"ToneHouseModel", "sayLetter", "(I)V"⟩, prog_12_method_73_code, 2, none, false, 1, [1521, 1520, 67, 92]),
  (⟨"ToneHouseModel", "sayNumber", "(I)V"⟩, prog_12_method_72_code, 2, none, false, 1, [1525, 1524, 68, 92]),
  (⟨"ToneHouseModel", "load", "()I"⟩, prog_12_method_85_code, 4, ((some .int)), false, 0, [1529, 1527, 1528, 92]),
  (⟨"ToneHouseModel", "reading", "()Z"⟩, prog_12_method_84_code, 1, ((some .boolean)), false, 0, [1533, 1532, 69, 92]),
  (⟨"ToneHouseModel", "next", "()V"⟩, prog_12_method_78_code, 3, none, false, 0, [1537, 1536, 70, 92]),
  (⟨"ToneHouseModel", "raw", "(I)I"⟩, prog_12_method_75_code, 2, ((some .int)), false, 1, [1541, 1540, 71, 92]),
  (⟨"ToneHouseModel", "isLetter", "(I)Z"⟩, prog_12_method_76_code, 2, ((some .boolean)), false, 1, [1545, 1544, 72, 92]),
  (⟨"ToneHouseModel", "isDigit", "(I)Z"⟩, prog_12_method_77_code, 2, ((some .boolean)), false, 1, [1549, 1548, 73, 92]),
  (⟨"ToneHouseModel", "readRow", "()Z"⟩, prog_12_method_82_code, 4, ((some .boolean)), false, 0, [1553, 1552, 74, 92]),
  (⟨"ToneHouseModel", "fails", "(I)Z"⟩, prog_12_method_79_code, 2, ((some .boolean)), false, 1, [1557, 1556, 75, 92]),
  (⟨"ToneHouseModel", "rowNamed", "(I)I"⟩, prog_12_method_80_code, 3, ((some .int)), false, 1, [1561, 1560, 76, 92]),
  (⟨"ToneHouseModel", "isSign", "(I)Z"⟩, prog_12_method_81_code, 2, ((some .boolean)), false, 1, [1565, 1564, 77, 92]),
  (⟨"ToneHouseModel", "readVoice", "()Z"⟩, prog_12_method_83_code, 3, ((some .boolean)), false, 0, [1569, 1568, 78, 92]),
  (⟨"ToneHouseModel", "fault", "(I)I"⟩, prog_12_method_86_code, 2, ((some .int)), false, 1, [1573, 1571, 1572, 92])]
def tt_NM : Nat := 244
def tt_m0 : tt_M := (⟨"", "", ""⟩, ⟨#[]⟩, 0, none, false, 0, [])
def tt_m (j : Nat) : tt_M := tt_ms.getD j tt_m0
def tt_y (j : Nat) : MethodName := (tt_m j).1
def tt_c (j : Nat) : ByteArray := (tt_m j).2.1
def tt_n (j : Nat) : Nat := (tt_m j).2.2.1
def tt_r (j : Nat) : Option FieldType := (tt_m j).2.2.2.1
def tt_s (j : Nat) : Bool := (tt_m j).2.2.2.2.1
def tt_p (j : Nat) : Nat := (tt_m j).2.2.2.2.2.1
def tt_h (j : Nat) : List Nat := (tt_m j).2.2.2.2.2.2
/-- java/util/Arrays.fill([JJ)V -/
def tt_t0 : List (Nat × tt_Op × Nat) := [(0, (7, 0, 0, []), 1), (1, (3, 3, 0, []), 1), (2, (2, 0, 0, []), 1), (3, (23, 0, 0, []), 1), (4, (3, 4, 0, []), 2), (6, (0, 3, 0, []), 1), (7, (0, 4, 0, []), 2), (9, (26, 22, 3, []), 3), (12, (2, 0, 0, []), 1), (13, (0, 3, 0, []), 1), (14, (1, 1, 0, []), 1), (15, (22, 1, 0, []), 1), (16, (6, 3, 1, []), 3), (19, (24, 6, 0, []), 3), (22, (29, 0, 0, []), 1)]
/-- ToneHouse.octave(I)Z -/
def tt_t1 : List (Nat × tt_Op × Nat) := [(0, (0, 1, 0, []), 1), (1, (7, 0, 3, []), 1), (2, (26, 11, 2, []), 3), (5, (0, 1, 0, []), 1), (6, (7, 0, 12, []), 2), (8, (26, 13, 5, []), 3), (11, (7, 0, 0, []), 1), (12, (29, 1, 0, []), 1), (13, (0, 1, 0, []), 1), (14, (2, 0, 0, []), 1), (15, (19, 0, 303, []), 3), (18, (30, 2, 1341, []), 3), (21, (26, 49, 0, []), 3), (24, (2, 0, 0, []), 1), (25, (19, 0, 303, []), 3), (28, (0, 1, 0, []), 1), (29, (30, 3, 1357, []), 3), (32, (2, 0, 0, []), 1), (33, (19, 5, 308, []), 3), (36, (8, 299, (-1), []), 3), (39, (30, 0, 1200, []), 3), (42, (2, 0, 0, []), 1), (43, (19, 8, 311, []), 3), (46, (30, 4, 1373, []), 3), (49, (7, 0, 1, []), 1), (50, (29, 1, 0, []), 1)]
/-- ToneHouse$Octave.size()I -/
def tt_t2 : List (Nat × tt_Op × Nat) := [(0, (2, 0, 0, []), 1), (1, (19, 64, 117, []), 3), (4, (29, 1, 0, []), 1)]
/-- ToneHouse$Octave.resize(I)V -/
def tt_t3 : List (Nat × tt_Op × Nat) := [(0, (2, 0, 0, []), 1), (1, (0, 1, 0, []), 1), (2, (20, 64, 117, []), 3), (5, (7, 0, 0, []), 1), (6, (3, 2, 0, []), 1), (7, (0, 2, 0, []), 1), (8, (7, 0, 3, []), 1), (9, (26, 25, 3, []), 3), (12, (2, 0, 0, []), 1), (13, (19, 66, 119, []), 3), (16, (0, 2, 0, []), 1), (17, (7, 0, 0, []), 1), (18, (22, 2, 0, []), 1), (19, (6, 2, 1, []), 3), (22, (24, 7, 0, []), 3), (25, (29, 0, 0, []), 1)]
/-- ToneHouse$Score.clear()V -/
def tt_t4 : List (Nat × tt_Op × Nat) := [(0, (2, 0, 0, []), 1), (1, (7, 0, 0, []), 1), (2, (20, 514, 242, []), 3), (5, (2, 0, 0, []), 1), (6, (7, 0, 0, []), 1), (7, (20, 519, 247, []), 3), (10, (29, 0, 0, []), 1)]
/-- ToneHouse.image(III)I -/
def tt_t5 : List (Nat × tt_Op × Nat) := [(0, (2, 0, 0, []), 1), (1, (19, 0, 303, []), 3), (4, (0, 1, 0, []), 1), (5, (30, 6, 1405, []), 3), (8, (25, 34, 0, []), 3), (11, (2, 0, 0, []), 1), (12, (19, 0, 303, []), 3), (15, (7, 0, 2, []), 1), (16, (0, 2, 0, []), 1), (17, (30, 7, 1421, []), 3), (20, (25, 34, 0, []), 3), (23, (2, 0, 0, []), 1), (24, (19, 0, 303, []), 3), (27, (0, 3, 0, []), 1), (28, (30, 9, 1453, []), 3), (31, (25, 36, 1, []), 3), (34, (7, 0, (-1), []), 1), (35, (29, 1, 0, []), 1), (36, (2, 0, 0, []), 1), (37, (19, 0, 303, []), 3), (40, (0, 1, 0, []), 1), (41, (0, 2, 0, []), 1), (42, (30, 10, 1469, []), 3), (45, (0, 3, 0, []), 1), (46, (2, 0, 0, []), 1), (47, (19, 0, 303, []), 3), (50, (30, 2, 1341, []), 3), (53, (30, 11, 1484, []), 3), (56, (29, 1, 0, []), 1)]
/-- ToneHouse$Octave.hasSet(I)Z -/
def tt_t6 : List (Nat × tt_Op × Nat) := [(0, (0, 1, 0, []), 1), (1, (25, 18, 2, []), 3), (4, (0, 1, 0, []), 1), (5, (7, 0, 1, []), 1), (6, (2, 0, 0, []), 1), (7, (19, 64, 117, []), 3), (10, (9, 6, 0, []), 1), (11, (26, 18, 3, []), 3), (14, (7, 0, 1, []), 1), (15, (24, 19, 0, []), 3), (18, (7, 0, 0, []), 1), (19, (29, 1, 0, []), 1)]
/-- ToneHouse$Octave.hasFactor(II)Z -/
def tt_t7 : List (Nat × tt_Op × Nat) := [(0, (0, 2, 0, []), 1), (1, (7, 0, 1, []), 1), (2, (26, 13, 2, []), 3), (5, (0, 2, 0, []), 1), (6, (2, 0, 0, []), 1), (7, (19, 64, 117, []), 3), (10, (26, 15, 2, []), 3), (13, (7, 0, 0, []), 1), (14, (29, 1, 0, []), 1), (15, (0, 1, 0, []), 1), (16, (7, 0, 2, []), 1), (17, (26, 26, 1, []), 3), (20, (2, 0, 0, []), 1), (21, (0, 2, 0, []), 1), (22, (30, 8, 1437, []), 3), (25, (29, 1, 0, []), 1), (26, (0, 2, 0, []), 1), (27, (7, 0, 1, []), 1), (28, (26, 46, 0, []), 3), (31, (0, 1, 0, []), 1), (32, (7, 0, 1, []), 1), (33, (26, 50, 1, []), 3), (36, (0, 2, 0, []), 1), (37, (2, 0, 0, []), 1), (38, (19, 64, 117, []), 3), (41, (7, 0, 1, []), 1), (42, (9, 1, 0, []), 1), (43, (26, 50, 1, []), 3), (46, (7, 0, 1, []), 1), (47, (24, 51, 0, []), 3), (50, (7, 0, 0, []), 1), (51, (29, 1, 0, []), 1)]
/-- ToneHouse$Octave.isCoprime(I)Z -/
def tt_t8 : List (Nat × tt_Op × Nat) := [(0, (7, 0, 2, []), 1), (1, (3, 2, 0, []), 1), (2, (0, 2, 0, []), 1), (3, (0, 1, 0, []), 1), (4, (26, 30, 4, []), 3), (7, (0, 1, 0, []), 1), (8, (0, 2, 0, []), 1), (9, (11, 0, 0, []), 1), (10, (25, 24, 1, []), 3), (13, (2, 0, 0, []), 1), (14, (19, 64, 117, []), 3), (17, (0, 2, 0, []), 1), (18, (11, 0, 0, []), 1), (19, (25, 24, 1, []), 3), (22, (7, 0, 0, []), 1), (23, (29, 1, 0, []), 1), (24, (6, 2, 1, []), 3), (27, (24, 2, 0, []), 3), (30, (7, 0, 1, []), 1), (31, (29, 1, 0, []), 1)]
/-- ToneHouse$Octave.hasNote(I)Z -/
def tt_t9 : List (Nat × tt_Op × Nat) := [(0, (0, 1, 0, []), 1), (1, (25, 16, 2, []), 3), (4, (0, 1, 0, []), 1), (5, (2, 0, 0, []), 1), (6, (19, 64, 117, []), 3), (9, (26, 16, 3, []), 3), (12, (7, 0, 1, []), 1), (13, (24, 17, 0, []), 3), (16, (7, 0, 0, []), 1), (17, (29, 1, 0, []), 1)]
/-- ToneHouse$Octave.multiplied(II)I -/
def tt_t10 : List (Nat × tt_Op × Nat) := [(0, (7, 0, 0, []), 1), (1, (3, 3, 0, []), 1), (2, (7, 0, 0, []), 1), (3, (3, 4, 0, []), 2), (5, (7, 0, 0, []), 1), (6, (3, 5, 0, []), 2), (8, (0, 5, 0, []), 2), (10, (2, 0, 0, []), 1), (11, (19, 64, 117, []), 3), (14, (26, 63, 3, []), 3), (17, (0, 1, 0, []), 1), (18, (0, 5, 0, []), 2), (20, (9, 7, 0, []), 1), (21, (7, 0, 1, []), 1), (22, (9, 3, 0, []), 1), (23, (25, 33, 0, []), 3), (26, (0, 3, 0, []), 1), (27, (7, 0, 1, []), 1), (28, (0, 4, 0, []), 2), (30, (9, 6, 0, []), 1), (31, (9, 4, 0, []), 1), (32, (3, 3, 0, []), 1), (33, (0, 4, 0, []), 2), (35, (0, 2, 0, []), 1), (36, (9, 0, 0, []), 1), (37, (3, 4, 0, []), 2), (39, (0, 4, 0, []), 2), (41, (2, 0, 0, []), 1), (42, (19, 64, 117, []), 3), (45, (26, 57, 2, []), 3), (48, (0, 4, 0, []), 2), (50, (2, 0, 0, []), 1), (51, (19, 64, 117, []), 3), (54, (9, 1, 0, []), 1), (55, (3, 4, 0, []), 2), (57, (6, 5, 1, []), 3), (60, (24, 8, 0, []), 3), (63, (0, 3, 0, []), 1), (64, (29, 1, 0, []), 1)]
/-- ToneHouse.turned(III)I -/
def tt_t11 : List (Nat × tt_Op × Nat) := [(0, (0, 0, 0, []), 1), (1, (0, 1, 0, []), 1), (2, (9, 6, 0, []), 1), (3, (0, 0, 0, []), 1), (4, (0, 2, 0, []), 1), (5, (0, 1, 0, []), 1), (6, (9, 1, 0, []), 1), (7, (9, 8, 0, []), 1), (8, (9, 4, 0, []), 1), (9, (7, 0, 1, []), 1), (10, (0, 2, 0, []), 1), (11, (9, 6, 0, []), 1), (12, (7, 0, 1, []), 1), (13, (9, 1, 0, []), 1), (14, (9, 3, 0, []), 1), (15, (29, 1, 0, []), 1)]
/-- ToneHouse.name(II)I -/
def tt_t12 : List (Nat × tt_Op × Nat) := [(0, (0, 1, 0, []), 1), (1, (30, 13, 1512, []), 3), (4, (25, 18, 0, []), 3), (7, (2, 0, 0, []), 1), (8, (19, 0, 303, []), 3), (11, (0, 2, 0, []), 1), (12, (30, 6, 1405, []), 3), (15, (25, 20, 1, []), 3), (18, (7, 0, (-1), []), 1), (19, (29, 1, 0, []), 1), (20, (2, 0, 0, []), 1), (21, (19, 0, 303, []), 3), (24, (0, 1, 0, []), 1), (25, (0, 2, 0, []), 1), (26, (30, 14, 1525, []), 3), (29, (29, 1, 0, []), 1)]
/-- ToneHouse.isGroup(I)Z -/
def tt_t13 : List (Nat × tt_Op × Nat) := [(0, (0, 0, 0, []), 1), (1, (25, 13, 2, []), 3), (4, (0, 0, 0, []), 1), (5, (7, 0, 3, []), 1), (6, (26, 13, 3, []), 3), (9, (7, 0, 1, []), 1), (10, (24, 14, 0, []), 3), (13, (7, 0, 0, []), 1), (14, (29, 1, 0, []), 1)]
/-- ToneHouse$Octave.leastImage(II)I -/
def tt_t14 : List (Nat × tt_Op × Nat) := [(0, (2, 0, 0, []), 1), (1, (0, 1, 0, []), 1), (2, (30, 15, 1541, []), 3), (5, (2, 0, 0, []), 1), (6, (19, 65, 118, []), 3), (9, (0, 1, 0, []), 1), (10, (21, 3, 0, []), 1), (11, (0, 2, 0, []), 1), (12, (21, 0, 0, []), 1), (13, (29, 1, 0, []), 1)]
/-- ToneHouse$Octave.nameAll(I)V -/
def tt_t15 : List (Nat × tt_Op × Nat) := [(0, (2, 0, 0, []), 1), (1, (19, 66, 119, []), 3), (4, (0, 1, 0, []), 1), (5, (21, 2, 0, []), 1), (6, (25, 10, 0, []), 3), (9, (29, 0, 0, []), 1), (10, (2, 0, 0, []), 1), (11, (19, 65, 118, []), 3), (14, (0, 1, 0, []), 1), (15, (21, 3, 0, []), 1), (16, (7, 0, (-1), []), 1), (17, (30, 16, 1556, []), 3), (20, (7, 0, 0, []), 1), (21, (3, 2, 0, []), 1), (22, (0, 2, 0, []), 1), (23, (7, 0, 1, []), 1), (24, (2, 0, 0, []), 1), (25, (19, 64, 117, []), 3), (28, (9, 6, 0, []), 1), (29, (26, 56, 3, []), 3), (32, (2, 0, 0, []), 1), (33, (19, 65, 118, []), 3), (36, (0, 1, 0, []), 1), (37, (21, 3, 0, []), 1), (38, (0, 2, 0, []), 1), (39, (21, 0, 0, []), 1), (40, (7, 0, (-1), []), 1), (41, (26, 50, 1, []), 3), (44, (2, 0, 0, []), 1), (45, (0, 1, 0, []), 1), (46, (0, 2, 0, []), 1), (47, (30, 17, 1569, []), 3), (50, (6, 2, 1, []), 3), (53, (24, 22, 0, []), 3), (56, (2, 0, 0, []), 1), (57, (19, 66, 119, []), 3), (60, (0, 1, 0, []), 1), (61, (7, 0, 1, []), 1), (62, (22, 2, 0, []), 1), (63, (29, 0, 0, []), 1)]
/-- java/util/Arrays.fill([II)V -/
def tt_t16 : List (Nat × tt_Op × Nat) := [(0, (7, 0, 0, []), 1), (1, (3, 2, 0, []), 1), (2, (2, 0, 0, []), 1), (3, (23, 0, 0, []), 1), (4, (3, 3, 0, []), 1), (5, (0, 2, 0, []), 1), (6, (0, 3, 0, []), 1), (7, (26, 20, 3, []), 3), (10, (2, 0, 0, []), 1), (11, (0, 2, 0, []), 1), (12, (0, 1, 0, []), 1), (13, (22, 0, 0, []), 1), (14, (6, 2, 1, []), 3), (17, (24, 5, 0, []), 3), (20, (29, 0, 0, []), 1)]
/-- ToneHouse$Octave.nameClass(II)V -/
def tt_t17 : List (Nat × tt_Op × Nat) := [(0, (7, 0, 1, []), 1), (1, (3, 3, 0, []), 1), (2, (0, 3, 0, []), 1), (3, (2, 0, 0, []), 1), (4, (19, 64, 117, []), 3), (7, (26, 73, 3, []), 3), (10, (2, 0, 0, []), 1), (11, (0, 1, 0, []), 1), (12, (0, 3, 0, []), 1), (13, (30, 7, 1585, []), 3), (16, (25, 22, 1, []), 3), (19, (24, 67, 0, []), 3), (22, (2, 0, 0, []), 1), (23, (0, 2, 0, []), 1), (24, (0, 3, 0, []), 1), (25, (30, 10, 1589, []), 3), (28, (3, 4, 0, []), 2), (30, (7, 0, 0, []), 1), (31, (3, 5, 0, []), 2), (33, (0, 5, 0, []), 2), (35, (2, 0, 0, []), 1), (36, (19, 64, 117, []), 3), (39, (26, 67, 3, []), 3), (42, (2, 0, 0, []), 1), (43, (19, 65, 118, []), 3), (46, (0, 1, 0, []), 1), (47, (21, 3, 0, []), 1), (48, (0, 4, 0, []), 2), (50, (0, 5, 0, []), 2), (52, (2, 0, 0, []), 1), (53, (19, 64, 117, []), 3), (56, (30, 11, 1594, []), 3), (59, (0, 2, 0, []), 1), (60, (22, 0, 0, []), 1), (61, (6, 5, 1, []), 3), (64, (24, 33, 0, []), 3), (67, (6, 3, 1, []), 3), (70, (24, 2, 0, []), 3), (73, (29, 0, 0, []), 1)]
/-- ToneHouse.own(III)I -/
def tt_t18 : List (Nat × tt_Op × Nat) := [(0, (0, 1, 0, []), 1), (1, (30, 13, 1512, []), 3), (4, (25, 18, 0, []), 3), (7, (2, 0, 0, []), 1), (8, (19, 0, 303, []), 3), (11, (0, 2, 0, []), 1), (12, (30, 6, 1405, []), 3), (15, (25, 20, 1, []), 3), (18, (7, 0, (-1), []), 1), (19, (29, 1, 0, []), 1), (20, (0, 3, 0, []), 1), (21, (28, 93, 0, [(0, 48), (1, 59), (2, 76)]), 27), (48, (2, 0, 0, []), 1), (49, (19, 0, 303, []), 3), (52, (0, 1, 0, []), 1), (53, (0, 2, 0, []), 1), (54, (0, 2, 0, []), 1), (55, (30, 19, 1613, []), 3), (58, (29, 1, 0, []), 1), (59, (2, 0, 0, []), 1), (60, (19, 0, 303, []), 3), (63, (0, 1, 0, []), 1), (64, (0, 2, 0, []), 1), (65, (2, 0, 0, []), 1), (66, (19, 0, 303, []), 3), (69, (30, 20, 1629, []), 3), (72, (30, 21, 1645, []), 3), (75, (29, 1, 0, []), 1), (76, (2, 0, 0, []), 1), (77, (19, 0, 303, []), 3), (80, (0, 1, 0, []), 1), (81, (0, 2, 0, []), 1), (82, (2, 0, 0, []), 1), (83, (19, 0, 303, []), 3), (86, (30, 20, 1629, []), 3), (89, (30, 19, 1613, []), 3), (92, (29, 1, 0, []), 1), (93, (7, 0, (-1), []), 1), (94, (29, 1, 0, []), 1)]
/-- ToneHouse$Octave.actsInto(III)I -/
def tt_t19 : List (Nat × tt_Op × Nat) := [(0, (7, 0, 0, []), 1), (1, (3, 4, 0, []), 2), (3, (7, 0, 1, []), 1), (4, (3, 5, 0, []), 2), (6, (0, 5, 0, []), 2), (8, (2, 0, 0, []), 1), (9, (19, 64, 117, []), 3), (12, (26, 82, 3, []), 3), (15, (2, 0, 0, []), 1), (16, (0, 1, 0, []), 1), (17, (0, 5, 0, []), 2), (19, (30, 7, 1585, []), 3), (22, (25, 28, 1, []), 3), (25, (24, 76, 0, []), 3), (28, (2, 0, 0, []), 1), (29, (0, 2, 0, []), 1), (30, (0, 5, 0, []), 2), (32, (30, 10, 1589, []), 3), (35, (3, 6, 0, []), 2), (37, (7, 0, 0, []), 1), (38, (3, 7, 0, []), 2), (40, (0, 7, 0, []), 2), (42, (2, 0, 0, []), 1), (43, (19, 64, 117, []), 3), (46, (26, 76, 3, []), 3), (49, (0, 6, 0, []), 2), (51, (0, 7, 0, []), 2), (53, (2, 0, 0, []), 1), (54, (19, 64, 117, []), 3), (57, (30, 11, 1594, []), 3), (60, (0, 3, 0, []), 1), (61, (7, 0, (-1), []), 1), (62, (9, 5, 0, []), 1), (63, (9, 3, 0, []), 1), (64, (25, 70, 1, []), 3), (67, (6, 4, 1, []), 3), (70, (6, 7, 1, []), 3), (73, (24, 40, 0, []), 3), (76, (6, 5, 1, []), 3), (79, (24, 6, 0, []), 3), (82, (0, 4, 0, []), 2), (84, (29, 1, 0, []), 1)]
/-- ToneHouse$Octave.allNotes()I -/
def tt_t20 : List (Nat × tt_Op × Nat) := [(0, (7, 0, 1, []), 1), (1, (2, 0, 0, []), 1), (2, (19, 64, 117, []), 3), (5, (9, 6, 0, []), 1), (6, (7, 0, 1, []), 1), (7, (9, 1, 0, []), 1), (8, (29, 1, 0, []), 1)]
/-- ToneHouse$Octave.imagesInto(III)I -/
def tt_t21 : List (Nat × tt_Op × Nat) := [(0, (2, 0, 0, []), 1), (1, (0, 1, 0, []), 1), (2, (0, 2, 0, []), 1), (3, (0, 2, 0, []), 1), (4, (30, 19, 1661, []), 3), (7, (3, 4, 0, []), 2), (9, (0, 4, 0, []), 2), (11, (25, 18, 1, []), 3), (14, (7, 0, (-1), []), 1), (15, (24, 28, 0, []), 3), (18, (2, 0, 0, []), 1), (19, (0, 1, 0, []), 1), (20, (0, 2, 0, []), 1), (21, (0, 3, 0, []), 1), (22, (30, 19, 1661, []), 3), (25, (0, 4, 0, []), 2), (27, (10, 0, 0, []), 1), (28, (29, 1, 0, []), 1)]
/-- ToneHouse.classes(II)I -/
def tt_t22 : List (Nat × tt_Op × Nat) := [(0, (0, 1, 0, []), 1), (1, (30, 13, 1512, []), 3), (4, (25, 22, 0, []), 3), (7, (0, 2, 0, []), 1), (8, (25, 22, 2, []), 3), (11, (0, 2, 0, []), 1), (12, (2, 0, 0, []), 1), (13, (19, 0, 303, []), 3), (16, (30, 2, 1341, []), 3), (19, (26, 24, 5, []), 3), (22, (7, 0, (-1), []), 1), (23, (29, 1, 0, []), 1), (24, (2, 0, 0, []), 1), (25, (19, 0, 303, []), 3), (28, (0, 1, 0, []), 1), (29, (0, 2, 0, []), 1), (30, (30, 23, 1681, []), 3), (33, (29, 1, 0, []), 1)]
/-- ToneHouse$Octave.countNames(II)I -/
def tt_t23 : List (Nat × tt_Op × Nat) := [(0, (2, 0, 0, []), 1), (1, (0, 1, 0, []), 1), (2, (30, 15, 1541, []), 3), (5, (7, 0, 0, []), 1), (6, (3, 3, 0, []), 1), (7, (7, 0, 0, []), 1), (8, (3, 4, 0, []), 2), (10, (0, 4, 0, []), 2), (12, (7, 0, 1, []), 1), (13, (2, 0, 0, []), 1), (14, (19, 64, 117, []), 3), (17, (9, 6, 0, []), 1), (18, (26, 41, 3, []), 3), (21, (2, 0, 0, []), 1), (22, (0, 1, 0, []), 1), (23, (0, 2, 0, []), 1), (24, (0, 4, 0, []), 2), (26, (30, 24, 1697, []), 3), (29, (25, 35, 0, []), 3), (32, (6, 3, 1, []), 3), (35, (6, 4, 1, []), 3), (38, (24, 10, 0, []), 3), (41, (0, 3, 0, []), 1), (42, (29, 1, 0, []), 1)]
/-- ToneHouse$Octave.isNameOfSize(III)Z -/
def tt_t24 : List (Nat × tt_Op × Nat) := [(0, (2, 0, 0, []), 1), (1, (19, 65, 118, []), 3), (4, (0, 1, 0, []), 1), (5, (21, 3, 0, []), 1), (6, (0, 3, 0, []), 1), (7, (21, 0, 0, []), 1), (8, (0, 3, 0, []), 1), (9, (26, 24, 1, []), 3), (12, (0, 3, 0, []), 1), (13, (30, 25, 1712, []), 3), (16, (0, 2, 0, []), 1), (17, (26, 24, 1, []), 3), (20, (7, 0, 1, []), 1), (21, (24, 25, 0, []), 3), (24, (7, 0, 0, []), 1), (25, (29, 1, 0, []), 1)]
/-- java/lang/Integer.bitCount(I)I -/
def tt_t25 : List (Nat × tt_Op × Nat) := [(0, (0, 0, 0, []), 1), (1, (0, 0, 0, []), 1), (2, (7, 0, 1, []), 1), (3, (9, 8, 0, []), 1), (4, (7, 431, 1431655765, []), 3), (7, (9, 3, 0, []), 1), (8, (9, 1, 0, []), 1), (9, (3, 0, 0, []), 1), (10, (0, 0, 0, []), 1), (11, (7, 432, 858993459, []), 3), (14, (9, 3, 0, []), 1), (15, (0, 0, 0, []), 1), (16, (7, 0, 2, []), 1), (17, (9, 8, 0, []), 1), (18, (7, 432, 858993459, []), 3), (21, (9, 3, 0, []), 1), (22, (9, 0, 0, []), 1), (23, (3, 0, 0, []), 1), (24, (0, 0, 0, []), 1), (25, (0, 0, 0, []), 1), (26, (7, 0, 4, []), 1), (27, (9, 8, 0, []), 1), (28, (9, 0, 0, []), 1), (29, (7, 433, 252645135, []), 3), (32, (9, 3, 0, []), 1), (33, (3, 0, 0, []), 1), (34, (0, 0, 0, []), 1), (35, (0, 0, 0, []), 1), (36, (7, 0, 8, []), 2), (38, (9, 8, 0, []), 1), (39, (9, 0, 0, []), 1), (40, (3, 0, 0, []), 1), (41, (0, 0, 0, []), 1), (42, (0, 0, 0, []), 1), (43, (7, 0, 16, []), 2), (45, (9, 8, 0, []), 1), (46, (9, 0, 0, []), 1), (47, (3, 0, 0, []), 1), (48, (0, 0, 0, []), 1), (49, (7, 0, 63, []), 2), (51, (9, 3, 0, []), 1), (52, (29, 1, 0, []), 1)]
/-- ToneHouse.nameOf(III)I -/
def tt_t26 : List (Nat × tt_Op × Nat) := [(0, (0, 1, 0, []), 1), (1, (30, 13, 1512, []), 3), (4, (25, 26, 0, []), 3), (7, (0, 2, 0, []), 1), (8, (25, 26, 2, []), 3), (11, (0, 2, 0, []), 1), (12, (2, 0, 0, []), 1), (13, (19, 0, 303, []), 3), (16, (30, 2, 1341, []), 3), (19, (26, 26, 4, []), 3), (22, (0, 3, 0, []), 1), (23, (25, 28, 3, []), 3), (26, (7, 0, (-1), []), 1), (27, (29, 1, 0, []), 1), (28, (2, 0, 0, []), 1), (29, (19, 0, 303, []), 3), (32, (0, 1, 0, []), 1), (33, (0, 2, 0, []), 1), (34, (0, 3, 0, []), 1), (35, (30, 27, 1753, []), 3), (38, (29, 1, 0, []), 1)]
/-- ToneHouse$Octave.findName(III)I -/
def tt_t27 : List (Nat × tt_Op × Nat) := [(0, (2, 0, 0, []), 1), (1, (0, 1, 0, []), 1), (2, (30, 15, 1541, []), 3), (5, (7, 0, 0, []), 1), (6, (3, 4, 0, []), 2), (8, (7, 0, 0, []), 1), (9, (3, 5, 0, []), 2), (11, (0, 5, 0, []), 2), (13, (7, 0, 1, []), 1), (14, (2, 0, 0, []), 1), (15, (19, 64, 117, []), 3), (18, (9, 6, 0, []), 1), (19, (26, 51, 3, []), 3), (22, (2, 0, 0, []), 1), (23, (0, 1, 0, []), 1), (24, (0, 2, 0, []), 1), (25, (0, 5, 0, []), 2), (27, (30, 24, 1697, []), 3), (30, (25, 45, 0, []), 3), (33, (0, 4, 0, []), 2), (35, (0, 3, 0, []), 1), (36, (26, 42, 1, []), 3), (39, (0, 5, 0, []), 2), (41, (29, 1, 0, []), 1), (42, (6, 4, 1, []), 3), (45, (6, 5, 1, []), 3), (48, (24, 11, 0, []), 3), (51, (7, 0, (-1), []), 1), (52, (29, 1, 0, []), 1)]
/-- ToneHouse.interval(II)I -/
def tt_t28 : List (Nat × tt_Op × Nat) := [(0, (2, 0, 0, []), 1), (1, (19, 0, 303, []), 3), (4, (0, 1, 0, []), 1), (5, (30, 6, 1405, []), 3), (8, (25, 29, 0, []), 3), (11, (0, 2, 0, []), 1), (12, (7, 0, 1, []), 1), (13, (26, 29, 2, []), 3), (16, (0, 2, 0, []), 1), (17, (2, 0, 0, []), 1), (18, (19, 0, 303, []), 3), (21, (30, 2, 1341, []), 3), (24, (7, 0, 2, []), 1), (25, (10, 0, 0, []), 1), (26, (26, 31, 5, []), 3), (29, (7, 0, (-1), []), 1), (30, (29, 1, 0, []), 1), (31, (2, 0, 0, []), 1), (32, (19, 0, 303, []), 3), (35, (0, 1, 0, []), 1), (36, (0, 2, 0, []), 1), (37, (30, 29, 1785, []), 3), (40, (29, 1, 0, []), 1)]
/-- ToneHouse$Octave.pairsApart(II)I -/
def tt_t29 : List (Nat × tt_Op × Nat) := [(0, (0, 1, 0, []), 1), (1, (0, 1, 0, []), 1), (2, (0, 2, 0, []), 1), (3, (2, 0, 0, []), 1), (4, (19, 64, 117, []), 3), (7, (30, 11, 1594, []), 3), (10, (9, 3, 0, []), 1), (11, (30, 25, 1712, []), 3), (14, (3, 3, 0, []), 1), (15, (7, 0, 2, []), 1), (16, (0, 2, 0, []), 1), (17, (9, 2, 0, []), 1), (18, (2, 0, 0, []), 1), (19, (19, 64, 117, []), 3), (22, (26, 31, 1, []), 3), (25, (0, 3, 0, []), 1), (26, (7, 0, 2, []), 1), (27, (10, 0, 0, []), 1), (28, (24, 32, 0, []), 3), (31, (0, 3, 0, []), 1), (32, (29, 1, 0, []), 1)]
/-- ToneHouse.twin(I)I -/
def tt_t30 : List (Nat × tt_Op × Nat) := [(0, (2, 0, 0, []), 1), (1, (19, 0, 303, []), 3), (4, (0, 1, 0, []), 1), (5, (30, 6, 1405, []), 3), (8, (25, 22, 0, []), 3), (11, (2, 0, 0, []), 1), (12, (19, 0, 303, []), 3), (15, (0, 1, 0, []), 1), (16, (30, 31, 1817, []), 3), (19, (24, 23, 0, []), 3), (22, (7, 0, (-1), []), 1), (23, (29, 1, 0, []), 1)]
/-- ToneHouse$Octave.leastTwin(I)I -/
def tt_t31 : List (Nat × tt_Op × Nat) := [(0, (2, 0, 0, []), 1), (1, (7, 0, 1, []), 1), (2, (30, 15, 1541, []), 3), (5, (0, 1, 0, []), 1), (6, (30, 25, 1712, []), 3), (9, (3, 2, 0, []), 1), (10, (7, 0, 0, []), 1), (11, (3, 3, 0, []), 1), (12, (0, 3, 0, []), 1), (13, (7, 0, 1, []), 1), (14, (2, 0, 0, []), 1), (15, (19, 64, 117, []), 3), (18, (9, 6, 0, []), 1), (19, (26, 73, 3, []), 3), (22, (2, 0, 0, []), 1), (23, (7, 0, 1, []), 1), (24, (0, 2, 0, []), 1), (25, (0, 3, 0, []), 1), (26, (30, 24, 1697, []), 3), (29, (25, 48, 0, []), 3), (32, (0, 3, 0, []), 1), (33, (2, 0, 0, []), 1), (34, (19, 65, 118, []), 3), (37, (7, 0, 1, []), 1), (38, (21, 3, 0, []), 1), (39, (0, 1, 0, []), 1), (40, (21, 0, 0, []), 1), (41, (26, 48, 0, []), 3), (44, (7, 0, 1, []), 1), (45, (24, 49, 0, []), 3), (48, (7, 0, 0, []), 1), (49, (3, 4, 0, []), 2), (51, (0, 4, 0, []), 2), (53, (25, 67, 0, []), 3), (56, (2, 0, 0, []), 1), (57, (0, 1, 0, []), 1), (58, (0, 3, 0, []), 1), (59, (30, 32, 1833, []), 3), (62, (25, 67, 0, []), 3), (65, (0, 3, 0, []), 1), (66, (29, 1, 0, []), 1), (67, (6, 3, 1, []), 3), (70, (24, 12, 0, []), 3), (73, (7, 0, (-1), []), 1), (74, (29, 1, 0, []), 1)]
/-- ToneHouse$Octave.haveSameIntervals(II)Z -/
def tt_t32 : List (Nat × tt_Op × Nat) := [(0, (7, 0, 1, []), 1), (1, (3, 3, 0, []), 1), (2, (0, 3, 0, []), 1), (3, (2, 0, 0, []), 1), (4, (19, 64, 117, []), 3), (7, (7, 0, 2, []), 1), (8, (10, 0, 0, []), 1), (9, (26, 35, 4, []), 3), (12, (2, 0, 0, []), 1), (13, (0, 1, 0, []), 1), (14, (0, 3, 0, []), 1), (15, (30, 29, 1849, []), 3), (18, (2, 0, 0, []), 1), (19, (0, 2, 0, []), 1), (20, (0, 3, 0, []), 1), (21, (30, 29, 1849, []), 3), (24, (26, 29, 0, []), 3), (27, (7, 0, 0, []), 1), (28, (29, 1, 0, []), 1), (29, (6, 3, 1, []), 3), (32, (24, 2, 0, []), 3), (35, (7, 0, 1, []), 1), (36, (29, 1, 0, []), 1)]
/-- ToneHouse.within(III)I -/
def tt_t33 : List (Nat × tt_Op × Nat) := [(0, (0, 1, 0, []), 1), (1, (30, 13, 1512, []), 3), (4, (25, 29, 0, []), 3), (7, (2, 0, 0, []), 1), (8, (19, 0, 303, []), 3), (11, (0, 2, 0, []), 1), (12, (30, 6, 1405, []), 3), (15, (25, 29, 0, []), 3), (18, (2, 0, 0, []), 1), (19, (19, 0, 303, []), 3), (22, (0, 3, 0, []), 1), (23, (30, 6, 1405, []), 3), (26, (25, 31, 1, []), 3), (29, (7, 0, (-1), []), 1), (30, (29, 1, 0, []), 1), (31, (2, 0, 0, []), 1), (32, (19, 0, 303, []), 3), (35, (0, 1, 0, []), 1), (36, (0, 2, 0, []), 1), (37, (0, 3, 0, []), 1), (38, (30, 21, 1645, []), 3), (41, (29, 1, 0, []), 1)]
/-- ToneHouse.lead(III)I -/
def tt_t34 : List (Nat × tt_Op × Nat) := [(0, (2, 0, 0, []), 1), (1, (19, 0, 303, []), 3), (4, (0, 1, 0, []), 1), (5, (0, 2, 0, []), 1), (6, (30, 35, 1885, []), 3), (9, (25, 26, 0, []), 3), (12, (0, 3, 0, []), 1), (13, (25, 26, 2, []), 3), (16, (0, 3, 0, []), 1), (17, (7, 0, 2, []), 1), (18, (0, 1, 0, []), 1), (19, (30, 25, 1904, []), 3), (22, (9, 0, 0, []), 1), (23, (26, 28, 2, []), 3), (26, (7, 0, (-1), []), 1), (27, (29, 1, 0, []), 1), (28, (2, 0, 0, []), 1), (29, (19, 1, 304, []), 3), (32, (2, 0, 0, []), 1), (33, (19, 0, 303, []), 3), (36, (30, 2, 1341, []), 3), (39, (0, 1, 0, []), 1), (40, (0, 2, 0, []), 1), (41, (30, 36, 1909, []), 3), (44, (0, 3, 0, []), 1), (45, (28, 88, 1, [(0, 72), (1, 80)]), 27), (72, (2, 0, 0, []), 1), (73, (19, 1, 304, []), 3), (76, (30, 43, 2045, []), 3), (79, (29, 1, 0, []), 1), (80, (2, 0, 0, []), 1), (81, (19, 1, 304, []), 3), (84, (30, 44, 2061, []), 3), (87, (29, 1, 0, []), 1), (88, (2, 0, 0, []), 1), (89, (19, 1, 304, []), 3), (92, (0, 3, 0, []), 1), (93, (7, 0, 2, []), 1), (94, (9, 1, 0, []), 1), (95, (30, 45, 2077, []), 3), (98, (29, 1, 0, []), 1)]
/-- ToneHouse$Octave.areOfOneSize(II)Z -/
def tt_t35 : List (Nat × tt_Op × Nat) := [(0, (2, 0, 0, []), 1), (1, (0, 1, 0, []), 1), (2, (30, 6, 1901, []), 3), (5, (25, 31, 0, []), 3), (8, (2, 0, 0, []), 1), (9, (0, 2, 0, []), 1), (10, (30, 6, 1901, []), 3), (13, (25, 31, 0, []), 3), (16, (0, 1, 0, []), 1), (17, (30, 25, 1712, []), 3), (20, (0, 2, 0, []), 1), (21, (30, 25, 1712, []), 3), (24, (26, 31, 1, []), 3), (27, (7, 0, 1, []), 1), (28, (24, 32, 0, []), 3), (31, (7, 0, 0, []), 1), (32, (29, 1, 0, []), 1)]
/-- ToneHouse$Leading.solve(III)V -/
def tt_t36 : List (Nat × tt_Op × Nat) := [(0, (2, 0, 0, []), 1), (1, (0, 1, 0, []), 1), (2, (20, 132, 139, []), 3), (5, (2, 0, 0, []), 1), (6, (0, 2, 0, []), 1), (7, (30, 25, 1924, []), 3), (10, (20, 133, 140, []), 3), (13, (2, 0, 0, []), 1), (14, (0, 2, 0, []), 1), (15, (2, 0, 0, []), 1), (16, (19, 130, 137, []), 3), (19, (30, 37, 1929, []), 3), (22, (2, 0, 0, []), 1), (23, (0, 3, 0, []), 1), (24, (2, 0, 0, []), 1), (25, (19, 131, 138, []), 3), (28, (30, 37, 1929, []), 3), (31, (7, 0, 1, []), 1), (32, (2, 0, 0, []), 1), (33, (19, 133, 140, []), 3), (36, (9, 6, 0, []), 1), (37, (7, 0, 1, []), 1), (38, (9, 1, 0, []), 1), (39, (3, 4, 0, []), 2), (41, (2, 0, 0, []), 1), (42, (19, 128, 135, []), 3), (45, (0, 4, 0, []), 2), (47, (7, 0, 0, []), 1), (48, (22, 0, 0, []), 1), (49, (2, 0, 0, []), 1), (50, (19, 129, 136, []), 3), (53, (0, 4, 0, []), 2), (55, (7, 0, 1, []), 1), (56, (22, 0, 0, []), 1), (57, (0, 4, 0, []), 2), (59, (7, 0, 1, []), 1), (60, (9, 1, 0, []), 1), (61, (3, 5, 0, []), 2), (63, (0, 5, 0, []), 2), (65, (25, 80, 2, []), 3), (68, (2, 0, 0, []), 1), (69, (0, 5, 0, []), 2), (71, (30, 41, 1985, []), 3), (74, (6, 5, (-1), []), 3), (77, (24, 63, 0, []), 3), (80, (29, 0, 0, []), 1)]
/-- ToneHouse$Leading.list(I[I)V -/
def tt_t37 : List (Nat × tt_Op × Nat) := [(0, (0, 1, 0, []), 1), (1, (3, 3, 0, []), 1), (2, (7, 0, 0, []), 1), (3, (3, 4, 0, []), 2), (5, (0, 4, 0, []), 2), (7, (2, 0, 0, []), 1), (8, (19, 133, 140, []), 3), (11, (26, 40, 3, []), 3), (14, (0, 4, 0, []), 2), (16, (2, 2, 0, []), 1), (17, (23, 0, 0, []), 1), (18, (26, 40, 3, []), 3), (21, (2, 2, 0, []), 1), (22, (0, 4, 0, []), 2), (24, (0, 3, 0, []), 1), (25, (30, 38, 1946, []), 3), (28, (22, 0, 0, []), 1), (29, (0, 3, 0, []), 1), (30, (30, 40, 1974, []), 3), (33, (3, 3, 0, []), 1), (34, (6, 4, 1, []), 3), (37, (24, 5, 0, []), 3), (40, (29, 0, 0, []), 1)]
/-- ToneHouse.leastMember(I)I -/
def tt_t38 : List (Nat × tt_Op × Nat) := [(0, (0, 0, 0, []), 1), (1, (30, 39, 1956, []), 3), (4, (29, 1, 0, []), 1)]
/-- java/lang/Integer.numberOfTrailingZeros(I)I -/
def tt_t39 : List (Nat × tt_Op × Nat) := [(0, (0, 0, 0, []), 1), (1, (7, 0, (-1), []), 1), (2, (9, 5, 0, []), 1), (3, (0, 0, 0, []), 1), (4, (7, 0, 1, []), 1), (5, (9, 1, 0, []), 1), (6, (9, 3, 0, []), 1), (7, (3, 0, 0, []), 1), (8, (0, 0, 0, []), 1), (9, (25, 17, 4, []), 3), (12, (0, 0, 0, []), 1), (13, (7, 0, 32, []), 2), (15, (9, 3, 0, []), 1), (16, (29, 1, 0, []), 1), (17, (7, 0, 1, []), 1), (18, (3, 1, 0, []), 1), (19, (0, 0, 0, []), 1), (20, (7, 492, 65536, []), 3), (23, (26, 34, 5, []), 3), (26, (6, 1, 16, []), 3), (29, (0, 0, 0, []), 1), (30, (7, 0, 16, []), 2), (32, (9, 8, 0, []), 1), (33, (3, 0, 0, []), 1), (34, (0, 0, 0, []), 1), (35, (7, 0, 256, []), 3), (38, (26, 49, 5, []), 3), (41, (6, 1, 8, []), 3), (44, (0, 0, 0, []), 1), (45, (7, 0, 8, []), 2), (47, (9, 8, 0, []), 1), (48, (3, 0, 0, []), 1), (49, (0, 0, 0, []), 1), (50, (7, 0, 16, []), 2), (52, (26, 62, 5, []), 3), (55, (6, 1, 4, []), 3), (58, (0, 0, 0, []), 1), (59, (7, 0, 4, []), 1), (60, (9, 8, 0, []), 1), (61, (3, 0, 0, []), 1), (62, (0, 0, 0, []), 1), (63, (7, 0, 4, []), 1), (64, (26, 74, 5, []), 3), (67, (6, 1, 2, []), 3), (70, (0, 0, 0, []), 1), (71, (7, 0, 2, []), 1), (72, (9, 8, 0, []), 1), (73, (3, 0, 0, []), 1), (74, (0, 1, 0, []), 1), (75, (0, 0, 0, []), 1), (76, (7, 0, 1, []), 1), (77, (9, 8, 0, []), 1), (78, (9, 0, 0, []), 1), (79, (29, 1, 0, []), 1)]
/-- ToneHouse.withoutLeast(I)I -/
def tt_t40 : List (Nat × tt_Op × Nat) := [(0, (0, 0, 0, []), 1), (1, (0, 0, 0, []), 1), (2, (7, 0, 1, []), 1), (3, (9, 1, 0, []), 1), (4, (9, 3, 0, []), 1), (5, (29, 1, 0, []), 1)]
/-- ToneHouse$Leading.weigh(I)V -/
def tt_t41 : List (Nat × tt_Op × Nat) := [(0, (0, 1, 0, []), 1), (1, (30, 25, 1924, []), 3), (4, (3, 2, 0, []), 1), (5, (7, 500, 2147483647, []), 2), (7, (3, 3, 0, []), 1), (8, (7, 0, 0, []), 1), (9, (3, 4, 0, []), 2), (11, (7, 0, 0, []), 1), (12, (3, 5, 0, []), 2), (14, (0, 5, 0, []), 2), (16, (2, 0, 0, []), 1), (17, (19, 133, 140, []), 3), (20, (26, 85, 3, []), 3), (23, (0, 1, 0, []), 1), (24, (0, 5, 0, []), 2), (26, (9, 7, 0, []), 1), (27, (7, 0, 1, []), 1), (28, (9, 3, 0, []), 1), (29, (25, 35, 0, []), 3), (32, (24, 79, 0, []), 3), (35, (2, 0, 0, []), 1), (36, (0, 1, 0, []), 1), (37, (0, 2, 0, []), 1), (38, (0, 5, 0, []), 2), (40, (30, 42, 2005, []), 3), (43, (3, 6, 0, []), 2), (45, (0, 6, 0, []), 2), (47, (0, 3, 0, []), 1), (48, (26, 57, 3, []), 3), (51, (0, 6, 0, []), 2), (53, (3, 3, 0, []), 1), (54, (7, 0, 0, []), 1), (55, (3, 4, 0, []), 2), (57, (0, 6, 0, []), 2), (59, (0, 3, 0, []), 1), (60, (26, 79, 1, []), 3), (63, (0, 4, 0, []), 2), (65, (2, 0, 0, []), 1), (66, (19, 129, 136, []), 3), (69, (0, 1, 0, []), 1), (70, (7, 0, 1, []), 1), (71, (0, 5, 0, []), 2), (73, (9, 6, 0, []), 1), (74, (9, 4, 0, []), 1), (75, (21, 0, 0, []), 1), (76, (9, 0, 0, []), 1), (77, (3, 4, 0, []), 2), (79, (6, 5, 1, []), 3), (82, (24, 14, 0, []), 3), (85, (2, 0, 0, []), 1), (86, (19, 128, 135, []), 3), (89, (0, 1, 0, []), 1), (90, (0, 3, 0, []), 1), (91, (22, 0, 0, []), 1), (92, (2, 0, 0, []), 1), (93, (19, 129, 136, []), 3), (96, (0, 1, 0, []), 1), (97, (0, 4, 0, []), 2), (99, (22, 0, 0, []), 1), (100, (29, 0, 0, []), 1)]
/-- ToneHouse$Leading.sumBy(III)I -/
def tt_t42 : List (Nat × tt_Op × Nat) := [(0, (2, 0, 0, []), 1), (1, (19, 130, 137, []), 3), (4, (0, 2, 0, []), 1), (5, (21, 0, 0, []), 1), (6, (2, 0, 0, []), 1), (7, (19, 131, 138, []), 3), (10, (0, 3, 0, []), 1), (11, (21, 0, 0, []), 1), (12, (9, 1, 0, []), 1), (13, (36, 0, 505, []), 3), (16, (3, 4, 0, []), 2), (18, (0, 4, 0, []), 2), (20, (2, 0, 0, []), 1), (21, (19, 132, 139, []), 3), (24, (0, 4, 0, []), 2), (26, (9, 1, 0, []), 1), (27, (36, 1, 508, []), 3), (30, (2, 0, 0, []), 1), (31, (19, 128, 135, []), 3), (34, (0, 1, 0, []), 1), (35, (7, 0, 1, []), 1), (36, (0, 3, 0, []), 1), (37, (9, 6, 0, []), 1), (38, (9, 4, 0, []), 1), (39, (21, 0, 0, []), 1), (40, (9, 0, 0, []), 1), (41, (29, 1, 0, []), 1)]
/-- ToneHouse$Leading.leastSum()I -/
def tt_t43 : List (Nat × tt_Op × Nat) := [(0, (2, 0, 0, []), 1), (1, (19, 128, 135, []), 3), (4, (7, 0, 0, []), 1), (5, (21, 0, 0, []), 1), (6, (29, 1, 0, []), 1)]
/-- ToneHouse$Leading.leastCount()I -/
def tt_t44 : List (Nat × tt_Op × Nat) := [(0, (2, 0, 0, []), 1), (1, (19, 129, 136, []), 3), (4, (7, 0, 0, []), 1), (5, (21, 0, 0, []), 1), (6, (29, 1, 0, []), 1)]
/-- ToneHouse$Leading.firstGoal(I)I -/
def tt_t45 : List (Nat × tt_Op × Nat) := [(0, (7, 0, 0, []), 1), (1, (3, 2, 0, []), 1), (2, (7, 0, (-1), []), 1), (3, (3, 3, 0, []), 1), (4, (7, 0, 0, []), 1), (5, (3, 4, 0, []), 2), (7, (0, 4, 0, []), 2), (9, (0, 1, 0, []), 1), (10, (26, 60, 4, []), 3), (13, (0, 4, 0, []), 2), (15, (2, 0, 0, []), 1), (16, (19, 133, 140, []), 3), (19, (26, 60, 3, []), 3), (22, (2, 0, 0, []), 1), (23, (0, 2, 0, []), 1), (24, (0, 4, 0, []), 2), (26, (30, 46, 2093, []), 3), (29, (3, 5, 0, []), 2), (31, (0, 5, 0, []), 2), (33, (7, 0, (-1), []), 1), (34, (26, 39, 1, []), 3), (37, (7, 0, (-1), []), 1), (38, (29, 1, 0, []), 1), (39, (2, 0, 0, []), 1), (40, (19, 131, 138, []), 3), (43, (0, 5, 0, []), 2), (45, (21, 0, 0, []), 1), (46, (3, 3, 0, []), 1), (47, (0, 2, 0, []), 1), (48, (7, 0, 1, []), 1), (49, (0, 5, 0, []), 2), (51, (9, 6, 0, []), 1), (52, (9, 4, 0, []), 1), (53, (3, 2, 0, []), 1), (54, (6, 4, 1, []), 3), (57, (24, 7, 0, []), 3), (60, (0, 3, 0, []), 1), (61, (29, 1, 0, []), 1)]
/-- ToneHouse$Leading.firstBest(II)I -/
def tt_t46 : List (Nat × tt_Op × Nat) := [(0, (7, 0, 0, []), 1), (1, (3, 3, 0, []), 1), (2, (0, 3, 0, []), 1), (3, (2, 0, 0, []), 1), (4, (19, 133, 140, []), 3), (7, (26, 42, 3, []), 3), (10, (0, 1, 0, []), 1), (11, (0, 3, 0, []), 1), (12, (9, 7, 0, []), 1), (13, (7, 0, 1, []), 1), (14, (9, 3, 0, []), 1), (15, (25, 36, 1, []), 3), (18, (2, 0, 0, []), 1), (19, (0, 1, 0, []), 1), (20, (0, 2, 0, []), 1), (21, (0, 3, 0, []), 1), (22, (30, 42, 2005, []), 3), (25, (2, 0, 0, []), 1), (26, (19, 128, 135, []), 3), (29, (0, 1, 0, []), 1), (30, (21, 0, 0, []), 1), (31, (26, 36, 1, []), 3), (34, (0, 3, 0, []), 1), (35, (29, 1, 0, []), 1), (36, (6, 3, 1, []), 3), (39, (24, 2, 0, []), 3), (42, (7, 0, (-1), []), 1), (43, (29, 1, 0, []), 1)]
/-- ToneHouse.road(II)I -/
def tt_t47 : List (Nat × tt_Op × Nat) := [(0, (2, 0, 0, []), 1), (1, (19, 0, 303, []), 3), (4, (0, 1, 0, []), 1), (5, (0, 2, 0, []), 1), (6, (30, 35, 1885, []), 3), (9, (25, 28, 0, []), 3), (12, (2, 0, 0, []), 1), (13, (19, 2, 305, []), 3), (16, (2, 0, 0, []), 1), (17, (19, 0, 303, []), 3), (20, (0, 1, 0, []), 1), (21, (0, 2, 0, []), 1), (22, (30, 48, 2125, []), 3), (25, (24, 29, 0, []), 3), (28, (7, 0, (-1), []), 1), (29, (29, 1, 0, []), 1)]
/-- ToneHouse$Roads.fewestMoves(LToneHouse$Octave;II)I -/
def tt_t48 : List (Nat × tt_Op × Nat) := [(0, (2, 0, 0, []), 1), (1, (19, 192, 160, []), 3), (4, (7, 0, (-1), []), 1), (5, (30, 16, 2140, []), 3), (8, (2, 0, 0, []), 1), (9, (7, 0, 0, []), 1), (10, (20, 194, 162, []), 3), (13, (2, 0, 0, []), 1), (14, (2, 1, 0, []), 1), (15, (0, 3, 0, []), 1), (16, (30, 49, 2145, []), 3), (19, (7, 0, 0, []), 1), (20, (3, 4, 0, []), 2), (22, (0, 4, 0, []), 2), (24, (2, 0, 0, []), 1), (25, (19, 194, 162, []), 3), (28, (26, 72, 3, []), 3), (31, (0, 4, 0, []), 2), (33, (2, 0, 0, []), 1), (34, (19, 193, 161, []), 3), (37, (23, 0, 0, []), 1), (38, (26, 72, 3, []), 3), (41, (2, 0, 0, []), 1), (42, (19, 192, 160, []), 3), (45, (0, 2, 0, []), 1), (46, (21, 0, 0, []), 1), (47, (7, 0, (-1), []), 1), (48, (26, 72, 1, []), 3), (51, (2, 0, 0, []), 1), (52, (2, 0, 0, []), 1), (53, (19, 193, 161, []), 3), (56, (0, 4, 0, []), 2), (58, (21, 0, 0, []), 1), (59, (2, 1, 0, []), 1), (60, (30, 2, 2161, []), 3), (63, (30, 51, 2189, []), 3), (66, (6, 4, 1, []), 3), (69, (24, 22, 0, []), 3), (72, (2, 0, 0, []), 1), (73, (19, 192, 160, []), 3), (76, (0, 2, 0, []), 1), (77, (21, 0, 0, []), 1), (78, (29, 1, 0, []), 1)]
/-- ToneHouse$Roads.startFromImages(LToneHouse$Octave;I)V -/
def tt_t49 : List (Nat × tt_Op × Nat) := [(0, (2, 1, 0, []), 1), (1, (30, 2, 2161, []), 3), (4, (3, 3, 0, []), 1), (5, (2, 1, 0, []), 1), (6, (0, 2, 0, []), 1), (7, (0, 3, 0, []), 1), (8, (7, 0, 1, []), 1), (9, (9, 1, 0, []), 1), (10, (30, 10, 2165, []), 3), (13, (3, 4, 0, []), 2), (15, (7, 0, 0, []), 1), (16, (3, 5, 0, []), 2), (18, (0, 5, 0, []), 2), (20, (0, 3, 0, []), 1), (21, (26, 55, 3, []), 3), (24, (2, 0, 0, []), 1), (25, (0, 2, 0, []), 1), (26, (0, 5, 0, []), 2), (28, (0, 3, 0, []), 1), (29, (30, 11, 2170, []), 3), (32, (7, 0, 0, []), 1), (33, (30, 50, 2173, []), 3), (36, (2, 0, 0, []), 1), (37, (0, 4, 0, []), 2), (39, (0, 5, 0, []), 2), (41, (0, 3, 0, []), 1), (42, (30, 11, 2170, []), 3), (45, (7, 0, 0, []), 1), (46, (30, 50, 2173, []), 3), (49, (6, 5, 1, []), 3), (52, (24, 18, 0, []), 3), (55, (29, 0, 0, []), 1)]
/-- ToneHouse$Roads.reach(II)V -/
def tt_t50 : List (Nat × tt_Op × Nat) := [(0, (2, 0, 0, []), 1), (1, (19, 192, 160, []), 3), (4, (0, 1, 0, []), 1), (5, (21, 0, 0, []), 1), (6, (7, 0, (-1), []), 1), (7, (26, 49, 1, []), 3), (10, (2, 0, 0, []), 1), (11, (19, 194, 162, []), 3), (14, (2, 0, 0, []), 1), (15, (19, 193, 161, []), 3), (18, (23, 0, 0, []), 1), (19, (26, 49, 3, []), 3), (22, (2, 0, 0, []), 1), (23, (19, 192, 160, []), 3), (26, (0, 1, 0, []), 1), (27, (0, 2, 0, []), 1), (28, (22, 0, 0, []), 1), (29, (2, 0, 0, []), 1), (30, (19, 193, 161, []), 3), (33, (2, 0, 0, []), 1), (34, (19, 194, 162, []), 3), (37, (0, 1, 0, []), 1), (38, (22, 0, 0, []), 1), (39, (2, 0, 0, []), 1), (40, (17, 0, 0, []), 1), (41, (19, 194, 162, []), 3), (44, (7, 0, 1, []), 1), (45, (9, 0, 0, []), 1), (46, (20, 194, 162, []), 3), (49, (29, 0, 0, []), 1)]
/-- ToneHouse$Roads.moveOn(II)V -/
def tt_t51 : List (Nat × tt_Op × Nat) := [(0, (7, 0, 0, []), 1), (1, (3, 3, 0, []), 1), (2, (0, 3, 0, []), 1), (3, (0, 2, 0, []), 1), (4, (26, 66, 3, []), 3), (7, (0, 3, 0, []), 1), (8, (7, 0, 1, []), 1), (9, (9, 0, 0, []), 1), (10, (0, 2, 0, []), 1), (11, (26, 20, 3, []), 3), (14, (0, 3, 0, []), 1), (15, (7, 0, 1, []), 1), (16, (9, 0, 0, []), 1), (17, (24, 21, 0, []), 3), (20, (7, 0, 0, []), 1), (21, (3, 4, 0, []), 2), (23, (7, 0, 1, []), 1), (24, (0, 3, 0, []), 1), (25, (9, 6, 0, []), 1), (26, (7, 0, 1, []), 1), (27, (0, 4, 0, []), 2), (29, (9, 6, 0, []), 1), (30, (9, 4, 0, []), 1), (31, (3, 5, 0, []), 2), (33, (0, 1, 0, []), 1), (34, (0, 5, 0, []), 2), (36, (9, 3, 0, []), 1), (37, (30, 25, 2204, []), 3), (40, (7, 0, 1, []), 1), (41, (26, 60, 1, []), 3), (44, (2, 0, 0, []), 1), (45, (0, 1, 0, []), 1), (46, (0, 5, 0, []), 2), (48, (9, 5, 0, []), 1), (49, (2, 0, 0, []), 1), (50, (19, 192, 160, []), 3), (53, (0, 1, 0, []), 1), (54, (21, 0, 0, []), 1), (55, (7, 0, 1, []), 1), (56, (9, 0, 0, []), 1), (57, (30, 50, 2173, []), 3), (60, (6, 3, 1, []), 3), (63, (24, 2, 0, []), 3), (66, (29, 0, 0, []), 1)]
/-- ToneHouse.row(IJ)Z -/
def tt_t52 : List (Nat × tt_Op × Nat) := [(0, (2, 0, 0, []), 1), (1, (19, 0, 303, []), 3), (4, (30, 2, 1341, []), 3), (7, (3, 4, 0, []), 2), (9, (1, 2, 0, []), 1), (10, (8, 0, 1, []), 1), (11, (7, 0, 4, []), 1), (12, (0, 4, 0, []), 2), (14, (9, 2, 0, []), 1), (15, (14, 0, 0, []), 1), (16, (8, 0, 1, []), 1), (17, (13, 1, 0, []), 1), (18, (13, 3, 0, []), 1), (19, (4, 5, 0, []), 2), (21, (0, 1, 0, []), 1), (22, (30, 53, 2224, []), 3), (25, (25, 38, 0, []), 3), (28, (1, 5, 0, []), 2), (30, (0, 4, 0, []), 2), (32, (30, 54, 2236, []), 3), (35, (25, 40, 1, []), 3), (38, (7, 0, 0, []), 1), (39, (29, 1, 0, []), 1), (40, (2, 0, 0, []), 1), (41, (19, 5, 308, []), 3), (44, (0, 1, 0, []), 1), (45, (1, 5, 0, []), 2), (47, (22, 1, 0, []), 1), (48, (7, 0, 1, []), 1), (49, (29, 1, 0, []), 1)]
/-- ToneHouse.isSlot(I)Z -/
def tt_t53 : List (Nat × tt_Op × Nat) := [(0, (0, 0, 0, []), 1), (1, (25, 14, 2, []), 3), (4, (0, 0, 0, []), 1), (5, (7, 0, 6, []), 2), (7, (26, 14, 3, []), 3), (10, (7, 0, 1, []), 1), (11, (24, 15, 0, []), 3), (14, (7, 0, 0, []), 1), (15, (29, 1, 0, []), 1)]
/-- ToneHouse.isRow(JI)Z -/
def tt_t54 : List (Nat × tt_Op × Nat) := [(0, (1, 0, 0, []), 1), (1, (7, 0, 0, []), 1), (2, (0, 2, 0, []), 1), (3, (30, 55, 2248, []), 3), (6, (7, 0, 1, []), 1), (7, (0, 2, 0, []), 1), (8, (9, 6, 0, []), 1), (9, (7, 0, 1, []), 1), (10, (9, 1, 0, []), 1), (11, (26, 18, 1, []), 3), (14, (7, 0, 1, []), 1), (15, (24, 19, 0, []), 3), (18, (7, 0, 0, []), 1), (19, (29, 1, 0, []), 1)]
/-- ToneHouse.notesOf(JII)I -/
def tt_t55 : List (Nat × tt_Op × Nat) := [(0, (7, 0, 0, []), 1), (1, (3, 4, 0, []), 2), (3, (0, 2, 0, []), 1), (4, (3, 5, 0, []), 2), (6, (0, 5, 0, []), 2), (8, (0, 2, 0, []), 1), (9, (0, 3, 0, []), 1), (10, (9, 0, 0, []), 1), (11, (26, 33, 3, []), 3), (14, (0, 4, 0, []), 2), (16, (7, 0, 1, []), 1), (17, (1, 0, 0, []), 1), (18, (0, 5, 0, []), 2), (20, (30, 56, 2260, []), 3), (23, (9, 6, 0, []), 1), (24, (9, 4, 0, []), 1), (25, (3, 4, 0, []), 2), (27, (6, 5, 1, []), 3), (30, (24, 6, 0, []), 3), (33, (0, 4, 0, []), 2), (35, (29, 1, 0, []), 1)]
/-- ToneHouse.noteAt(JI)I -/
def tt_t56 : List (Nat × tt_Op × Nat) := [(0, (1, 0, 0, []), 1), (1, (7, 0, 4, []), 1), (2, (0, 2, 0, []), 1), (3, (9, 2, 0, []), 1), (4, (14, 2, 0, []), 1), (5, (16, 1, 0, []), 1), (6, (7, 0, 15, []), 2), (8, (9, 3, 0, []), 1), (9, (29, 1, 0, []), 1)]
/-- ToneHouse.form(IIII)I -/
def tt_t57 : List (Nat × tt_Op × Nat) := [(0, (2, 0, 0, []), 1), (1, (0, 1, 0, []), 1), (2, (30, 58, 2289, []), 3), (5, (25, 38, 0, []), 3), (8, (0, 2, 0, []), 1), (9, (30, 59, 2304, []), 3), (12, (25, 38, 0, []), 3), (15, (2, 0, 0, []), 1), (16, (19, 0, 303, []), 3), (19, (0, 3, 0, []), 1), (20, (30, 9, 1453, []), 3), (23, (25, 38, 0, []), 3), (26, (2, 0, 0, []), 1), (27, (19, 0, 303, []), 3), (30, (0, 4, 0, []), 2), (32, (30, 9, 1453, []), 3), (35, (25, 40, 1, []), 3), (38, (7, 0, (-1), []), 1), (39, (29, 1, 0, []), 1), (40, (2, 0, 0, []), 1), (41, (19, 5, 308, []), 3), (44, (0, 1, 0, []), 1), (45, (21, 1, 0, []), 1), (46, (2, 0, 0, []), 1), (47, (19, 0, 303, []), 3), (50, (30, 2, 1341, []), 3), (53, (0, 2, 0, []), 1), (54, (0, 3, 0, []), 1), (55, (0, 4, 0, []), 2), (57, (30, 60, 2316, []), 3), (60, (29, 1, 0, []), 1)]
/-- ToneHouse.hasRow(I)Z -/
def tt_t58 : List (Nat × tt_Op × Nat) := [(0, (0, 1, 0, []), 1), (1, (30, 53, 2224, []), 3), (4, (25, 24, 0, []), 3), (7, (2, 0, 0, []), 1), (8, (19, 5, 308, []), 3), (11, (0, 1, 0, []), 1), (12, (21, 1, 0, []), 1), (13, (8, 299, (-1), []), 3), (16, (15, 0, 0, []), 1), (17, (25, 24, 0, []), 3), (20, (7, 0, 1, []), 1), (21, (24, 25, 0, []), 3), (24, (7, 0, 0, []), 1), (25, (29, 1, 0, []), 1)]
/-- ToneHouse.isKind(I)Z -/
def tt_t59 : List (Nat × tt_Op × Nat) := [(0, (0, 0, 0, []), 1), (1, (25, 13, 2, []), 3), (4, (0, 0, 0, []), 1), (5, (7, 0, 4, []), 1), (6, (26, 13, 3, []), 3), (9, (7, 0, 1, []), 1), (10, (24, 14, 0, []), 3), (13, (7, 0, 0, []), 1), (14, (29, 1, 0, []), 1)]
/-- ToneHouse.formNote(JIIII)I -/
def tt_t60 : List (Nat × tt_Op × Nat) := [(0, (1, 0, 0, []), 1), (1, (0, 3, 0, []), 1), (2, (7, 0, 2, []), 1), (3, (26, 11, 3, []), 3), (6, (0, 5, 0, []), 2), (8, (24, 17, 0, []), 3), (11, (0, 2, 0, []), 1), (12, (7, 0, 1, []), 1), (13, (9, 1, 0, []), 1), (14, (0, 5, 0, []), 2), (16, (9, 1, 0, []), 1), (17, (30, 56, 2260, []), 3), (20, (3, 6, 0, []), 2), (22, (0, 3, 0, []), 1), (23, (7, 0, 2, []), 1), (24, (11, 0, 0, []), 1), (25, (25, 36, 1, []), 3), (28, (0, 6, 0, []), 2), (30, (0, 4, 0, []), 2), (32, (9, 0, 0, []), 1), (33, (24, 41, 0, []), 3), (36, (0, 4, 0, []), 2), (38, (0, 6, 0, []), 2), (40, (9, 1, 0, []), 1), (41, (3, 7, 0, []), 2), (43, (0, 7, 0, []), 2), (45, (25, 53, 3, []), 3), (48, (0, 7, 0, []), 2), (50, (0, 2, 0, []), 1), (51, (9, 0, 0, []), 1), (52, (29, 1, 0, []), 1), (53, (0, 7, 0, []), 2), (55, (0, 2, 0, []), 1), (56, (26, 64, 3, []), 3), (59, (0, 7, 0, []), 2), (61, (24, 68, 0, []), 3), (64, (0, 7, 0, []), 2), (66, (0, 2, 0, []), 1), (67, (9, 1, 0, []), 1), (68, (29, 1, 0, []), 1)]
/-- ToneHouse.about(II)I -/
def tt_t61 : List (Nat × tt_Op × Nat) := [(0, (2, 0, 0, []), 1), (1, (0, 1, 0, []), 1), (2, (30, 58, 2289, []), 3), (5, (25, 10, 1, []), 3), (8, (7, 0, (-1), []), 1), (9, (29, 1, 0, []), 1), (10, (2, 0, 0, []), 1), (11, (19, 0, 303, []), 3), (14, (30, 2, 1341, []), 3), (17, (3, 3, 0, []), 1), (18, (0, 2, 0, []), 1), (19, (28, 102, 0, [(0, 44), (1, 55), (2, 74)]), 25), (44, (2, 0, 0, []), 1), (45, (19, 5, 308, []), 3), (48, (0, 1, 0, []), 1), (49, (21, 1, 0, []), 1), (50, (0, 3, 0, []), 1), (51, (30, 62, 2344, []), 3), (54, (29, 1, 0, []), 1), (55, (2, 0, 0, []), 1), (56, (19, 5, 308, []), 3), (59, (0, 1, 0, []), 1), (60, (21, 1, 0, []), 1), (61, (0, 3, 0, []), 1), (62, (30, 64, 2368, []), 3), (65, (25, 72, 0, []), 3), (68, (7, 0, 1, []), 1), (69, (24, 73, 0, []), 3), (72, (7, 0, 0, []), 1), (73, (29, 1, 0, []), 1), (74, (2, 0, 0, []), 1), (75, (19, 5, 308, []), 3), (78, (0, 1, 0, []), 1), (79, (21, 1, 0, []), 1), (80, (0, 3, 0, []), 1), (81, (30, 62, 2344, []), 3), (84, (3, 4, 0, []), 2), (86, (0, 4, 0, []), 2), (88, (25, 95, 1, []), 3), (91, (7, 0, (-1), []), 1), (92, (24, 101, 0, []), 3), (95, (7, 0, 4, []), 1), (96, (0, 3, 0, []), 1), (97, (9, 2, 0, []), 1), (98, (0, 4, 0, []), 2), (100, (10, 0, 0, []), 1), (101, (29, 1, 0, []), 1), (102, (7, 0, (-1), []), 1), (103, (29, 1, 0, []), 1)]
/-- ToneHouse.formsLikeItself(JI)I -/
def tt_t62 : List (Nat × tt_Op × Nat) := [(0, (7, 0, 0, []), 1), (1, (3, 3, 0, []), 1), (2, (7, 0, 0, []), 1), (3, (3, 4, 0, []), 2), (5, (0, 4, 0, []), 2), (7, (7, 0, 4, []), 1), (8, (26, 49, 3, []), 3), (11, (7, 0, 0, []), 1), (12, (3, 5, 0, []), 2), (14, (0, 5, 0, []), 2), (16, (0, 2, 0, []), 1), (17, (26, 43, 3, []), 3), (20, (1, 0, 0, []), 1), (21, (0, 2, 0, []), 1), (22, (0, 4, 0, []), 2), (24, (0, 5, 0, []), 2), (26, (30, 63, 2356, []), 3), (29, (1, 0, 0, []), 1), (30, (15, 0, 0, []), 1), (31, (25, 37, 1, []), 3), (34, (6, 3, 1, []), 3), (37, (6, 5, 1, []), 3), (40, (24, 14, 0, []), 3), (43, (6, 4, 1, []), 3), (46, (24, 5, 0, []), 3), (49, (0, 3, 0, []), 1), (50, (29, 1, 0, []), 1)]
/-- ToneHouse.formOf(JIII)J -/
def tt_t63 : List (Nat × tt_Op × Nat) := [(0, (8, 0, 0, []), 1), (1, (4, 5, 0, []), 2), (3, (7, 0, 0, []), 1), (4, (3, 7, 0, []), 2), (6, (0, 7, 0, []), 2), (8, (0, 2, 0, []), 1), (9, (26, 39, 3, []), 3), (12, (1, 5, 0, []), 2), (14, (1, 0, 0, []), 1), (15, (0, 2, 0, []), 1), (16, (0, 3, 0, []), 1), (17, (0, 4, 0, []), 2), (19, (0, 7, 0, []), 2), (21, (30, 60, 2316, []), 3), (24, (16, 0, 0, []), 1), (25, (7, 0, 4, []), 1), (26, (0, 7, 0, []), 2), (28, (9, 2, 0, []), 1), (29, (14, 0, 0, []), 1), (30, (13, 4, 0, []), 1), (31, (4, 5, 0, []), 2), (33, (6, 7, 1, []), 3), (36, (24, 6, 0, []), 3), (39, (1, 5, 0, []), 2), (41, (29, 2, 0, []), 1)]
/-- ToneHouse.isFull(JI)Z -/
def tt_t64 : List (Nat × tt_Op × Nat) := [(0, (7, 0, 0, []), 1), (1, (3, 3, 0, []), 1), (2, (7, 0, 1, []), 1), (3, (3, 4, 0, []), 2), (5, (0, 4, 0, []), 2), (7, (0, 2, 0, []), 1), (8, (26, 40, 3, []), 3), (11, (0, 3, 0, []), 1), (12, (7, 0, 1, []), 1), (13, (1, 0, 0, []), 1), (14, (0, 4, 0, []), 2), (16, (7, 0, 1, []), 1), (17, (9, 1, 0, []), 1), (18, (30, 56, 2260, []), 3), (21, (1, 0, 0, []), 1), (22, (0, 4, 0, []), 2), (24, (30, 56, 2260, []), 3), (27, (0, 2, 0, []), 1), (28, (30, 65, 2380, []), 3), (31, (9, 6, 0, []), 1), (32, (9, 4, 0, []), 1), (33, (3, 3, 0, []), 1), (34, (6, 4, 1, []), 3), (37, (24, 5, 0, []), 3), (40, (0, 3, 0, []), 1), (41, (30, 25, 1904, []), 3), (44, (0, 2, 0, []), 1), (45, (7, 0, 1, []), 1), (46, (9, 1, 0, []), 1), (47, (26, 54, 1, []), 3), (50, (7, 0, 1, []), 1), (51, (24, 55, 0, []), 3), (54, (7, 0, 0, []), 1), (55, (29, 1, 0, []), 1)]
/-- ToneHouse.gap(III)I -/
def tt_t65 : List (Nat × tt_Op × Nat) := [(0, (0, 1, 0, []), 1), (1, (0, 0, 0, []), 1), (2, (26, 13, 3, []), 3), (5, (0, 1, 0, []), 1), (6, (0, 0, 0, []), 1), (7, (9, 1, 0, []), 1), (8, (0, 2, 0, []), 1), (9, (9, 0, 0, []), 1), (10, (24, 16, 0, []), 3), (13, (0, 1, 0, []), 1), (14, (0, 0, 0, []), 1), (15, (9, 1, 0, []), 1), (16, (29, 1, 0, []), 1)]
/-- ToneHouse.partners(II)I -/
def tt_t66 : List (Nat × tt_Op × Nat) := [(0, (2, 0, 0, []), 1), (1, (19, 0, 303, []), 3), (4, (30, 2, 1341, []), 3), (7, (3, 3, 0, []), 1), (8, (2, 0, 0, []), 1), (9, (0, 1, 0, []), 1), (10, (30, 58, 2289, []), 3), (13, (25, 29, 0, []), 3), (16, (0, 2, 0, []), 1), (17, (30, 59, 2304, []), 3), (20, (25, 29, 0, []), 3), (23, (0, 3, 0, []), 1), (24, (7, 0, 2, []), 1), (25, (11, 0, 0, []), 1), (26, (25, 31, 0, []), 3), (29, (7, 0, (-1), []), 1), (30, (29, 1, 0, []), 1), (31, (2, 0, 0, []), 1), (32, (19, 5, 308, []), 3), (35, (0, 1, 0, []), 1), (36, (21, 1, 0, []), 1), (37, (7, 0, 0, []), 1), (38, (0, 3, 0, []), 1), (39, (7, 0, 2, []), 1), (40, (10, 0, 0, []), 1), (41, (30, 55, 2248, []), 3), (44, (3, 4, 0, []), 2), (46, (7, 0, 0, []), 1), (47, (3, 5, 0, []), 2), (49, (7, 0, 0, []), 1), (50, (3, 6, 0, []), 2), (52, (0, 6, 0, []), 2), (54, (0, 3, 0, []), 1), (55, (26, 99, 3, []), 3), (58, (2, 0, 0, []), 1), (59, (19, 5, 308, []), 3), (62, (0, 1, 0, []), 1), (63, (21, 1, 0, []), 1), (64, (0, 3, 0, []), 1), (65, (0, 2, 0, []), 1), (66, (0, 6, 0, []), 2), (68, (30, 63, 2356, []), 3), (71, (7, 0, 0, []), 1), (72, (0, 3, 0, []), 1), (73, (7, 0, 2, []), 1), (74, (10, 0, 0, []), 1), (75, (30, 55, 2248, []), 3), (78, (0, 4, 0, []), 2), (80, (9, 3, 0, []), 1), (81, (25, 93, 1, []), 3), (84, (0, 5, 0, []), 2), (86, (7, 0, 1, []), 1), (87, (0, 6, 0, []), 2), (89, (9, 6, 0, []), 1), (90, (9, 4, 0, []), 1), (91, (3, 5, 0, []), 2), (93, (6, 6, 1, []), 3), (96, (24, 52, 0, []), 3), (99, (0, 5, 0, []), 2), (101, (29, 1, 0, []), 1)]
/-- ToneHouse.split(II)I -/
def tt_t67 : List (Nat × tt_Op × Nat) := [(0, (2, 0, 0, []), 1), (1, (19, 0, 303, []), 3), (4, (30, 2, 1341, []), 3), (7, (3, 3, 0, []), 1), (8, (2, 0, 0, []), 1), (9, (0, 1, 0, []), 1), (10, (30, 58, 2289, []), 3), (13, (25, 27, 0, []), 3), (16, (0, 2, 0, []), 1), (17, (7, 0, 1, []), 1), (18, (26, 27, 2, []), 3), (21, (0, 3, 0, []), 1), (22, (0, 2, 0, []), 1), (23, (11, 0, 0, []), 1), (24, (25, 29, 0, []), 3), (27, (7, 0, (-1), []), 1), (28, (29, 1, 0, []), 1), (29, (2, 0, 0, []), 1), (30, (19, 0, 303, []), 3), (33, (7, 0, 1, []), 1), (34, (2, 0, 0, []), 1), (35, (19, 5, 308, []), 3), (38, (0, 1, 0, []), 1), (39, (21, 1, 0, []), 1), (40, (7, 0, 0, []), 1), (41, (0, 2, 0, []), 1), (42, (30, 55, 2248, []), 3), (45, (30, 14, 1525, []), 3), (48, (3, 4, 0, []), 2), (50, (0, 2, 0, []), 1), (51, (3, 5, 0, []), 2), (53, (0, 5, 0, []), 2), (55, (0, 3, 0, []), 1), (56, (26, 95, 3, []), 3), (59, (2, 0, 0, []), 1), (60, (19, 0, 303, []), 3), (63, (7, 0, 1, []), 1), (64, (2, 0, 0, []), 1), (65, (19, 5, 308, []), 3), (68, (0, 1, 0, []), 1), (69, (21, 1, 0, []), 1), (70, (0, 5, 0, []), 2), (72, (0, 2, 0, []), 1), (73, (30, 55, 2248, []), 3), (76, (30, 14, 1525, []), 3), (79, (0, 4, 0, []), 2), (81, (26, 86, 0, []), 3), (84, (7, 0, 0, []), 1), (85, (29, 1, 0, []), 1), (86, (0, 5, 0, []), 2), (88, (0, 2, 0, []), 1), (89, (9, 0, 0, []), 1), (90, (3, 5, 0, []), 2), (92, (24, 53, 0, []), 3), (95, (7, 0, 1, []), 1), (96, (29, 1, 0, []), 1)]
/-- ToneHouse.full()I -/
def tt_t68 : List (Nat × tt_Op × Nat) := [(0, (2, 0, 0, []), 1), (1, (19, 3, 306, []), 3), (4, (2, 0, 0, []), 1), (5, (19, 0, 303, []), 3), (8, (30, 2, 1341, []), 3), (11, (30, 69, 2441, []), 3), (14, (29, 1, 0, []), 1)]
/-- ToneHouse$FullRows.count(I)I -/
def tt_t69 : List (Nat × tt_Op × Nat) := [(0, (2, 0, 0, []), 1), (1, (0, 1, 0, []), 1), (2, (30, 70, 2457, []), 3), (5, (2, 0, 0, []), 1), (6, (19, 258, 178, []), 3), (9, (0, 1, 0, []), 1), (10, (21, 0, 0, []), 1), (11, (2, 0, 0, []), 1), (12, (19, 257, 177, []), 3), (15, (0, 1, 0, []), 1), (16, (21, 0, 0, []), 1), (17, (9, 1, 0, []), 1), (18, (29, 1, 0, []), 1)]
/-- ToneHouse$FullRows.list(I)V -/
def tt_t70 : List (Nat × tt_Op × Nat) := [(0, (2, 0, 0, []), 1), (1, (19, 259, 179, []), 3), (4, (0, 1, 0, []), 1), (5, (21, 2, 0, []), 1), (6, (25, 10, 0, []), 3), (9, (29, 0, 0, []), 1), (10, (2, 0, 0, []), 1), (11, (19, 259, 179, []), 3), (14, (0, 1, 0, []), 1), (15, (7, 0, 1, []), 1), (16, (22, 2, 0, []), 1), (17, (2, 0, 0, []), 1), (18, (19, 257, 177, []), 3), (21, (0, 1, 0, []), 1), (22, (2, 0, 0, []), 1), (23, (19, 260, 180, []), 3), (26, (22, 0, 0, []), 1), (27, (0, 1, 0, []), 1), (28, (7, 0, 2, []), 1), (29, (11, 0, 0, []), 1), (30, (25, 49, 1, []), 3), (33, (7, 0, 1, []), 1), (34, (0, 1, 0, []), 1), (35, (9, 6, 0, []), 1), (36, (7, 0, 2, []), 1), (37, (9, 1, 0, []), 1), (38, (3, 2, 0, []), 1), (39, (2, 0, 0, []), 1), (40, (0, 1, 0, []), 1), (41, (7, 0, 1, []), 1), (42, (7, 0, 0, []), 1), (43, (0, 2, 0, []), 1), (44, (0, 2, 0, []), 1), (45, (8, 0, 0, []), 1), (46, (30, 71, 2473, []), 3), (49, (2, 0, 0, []), 1), (50, (19, 258, 178, []), 3), (53, (0, 1, 0, []), 1), (54, (2, 0, 0, []), 1), (55, (19, 260, 180, []), 3), (58, (22, 0, 0, []), 1), (59, (29, 0, 0, []), 1)]
/-- ToneHouse$FullRows.lengthen(IIIIIJ)V -/
def tt_t71 : List (Nat × tt_Op × Nat) := [(0, (0, 2, 0, []), 1), (1, (0, 1, 0, []), 1), (2, (26, 12, 2, []), 3), (5, (2, 0, 0, []), 1), (6, (1, 6, 0, []), 2), (8, (30, 72, 2489, []), 3), (11, (29, 0, 0, []), 1), (12, (0, 4, 0, []), 2), (14, (0, 5, 0, []), 2), (16, (0, 3, 0, []), 1), (17, (0, 1, 0, []), 1), (18, (30, 11, 2506, []), 3), (21, (9, 3, 0, []), 1), (22, (3, 8, 0, []), 2), (24, (0, 8, 0, []), 2), (26, (0, 2, 0, []), 1), (27, (0, 1, 0, []), 1), (28, (7, 0, 1, []), 1), (29, (9, 1, 0, []), 1), (30, (26, 41, 1, []), 3), (33, (7, 0, 1, []), 1), (34, (0, 1, 0, []), 1), (35, (7, 0, 2, []), 1), (36, (10, 0, 0, []), 1), (37, (9, 6, 0, []), 1), (38, (24, 48, 0, []), 3), (41, (7, 0, 1, []), 1), (42, (0, 1, 0, []), 1), (43, (7, 0, 2, []), 1), (44, (10, 0, 0, []), 1), (45, (9, 6, 0, []), 1), (46, (7, 0, (-1), []), 1), (47, (9, 5, 0, []), 1), (48, (9, 3, 0, []), 1), (49, (3, 8, 0, []), 2), (51, (0, 8, 0, []), 2), (53, (30, 25, 2508, []), 3), (56, (3, 9, 0, []), 2), (58, (0, 9, 0, []), 2), (60, (25, 130, 5, []), 3), (63, (0, 8, 0, []), 2), (65, (30, 38, 2514, []), 3), (68, (3, 10, 0, []), 2), (70, (0, 8, 0, []), 2), (72, (30, 40, 2518, []), 3), (75, (3, 8, 0, []), 2), (77, (0, 5, 0, []), 2), (79, (7, 0, 1, []), 1), (80, (0, 3, 0, []), 1), (81, (0, 10, 0, []), 2), (83, (0, 1, 0, []), 1), (84, (30, 65, 2522, []), 3), (87, (9, 6, 0, []), 1), (88, (7, 0, (-1), []), 1), (89, (9, 5, 0, []), 1), (90, (9, 3, 0, []), 1), (91, (3, 11, 0, []), 2), (93, (2, 0, 0, []), 1), (94, (0, 1, 0, []), 1), (95, (0, 2, 0, []), 1), (96, (7, 0, 1, []), 1), (97, (9, 0, 0, []), 1), (98, (0, 10, 0, []), 2), (100, (0, 4, 0, []), 2), (102, (7, 0, 1, []), 1), (103, (0, 10, 0, []), 2), (105, (9, 6, 0, []), 1), (106, (7, 0, (-1), []), 1), (107, (9, 5, 0, []), 1), (108, (9, 3, 0, []), 1), (109, (0, 11, 0, []), 2), (111, (1, 6, 0, []), 2), (113, (0, 10, 0, []), 2), (115, (16, 0, 0, []), 1), (116, (7, 0, 4, []), 1), (117, (0, 2, 0, []), 1), (118, (9, 2, 0, []), 1), (119, (14, 0, 0, []), 1), (120, (13, 4, 0, []), 1), (121, (30, 71, 2473, []), 3), (124, (6, 9, (-1), []), 3), (127, (24, 58, 0, []), 3), (130, (29, 0, 0, []), 1)]
/-- ToneHouse$FullRows.add(J)V -/
def tt_t72 : List (Nat × tt_Op × Nat) := [(0, (2, 0, 0, []), 1), (1, (19, 260, 180, []), 3), (4, (2, 0, 0, []), 1), (5, (19, 256, 176, []), 3), (8, (23, 0, 0, []), 1), (9, (26, 32, 3, []), 3), (12, (2, 0, 0, []), 1), (13, (19, 256, 176, []), 3), (16, (2, 0, 0, []), 1), (17, (19, 260, 180, []), 3), (20, (1, 1, 0, []), 1), (21, (22, 1, 0, []), 1), (22, (2, 0, 0, []), 1), (23, (17, 0, 0, []), 1), (24, (19, 260, 180, []), 3), (27, (7, 0, 1, []), 1), (28, (9, 0, 0, []), 1), (29, (20, 260, 180, []), 3), (32, (29, 0, 0, []), 1)]
/-- ToneHouse.pick(II)Z -/
def tt_t73 : List (Nat × tt_Op × Nat) := [(0, (2, 0, 0, []), 1), (1, (19, 0, 303, []), 3), (4, (30, 2, 1341, []), 3), (7, (3, 3, 0, []), 1), (8, (0, 1, 0, []), 1), (9, (30, 53, 2224, []), 3), (12, (25, 31, 0, []), 3), (15, (0, 2, 0, []), 1), (16, (25, 31, 2, []), 3), (19, (0, 2, 0, []), 1), (20, (2, 0, 0, []), 1), (21, (19, 3, 306, []), 3), (24, (0, 3, 0, []), 1), (25, (30, 69, 2441, []), 3), (28, (26, 33, 2, []), 3), (31, (7, 0, 0, []), 1), (32, (29, 1, 0, []), 1), (33, (2, 0, 0, []), 1), (34, (19, 5, 308, []), 3), (37, (0, 1, 0, []), 1), (38, (2, 0, 0, []), 1), (39, (19, 3, 306, []), 3), (42, (0, 3, 0, []), 1), (43, (0, 2, 0, []), 1), (44, (30, 74, 2541, []), 3), (47, (22, 1, 0, []), 1), (48, (7, 0, 1, []), 1), (49, (29, 1, 0, []), 1)]
/-- ToneHouse$FullRows.get(II)J -/
def tt_t74 : List (Nat × tt_Op × Nat) := [(0, (2, 0, 0, []), 1), (1, (0, 1, 0, []), 1), (2, (30, 70, 2457, []), 3), (5, (2, 0, 0, []), 1), (6, (19, 256, 176, []), 3), (9, (2, 0, 0, []), 1), (10, (19, 257, 177, []), 3), (13, (0, 1, 0, []), 1), (14, (21, 0, 0, []), 1), (15, (0, 2, 0, []), 1), (16, (9, 0, 0, []), 1), (17, (21, 1, 0, []), 1), (18, (29, 2, 0, []), 1)]
/-- ToneHouse.rank(I)I -/
def tt_t75 : List (Nat × tt_Op × Nat) := [(0, (2, 0, 0, []), 1), (1, (0, 1, 0, []), 1), (2, (30, 58, 2289, []), 3), (5, (25, 31, 0, []), 3), (8, (2, 0, 0, []), 1), (9, (19, 3, 306, []), 3), (12, (2, 0, 0, []), 1), (13, (19, 0, 303, []), 3), (16, (30, 2, 1341, []), 3), (19, (2, 0, 0, []), 1), (20, (19, 5, 308, []), 3), (23, (0, 1, 0, []), 1), (24, (21, 1, 0, []), 1), (25, (30, 76, 2573, []), 3), (28, (24, 32, 0, []), 3), (31, (7, 0, (-1), []), 1), (32, (29, 1, 0, []), 1)]
/-- ToneHouse$FullRows.find(IJ)I -/
def tt_t76 : List (Nat × tt_Op × Nat) := [(0, (2, 0, 0, []), 1), (1, (0, 1, 0, []), 1), (2, (30, 70, 2457, []), 3), (5, (2, 0, 0, []), 1), (6, (19, 257, 177, []), 3), (9, (0, 1, 0, []), 1), (10, (21, 0, 0, []), 1), (11, (3, 4, 0, []), 2), (13, (0, 4, 0, []), 2), (15, (2, 0, 0, []), 1), (16, (19, 258, 178, []), 3), (19, (0, 1, 0, []), 1), (20, (21, 0, 0, []), 1), (21, (26, 52, 3, []), 3), (24, (2, 0, 0, []), 1), (25, (19, 256, 176, []), 3), (28, (0, 4, 0, []), 2), (30, (21, 1, 0, []), 1), (31, (1, 2, 0, []), 1), (32, (15, 0, 0, []), 1), (33, (25, 46, 1, []), 3), (36, (0, 4, 0, []), 2), (38, (2, 0, 0, []), 1), (39, (19, 257, 177, []), 3), (42, (0, 1, 0, []), 1), (43, (21, 0, 0, []), 1), (44, (9, 1, 0, []), 1), (45, (29, 1, 0, []), 1), (46, (6, 4, 1, []), 3), (49, (24, 13, 0, []), 3), (52, (7, 0, (-1), []), 1), (53, (29, 1, 0, []), 1)]
/-- ToneHouse.fills(II)I -/
def tt_t77 : List (Nat × tt_Op × Nat) := [(0, (0, 1, 0, []), 1), (1, (0, 2, 0, []), 1), (2, (30, 78, 2604, []), 3), (5, (25, 20, 0, []), 3), (8, (2, 0, 0, []), 1), (9, (19, 4, 307, []), 3), (12, (0, 1, 0, []), 1), (13, (0, 2, 0, []), 1), (14, (30, 79, 2617, []), 3), (17, (24, 21, 0, []), 3), (20, (7, 0, (-1), []), 1), (21, (29, 1, 0, []), 1)]
/-- ToneHouse.isBeatSet(II)Z -/
def tt_t78 : List (Nat × tt_Op × Nat) := [(0, (0, 0, 0, []), 1), (1, (7, 0, 2, []), 1), (2, (26, 26, 2, []), 3), (5, (0, 0, 0, []), 1), (6, (7, 0, 24, []), 2), (8, (26, 26, 4, []), 3), (11, (0, 1, 0, []), 1), (12, (25, 26, 5, []), 3), (15, (0, 1, 0, []), 1), (16, (7, 0, 1, []), 1), (17, (0, 0, 0, []), 1), (18, (9, 6, 0, []), 1), (19, (26, 26, 3, []), 3), (22, (7, 0, 1, []), 1), (23, (24, 27, 0, []), 3), (26, (7, 0, 0, []), 1), (27, (29, 1, 0, []), 1)]
/-- ToneHouse$Round.count(II)I -/
def tt_t79 : List (Nat × tt_Op × Nat) := [(0, (2, 0, 0, []), 1), (1, (19, 323, 202, []), 3), (4, (0, 1, 0, []), 1), (5, (26, 16, 1, []), 3), (8, (2, 0, 0, []), 1), (9, (19, 324, 203, []), 3), (12, (0, 2, 0, []), 1), (13, (26, 43, 0, []), 3), (16, (2, 0, 0, []), 1), (17, (0, 1, 0, []), 1), (18, (20, 323, 202, []), 3), (21, (2, 0, 0, []), 1), (22, (0, 2, 0, []), 1), (23, (20, 324, 203, []), 3), (26, (2, 0, 0, []), 1), (27, (7, 0, 0, []), 1), (28, (20, 321, 200, []), 3), (31, (2, 0, 0, []), 1), (32, (7, 0, 0, []), 1), (33, (20, 322, 201, []), 3), (36, (2, 0, 0, []), 1), (37, (7, 0, 0, []), 1), (38, (7, 0, 0, []), 1), (39, (7, 0, 0, []), 1), (40, (30, 80, 2633, []), 3), (43, (2, 0, 0, []), 1), (44, (19, 321, 200, []), 3), (47, (29, 1, 0, []), 1)]
/-- ToneHouse$Round.cover(III)V -/
def tt_t80 : List (Nat × tt_Op × Nat) := [(0, (0, 1, 0, []), 1), (1, (7, 0, 1, []), 1), (2, (2, 0, 0, []), 1), (3, (19, 323, 202, []), 3), (6, (9, 6, 0, []), 1), (7, (7, 0, 1, []), 1), (8, (9, 1, 0, []), 1), (9, (26, 18, 1, []), 3), (12, (2, 0, 0, []), 1), (13, (0, 2, 0, []), 1), (14, (30, 81, 2649, []), 3), (17, (29, 0, 0, []), 1), (18, (0, 3, 0, []), 1), (19, (7, 0, 24, []), 2), (21, (26, 25, 2, []), 3), (24, (29, 0, 0, []), 1), (25, (0, 1, 0, []), 1), (26, (7, 0, (-1), []), 1), (27, (9, 5, 0, []), 1), (28, (30, 38, 2666, []), 3), (31, (3, 4, 0, []), 2), (33, (2, 0, 0, []), 1), (34, (19, 324, 203, []), 3), (37, (3, 5, 0, []), 2), (39, (2, 0, 0, []), 1), (40, (19, 324, 203, []), 3), (43, (30, 25, 2668, []), 3), (46, (3, 6, 0, []), 2), (48, (0, 6, 0, []), 2), (50, (25, 121, 5, []), 3), (53, (0, 5, 0, []), 2), (55, (30, 38, 2666, []), 3), (58, (0, 4, 0, []), 2), (60, (2, 0, 0, []), 1), (61, (19, 323, 202, []), 3), (64, (30, 65, 2674, []), 3), (67, (3, 7, 0, []), 2), (69, (0, 5, 0, []), 2), (71, (30, 40, 2678, []), 3), (74, (3, 5, 0, []), 2), (76, (2, 0, 0, []), 1), (77, (19, 324, 203, []), 3), (80, (0, 7, 0, []), 2), (82, (2, 0, 0, []), 1), (83, (19, 323, 202, []), 3), (86, (30, 11, 2682, []), 3), (89, (3, 8, 0, []), 2), (91, (0, 8, 0, []), 2), (93, (0, 1, 0, []), 1), (94, (9, 3, 0, []), 1), (95, (25, 115, 1, []), 3), (98, (2, 0, 0, []), 1), (99, (0, 1, 0, []), 1), (100, (0, 8, 0, []), 2), (102, (9, 4, 0, []), 1), (103, (0, 2, 0, []), 1), (104, (7, 0, 1, []), 1), (105, (0, 7, 0, []), 2), (107, (9, 6, 0, []), 1), (108, (9, 4, 0, []), 1), (109, (0, 3, 0, []), 1), (110, (7, 0, 1, []), 1), (111, (9, 0, 0, []), 1), (112, (30, 80, 2633, []), 3), (115, (6, 6, (-1), []), 3), (118, (24, 48, 0, []), 3), (121, (29, 0, 0, []), 1)]
/-- ToneHouse$Round.add(I)V -/
def tt_t81 : List (Nat × tt_Op × Nat) := [(0, (2, 0, 0, []), 1), (1, (19, 321, 200, []), 3), (4, (2, 0, 0, []), 1), (5, (19, 320, 199, []), 3), (8, (23, 0, 0, []), 1), (9, (26, 32, 3, []), 3), (12, (2, 0, 0, []), 1), (13, (19, 320, 199, []), 3), (16, (2, 0, 0, []), 1), (17, (19, 321, 200, []), 3), (20, (0, 1, 0, []), 1), (21, (22, 0, 0, []), 1), (22, (2, 0, 0, []), 1), (23, (17, 0, 0, []), 1), (24, (19, 321, 200, []), 3), (27, (7, 0, 1, []), 1), (28, (9, 0, 0, []), 1), (29, (20, 321, 200, []), 3), (32, (29, 0, 0, []), 1)]
/-- ToneHouse.fill(III)I -/
def tt_t82 : List (Nat × tt_Op × Nat) := [(0, (0, 1, 0, []), 1), (1, (0, 2, 0, []), 1), (2, (30, 78, 2604, []), 3), (5, (25, 25, 0, []), 3), (8, (0, 3, 0, []), 1), (9, (25, 25, 2, []), 3), (12, (0, 3, 0, []), 1), (13, (2, 0, 0, []), 1), (14, (19, 4, 307, []), 3), (17, (0, 1, 0, []), 1), (18, (0, 2, 0, []), 1), (19, (30, 79, 2617, []), 3), (22, (26, 27, 2, []), 3), (25, (7, 0, (-1), []), 1), (26, (29, 1, 0, []), 1), (27, (2, 0, 0, []), 1), (28, (19, 4, 307, []), 3), (31, (0, 3, 0, []), 1), (32, (30, 83, 2701, []), 3), (35, (29, 1, 0, []), 1)]
/-- ToneHouse$Round.get(I)I -/
def tt_t83 : List (Nat × tt_Op × Nat) := [(0, (2, 0, 0, []), 1), (1, (19, 322, 201, []), 3), (4, (25, 16, 1, []), 3), (7, (2, 0, 0, []), 1), (8, (30, 84, 2717, []), 3), (11, (2, 0, 0, []), 1), (12, (7, 0, 1, []), 1), (13, (20, 322, 201, []), 3), (16, (2, 0, 0, []), 1), (17, (19, 320, 199, []), 3), (20, (0, 1, 0, []), 1), (21, (21, 0, 0, []), 1), (22, (29, 1, 0, []), 1)]
/-- ToneHouse$Round.sort()V -/
def tt_t84 : List (Nat × tt_Op × Nat) := [(0, (2, 0, 0, []), 1), (1, (19, 321, 200, []), 3), (4, (7, 0, 2, []), 1), (5, (10, 0, 0, []), 1), (6, (7, 0, 1, []), 1), (7, (9, 1, 0, []), 1), (8, (3, 1, 0, []), 1), (9, (0, 1, 0, []), 1), (10, (25, 28, 2, []), 3), (13, (2, 0, 0, []), 1), (14, (0, 1, 0, []), 1), (15, (2, 0, 0, []), 1), (16, (19, 321, 200, []), 3), (19, (30, 85, 2733, []), 3), (22, (6, 1, (-1), []), 3), (25, (24, 9, 0, []), 3), (28, (2, 0, 0, []), 1), (29, (19, 321, 200, []), 3), (32, (7, 0, 1, []), 1), (33, (9, 1, 0, []), 1), (34, (3, 1, 0, []), 1), (35, (0, 1, 0, []), 1), (36, (25, 77, 5, []), 3), (39, (2, 0, 0, []), 1), (40, (19, 320, 199, []), 3), (43, (7, 0, 0, []), 1), (44, (21, 0, 0, []), 1), (45, (3, 2, 0, []), 1), (46, (2, 0, 0, []), 1), (47, (19, 320, 199, []), 3), (50, (7, 0, 0, []), 1), (51, (2, 0, 0, []), 1), (52, (19, 320, 199, []), 3), (55, (0, 1, 0, []), 1), (56, (21, 0, 0, []), 1), (57, (22, 0, 0, []), 1), (58, (2, 0, 0, []), 1), (59, (19, 320, 199, []), 3), (62, (0, 1, 0, []), 1), (63, (0, 2, 0, []), 1), (64, (22, 0, 0, []), 1), (65, (2, 0, 0, []), 1), (66, (7, 0, 0, []), 1), (67, (0, 1, 0, []), 1), (68, (30, 85, 2733, []), 3), (71, (6, 1, (-1), []), 3), (74, (24, 35, 0, []), 3), (77, (29, 0, 0, []), 1)]
/-- ToneHouse$Round.sink(II)V -/
def tt_t85 : List (Nat × tt_Op × Nat) := [(0, (2, 0, 0, []), 1), (1, (19, 320, 199, []), 3), (4, (0, 1, 0, []), 1), (5, (21, 0, 0, []), 1), (6, (3, 3, 0, []), 1), (7, (0, 1, 0, []), 1), (8, (3, 4, 0, []), 2), (10, (7, 0, 2, []), 1), (11, (0, 1, 0, []), 1), (12, (9, 2, 0, []), 1), (13, (7, 0, 1, []), 1), (14, (9, 0, 0, []), 1), (15, (3, 5, 0, []), 2), (17, (0, 5, 0, []), 2), (19, (0, 2, 0, []), 1), (20, (26, 96, 3, []), 3), (23, (0, 5, 0, []), 2), (25, (7, 0, 1, []), 1), (26, (9, 0, 0, []), 1), (27, (0, 2, 0, []), 1), (28, (26, 53, 3, []), 3), (31, (2, 0, 0, []), 1), (32, (19, 320, 199, []), 3), (35, (0, 5, 0, []), 2), (37, (7, 0, 1, []), 1), (38, (9, 0, 0, []), 1), (39, (21, 0, 0, []), 1), (40, (2, 0, 0, []), 1), (41, (19, 320, 199, []), 3), (44, (0, 5, 0, []), 2), (46, (21, 0, 0, []), 1), (47, (26, 53, 5, []), 3), (50, (6, 5, 1, []), 3), (53, (2, 0, 0, []), 1), (54, (19, 320, 199, []), 3), (57, (0, 5, 0, []), 2), (59, (21, 0, 0, []), 1), (60, (0, 3, 0, []), 1), (61, (26, 67, 4, []), 3), (64, (24, 96, 0, []), 3), (67, (2, 0, 0, []), 1), (68, (19, 320, 199, []), 3), (71, (0, 4, 0, []), 2), (73, (2, 0, 0, []), 1), (74, (19, 320, 199, []), 3), (77, (0, 5, 0, []), 2), (79, (21, 0, 0, []), 1), (80, (22, 0, 0, []), 1), (81, (0, 5, 0, []), 2), (83, (3, 4, 0, []), 2), (85, (7, 0, 2, []), 1), (86, (0, 5, 0, []), 2), (88, (9, 2, 0, []), 1), (89, (7, 0, 1, []), 1), (90, (9, 0, 0, []), 1), (91, (3, 5, 0, []), 2), (93, (24, 17, 0, []), 3), (96, (2, 0, 0, []), 1), (97, (19, 320, 199, []), 3), (100, (0, 4, 0, []), 2), (102, (0, 3, 0, []), 1), (103, (22, 0, 0, []), 1), (104, (29, 0, 0, []), 1)]
/-- ToneHouse.pure(II)I -/
def tt_t86 : List (Nat × tt_Op × Nat) := [(0, (0, 1, 0, []), 1), (1, (0, 2, 0, []), 1), (2, (30, 78, 2604, []), 3), (5, (25, 20, 0, []), 3), (8, (2, 0, 0, []), 1), (9, (19, 4, 307, []), 3), (12, (0, 1, 0, []), 1), (13, (0, 2, 0, []), 1), (14, (30, 87, 2765, []), 3), (17, (24, 21, 0, []), 3), (20, (7, 0, (-1), []), 1), (21, (29, 1, 0, []), 1)]
/-- ToneHouse$Round.countPure(II)I -/
def tt_t87 : List (Nat × tt_Op × Nat) := [(0, (0, 1, 0, []), 1), (1, (0, 2, 0, []), 1), (2, (30, 88, 2782, []), 3), (5, (0, 1, 0, []), 1), (6, (26, 11, 0, []), 3), (9, (7, 0, 0, []), 1), (10, (29, 1, 0, []), 1), (11, (2, 0, 0, []), 1), (12, (0, 1, 0, []), 1), (13, (0, 2, 0, []), 1), (14, (30, 79, 2793, []), 3), (17, (3, 3, 0, []), 1), (18, (7, 0, 0, []), 1), (19, (3, 4, 0, []), 2), (21, (7, 0, 0, []), 1), (22, (3, 5, 0, []), 2), (24, (0, 5, 0, []), 2), (26, (0, 3, 0, []), 1), (27, (26, 54, 3, []), 3), (30, (0, 1, 0, []), 1), (31, (2, 0, 0, []), 1), (32, (19, 320, 199, []), 3), (35, (0, 5, 0, []), 2), (37, (21, 0, 0, []), 1), (38, (30, 88, 2782, []), 3), (41, (0, 1, 0, []), 1), (42, (26, 48, 1, []), 3), (45, (6, 4, 1, []), 3), (48, (6, 5, 1, []), 3), (51, (24, 24, 0, []), 3), (54, (0, 4, 0, []), 2), (56, (29, 1, 0, []), 1)]
/-- ToneHouse.leastPeriod(II)I -/
def tt_t88 : List (Nat × tt_Op × Nat) := [(0, (7, 0, 1, []), 1), (1, (3, 2, 0, []), 1), (2, (0, 2, 0, []), 1), (3, (0, 0, 0, []), 1), (4, (26, 25, 3, []), 3), (7, (0, 1, 0, []), 1), (8, (0, 2, 0, []), 1), (9, (0, 0, 0, []), 1), (10, (30, 11, 1484, []), 3), (13, (0, 1, 0, []), 1), (14, (26, 19, 1, []), 3), (17, (0, 2, 0, []), 1), (18, (29, 1, 0, []), 1), (19, (6, 2, 1, []), 3), (22, (24, 2, 0, []), 3), (25, (0, 0, 0, []), 1), (26, (29, 1, 0, []), 1)]
/-- ToneHouse.period(II)I -/
def tt_t89 : List (Nat × tt_Op × Nat) := [(0, (0, 1, 0, []), 1), (1, (0, 2, 0, []), 1), (2, (30, 78, 2604, []), 3), (5, (25, 16, 0, []), 3), (8, (0, 1, 0, []), 1), (9, (0, 2, 0, []), 1), (10, (30, 88, 2812, []), 3), (13, (24, 17, 0, []), 3), (16, (7, 0, (-1), []), 1), (17, (29, 1, 0, []), 1)]
/-- ToneHouse.feed(IIIII)I -/
def tt_t90 : List (Nat × tt_Op × Nat) := [(0, (2, 0, 0, []), 1), (1, (19, 6, 309, []), 3), (4, (30, 91, 2833, []), 3), (7, (5, 6, 0, []), 2), (9, (2, 6, 0, []), 2), (11, (30, 92, 2849, []), 3), (14, (7, 0, 20, []), 2), (16, (9, 0, 0, []), 1), (17, (7, 0, 800, []), 3), (20, (26, 25, 5, []), 3), (23, (7, 0, (-1), []), 1), (24, (29, 1, 0, []), 1), (25, (2, 6, 0, []), 2), (27, (0, 1, 0, []), 1), (28, (30, 93, 2865, []), 3), (31, (2, 6, 0, []), 2), (33, (0, 2, 0, []), 1), (34, (30, 93, 2865, []), 3), (37, (2, 6, 0, []), 2), (39, (0, 3, 0, []), 1), (40, (30, 93, 2865, []), 3), (43, (2, 6, 0, []), 2), (45, (0, 4, 0, []), 2), (47, (30, 93, 2865, []), 3), (50, (2, 6, 0, []), 2), (52, (0, 5, 0, []), 2), (54, (30, 93, 2865, []), 3), (57, (2, 6, 0, []), 2), (59, (30, 92, 2849, []), 3), (62, (29, 1, 0, []), 1)]
/-- ToneHouse$Reader.tape()LToneHouse$ByteRow; -/
def tt_t91 : List (Nat × tt_Op × Nat) := [(0, (2, 0, 0, []), 1), (1, (19, 384, 267, []), 3), (4, (29, 3, 0, []), 1)]
/-- ToneHouse$ByteRow.length()I -/
def tt_t92 : List (Nat × tt_Op × Nat) := [(0, (2, 0, 0, []), 1), (1, (19, 449, 228, []), 3), (4, (29, 1, 0, []), 1)]
/-- ToneHouse$ByteRow.addFour(I)V -/
def tt_t93 : List (Nat × tt_Op × Nat) := [(0, (2, 0, 0, []), 1), (1, (0, 1, 0, []), 1), (2, (7, 0, 24, []), 2), (4, (9, 8, 0, []), 1), (5, (30, 94, 2881, []), 3), (8, (2, 0, 0, []), 1), (9, (0, 1, 0, []), 1), (10, (7, 0, 16, []), 2), (12, (9, 8, 0, []), 1), (13, (30, 94, 2881, []), 3), (16, (2, 0, 0, []), 1), (17, (0, 1, 0, []), 1), (18, (7, 0, 8, []), 2), (20, (9, 8, 0, []), 1), (21, (30, 94, 2881, []), 3), (24, (2, 0, 0, []), 1), (25, (0, 1, 0, []), 1), (26, (30, 94, 2881, []), 3), (29, (29, 0, 0, []), 1)]
/-- ToneHouse$ByteRow.add(I)V -/
def tt_t94 : List (Nat × tt_Op × Nat) := [(0, (2, 0, 0, []), 1), (1, (19, 449, 228, []), 3), (4, (2, 0, 0, []), 1), (5, (19, 448, 227, []), 3), (8, (23, 0, 0, []), 1), (9, (26, 36, 3, []), 3), (12, (2, 0, 0, []), 1), (13, (19, 448, 227, []), 3), (16, (2, 0, 0, []), 1), (17, (19, 449, 228, []), 3), (20, (0, 1, 0, []), 1), (21, (7, 0, 255, []), 3), (24, (9, 3, 0, []), 1), (25, (22, 0, 0, []), 1), (26, (2, 0, 0, []), 1), (27, (17, 0, 0, []), 1), (28, (19, 449, 228, []), 3), (31, (7, 0, 1, []), 1), (32, (9, 0, 0, []), 1), (33, (20, 449, 228, []), 3), (36, (29, 0, 0, []), 1)]
/-- ToneHouse.end(I)I -/
def tt_t95 : List (Nat × tt_Op × Nat) := [(0, (0, 1, 0, []), 1), (1, (25, 18, 2, []), 3), (4, (0, 1, 0, []), 1), (5, (2, 0, 0, []), 1), (6, (19, 6, 309, []), 3), (9, (30, 91, 2833, []), 3), (12, (30, 92, 2849, []), 3), (15, (26, 20, 5, []), 3), (18, (7, 0, (-1), []), 1), (19, (29, 1, 0, []), 1), (20, (2, 0, 0, []), 1), (21, (19, 6, 309, []), 3), (24, (30, 91, 2833, []), 3), (27, (0, 1, 0, []), 1), (28, (30, 96, 2913, []), 3), (31, (0, 1, 0, []), 1), (32, (29, 1, 0, []), 1)]
/-- ToneHouse$ByteRow.cut(I)V -/
def tt_t96 : List (Nat × tt_Op × Nat) := [(0, (0, 1, 0, []), 1), (1, (25, 17, 2, []), 3), (4, (0, 1, 0, []), 1), (5, (2, 0, 0, []), 1), (6, (19, 449, 228, []), 3), (9, (26, 17, 3, []), 3), (12, (2, 0, 0, []), 1), (13, (0, 1, 0, []), 1), (14, (20, 449, 228, []), 3), (17, (29, 0, 0, []), 1)]
/-- ToneHouse.load()I -/
def tt_t97 : List (Nat × tt_Op × Nat) := [(0, (2, 0, 0, []), 1), (1, (19, 6, 309, []), 3), (4, (2, 0, 0, []), 1), (5, (19, 0, 303, []), 3), (8, (30, 2, 1341, []), 3), (11, (30, 98, 2945, []), 3), (14, (3, 1, 0, []), 1), (15, (2, 0, 0, []), 1), (16, (19, 6, 309, []), 3), (19, (30, 91, 2833, []), 3), (22, (7, 0, 0, []), 1), (23, (30, 96, 2913, []), 3), (26, (0, 1, 0, []), 1), (27, (25, 32, 1, []), 3), (30, (7, 0, (-1), []), 1), (31, (29, 1, 0, []), 1), (32, (2, 0, 0, []), 1), (33, (2, 0, 0, []), 1), (34, (19, 6, 309, []), 3), (37, (2, 0, 0, []), 1), (38, (19, 8, 311, []), 3), (41, (30, 130, 3761, []), 3), (44, (20, 8, 311, []), 3), (47, (2, 0, 0, []), 1), (48, (19, 8, 311, []), 3), (51, (30, 122, 3777, []), 3), (54, (29, 1, 0, []), 1)]
/-- ToneHouse$Reader.read(I)Z -/
def tt_t98 : List (Nat × tt_Op × Nat) := [(0, (2, 0, 0, []), 1), (1, (0, 1, 0, []), 1), (2, (20, 386, 269, []), 3), (5, (2, 0, 0, []), 1), (6, (7, 0, 0, []), 1), (7, (20, 390, 273, []), 3), (10, (2, 0, 0, []), 1), (11, (7, 0, 0, []), 1), (12, (20, 391, 274, []), 3), (15, (2, 0, 0, []), 1), (16, (7, 0, (-1), []), 1), (17, (20, 392, 275, []), 3), (20, (2, 0, 0, []), 1), (21, (19, 385, 268, []), 3), (24, (30, 4, 2961, []), 3), (27, (2, 0, 0, []), 1), (28, (30, 99, 2965, []), 3), (31, (7, 0, 1, []), 1), (32, (3, 2, 0, []), 1), (33, (7, 0, 0, []), 1), (34, (3, 3, 0, []), 1), (35, (0, 3, 0, []), 1), (36, (7, 0, 6, []), 2), (38, (26, 66, 4, []), 3), (41, (0, 2, 0, []), 1), (42, (25, 66, 0, []), 3), (45, (2, 0, 0, []), 1), (46, (19, 387, 270, []), 3), (49, (31, 73, 816, []), 3), (52, (27, 66, 1, []), 3), (55, (2, 0, 0, []), 1), (56, (30, 114, 3349, []), 3), (59, (3, 2, 0, []), 1), (60, (6, 3, 1, []), 3), (63, (24, 35, 0, []), 3), (66, (7, 0, 0, []), 1), (67, (3, 3, 0, []), 1), (68, (0, 3, 0, []), 1), (69, (7, 0, 8, []), 2), (71, (26, 99, 4, []), 3), (74, (0, 2, 0, []), 1), (75, (25, 99, 0, []), 3), (78, (2, 0, 0, []), 1), (79, (19, 387, 270, []), 3), (82, (31, 74, 819, []), 3), (85, (27, 99, 1, []), 3), (88, (2, 0, 0, []), 1), (89, (30, 121, 3465, []), 3), (92, (3, 2, 0, []), 1), (93, (6, 3, 1, []), 3), (96, (24, 68, 0, []), 3), (99, (0, 2, 0, []), 1), (100, (25, 130, 0, []), 3), (103, (2, 0, 0, []), 1), (104, (2, 0, 0, []), 1), (105, (19, 387, 270, []), 3), (108, (31, 80, 265, []), 3), (111, (27, 118, 1, []), 3), (114, (7, 0, 1, []), 1), (115, (24, 119, 0, []), 3), (118, (7, 0, 0, []), 1), (119, (7, 0, 1, []), 1), (120, (30, 116, 3381, []), 3), (123, (25, 130, 0, []), 3), (126, (7, 0, 1, []), 1), (127, (24, 131, 0, []), 3), (130, (7, 0, 0, []), 1), (131, (29, 1, 0, []), 1)]
/-- ToneHouse$Reader.advance()V -/
def tt_t99 : List (Nat × tt_Op × Nat) := [(0, (2, 0, 0, []), 1), (1, (2, 0, 0, []), 1), (2, (19, 390, 273, []), 3), (5, (20, 389, 272, []), 3), (8, (7, 0, 0, []), 1), (9, (3, 1, 0, []), 1), (10, (0, 1, 0, []), 1), (11, (7, 0, 800, []), 3), (14, (26, 50, 3, []), 3), (17, (2, 0, 0, []), 1), (18, (19, 384, 267, []), 3), (21, (2, 0, 0, []), 1), (22, (19, 389, 272, []), 3), (25, (30, 100, 2981, []), 3), (28, (30, 101, 2996, []), 3), (31, (25, 50, 0, []), 3), (34, (2, 0, 0, []), 1), (35, (17, 0, 0, []), 1), (36, (19, 389, 272, []), 3), (39, (7, 0, 1, []), 1), (40, (9, 0, 0, []), 1), (41, (20, 389, 272, []), 3), (44, (6, 1, 1, []), 3), (47, (24, 10, 0, []), 3), (50, (2, 0, 0, []), 1), (51, (19, 384, 267, []), 3), (54, (2, 0, 0, []), 1), (55, (19, 389, 272, []), 3), (58, (30, 100, 2981, []), 3), (61, (3, 1, 0, []), 1), (62, (2, 0, 0, []), 1), (63, (2, 0, 0, []), 1), (64, (19, 389, 272, []), 3), (67, (7, 0, 1, []), 1), (68, (9, 0, 0, []), 1), (69, (20, 390, 273, []), 3), (72, (2, 0, 0, []), 1), (73, (7, 0, 0, []), 1), (74, (20, 388, 271, []), 3), (77, (0, 1, 0, []), 1), (78, (7, 0, (-1), []), 1), (79, (26, 100, 1, []), 3), (82, (2, 0, 0, []), 1), (83, (31, 80, 265, []), 3), (86, (20, 387, 270, []), 3), (89, (2, 0, 0, []), 1), (90, (2, 0, 0, []), 1), (91, (19, 389, 272, []), 3), (94, (20, 390, 273, []), 3), (97, (24, 172, 0, []), 3), (100, (0, 1, 0, []), 1), (101, (30, 102, 3008, []), 3), (104, (25, 119, 0, []), 3), (107, (2, 0, 0, []), 1), (108, (2, 0, 0, []), 1), (109, (0, 1, 0, []), 1), (110, (30, 103, 3021, []), 3), (113, (20, 387, 270, []), 3), (116, (24, 172, 0, []), 3), (119, (0, 1, 0, []), 1), (120, (30, 112, 3296, []), 3), (123, (25, 137, 0, []), 3), (126, (2, 0, 0, []), 1), (127, (2, 0, 0, []), 1), (128, (30, 113, 3309, []), 3), (131, (20, 387, 270, []), 3), (134, (24, 172, 0, []), 3), (137, (0, 1, 0, []), 1), (138, (7, 0, 61, []), 2), (140, (26, 153, 1, []), 3), (143, (2, 0, 0, []), 1), (144, (31, 78, 833, []), 3), (147, (20, 387, 270, []), 3), (150, (24, 172, 0, []), 3), (153, (2, 0, 0, []), 1), (154, (0, 1, 0, []), 1), (155, (7, 0, 59, []), 2), (157, (26, 166, 1, []), 3), (160, (31, 79, 835, []), 3), (163, (24, 169, 0, []), 3), (166, (31, 81, 761, []), 3), (169, (20, 387, 270, []), 3), (172, (29, 0, 0, []), 1)]
/-- ToneHouse$ByteRow.get(I)I -/
def tt_t100 : List (Nat × tt_Op × Nat) := [(0, (0, 1, 0, []), 1), (1, (25, 21, 2, []), 3), (4, (0, 1, 0, []), 1), (5, (2, 0, 0, []), 1), (6, (19, 449, 228, []), 3), (9, (26, 21, 3, []), 3), (12, (2, 0, 0, []), 1), (13, (19, 448, 227, []), 3), (16, (0, 1, 0, []), 1), (17, (21, 0, 0, []), 1), (18, (24, 22, 0, []), 3), (21, (7, 0, (-1), []), 1), (22, (29, 1, 0, []), 1)]
/-- ToneHouse$Reader.isBlank(I)Z -/
def tt_t101 : List (Nat × tt_Op × Nat) := [(0, (0, 0, 0, []), 1), (1, (7, 0, 32, []), 2), (3, (26, 12, 0, []), 3), (6, (0, 0, 0, []), 1), (7, (7, 0, 10, []), 2), (9, (26, 16, 1, []), 3), (12, (7, 0, 1, []), 1), (13, (24, 17, 0, []), 3), (16, (7, 0, 0, []), 1), (17, (29, 1, 0, []), 1)]
/-- ToneHouse$Reader.isLetter(I)Z -/
def tt_t102 : List (Nat × tt_Op × Nat) := [(0, (0, 0, 0, []), 1), (1, (7, 0, 97, []), 2), (3, (26, 12, 2, []), 3), (6, (0, 0, 0, []), 1), (7, (7, 0, 122, []), 2), (9, (26, 24, 5, []), 3), (12, (0, 0, 0, []), 1), (13, (7, 0, 65, []), 2), (15, (26, 28, 2, []), 3), (18, (0, 0, 0, []), 1), (19, (7, 0, 90, []), 2), (21, (26, 28, 4, []), 3), (24, (7, 0, 1, []), 1), (25, (24, 29, 0, []), 3), (28, (7, 0, 0, []), 1), (29, (29, 1, 0, []), 1)]
/-- ToneHouse$Reader.readWord(I)LToneHouse$Token; -/
def tt_t103 : List (Nat × tt_Op × Nat) := [(0, (7, 0, 0, []), 1), (1, (3, 2, 0, []), 1), (2, (0, 2, 0, []), 1), (3, (7, 0, 800, []), 3), (6, (26, 42, 3, []), 3), (9, (2, 0, 0, []), 1), (10, (19, 384, 267, []), 3), (13, (2, 0, 0, []), 1), (14, (19, 390, 273, []), 3), (17, (30, 100, 2981, []), 3), (20, (30, 102, 3008, []), 3), (23, (25, 42, 0, []), 3), (26, (2, 0, 0, []), 1), (27, (17, 0, 0, []), 1), (28, (19, 390, 273, []), 3), (31, (7, 0, 1, []), 1), (32, (9, 0, 0, []), 1), (33, (20, 390, 273, []), 3), (36, (6, 2, 1, []), 3), (39, (24, 2, 0, []), 3), (42, (2, 0, 0, []), 1), (43, (19, 390, 273, []), 3), (46, (2, 0, 0, []), 1), (47, (19, 389, 272, []), 3), (50, (7, 0, 1, []), 1), (51, (9, 0, 0, []), 1), (52, (26, 76, 1, []), 3), (55, (2, 0, 0, []), 1), (56, (0, 1, 0, []), 1), (57, (20, 388, 271, []), 3), (60, (0, 1, 0, []), 1), (61, (7, 0, 97, []), 2), (63, (26, 72, 2, []), 3), (66, (31, 76, 759, []), 3), (69, (24, 75, 0, []), 3), (72, (31, 81, 761, []), 3), (75, (29, 3, 0, []), 1), (76, (2, 0, 0, []), 1), (77, (19, 384, 267, []), 3), (80, (33, 82, 154, []), 2), (82, (2, 0, 0, []), 1), (83, (19, 389, 272, []), 3), (86, (2, 0, 0, []), 1), (87, (19, 390, 273, []), 3), (90, (30, 104, 3057, []), 3), (93, (25, 100, 0, []), 3), (96, (31, 73, 816, []), 3), (99, (29, 3, 0, []), 1), (100, (2, 0, 0, []), 1), (101, (19, 384, 267, []), 3), (104, (33, 83, 160, []), 2), (106, (2, 0, 0, []), 1), (107, (19, 389, 272, []), 3), (110, (2, 0, 0, []), 1), (111, (19, 390, 273, []), 3), (114, (30, 104, 3057, []), 3), (117, (25, 124, 0, []), 3), (120, (31, 74, 819, []), 3), (123, (29, 3, 0, []), 1), (124, (2, 0, 0, []), 1), (125, (19, 384, 267, []), 3), (128, (33, 84, 162, []), 2), (130, (2, 0, 0, []), 1), (131, (19, 389, 272, []), 3), (134, (2, 0, 0, []), 1), (135, (19, 390, 273, []), 3), (138, (30, 104, 3057, []), 3), (141, (25, 150, 0, []), 3), (144, (31, 75, 822, []), 3), (147, (24, 153, 0, []), 3), (150, (31, 81, 761, []), 3), (153, (29, 3, 0, []), 1)]
/-- ToneHouse$ByteRow.spells(Ljava/lang/String;II)Z -/
def tt_t104 : List (Nat × tt_Op × Nat) := [(0, (0, 2, 0, []), 1), (1, (25, 22, 2, []), 3), (4, (0, 3, 0, []), 1), (5, (2, 0, 0, []), 1), (6, (19, 449, 228, []), 3), (9, (26, 22, 4, []), 3), (12, (2, 1, 0, []), 1), (13, (30, 105, 3073, []), 3), (16, (0, 3, 0, []), 1), (17, (0, 2, 0, []), 1), (18, (9, 1, 0, []), 1), (19, (26, 24, 0, []), 3), (22, (7, 0, 0, []), 1), (23, (29, 1, 0, []), 1), (24, (7, 0, 0, []), 1), (25, (3, 4, 0, []), 2), (27, (0, 4, 0, []), 2), (29, (2, 1, 0, []), 1), (30, (30, 105, 3073, []), 3), (33, (26, 62, 3, []), 3), (36, (2, 0, 0, []), 1), (37, (19, 448, 227, []), 3), (40, (0, 2, 0, []), 1), (41, (0, 4, 0, []), 2), (43, (9, 0, 0, []), 1), (44, (21, 0, 0, []), 1), (45, (2, 1, 0, []), 1), (46, (0, 4, 0, []), 2), (48, (30, 107, 3113, []), 3), (51, (26, 56, 0, []), 3), (54, (7, 0, 0, []), 1), (55, (29, 1, 0, []), 1), (56, (6, 4, 1, []), 3), (59, (24, 27, 0, []), 3), (62, (7, 0, 1, []), 1), (63, (29, 1, 0, []), 1)]
/-- java/lang/String.length()I -/
def tt_t105 : List (Nat × tt_Op × Nat) := [(0, (2, 0, 0, []), 1), (1, (35, 0, 1575, []), 3), (4, (23, 0, 0, []), 1), (5, (2, 0, 0, []), 1), (6, (30, 106, 3089, []), 3), (9, (9, 7, 0, []), 1), (10, (29, 1, 0, []), 1)]
/-- java/lang/String.coder()B -/
def tt_t106 : List (Nat × tt_Op × Nat) := [(0, (32, 0, 776, []), 3), (3, (25, 13, 0, []), 3), (6, (2, 0, 0, []), 1), (7, (35, 1, 1576, []), 3), (10, (24, 14, 0, []), 3), (13, (7, 0, 1, []), 1), (14, (29, 1, 0, []), 1)]
/-- java/lang/String.charAt(I)C -/
def tt_t107 : List (Nat × tt_Op × Nat) := [(0, (2, 0, 0, []), 1), (1, (30, 108, 3129, []), 3), (4, (25, 16, 0, []), 3), (7, (2, 0, 0, []), 1), (8, (35, 0, 1575, []), 3), (11, (0, 1, 0, []), 1), (12, (30, 109, 3144, []), 3), (15, (29, 1, 0, []), 1), (16, (2, 0, 0, []), 1), (17, (35, 0, 1575, []), 3), (20, (0, 1, 0, []), 1), (24, (29, 1, 0, []), 1)]
/-- java/lang/String.isLatin1()Z -/
def tt_t108 : List (Nat × tt_Op × Nat) := [(0, (32, 0, 776, []), 3), (3, (25, 17, 0, []), 3), (6, (2, 0, 0, []), 1), (7, (35, 1, 1576, []), 3), (10, (25, 17, 1, []), 3), (13, (7, 0, 1, []), 1), (14, (24, 18, 0, []), 3), (17, (7, 0, 0, []), 1), (18, (29, 1, 0, []), 1)]
/-- java/lang/StringLatin1.charAt([BI)C -/
def tt_t109 : List (Nat × tt_Op × Nat) := [(0, (0, 1, 0, []), 1), (1, (2, 0, 0, []), 1), (2, (23, 0, 0, []), 1), (3, (30, 110, 3156, []), 3), (6, (2, 0, 0, []), 1), (7, (0, 1, 0, []), 1), (8, (21, 2, 0, []), 1), (9, (7, 0, 255, []), 3), (12, (9, 3, 0, []), 1), (13, (16, 2, 0, []), 1), (14, (29, 1, 0, []), 1)]
/-- java/lang/String.checkIndex(II)V -/
def tt_t110 : List (Nat × tt_Op × Nat) := [(0, (0, 0, 0, []), 1), (1, (0, 1, 0, []), 1), (2, (32, 1, 792, []), 3), (5, (30, 111, 3176, []), 3), (8, (18, 0, 0, []), 1), (9, (29, 0, 0, []), 1)]
/-- jdk/internal/util/Preconditions.checkIndex(IILjava/util/function/BiFunction;)I -/
def tt_t111 : List (Nat × tt_Op × Nat) := [(0, (0, 0, 0, []), 1), (1, (25, 9, 2, []), 3), (4, (0, 0, 0, []), 1), (5, (0, 1, 0, []), 1), (6, (26, 16, 2, []), 3), (9, (2, 2, 0, []), 1), (10, (0, 0, 0, []), 1), (11, (0, 1, 0, []), 1), (16, (0, 0, 0, []), 1), (17, (29, 1, 0, []), 1)]
/-- ToneHouse$Reader.isDigit(I)Z -/
def tt_t112 : List (Nat × tt_Op × Nat) := [(0, (0, 0, 0, []), 1), (1, (7, 0, 48, []), 2), (3, (26, 16, 2, []), 3), (6, (0, 0, 0, []), 1), (7, (7, 0, 57, []), 2), (9, (26, 16, 4, []), 3), (12, (7, 0, 1, []), 1), (13, (24, 17, 0, []), 3), (16, (7, 0, 0, []), 1), (17, (29, 1, 0, []), 1)]
/-- ToneHouse$Reader.readNumber()LToneHouse$Token; -/
def tt_t113 : List (Nat × tt_Op × Nat) := [(0, (7, 0, 0, []), 1), (1, (3, 1, 0, []), 1), (2, (0, 1, 0, []), 1), (3, (7, 0, 800, []), 3), (6, (26, 42, 3, []), 3), (9, (2, 0, 0, []), 1), (10, (19, 384, 267, []), 3), (13, (2, 0, 0, []), 1), (14, (19, 390, 273, []), 3), (17, (30, 100, 2981, []), 3), (20, (30, 112, 3296, []), 3), (23, (25, 42, 0, []), 3), (26, (2, 0, 0, []), 1), (27, (17, 0, 0, []), 1), (28, (19, 390, 273, []), 3), (31, (7, 0, 1, []), 1), (32, (9, 0, 0, []), 1), (33, (20, 390, 273, []), 3), (36, (6, 1, 1, []), 3), (39, (24, 2, 0, []), 3), (42, (2, 0, 0, []), 1), (43, (19, 390, 273, []), 3), (46, (2, 0, 0, []), 1), (47, (19, 389, 272, []), 3), (50, (7, 0, 2, []), 1), (51, (9, 0, 0, []), 1), (52, (26, 59, 5, []), 3), (55, (31, 81, 761, []), 3), (58, (29, 3, 0, []), 1), (59, (2, 0, 0, []), 1), (60, (19, 389, 272, []), 3), (63, (3, 1, 0, []), 1), (64, (0, 1, 0, []), 1), (65, (2, 0, 0, []), 1), (66, (19, 390, 273, []), 3), (69, (26, 101, 3, []), 3), (72, (2, 0, 0, []), 1), (73, (7, 0, 10, []), 2), (75, (2, 0, 0, []), 1), (76, (19, 388, 271, []), 3), (79, (9, 2, 0, []), 1), (80, (2, 0, 0, []), 1), (81, (19, 384, 267, []), 3), (84, (0, 1, 0, []), 1), (85, (30, 100, 2981, []), 3), (88, (9, 0, 0, []), 1), (89, (7, 0, 48, []), 2), (91, (9, 1, 0, []), 1), (92, (20, 388, 271, []), 3), (95, (6, 1, 1, []), 3), (98, (24, 64, 0, []), 3), (101, (31, 77, 831, []), 3), (104, (29, 3, 0, []), 1)]
/-- ToneHouse$Reader.readRow()Z -/
def tt_t114 : List (Nat × tt_Op × Nat) := [(0, (2, 0, 0, []), 1), (1, (2, 0, 0, []), 1), (2, (19, 385, 268, []), 3), (5, (30, 115, 3365, []), 3), (8, (7, 0, 6, []), 2), (10, (26, 17, 3, []), 3), (13, (7, 0, 1, []), 1), (14, (24, 18, 0, []), 3), (17, (7, 0, 0, []), 1), (18, (7, 0, 4, []), 1), (19, (30, 116, 3381, []), 3), (22, (25, 27, 1, []), 3), (25, (7, 0, 0, []), 1), (26, (29, 1, 0, []), 1), (27, (2, 0, 0, []), 1), (28, (30, 99, 2965, []), 3), (31, (2, 0, 0, []), 1), (32, (19, 388, 271, []), 3), (35, (3, 1, 0, []), 1), (36, (2, 0, 0, []), 1), (37, (2, 0, 0, []), 1), (38, (19, 387, 270, []), 3), (41, (31, 76, 759, []), 3), (44, (27, 51, 1, []), 3), (47, (7, 0, 1, []), 1), (48, (24, 52, 0, []), 3), (51, (7, 0, 0, []), 1), (52, (7, 0, 1, []), 1), (53, (30, 116, 3381, []), 3), (56, (25, 84, 0, []), 3), (59, (2, 0, 0, []), 1), (60, (2, 0, 0, []), 1), (61, (19, 385, 268, []), 3), (64, (0, 1, 0, []), 1), (65, (30, 117, 3397, []), 3), (68, (7, 0, (-1), []), 1), (69, (26, 76, 1, []), 3), (72, (7, 0, 1, []), 1), (73, (24, 77, 0, []), 3), (76, (7, 0, 0, []), 1), (77, (7, 0, 2, []), 1), (78, (30, 116, 3381, []), 3), (81, (25, 86, 1, []), 3), (84, (7, 0, 0, []), 1), (85, (29, 1, 0, []), 1), (86, (2, 0, 0, []), 1), (87, (30, 99, 2965, []), 3), (90, (2, 0, 0, []), 1), (91, (31, 78, 833, []), 3), (94, (30, 118, 3413, []), 3), (97, (25, 123, 0, []), 3), (100, (2, 0, 0, []), 1), (101, (2, 0, 0, []), 1), (102, (19, 387, 270, []), 3), (105, (31, 77, 831, []), 3), (108, (27, 115, 1, []), 3), (111, (7, 0, 1, []), 1), (112, (24, 116, 0, []), 3), (115, (7, 0, 0, []), 1), (116, (7, 0, 1, []), 1), (117, (30, 116, 3381, []), 3), (120, (25, 125, 1, []), 3), (123, (7, 0, 0, []), 1), (124, (29, 1, 0, []), 1), (125, (2, 0, 0, []), 1), (126, (30, 119, 3429, []), 3), (129, (4, 2, 0, []), 1), (130, (1, 2, 0, []), 1), (131, (8, 861, (-1), []), 3), (134, (15, 0, 0, []), 1), (135, (25, 148, 0, []), 3), (138, (2, 0, 0, []), 1), (139, (31, 79, 835, []), 3), (142, (30, 118, 3413, []), 3), (145, (25, 150, 1, []), 3), (148, (7, 0, 0, []), 1), (149, (29, 1, 0, []), 1), (150, (2, 0, 0, []), 1), (151, (19, 385, 268, []), 3), (154, (0, 1, 0, []), 1), (155, (1, 2, 0, []), 1), (156, (30, 120, 3449, []), 3), (159, (7, 0, 1, []), 1), (160, (29, 1, 0, []), 1)]
/-- ToneHouse$Score.rowCount()I -/
def tt_t115 : List (Nat × tt_Op × Nat) := [(0, (2, 0, 0, []), 1), (1, (19, 514, 242, []), 3), (4, (29, 1, 0, []), 1)]
/-- ToneHouse$Reader.holds(ZI)Z -/
def tt_t116 : List (Nat × tt_Op × Nat) := [(0, (0, 1, 0, []), 1), (1, (25, 17, 1, []), 3), (4, (2, 0, 0, []), 1), (5, (0, 2, 0, []), 1), (6, (20, 391, 274, []), 3), (9, (2, 0, 0, []), 1), (10, (2, 0, 0, []), 1), (11, (19, 389, 272, []), 3), (14, (20, 392, 275, []), 3), (17, (0, 1, 0, []), 1), (18, (29, 1, 0, []), 1)]
/-- ToneHouse$Score.findRow(I)I -/
def tt_t117 : List (Nat × tt_Op × Nat) := [(0, (7, 0, 0, []), 1), (1, (3, 2, 0, []), 1), (2, (0, 2, 0, []), 1), (3, (2, 0, 0, []), 1), (4, (19, 514, 242, []), 3), (7, (26, 28, 3, []), 3), (10, (2, 0, 0, []), 1), (11, (19, 513, 241, []), 3), (14, (0, 2, 0, []), 1), (15, (21, 0, 0, []), 1), (16, (0, 1, 0, []), 1), (17, (26, 22, 1, []), 3), (20, (0, 2, 0, []), 1), (21, (29, 1, 0, []), 1), (22, (6, 2, 1, []), 3), (25, (24, 2, 0, []), 3), (28, (7, 0, (-1), []), 1), (29, (29, 1, 0, []), 1)]
/-- ToneHouse$Reader.passes(LToneHouse$Token;)Z -/
def tt_t118 : List (Nat × tt_Op × Nat) := [(0, (2, 0, 0, []), 1), (1, (2, 0, 0, []), 1), (2, (19, 387, 270, []), 3), (5, (2, 1, 0, []), 1), (6, (27, 13, 1, []), 3), (9, (7, 0, 1, []), 1), (10, (24, 14, 0, []), 3), (13, (7, 0, 0, []), 1), (14, (7, 0, 1, []), 1), (15, (30, 116, 3381, []), 3), (18, (25, 23, 1, []), 3), (21, (7, 0, 0, []), 1), (22, (29, 1, 0, []), 1), (23, (2, 0, 0, []), 1), (24, (30, 99, 2965, []), 3), (27, (7, 0, 1, []), 1), (28, (29, 1, 0, []), 1)]
/-- ToneHouse$Reader.readNotes()J -/
def tt_t119 : List (Nat × tt_Op × Nat) := [(0, (8, 0, 0, []), 1), (1, (4, 1, 0, []), 1), (2, (7, 0, 0, []), 1), (3, (3, 3, 0, []), 1), (4, (7, 0, 0, []), 1), (5, (3, 4, 0, []), 2), (7, (7, 0, 0, []), 1), (8, (3, 5, 0, []), 2), (10, (0, 5, 0, []), 2), (12, (2, 0, 0, []), 1), (13, (19, 386, 269, []), 3), (16, (26, 103, 4, []), 3), (19, (2, 0, 0, []), 1), (20, (19, 387, 270, []), 3), (23, (31, 77, 831, []), 3), (26, (27, 103, 1, []), 3), (29, (2, 0, 0, []), 1), (30, (2, 0, 0, []), 1), (31, (19, 388, 271, []), 3), (34, (2, 0, 0, []), 1), (35, (19, 386, 269, []), 3), (38, (26, 56, 3, []), 3), (41, (0, 3, 0, []), 1), (42, (2, 0, 0, []), 1), (43, (19, 388, 271, []), 3), (46, (9, 7, 0, []), 1), (47, (7, 0, 1, []), 1), (48, (9, 3, 0, []), 1), (49, (25, 56, 1, []), 3), (52, (7, 0, 1, []), 1), (53, (24, 57, 0, []), 3), (56, (7, 0, 0, []), 1), (57, (7, 0, 3, []), 1), (58, (30, 116, 3381, []), 3), (61, (25, 68, 1, []), 3), (64, (8, 861, (-1), []), 3), (67, (29, 2, 0, []), 1), (68, (0, 3, 0, []), 1), (69, (7, 0, 1, []), 1), (70, (2, 0, 0, []), 1), (71, (19, 388, 271, []), 3), (74, (9, 6, 0, []), 1), (75, (9, 4, 0, []), 1), (76, (3, 3, 0, []), 1), (77, (1, 1, 0, []), 1), (78, (2, 0, 0, []), 1), (79, (19, 388, 271, []), 3), (82, (16, 0, 0, []), 1), (83, (7, 0, 4, []), 1), (84, (0, 4, 0, []), 2), (86, (9, 2, 0, []), 1), (87, (14, 0, 0, []), 1), (88, (13, 4, 0, []), 1), (89, (4, 1, 0, []), 1), (90, (6, 4, 1, []), 3), (93, (2, 0, 0, []), 1), (94, (30, 99, 2965, []), 3), (97, (6, 5, 1, []), 3), (100, (24, 10, 0, []), 3), (103, (2, 0, 0, []), 1), (104, (2, 0, 0, []), 1), (105, (19, 387, 270, []), 3), (108, (31, 79, 835, []), 3), (111, (27, 118, 1, []), 3), (114, (7, 0, 1, []), 1), (115, (24, 119, 0, []), 3), (118, (7, 0, 0, []), 1), (119, (7, 0, 1, []), 1), (120, (30, 116, 3381, []), 3), (123, (25, 152, 0, []), 3), (126, (2, 0, 0, []), 1), (127, (0, 4, 0, []), 2), (129, (2, 0, 0, []), 1), (130, (19, 386, 269, []), 3), (133, (26, 140, 1, []), 3), (136, (7, 0, 1, []), 1), (137, (24, 141, 0, []), 3), (140, (7, 0, 0, []), 1), (141, (7, 0, 3, []), 1), (142, (30, 116, 3381, []), 3), (145, (25, 152, 0, []), 3), (148, (7, 0, 1, []), 1), (149, (24, 153, 0, []), 3), (152, (7, 0, 0, []), 1), (153, (3, 5, 0, []), 2), (155, (0, 5, 0, []), 2), (157, (25, 164, 0, []), 3), (160, (1, 1, 0, []), 1), (161, (24, 167, 0, []), 3), (164, (8, 861, (-1), []), 3), (167, (29, 2, 0, []), 1)]
/-- ToneHouse$Score.addRow(IJ)V -/
def tt_t120 : List (Nat × tt_Op × Nat) := [(0, (2, 0, 0, []), 1), (1, (19, 514, 242, []), 3), (4, (7, 0, 6, []), 2), (6, (26, 39, 3, []), 3), (9, (2, 0, 0, []), 1), (10, (19, 513, 241, []), 3), (13, (2, 0, 0, []), 1), (14, (19, 514, 242, []), 3), (17, (0, 1, 0, []), 1), (18, (22, 0, 0, []), 1), (19, (2, 0, 0, []), 1), (20, (19, 512, 240, []), 3), (23, (2, 0, 0, []), 1), (24, (19, 514, 242, []), 3), (27, (1, 2, 0, []), 1), (28, (22, 1, 0, []), 1), (29, (2, 0, 0, []), 1), (30, (17, 0, 0, []), 1), (31, (19, 514, 242, []), 3), (34, (7, 0, 1, []), 1), (35, (9, 0, 0, []), 1), (36, (20, 514, 242, []), 3), (39, (29, 0, 0, []), 1)]
/-- ToneHouse$Reader.readVoice()Z -/
def tt_t121 : List (Nat × tt_Op × Nat) := [(0, (2, 0, 0, []), 1), (1, (2, 0, 0, []), 1), (2, (19, 385, 268, []), 3), (5, (30, 122, 3481, []), 3), (8, (7, 0, 8, []), 2), (10, (26, 17, 3, []), 3), (13, (7, 0, 1, []), 1), (14, (24, 18, 0, []), 3), (17, (7, 0, 0, []), 1), (18, (7, 0, 4, []), 1), (19, (30, 116, 3381, []), 3), (22, (25, 27, 1, []), 3), (25, (7, 0, 0, []), 1), (26, (29, 1, 0, []), 1), (27, (2, 0, 0, []), 1), (28, (30, 99, 2965, []), 3), (31, (2, 0, 0, []), 1), (32, (19, 387, 270, []), 3), (35, (31, 76, 759, []), 3), (38, (27, 55, 1, []), 3), (41, (2, 0, 0, []), 1), (42, (19, 385, 268, []), 3), (45, (2, 0, 0, []), 1), (46, (19, 388, 271, []), 3), (49, (30, 117, 3397, []), 3), (52, (24, 56, 0, []), 3), (55, (7, 0, (-1), []), 1), (56, (3, 1, 0, []), 1), (57, (2, 0, 0, []), 1), (58, (2, 0, 0, []), 1), (59, (19, 387, 270, []), 3), (62, (31, 76, 759, []), 3), (65, (27, 72, 1, []), 3), (68, (7, 0, 1, []), 1), (69, (24, 73, 0, []), 3), (72, (7, 0, 0, []), 1), (73, (7, 0, 1, []), 1), (74, (30, 116, 3381, []), 3), (77, (25, 98, 0, []), 3), (80, (2, 0, 0, []), 1), (81, (0, 1, 0, []), 1), (82, (7, 0, (-1), []), 1), (83, (26, 90, 0, []), 3), (86, (7, 0, 1, []), 1), (87, (24, 91, 0, []), 3), (90, (7, 0, 0, []), 1), (91, (7, 0, 2, []), 1), (92, (30, 116, 3381, []), 3), (95, (25, 100, 1, []), 3), (98, (7, 0, 0, []), 1), (99, (29, 1, 0, []), 1), (100, (2, 0, 0, []), 1), (101, (30, 99, 2965, []), 3), (104, (2, 0, 0, []), 1), (105, (19, 387, 270, []), 3), (108, (31, 76, 759, []), 3), (111, (27, 127, 1, []), 3), (114, (33, 85, 110, []), 2), (116, (2, 0, 0, []), 1), (117, (19, 388, 271, []), 3), (120, (16, 2, 0, []), 1), (121, (30, 123, 3501, []), 3), (124, (24, 128, 0, []), 3), (127, (7, 0, (-1), []), 1), (128, (3, 2, 0, []), 1), (129, (2, 0, 0, []), 1), (130, (0, 2, 0, []), 1), (131, (25, 138, 2, []), 3), (134, (7, 0, 1, []), 1), (135, (24, 139, 0, []), 3), (138, (7, 0, 0, []), 1), (139, (7, 0, 1, []), 1), (140, (30, 116, 3381, []), 3), (143, (25, 148, 1, []), 3), (146, (7, 0, 0, []), 1), (147, (29, 1, 0, []), 1), (148, (2, 0, 0, []), 1), (149, (30, 99, 2965, []), 3), (152, (2, 0, 0, []), 1), (153, (19, 388, 271, []), 3), (156, (3, 3, 0, []), 1), (157, (2, 0, 0, []), 1), (158, (2, 0, 0, []), 1), (159, (19, 386, 269, []), 3), (162, (7, 0, 1, []), 1), (163, (9, 1, 0, []), 1), (164, (30, 128, 3729, []), 3), (167, (25, 180, 0, []), 3), (170, (2, 0, 0, []), 1), (171, (31, 75, 822, []), 3), (174, (30, 118, 3413, []), 3), (177, (25, 182, 1, []), 3), (180, (7, 0, 0, []), 1), (181, (29, 1, 0, []), 1), (182, (2, 0, 0, []), 1), (183, (19, 388, 271, []), 3), (186, (3, 4, 0, []), 2), (188, (2, 0, 0, []), 1), (189, (7, 0, 40, []), 2), (191, (30, 128, 3729, []), 3), (194, (25, 207, 0, []), 3), (197, (2, 0, 0, []), 1), (198, (31, 79, 835, []), 3), (201, (30, 118, 3413, []), 3), (204, (25, 209, 1, []), 3), (207, (7, 0, 0, []), 1), (208, (29, 1, 0, []), 1), (209, (2, 0, 0, []), 1), (210, (19, 385, 268, []), 3), (213, (0, 1, 0, []), 1), (214, (0, 2, 0, []), 1), (215, (0, 3, 0, []), 1), (216, (0, 4, 0, []), 2), (218, (30, 129, 3745, []), 3), (221, (7, 0, 1, []), 1), (222, (29, 1, 0, []), 1)]
/-- ToneHouse$Score.voiceCount()I -/
def tt_t122 : List (Nat × tt_Op × Nat) := [(0, (2, 0, 0, []), 1), (1, (19, 519, 247, []), 3), (4, (29, 1, 0, []), 1)]
/-- java/lang/String.indexOf(I)I -/
def tt_t123 : List (Nat × tt_Op × Nat) := [(0, (2, 0, 0, []), 1), (1, (0, 1, 0, []), 1), (2, (7, 0, 0, []), 1), (3, (30, 124, 3517, []), 3), (6, (29, 1, 0, []), 1)]
/-- java/lang/String.indexOf(II)I -/
def tt_t124 : List (Nat × tt_Op × Nat) := [(0, (2, 0, 0, []), 1), (1, (30, 108, 3129, []), 3), (4, (25, 23, 0, []), 3), (7, (2, 0, 0, []), 1), (8, (35, 0, 1575, []), 3), (11, (0, 1, 0, []), 1), (12, (0, 2, 0, []), 1), (13, (2, 0, 0, []), 1), (14, (30, 105, 3533, []), 3), (17, (30, 125, 3536, []), 3), (20, (24, 36, 0, []), 3), (23, (2, 0, 0, []), 1), (24, (35, 0, 1575, []), 3), (27, (0, 1, 0, []), 1), (28, (0, 2, 0, []), 1), (29, (2, 0, 0, []), 1), (30, (30, 105, 3533, []), 3), (36, (29, 1, 0, []), 1)]
/-- java/lang/StringLatin1.indexOf([BIII)I -/
def tt_t125 : List (Nat × tt_Op × Nat) := [(0, (0, 1, 0, []), 1), (1, (30, 126, 3548, []), 3), (4, (25, 9, 1, []), 3), (7, (7, 0, (-1), []), 1), (8, (29, 1, 0, []), 1), (9, (0, 2, 0, []), 1), (10, (7, 0, 0, []), 1), (11, (36, 2, 890, []), 3), (14, (3, 2, 0, []), 1), (15, (0, 3, 0, []), 1), (16, (2, 0, 0, []), 1), (17, (23, 0, 0, []), 1), (18, (36, 1, 893, []), 3), (21, (3, 3, 0, []), 1), (22, (0, 2, 0, []), 1), (23, (0, 3, 0, []), 1), (24, (26, 29, 2, []), 3), (27, (7, 0, (-1), []), 1), (28, (29, 1, 0, []), 1), (29, (2, 0, 0, []), 1), (30, (0, 1, 0, []), 1), (31, (0, 2, 0, []), 1), (32, (0, 3, 0, []), 1), (33, (30, 127, 3576, []), 3), (36, (29, 1, 0, []), 1)]
/-- java/lang/StringLatin1.canEncode(I)Z -/
def tt_t126 : List (Nat × tt_Op × Nat) := [(0, (0, 0, 0, []), 1), (1, (25, 15, 2, []), 3), (4, (0, 0, 0, []), 1), (5, (7, 0, 255, []), 3), (8, (26, 15, 4, []), 3), (11, (7, 0, 1, []), 1), (12, (24, 16, 0, []), 3), (15, (7, 0, 0, []), 1), (16, (29, 1, 0, []), 1)]
/-- java/lang/StringLatin1.indexOfChar([BIII)I -/
def tt_t127 : List (Nat × tt_Op × Nat) := [(0, (0, 1, 0, []), 1), (1, (16, 3, 0, []), 1), (2, (3, 4, 0, []), 2), (4, (0, 2, 0, []), 1), (5, (3, 5, 0, []), 2), (7, (0, 5, 0, []), 2), (9, (0, 3, 0, []), 1), (10, (26, 31, 3, []), 3), (13, (2, 0, 0, []), 1), (14, (0, 5, 0, []), 2), (16, (21, 2, 0, []), 1), (17, (0, 4, 0, []), 2), (19, (26, 25, 1, []), 3), (22, (0, 5, 0, []), 2), (24, (29, 1, 0, []), 1), (25, (6, 5, 1, []), 3), (28, (24, 7, 0, []), 3), (31, (7, 0, (-1), []), 1), (32, (29, 1, 0, []), 1)]
/-- ToneHouse$Reader.passesNumber(I)Z -/
def tt_t128 : List (Nat × tt_Op × Nat) := [(0, (2, 0, 0, []), 1), (1, (2, 0, 0, []), 1), (2, (19, 387, 270, []), 3), (5, (31, 77, 831, []), 3), (8, (27, 15, 1, []), 3), (11, (7, 0, 1, []), 1), (12, (24, 16, 0, []), 3), (15, (7, 0, 0, []), 1), (16, (7, 0, 1, []), 1), (17, (30, 116, 3381, []), 3), (20, (25, 44, 0, []), 3), (23, (2, 0, 0, []), 1), (24, (2, 0, 0, []), 1), (25, (19, 388, 271, []), 3), (28, (0, 1, 0, []), 1), (29, (26, 36, 4, []), 3), (32, (7, 0, 1, []), 1), (33, (24, 37, 0, []), 3), (36, (7, 0, 0, []), 1), (37, (7, 0, 3, []), 1), (38, (30, 116, 3381, []), 3), (41, (25, 46, 1, []), 3), (44, (7, 0, 0, []), 1), (45, (29, 1, 0, []), 1), (46, (2, 0, 0, []), 1), (47, (30, 99, 2965, []), 3), (50, (7, 0, 1, []), 1), (51, (29, 1, 0, []), 1)]
/-- ToneHouse$Score.addVoice(IIII)V -/
def tt_t129 : List (Nat × tt_Op × Nat) := [(0, (2, 0, 0, []), 1), (1, (19, 519, 247, []), 3), (4, (7, 0, 8, []), 2), (6, (26, 60, 3, []), 3), (9, (2, 0, 0, []), 1), (10, (19, 515, 243, []), 3), (13, (2, 0, 0, []), 1), (14, (19, 519, 247, []), 3), (17, (0, 1, 0, []), 1), (18, (22, 0, 0, []), 1), (19, (2, 0, 0, []), 1), (20, (19, 516, 244, []), 3), (23, (2, 0, 0, []), 1), (24, (19, 519, 247, []), 3), (27, (0, 2, 0, []), 1), (28, (22, 0, 0, []), 1), (29, (2, 0, 0, []), 1), (30, (19, 517, 245, []), 3), (33, (2, 0, 0, []), 1), (34, (19, 519, 247, []), 3), (37, (0, 3, 0, []), 1), (38, (22, 0, 0, []), 1), (39, (2, 0, 0, []), 1), (40, (19, 518, 246, []), 3), (43, (2, 0, 0, []), 1), (44, (19, 519, 247, []), 3), (47, (0, 4, 0, []), 2), (49, (22, 0, 0, []), 1), (50, (2, 0, 0, []), 1), (51, (17, 0, 0, []), 1), (52, (19, 519, 247, []), 3), (55, (7, 0, 1, []), 1), (56, (9, 0, 0, []), 1), (57, (20, 519, 247, []), 3), (60, (29, 0, 0, []), 1)]
/-- ToneHouse$Reader.exchange(LToneHouse$Score;)LToneHouse$Score; -/
def tt_t130 : List (Nat × tt_Op × Nat) := [(0, (2, 0, 0, []), 1), (1, (19, 385, 268, []), 3), (4, (5, 2, 0, []), 1), (5, (2, 0, 0, []), 1), (6, (2, 1, 0, []), 1), (7, (20, 385, 268, []), 3), (10, (2, 2, 0, []), 1), (11, (29, 3, 0, []), 1)]
/-- ToneHouse.fault(I)I -/
def tt_t131 : List (Nat × tt_Op × Nat) := [(0, (0, 1, 0, []), 1), (1, (28, 44, 1, [(0, 28), (1, 36)]), 27), (28, (2, 0, 0, []), 1), (29, (19, 6, 309, []), 3), (32, (30, 132, 3801, []), 3), (35, (29, 1, 0, []), 1), (36, (2, 0, 0, []), 1), (37, (19, 6, 309, []), 3), (40, (30, 133, 3817, []), 3), (43, (29, 1, 0, []), 1), (44, (7, 0, (-1), []), 1), (45, (29, 1, 0, []), 1)]
/-- ToneHouse$Reader.faultKind()I -/
def tt_t132 : List (Nat × tt_Op × Nat) := [(0, (2, 0, 0, []), 1), (1, (19, 391, 274, []), 3), (4, (29, 1, 0, []), 1)]
/-- ToneHouse$Reader.faultPlace()I -/
def tt_t133 : List (Nat × tt_Op × Nat) := [(0, (2, 0, 0, []), 1), (1, (19, 392, 275, []), 3), (4, (29, 1, 0, []), 1)]
/-- ToneHouse.score(I)I -/
def tt_t134 : List (Nat × tt_Op × Nat) := [(0, (0, 1, 0, []), 1), (1, (28, 78, 0, [(0, 32), (1, 40), (2, 48), (3, 63)]), 31), (32, (2, 0, 0, []), 1), (33, (19, 8, 311, []), 3), (36, (30, 115, 3849, []), 3), (39, (29, 1, 0, []), 1), (40, (2, 0, 0, []), 1), (41, (19, 8, 311, []), 3), (44, (30, 122, 3777, []), 3), (47, (29, 1, 0, []), 1), (48, (2, 0, 0, []), 1), (49, (19, 8, 311, []), 3), (52, (2, 0, 0, []), 1), (53, (19, 0, 303, []), 3), (56, (30, 2, 1341, []), 3), (59, (30, 135, 3853, []), 3), (62, (29, 1, 0, []), 1), (63, (2, 0, 0, []), 1), (64, (19, 8, 311, []), 3), (67, (2, 0, 0, []), 1), (68, (19, 0, 303, []), 3), (71, (30, 2, 1341, []), 3), (74, (30, 139, 3929, []), 3), (77, (29, 1, 0, []), 1), (78, (7, 0, (-1), []), 1), (79, (29, 1, 0, []), 1)]
/-- ToneHouse$Score.allClashes(I)I -/
def tt_t135 : List (Nat × tt_Op × Nat) := [(0, (7, 0, 0, []), 1), (1, (3, 2, 0, []), 1), (2, (7, 0, 0, []), 1), (3, (3, 3, 0, []), 1), (4, (0, 3, 0, []), 1), (5, (2, 0, 0, []), 1), (6, (19, 519, 247, []), 3), (9, (26, 33, 3, []), 3), (12, (0, 2, 0, []), 1), (13, (2, 0, 0, []), 1), (14, (0, 3, 0, []), 1), (15, (2, 0, 0, []), 1), (16, (19, 518, 246, []), 3), (19, (0, 3, 0, []), 1), (20, (21, 0, 0, []), 1), (21, (0, 1, 0, []), 1), (22, (30, 136, 3869, []), 3), (25, (9, 0, 0, []), 1), (26, (3, 2, 0, []), 1), (27, (6, 3, 1, []), 3), (30, (24, 4, 0, []), 3), (33, (0, 2, 0, []), 1), (34, (7, 0, 2, []), 1), (35, (10, 0, 0, []), 1), (36, (29, 1, 0, []), 1)]
/-- ToneHouse$Score.clashesFrom(III)I -/
def tt_t136 : List (Nat × tt_Op × Nat) := [(0, (2, 0, 0, []), 1), (1, (0, 1, 0, []), 1), (2, (0, 3, 0, []), 1), (3, (30, 137, 3885, []), 3), (6, (4, 4, 0, []), 2), (8, (7, 0, 0, []), 1), (9, (3, 6, 0, []), 2), (11, (7, 0, 0, []), 1), (12, (3, 7, 0, []), 2), (14, (0, 7, 0, []), 2), (16, (2, 0, 0, []), 1), (17, (19, 519, 247, []), 3), (20, (26, 74, 3, []), 3), (23, (7, 0, 0, []), 1), (24, (3, 8, 0, []), 2), (26, (0, 8, 0, []), 2), (28, (0, 3, 0, []), 1), (29, (26, 68, 3, []), 3), (32, (0, 7, 0, []), 2), (34, (0, 1, 0, []), 1), (35, (26, 68, 0, []), 3), (38, (2, 0, 0, []), 1), (39, (0, 7, 0, []), 2), (41, (0, 2, 0, []), 1), (42, (0, 8, 0, []), 2), (44, (9, 0, 0, []), 1), (45, (0, 3, 0, []), 1), (46, (30, 138, 3905, []), 3), (49, (1, 4, 0, []), 2), (51, (0, 8, 0, []), 2), (53, (30, 56, 3926, []), 3), (56, (26, 62, 1, []), 3), (59, (6, 6, 1, []), 3), (62, (6, 8, 1, []), 3), (65, (24, 26, 0, []), 3), (68, (6, 7, 1, []), 3), (71, (24, 14, 0, []), 3), (74, (0, 6, 0, []), 2), (76, (29, 1, 0, []), 1)]
/-- ToneHouse$Score.sungRow(II)J -/
def tt_t137 : List (Nat × tt_Op × Nat) := [(0, (2, 0, 0, []), 1), (1, (19, 512, 240, []), 3), (4, (2, 0, 0, []), 1), (5, (19, 515, 243, []), 3), (8, (0, 1, 0, []), 1), (9, (21, 0, 0, []), 1), (10, (21, 1, 0, []), 1), (11, (0, 2, 0, []), 1), (12, (2, 0, 0, []), 1), (13, (19, 516, 244, []), 3), (16, (0, 1, 0, []), 1), (17, (21, 0, 0, []), 1), (18, (2, 0, 0, []), 1), (19, (19, 517, 245, []), 3), (22, (0, 1, 0, []), 1), (23, (21, 0, 0, []), 1), (24, (30, 63, 3902, []), 3), (27, (29, 2, 0, []), 1)]
/-- ToneHouse$Score.sung(III)I -/
def tt_t138 : List (Nat × tt_Op × Nat) := [(0, (0, 2, 0, []), 1), (1, (2, 0, 0, []), 1), (2, (19, 518, 246, []), 3), (5, (0, 1, 0, []), 1), (6, (21, 0, 0, []), 1), (7, (26, 22, 2, []), 3), (10, (0, 2, 0, []), 1), (11, (2, 0, 0, []), 1), (12, (19, 518, 246, []), 3), (15, (0, 1, 0, []), 1), (16, (21, 0, 0, []), 1), (17, (9, 1, 0, []), 1), (18, (0, 3, 0, []), 1), (19, (26, 24, 2, []), 3), (22, (7, 0, (-1), []), 1), (23, (29, 1, 0, []), 1), (24, (2, 0, 0, []), 1), (25, (19, 512, 240, []), 3), (28, (2, 0, 0, []), 1), (29, (19, 515, 243, []), 3), (32, (0, 1, 0, []), 1), (33, (21, 0, 0, []), 1), (34, (21, 1, 0, []), 1), (35, (0, 3, 0, []), 1), (36, (2, 0, 0, []), 1), (37, (19, 516, 244, []), 3), (40, (0, 1, 0, []), 1), (41, (21, 0, 0, []), 1), (42, (2, 0, 0, []), 1), (43, (19, 517, 245, []), 3), (46, (0, 1, 0, []), 1), (47, (21, 0, 0, []), 1), (48, (0, 2, 0, []), 1), (49, (2, 0, 0, []), 1), (50, (19, 518, 246, []), 3), (53, (0, 1, 0, []), 1), (54, (21, 0, 0, []), 1), (55, (9, 1, 0, []), 1), (56, (30, 60, 3922, []), 3), (59, (29, 1, 0, []), 1)]
/-- ToneHouse$Score.beats(I)I -/
def tt_t139 : List (Nat × tt_Op × Nat) := [(0, (7, 0, 0, []), 1), (1, (3, 2, 0, []), 1), (2, (7, 0, 0, []), 1), (3, (3, 3, 0, []), 1), (4, (0, 3, 0, []), 1), (5, (2, 0, 0, []), 1), (6, (19, 519, 247, []), 3), (9, (26, 31, 3, []), 3), (12, (0, 2, 0, []), 1), (13, (2, 0, 0, []), 1), (14, (19, 518, 246, []), 3), (17, (0, 3, 0, []), 1), (18, (21, 0, 0, []), 1), (19, (0, 1, 0, []), 1), (20, (9, 0, 0, []), 1), (21, (36, 2, 986, []), 3), (24, (3, 2, 0, []), 1), (25, (6, 3, 1, []), 3), (28, (24, 4, 0, []), 3), (31, (0, 2, 0, []), 1), (32, (29, 1, 0, []), 1)]
/-- ToneHouse.voice(II)I -/
def tt_t140 : List (Nat × tt_Op × Nat) := [(0, (2, 0, 0, []), 1), (1, (19, 8, 311, []), 3), (4, (0, 1, 0, []), 1), (5, (30, 141, 3965, []), 3), (8, (25, 13, 1, []), 3), (11, (7, 0, (-1), []), 1), (12, (29, 1, 0, []), 1), (13, (0, 2, 0, []), 1), (14, (28, 108, 0, [(0, 48), (1, 57), (2, 66), (3, 75), (4, 84)]), 34), (48, (2, 0, 0, []), 1), (49, (19, 8, 311, []), 3), (52, (0, 1, 0, []), 1), (53, (30, 142, 3981, []), 3), (56, (29, 1, 0, []), 1), (57, (2, 0, 0, []), 1), (58, (19, 8, 311, []), 3), (61, (0, 1, 0, []), 1), (62, (30, 143, 3997, []), 3), (65, (29, 1, 0, []), 1), (66, (2, 0, 0, []), 1), (67, (19, 8, 311, []), 3), (70, (0, 1, 0, []), 1), (71, (30, 144, 4013, []), 3), (74, (29, 1, 0, []), 1), (75, (2, 0, 0, []), 1), (76, (19, 8, 311, []), 3), (79, (0, 1, 0, []), 1), (80, (30, 145, 4029, []), 3), (83, (29, 1, 0, []), 1), (84, (2, 0, 0, []), 1), (85, (19, 8, 311, []), 3), (88, (0, 1, 0, []), 1), (89, (2, 0, 0, []), 1), (90, (19, 8, 311, []), 3), (93, (0, 1, 0, []), 1), (94, (30, 145, 4029, []), 3), (97, (2, 0, 0, []), 1), (98, (19, 0, 303, []), 3), (101, (30, 2, 1341, []), 3), (104, (30, 136, 4045, []), 3), (107, (29, 1, 0, []), 1), (108, (7, 0, (-1), []), 1), (109, (29, 1, 0, []), 1)]
/-- ToneHouse$Score.hasVoice(I)Z -/
def tt_t141 : List (Nat × tt_Op × Nat) := [(0, (0, 1, 0, []), 1), (1, (25, 16, 2, []), 3), (4, (0, 1, 0, []), 1), (5, (2, 0, 0, []), 1), (6, (19, 519, 247, []), 3), (9, (26, 16, 3, []), 3), (12, (7, 0, 1, []), 1), (13, (24, 17, 0, []), 3), (16, (7, 0, 0, []), 1), (17, (29, 1, 0, []), 1)]
/-- ToneHouse$Score.rowOf(I)I -/
def tt_t142 : List (Nat × tt_Op × Nat) := [(0, (2, 0, 0, []), 1), (1, (19, 515, 243, []), 3), (4, (0, 1, 0, []), 1), (5, (21, 0, 0, []), 1), (6, (29, 1, 0, []), 1)]
/-- ToneHouse$Score.kindOf(I)I -/
def tt_t143 : List (Nat × tt_Op × Nat) := [(0, (2, 0, 0, []), 1), (1, (19, 516, 244, []), 3), (4, (0, 1, 0, []), 1), (5, (21, 0, 0, []), 1), (6, (29, 1, 0, []), 1)]
/-- ToneHouse$Score.turnOf(I)I -/
def tt_t144 : List (Nat × tt_Op × Nat) := [(0, (2, 0, 0, []), 1), (1, (19, 517, 245, []), 3), (4, (0, 1, 0, []), 1), (5, (21, 0, 0, []), 1), (6, (29, 1, 0, []), 1)]
/-- ToneHouse$Score.beginOf(I)I -/
def tt_t145 : List (Nat × tt_Op × Nat) := [(0, (2, 0, 0, []), 1), (1, (19, 518, 246, []), 3), (4, (0, 1, 0, []), 1), (5, (21, 0, 0, []), 1), (6, (29, 1, 0, []), 1)]
/-- ToneHouse.sings(II)I -/
def tt_t146 : List (Nat × tt_Op × Nat) := [(0, (2, 0, 0, []), 1), (1, (19, 8, 311, []), 3), (4, (0, 1, 0, []), 1), (5, (30, 141, 3965, []), 3), (8, (25, 30, 0, []), 3), (11, (2, 0, 0, []), 1), (12, (19, 8, 311, []), 3), (15, (0, 1, 0, []), 1), (16, (0, 2, 0, []), 1), (17, (2, 0, 0, []), 1), (18, (19, 0, 303, []), 3), (21, (30, 2, 1341, []), 3), (24, (30, 138, 4065, []), 3), (27, (24, 31, 0, []), 3), (30, (7, 0, (-1), []), 1), (31, (29, 1, 0, []), 1)]
/-- ToneHouse.chord(I)I -/
def tt_t147 : List (Nat × tt_Op × Nat) := [(0, (7, 0, 0, []), 1), (1, (3, 2, 0, []), 1), (2, (7, 0, 0, []), 1), (3, (3, 3, 0, []), 1), (4, (0, 3, 0, []), 1), (5, (2, 0, 0, []), 1), (6, (19, 8, 311, []), 3), (9, (30, 122, 3777, []), 3), (12, (26, 52, 3, []), 3), (15, (2, 0, 0, []), 1), (16, (19, 8, 311, []), 3), (19, (0, 3, 0, []), 1), (20, (0, 1, 0, []), 1), (21, (2, 0, 0, []), 1), (22, (19, 0, 303, []), 3), (25, (30, 2, 1341, []), 3), (28, (30, 138, 4065, []), 3), (31, (3, 4, 0, []), 2), (33, (0, 4, 0, []), 2), (35, (7, 0, (-1), []), 1), (36, (26, 46, 0, []), 3), (39, (0, 2, 0, []), 1), (40, (7, 0, 1, []), 1), (41, (0, 4, 0, []), 2), (43, (9, 6, 0, []), 1), (44, (9, 4, 0, []), 1), (45, (3, 2, 0, []), 1), (46, (6, 3, 1, []), 3), (49, (24, 4, 0, []), 3), (52, (0, 2, 0, []), 1), (53, (29, 1, 0, []), 1)]
/-- ToneHouse.fit(II)I -/
def tt_t148 : List (Nat × tt_Op × Nat) := [(0, (2, 0, 0, []), 1), (1, (19, 8, 311, []), 3), (4, (0, 1, 0, []), 1), (5, (30, 141, 3965, []), 3), (8, (25, 21, 0, []), 3), (11, (0, 2, 0, []), 1), (12, (25, 21, 2, []), 3), (15, (0, 2, 0, []), 1), (16, (7, 0, 40, []), 2), (18, (26, 23, 5, []), 3), (21, (7, 0, (-1), []), 1), (22, (29, 1, 0, []), 1), (23, (7, 0, 0, []), 1), (24, (3, 3, 0, []), 1), (25, (2, 0, 0, []), 1), (26, (19, 8, 311, []), 3), (29, (0, 1, 0, []), 1), (30, (7, 0, 0, []), 1), (31, (2, 0, 0, []), 1), (32, (19, 0, 303, []), 3), (35, (30, 2, 1341, []), 3), (38, (30, 136, 4045, []), 3), (41, (3, 4, 0, []), 2), (43, (7, 0, 1, []), 1), (44, (3, 5, 0, []), 2), (46, (0, 5, 0, []), 2), (48, (0, 2, 0, []), 1), (49, (26, 91, 4, []), 3), (52, (2, 0, 0, []), 1), (53, (19, 8, 311, []), 3), (56, (0, 1, 0, []), 1), (57, (0, 5, 0, []), 2), (59, (2, 0, 0, []), 1), (60, (19, 0, 303, []), 3), (63, (30, 2, 1341, []), 3), (66, (30, 136, 4045, []), 3), (69, (3, 6, 0, []), 2), (71, (0, 6, 0, []), 2), (73, (0, 4, 0, []), 2), (75, (26, 85, 3, []), 3), (78, (0, 6, 0, []), 2), (80, (3, 4, 0, []), 2), (82, (0, 5, 0, []), 2), (84, (3, 3, 0, []), 1), (85, (6, 5, 1, []), 3), (88, (24, 46, 0, []), 3), (91, (2, 0, 0, []), 1), (92, (19, 8, 311, []), 3), (95, (0, 1, 0, []), 1), (96, (0, 3, 0, []), 1), (97, (30, 149, 4101, []), 3), (100, (0, 4, 0, []), 2), (102, (29, 1, 0, []), 1)]
/-- ToneHouse$Score.moveTo(II)V -/
def tt_t149 : List (Nat × tt_Op × Nat) := [(0, (2, 0, 0, []), 1), (1, (19, 518, 246, []), 3), (4, (0, 1, 0, []), 1), (5, (0, 2, 0, []), 1), (6, (22, 0, 0, []), 1), (7, (29, 0, 0, []), 1)]
/-- ToneHouse.keep(II)Z -/
def tt_t150 : List (Nat × tt_Op × Nat) := [(0, (2, 0, 0, []), 1), (1, (19, 8, 311, []), 3), (4, (0, 1, 0, []), 1), (5, (30, 141, 3965, []), 3), (8, (25, 18, 0, []), 3), (11, (0, 2, 0, []), 1), (12, (30, 53, 2224, []), 3), (15, (25, 20, 1, []), 3), (18, (7, 0, 0, []), 1), (19, (29, 1, 0, []), 1), (20, (2, 0, 0, []), 1), (21, (19, 5, 308, []), 3), (24, (0, 2, 0, []), 1), (25, (2, 0, 0, []), 1), (26, (19, 8, 311, []), 3), (29, (0, 1, 0, []), 1), (30, (2, 0, 0, []), 1), (31, (19, 0, 303, []), 3), (34, (30, 2, 1341, []), 3), (37, (30, 137, 4133, []), 3), (40, (22, 1, 0, []), 1), (41, (7, 0, 1, []), 1), (42, (29, 1, 0, []), 1)]
/-- ToneHouse.write()I -/
def tt_t151 : List (Nat × tt_Op × Nat) := [(0, (2, 0, 0, []), 1), (1, (19, 7, 310, []), 3), (4, (7, 0, 0, []), 1), (5, (30, 96, 2913, []), 3), (8, (2, 0, 0, []), 1), (9, (19, 8, 311, []), 3), (12, (2, 0, 0, []), 1), (13, (19, 7, 310, []), 3), (16, (2, 0, 0, []), 1), (17, (19, 0, 303, []), 3), (20, (30, 2, 1341, []), 3), (23, (30, 152, 4153, []), 3), (26, (2, 0, 0, []), 1), (27, (19, 7, 310, []), 3), (30, (30, 92, 2849, []), 3), (33, (29, 1, 0, []), 1)]
/-- ToneHouse$Score.writeTo(LToneHouse$ByteRow;I)V -/
def tt_t152 : List (Nat × tt_Op × Nat) := [(0, (7, 0, 0, []), 1), (1, (3, 3, 0, []), 1), (2, (0, 3, 0, []), 1), (3, (2, 0, 0, []), 1), (4, (19, 514, 242, []), 3), (7, (26, 23, 3, []), 3), (10, (2, 0, 0, []), 1), (11, (2, 1, 0, []), 1), (12, (0, 3, 0, []), 1), (13, (0, 2, 0, []), 1), (14, (30, 153, 4169, []), 3), (17, (6, 3, 1, []), 3), (20, (24, 2, 0, []), 3), (23, (7, 0, 0, []), 1), (24, (3, 3, 0, []), 1), (25, (0, 3, 0, []), 1), (26, (2, 0, 0, []), 1), (27, (19, 519, 247, []), 3), (30, (26, 45, 3, []), 3), (33, (2, 0, 0, []), 1), (34, (2, 1, 0, []), 1), (35, (0, 3, 0, []), 1), (36, (30, 156, 4233, []), 3), (39, (6, 3, 1, []), 3), (42, (24, 25, 0, []), 3), (45, (29, 0, 0, []), 1)]
/-- ToneHouse$Score.writeRow(LToneHouse$ByteRow;II)V -/
def tt_t153 : List (Nat × tt_Op × Nat) := [(0, (2, 1, 0, []), 1), (1, (33, 86, 75, []), 2), (3, (30, 154, 4189, []), 3), (6, (2, 1, 0, []), 1), (7, (2, 0, 0, []), 1), (8, (19, 513, 241, []), 3), (11, (0, 2, 0, []), 1), (12, (21, 0, 0, []), 1), (13, (30, 94, 4205, []), 3), (16, (2, 1, 0, []), 1), (17, (33, 87, 87, []), 2), (19, (30, 154, 4189, []), 3), (22, (7, 0, 0, []), 1), (23, (3, 4, 0, []), 2), (25, (0, 4, 0, []), 2), (27, (0, 3, 0, []), 1), (28, (26, 58, 3, []), 3), (31, (2, 1, 0, []), 1), (32, (2, 0, 0, []), 1), (33, (19, 512, 240, []), 3), (36, (0, 2, 0, []), 1), (37, (21, 1, 0, []), 1), (38, (0, 4, 0, []), 2), (40, (30, 56, 3926, []), 3), (43, (30, 155, 4213, []), 3), (46, (2, 1, 0, []), 1), (47, (7, 0, 32, []), 2), (49, (30, 94, 4205, []), 3), (52, (6, 4, 1, []), 3), (55, (24, 25, 0, []), 3), (58, (2, 1, 0, []), 1), (59, (33, 88, 92, []), 2), (61, (30, 154, 4189, []), 3), (64, (29, 0, 0, []), 1)]
/-- ToneHouse$ByteRow.addText(Ljava/lang/String;)V -/
def tt_t154 : List (Nat × tt_Op × Nat) := [(0, (7, 0, 0, []), 1), (1, (3, 2, 0, []), 1), (2, (0, 2, 0, []), 1), (3, (2, 1, 0, []), 1), (4, (30, 105, 3073, []), 3), (7, (26, 25, 3, []), 3), (10, (2, 0, 0, []), 1), (11, (2, 1, 0, []), 1), (12, (0, 2, 0, []), 1), (13, (30, 107, 3113, []), 3), (16, (30, 94, 2881, []), 3), (19, (6, 2, 1, []), 3), (22, (24, 2, 0, []), 3), (25, (29, 0, 0, []), 1)]
/-- ToneHouse$ByteRow.addNumber(I)V -/
def tt_t155 : List (Nat × tt_Op × Nat) := [(0, (0, 1, 0, []), 1), (1, (7, 0, 10, []), 2), (3, (26, 17, 2, []), 3), (6, (2, 0, 0, []), 1), (7, (7, 0, 48, []), 2), (9, (0, 1, 0, []), 1), (10, (7, 0, 10, []), 2), (12, (10, 0, 0, []), 1), (13, (9, 0, 0, []), 1), (14, (30, 94, 2881, []), 3), (17, (2, 0, 0, []), 1), (18, (7, 0, 48, []), 2), (20, (0, 1, 0, []), 1), (21, (7, 0, 10, []), 2), (23, (11, 0, 0, []), 1), (24, (9, 0, 0, []), 1), (25, (30, 94, 2881, []), 3), (28, (29, 0, 0, []), 1)]
/-- ToneHouse$Score.writeVoice(LToneHouse$ByteRow;I)V -/
def tt_t156 : List (Nat × tt_Op × Nat) := [(0, (2, 1, 0, []), 1), (1, (33, 89, 94, []), 2), (3, (30, 154, 4189, []), 3), (6, (2, 1, 0, []), 1), (7, (2, 0, 0, []), 1), (8, (19, 513, 241, []), 3), (11, (2, 0, 0, []), 1), (12, (19, 515, 243, []), 3), (15, (0, 2, 0, []), 1), (16, (21, 0, 0, []), 1), (17, (21, 0, 0, []), 1), (18, (30, 94, 4205, []), 3), (21, (2, 1, 0, []), 1), (22, (7, 0, 32, []), 2), (24, (30, 94, 4205, []), 3), (27, (2, 1, 0, []), 1), (28, (33, 85, 96, []), 2), (30, (2, 0, 0, []), 1), (31, (19, 516, 244, []), 3), (34, (0, 2, 0, []), 1), (35, (21, 0, 0, []), 1), (36, (30, 107, 4257, []), 3), (39, (30, 94, 4205, []), 3), (42, (2, 1, 0, []), 1), (43, (7, 0, 32, []), 2), (45, (30, 94, 4205, []), 3), (48, (2, 1, 0, []), 1), (49, (2, 0, 0, []), 1), (50, (19, 517, 245, []), 3), (53, (0, 2, 0, []), 1), (54, (21, 0, 0, []), 1), (55, (30, 155, 4213, []), 3), (58, (2, 1, 0, []), 1), (59, (33, 90, 104, []), 2), (61, (30, 154, 4189, []), 3), (64, (2, 1, 0, []), 1), (65, (2, 0, 0, []), 1), (66, (19, 518, 246, []), 3), (69, (0, 2, 0, []), 1), (70, (21, 0, 0, []), 1), (71, (30, 155, 4213, []), 3), (74, (2, 1, 0, []), 1), (75, (33, 91, 106, []), 2), (77, (30, 154, 4189, []), 3), (80, (29, 0, 0, []), 1)]
/-- ToneHouse.out(I)I -/
def tt_t157 : List (Nat × tt_Op × Nat) := [(0, (2, 0, 0, []), 1), (1, (19, 7, 310, []), 3), (4, (0, 1, 0, []), 1), (5, (30, 100, 4285, []), 3), (8, (29, 1, 0, []), 1)]
/-- ToneHouse.take()I -/
def tt_t158 : List (Nat × tt_Op × Nat) := [(0, (2, 0, 0, []), 1), (1, (19, 6, 309, []), 3), (4, (30, 91, 2833, []), 3), (7, (2, 0, 0, []), 1), (8, (19, 7, 310, []), 3), (11, (30, 159, 4305, []), 3), (14, (2, 0, 0, []), 1), (15, (19, 6, 309, []), 3), (18, (30, 91, 2833, []), 3), (21, (30, 92, 2849, []), 3), (24, (29, 1, 0, []), 1)]
/-- ToneHouse$ByteRow.copy(LToneHouse$ByteRow;)V -/
def tt_t159 : List (Nat × tt_Op × Nat) := [(0, (2, 1, 0, []), 1), (1, (19, 448, 227, []), 3), (4, (7, 0, 0, []), 1), (5, (2, 0, 0, []), 1), (6, (19, 448, 227, []), 3), (9, (7, 0, 0, []), 1), (10, (2, 1, 0, []), 1), (11, (19, 449, 228, []), 3), (14, (34, 0, 1080, []), 3), (17, (2, 0, 0, []), 1), (18, (2, 1, 0, []), 1), (19, (19, 449, 228, []), 3), (22, (20, 449, 228, []), 3), (25, (29, 0, 0, []), 1)]
/-- ToneHouseModel.octave(I)Z -/
def tt_t160 : List (Nat × tt_Op × Nat) := [(0, (2, 0, 0, []), 1), (1, (7, 0, 0, []), 1), (2, (20, 576, 1089, []), 3), (5, (0, 1, 0, []), 1), (6, (7, 0, 3, []), 1), (7, (26, 16, 2, []), 3), (10, (0, 1, 0, []), 1), (11, (7, 0, 12, []), 2), (13, (26, 18, 5, []), 3), (16, (7, 0, 0, []), 1), (17, (29, 1, 0, []), 1), (18, (2, 0, 0, []), 1), (19, (0, 1, 0, []), 1), (20, (20, 577, 1090, []), 3), (23, (7, 0, 0, []), 1), (24, (3, 2, 0, []), 1), (25, (0, 2, 0, []), 1), (26, (7, 0, 6, []), 2), (28, (26, 44, 3, []), 3), (31, (2, 0, 0, []), 1), (32, (19, 585, 1098, []), 3), (35, (0, 2, 0, []), 1), (36, (7, 0, 0, []), 1), (37, (22, 2, 0, []), 1), (38, (6, 2, 1, []), 3), (41, (24, 25, 0, []), 3), (44, (2, 0, 0, []), 1), (45, (7, 0, 0, []), 1), (46, (20, 599, 1112, []), 3), (49, (2, 0, 0, []), 1), (50, (7, 0, 0, []), 1), (51, (20, 602, 1115, []), 3), (54, (2, 0, 0, []), 1), (55, (7, 0, 0, []), 1), (56, (20, 587, 1100, []), 3), (59, (7, 0, 1, []), 1), (60, (29, 1, 0, []), 1)]
/-- ToneHouseModel.image(III)I -/
def tt_t161 : List (Nat × tt_Op × Nat) := [(0, (2, 0, 0, []), 1), (1, (7, 0, 0, []), 1), (2, (20, 576, 1089, []), 3), (5, (2, 0, 0, []), 1), (6, (0, 1, 0, []), 1), (7, (30, 162, 4981, []), 3), (10, (25, 44, 0, []), 3), (13, (2, 0, 0, []), 1), (14, (7, 0, 2, []), 1), (15, (0, 2, 0, []), 1), (16, (30, 163, 4997, []), 3), (19, (25, 44, 0, []), 3), (22, (0, 3, 0, []), 1), (23, (25, 44, 2, []), 3), (26, (0, 3, 0, []), 1), (27, (2, 0, 0, []), 1), (28, (19, 577, 1090, []), 3), (31, (26, 44, 3, []), 3), (34, (2, 0, 0, []), 1), (35, (0, 1, 0, []), 1), (36, (0, 2, 0, []), 1), (37, (0, 3, 0, []), 1), (38, (30, 165, 5029, []), 3), (41, (24, 45, 0, []), 3), (44, (7, 0, (-1), []), 1), (45, (29, 1, 0, []), 1)]
/-- ToneHouseModel.isSet(I)Z -/
def tt_t162 : List (Nat × tt_Op × Nat) := [(0, (0, 1, 0, []), 1), (1, (25, 18, 2, []), 3), (4, (0, 1, 0, []), 1), (5, (7, 0, 1, []), 1), (6, (2, 0, 0, []), 1), (7, (19, 577, 1090, []), 3), (10, (9, 6, 0, []), 1), (11, (26, 18, 3, []), 3), (14, (7, 0, 1, []), 1), (15, (24, 19, 0, []), 3), (18, (7, 0, 0, []), 1), (19, (29, 1, 0, []), 1)]
/-- ToneHouseModel.isOf(II)Z -/
def tt_t163 : List (Nat × tt_Op × Nat) := [(0, (0, 2, 0, []), 1), (1, (7, 0, 1, []), 1), (2, (26, 13, 2, []), 3), (5, (0, 2, 0, []), 1), (6, (2, 0, 0, []), 1), (7, (19, 577, 1090, []), 3), (10, (26, 15, 2, []), 3), (13, (7, 0, 0, []), 1), (14, (29, 1, 0, []), 1), (15, (0, 1, 0, []), 1), (16, (25, 30, 1, []), 3), (19, (0, 2, 0, []), 1), (20, (7, 0, 1, []), 1), (21, (26, 28, 1, []), 3), (24, (7, 0, 1, []), 1), (25, (24, 29, 0, []), 3), (28, (7, 0, 0, []), 1), (29, (29, 1, 0, []), 1), (30, (0, 1, 0, []), 1), (31, (7, 0, 1, []), 1), (32, (26, 58, 1, []), 3), (35, (0, 2, 0, []), 1), (36, (7, 0, 1, []), 1), (37, (26, 50, 0, []), 3), (40, (0, 2, 0, []), 1), (41, (2, 0, 0, []), 1), (42, (19, 577, 1090, []), 3), (45, (7, 0, 1, []), 1), (46, (9, 1, 0, []), 1), (47, (26, 54, 1, []), 3), (50, (7, 0, 1, []), 1), (51, (24, 76, 0, []), 3), (54, (7, 0, 0, []), 1), (55, (24, 76, 0, []), 3), (58, (2, 0, 0, []), 1), (59, (0, 2, 0, []), 1), (60, (2, 0, 0, []), 1), (61, (19, 577, 1090, []), 3), (64, (30, 164, 5013, []), 3), (67, (7, 0, 1, []), 1), (68, (26, 75, 1, []), 3), (71, (7, 0, 1, []), 1), (72, (24, 76, 0, []), 3), (75, (7, 0, 0, []), 1), (76, (29, 1, 0, []), 1)]
/-- ToneHouseModel.common(II)I -/
def tt_t164 : List (Nat × tt_Op × Nat) := [(0, (0, 1, 0, []), 1), (1, (3, 3, 0, []), 1), (2, (0, 2, 0, []), 1), (3, (3, 4, 0, []), 2), (5, (0, 4, 0, []), 2), (7, (25, 26, 5, []), 3), (10, (0, 3, 0, []), 1), (11, (0, 4, 0, []), 2), (13, (11, 0, 0, []), 1), (14, (3, 5, 0, []), 2), (16, (0, 4, 0, []), 2), (18, (3, 3, 0, []), 1), (19, (0, 5, 0, []), 2), (21, (3, 4, 0, []), 2), (23, (24, 5, 0, []), 3), (26, (0, 3, 0, []), 1), (27, (29, 1, 0, []), 1)]
/-- ToneHouseModel.imageOf(III)I -/
def tt_t165 : List (Nat × tt_Op × Nat) := [(0, (7, 0, 0, []), 1), (1, (3, 4, 0, []), 2), (3, (7, 0, 0, []), 1), (4, (3, 5, 0, []), 2), (6, (0, 5, 0, []), 2), (8, (2, 0, 0, []), 1), (9, (19, 577, 1090, []), 3), (12, (26, 49, 3, []), 3), (15, (2, 0, 0, []), 1), (16, (0, 1, 0, []), 1), (17, (0, 5, 0, []), 2), (19, (30, 166, 5045, []), 3), (22, (25, 43, 0, []), 3), (25, (0, 4, 0, []), 2), (27, (7, 0, 1, []), 1), (28, (0, 2, 0, []), 1), (29, (0, 5, 0, []), 2), (31, (9, 2, 0, []), 1), (32, (0, 3, 0, []), 1), (33, (9, 0, 0, []), 1), (34, (2, 0, 0, []), 1), (35, (19, 577, 1090, []), 3), (38, (11, 0, 0, []), 1), (39, (9, 6, 0, []), 1), (40, (9, 4, 0, []), 1), (41, (3, 4, 0, []), 2), (43, (6, 5, 1, []), 3), (46, (24, 6, 0, []), 3), (49, (0, 4, 0, []), 2), (51, (29, 1, 0, []), 1)]
/-- ToneHouseModel.has(II)Z -/
def tt_t166 : List (Nat × tt_Op × Nat) := [(0, (0, 1, 0, []), 1), (1, (0, 2, 0, []), 1), (2, (9, 7, 0, []), 1), (3, (7, 0, 1, []), 1), (4, (9, 3, 0, []), 1), (5, (7, 0, 1, []), 1), (6, (26, 13, 1, []), 3), (9, (7, 0, 1, []), 1), (10, (24, 14, 0, []), 3), (13, (7, 0, 0, []), 1), (14, (29, 1, 0, []), 1)]
/-- ToneHouseModel.name(II)I -/
def tt_t167 : List (Nat × tt_Op × Nat) := [(0, (2, 0, 0, []), 1), (1, (7, 0, 0, []), 1), (2, (20, 576, 1089, []), 3), (5, (2, 0, 0, []), 1), (6, (0, 1, 0, []), 1), (7, (30, 168, 5077, []), 3), (10, (25, 30, 0, []), 3), (13, (2, 0, 0, []), 1), (14, (0, 2, 0, []), 1), (15, (30, 162, 4981, []), 3), (18, (25, 30, 0, []), 3), (21, (2, 0, 0, []), 1), (22, (0, 1, 0, []), 1), (23, (0, 2, 0, []), 1), (24, (30, 169, 5093, []), 3), (27, (24, 31, 0, []), 3), (30, (7, 0, (-1), []), 1), (31, (29, 1, 0, []), 1)]
/-- ToneHouseModel.isGroup(I)Z -/
def tt_t168 : List (Nat × tt_Op × Nat) := [(0, (0, 1, 0, []), 1), (1, (25, 13, 2, []), 3), (4, (0, 1, 0, []), 1), (5, (7, 0, 2, []), 1), (6, (26, 13, 4, []), 3), (9, (7, 0, 1, []), 1), (10, (24, 14, 0, []), 3), (13, (7, 0, 0, []), 1), (14, (29, 1, 0, []), 1)]
/-- ToneHouseModel.nameIn(II)I -/
def tt_t169 : List (Nat × tt_Op × Nat) := [(0, (0, 2, 0, []), 1), (1, (3, 3, 0, []), 1), (2, (7, 0, 1, []), 1), (3, (3, 4, 0, []), 2), (5, (0, 4, 0, []), 2), (7, (2, 0, 0, []), 1), (8, (19, 577, 1090, []), 3), (11, (26, 71, 3, []), 3), (14, (2, 0, 0, []), 1), (15, (0, 1, 0, []), 1), (16, (0, 4, 0, []), 2), (18, (30, 163, 4997, []), 3), (21, (25, 27, 1, []), 3), (24, (24, 65, 0, []), 3), (27, (7, 0, 0, []), 1), (28, (3, 5, 0, []), 2), (30, (0, 5, 0, []), 2), (32, (2, 0, 0, []), 1), (33, (19, 577, 1090, []), 3), (36, (26, 65, 3, []), 3), (39, (2, 0, 0, []), 1), (40, (0, 2, 0, []), 1), (41, (0, 4, 0, []), 2), (43, (0, 5, 0, []), 2), (45, (30, 165, 5029, []), 3), (48, (3, 6, 0, []), 2), (50, (0, 6, 0, []), 2), (52, (0, 3, 0, []), 1), (53, (26, 59, 3, []), 3), (56, (0, 6, 0, []), 2), (58, (3, 3, 0, []), 1), (59, (6, 5, 1, []), 3), (62, (24, 30, 0, []), 3), (65, (6, 4, 1, []), 3), (68, (24, 5, 0, []), 3), (71, (0, 3, 0, []), 1), (72, (29, 1, 0, []), 1)]
/-- ToneHouseModel.own(III)I -/
def tt_t170 : List (Nat × tt_Op × Nat) := [(0, (2, 0, 0, []), 1), (1, (7, 0, 0, []), 1), (2, (20, 576, 1089, []), 3), (5, (2, 0, 0, []), 1), (6, (0, 1, 0, []), 1), (7, (30, 168, 5077, []), 3), (10, (25, 30, 0, []), 3), (13, (2, 0, 0, []), 1), (14, (0, 2, 0, []), 1), (15, (30, 162, 4981, []), 3), (18, (25, 30, 0, []), 3), (21, (0, 3, 0, []), 1), (22, (25, 30, 2, []), 3), (25, (0, 3, 0, []), 1), (26, (7, 0, 2, []), 1), (27, (26, 32, 5, []), 3), (30, (7, 0, (-1), []), 1), (31, (29, 1, 0, []), 1), (32, (7, 0, 0, []), 1), (33, (3, 4, 0, []), 2), (35, (7, 0, 0, []), 1), (36, (3, 5, 0, []), 2), (38, (7, 0, 1, []), 1), (39, (3, 6, 0, []), 2), (41, (0, 6, 0, []), 2), (43, (2, 0, 0, []), 1), (44, (19, 577, 1090, []), 3), (47, (26, 112, 3, []), 3), (50, (2, 0, 0, []), 1), (51, (0, 1, 0, []), 1), (52, (0, 6, 0, []), 2), (54, (30, 163, 4997, []), 3), (57, (25, 63, 1, []), 3), (60, (24, 106, 0, []), 3), (63, (7, 0, 0, []), 1), (64, (3, 7, 0, []), 2), (66, (0, 7, 0, []), 2), (68, (2, 0, 0, []), 1), (69, (19, 577, 1090, []), 3), (72, (26, 106, 3, []), 3), (75, (0, 5, 0, []), 2), (77, (7, 0, 1, []), 1), (78, (9, 0, 0, []), 1), (79, (3, 5, 0, []), 2), (81, (2, 0, 0, []), 1), (82, (0, 2, 0, []), 1), (83, (0, 6, 0, []), 2), (85, (0, 7, 0, []), 2), (87, (30, 165, 5029, []), 3), (90, (0, 2, 0, []), 1), (91, (26, 100, 1, []), 3), (94, (0, 4, 0, []), 2), (96, (7, 0, 1, []), 1), (97, (9, 0, 0, []), 1), (98, (3, 4, 0, []), 2), (100, (6, 7, 1, []), 3), (103, (24, 66, 0, []), 3), (106, (6, 6, 1, []), 3), (109, (24, 41, 0, []), 3), (112, (0, 3, 0, []), 1), (113, (25, 119, 1, []), 3), (116, (0, 4, 0, []), 2), (118, (29, 1, 0, []), 1), (119, (0, 3, 0, []), 1), (120, (7, 0, 2, []), 1), (121, (26, 129, 1, []), 3), (124, (0, 5, 0, []), 2), (126, (24, 143, 0, []), 3), (129, (2, 0, 0, []), 1), (130, (0, 1, 0, []), 1), (131, (0, 2, 0, []), 1), (132, (7, 0, 1, []), 1), (133, (2, 0, 0, []), 1), (134, (19, 577, 1090, []), 3), (137, (9, 6, 0, []), 1), (138, (7, 0, 1, []), 1), (139, (9, 1, 0, []), 1), (140, (30, 171, 5125, []), 3), (143, (29, 1, 0, []), 1)]
/-- ToneHouseModel.images(III)I -/
def tt_t171 : List (Nat × tt_Op × Nat) := [(0, (7, 0, 0, []), 1), (1, (3, 4, 0, []), 2), (3, (0, 4, 0, []), 2), (5, (7, 0, 4096, []), 3), (8, (26, 25, 3, []), 3), (11, (2, 0, 0, []), 1), (12, (19, 578, 1091, []), 3), (15, (0, 4, 0, []), 2), (17, (7, 0, 0, []), 1), (18, (22, 2, 0, []), 1), (19, (6, 4, 1, []), 3), (22, (24, 3, 0, []), 3), (25, (7, 0, 0, []), 1), (26, (3, 4, 0, []), 2), (28, (7, 0, 1, []), 1), (29, (3, 5, 0, []), 2), (31, (0, 5, 0, []), 2), (33, (2, 0, 0, []), 1), (34, (19, 577, 1090, []), 3), (37, (26, 124, 3, []), 3), (40, (2, 0, 0, []), 1), (41, (0, 1, 0, []), 1), (42, (0, 5, 0, []), 2), (44, (30, 163, 4997, []), 3), (47, (25, 53, 1, []), 3), (50, (24, 118, 0, []), 3), (53, (7, 0, 0, []), 1), (54, (3, 6, 0, []), 2), (56, (0, 6, 0, []), 2), (58, (2, 0, 0, []), 1), (59, (19, 577, 1090, []), 3), (62, (26, 118, 3, []), 3), (65, (2, 0, 0, []), 1), (66, (0, 2, 0, []), 1), (67, (0, 5, 0, []), 2), (69, (0, 6, 0, []), 2), (71, (30, 165, 5029, []), 3), (74, (3, 7, 0, []), 2), (76, (2, 0, 0, []), 1), (77, (19, 578, 1091, []), 3), (80, (0, 7, 0, []), 2), (82, (21, 2, 0, []), 1), (83, (25, 112, 1, []), 3), (86, (0, 7, 0, []), 2), (88, (0, 3, 0, []), 1), (89, (7, 0, (-1), []), 1), (90, (9, 5, 0, []), 1), (91, (9, 3, 0, []), 1), (92, (25, 98, 0, []), 3), (95, (24, 112, 0, []), 3), (98, (2, 0, 0, []), 1), (99, (19, 578, 1091, []), 3), (102, (0, 7, 0, []), 2), (104, (7, 0, 1, []), 1), (105, (22, 2, 0, []), 1), (106, (0, 4, 0, []), 2), (108, (7, 0, 1, []), 1), (109, (9, 0, 0, []), 1), (110, (3, 4, 0, []), 2), (112, (6, 6, 1, []), 3), (115, (24, 56, 0, []), 3), (118, (6, 5, 1, []), 3), (121, (24, 31, 0, []), 3), (124, (0, 4, 0, []), 2), (126, (29, 1, 0, []), 1)]
/-- ToneHouseModel.classes(II)I -/
def tt_t172 : List (Nat × tt_Op × Nat) := [(0, (2, 0, 0, []), 1), (1, (7, 0, 0, []), 1), (2, (20, 576, 1089, []), 3), (5, (2, 0, 0, []), 1), (6, (0, 1, 0, []), 1), (7, (0, 2, 0, []), 1), (8, (30, 173, 5157, []), 3), (11, (25, 16, 1, []), 3), (14, (7, 0, (-1), []), 1), (15, (29, 1, 0, []), 1), (16, (7, 0, 0, []), 1), (17, (3, 3, 0, []), 1), (18, (7, 0, 0, []), 1), (19, (3, 4, 0, []), 2), (21, (0, 4, 0, []), 2), (23, (7, 0, 1, []), 1), (24, (2, 0, 0, []), 1), (25, (19, 577, 1090, []), 3), (28, (9, 6, 0, []), 1), (29, (26, 64, 3, []), 3), (32, (2, 0, 0, []), 1), (33, (0, 4, 0, []), 2), (35, (30, 174, 5173, []), 3), (38, (0, 2, 0, []), 1), (39, (26, 58, 1, []), 3), (42, (2, 0, 0, []), 1), (43, (0, 1, 0, []), 1), (44, (0, 4, 0, []), 2), (46, (30, 169, 5093, []), 3), (49, (0, 4, 0, []), 2), (51, (26, 58, 1, []), 3), (54, (0, 3, 0, []), 1), (55, (7, 0, 1, []), 1), (56, (9, 0, 0, []), 1), (57, (3, 3, 0, []), 1), (58, (6, 4, 1, []), 3), (61, (24, 21, 0, []), 3), (64, (0, 3, 0, []), 1), (65, (29, 1, 0, []), 1)]
/-- ToneHouseModel.isMany(II)Z -/
def tt_t173 : List (Nat × tt_Op × Nat) := [(0, (2, 0, 0, []), 1), (1, (0, 1, 0, []), 1), (2, (30, 168, 5077, []), 3), (5, (25, 24, 0, []), 3), (8, (0, 2, 0, []), 1), (9, (25, 24, 2, []), 3), (12, (0, 2, 0, []), 1), (13, (2, 0, 0, []), 1), (14, (19, 577, 1090, []), 3), (17, (26, 24, 4, []), 3), (20, (7, 0, 1, []), 1), (21, (24, 25, 0, []), 3), (24, (7, 0, 0, []), 1), (25, (29, 1, 0, []), 1)]
/-- ToneHouseModel.ones(I)I -/
def tt_t174 : List (Nat × tt_Op × Nat) := [(0, (7, 0, 0, []), 1), (1, (3, 2, 0, []), 1), (2, (0, 1, 0, []), 1), (3, (3, 3, 0, []), 1), (4, (0, 3, 0, []), 1), (5, (25, 21, 0, []), 3), (8, (0, 2, 0, []), 1), (9, (7, 0, 1, []), 1), (10, (9, 0, 0, []), 1), (11, (3, 2, 0, []), 1), (12, (0, 3, 0, []), 1), (13, (0, 3, 0, []), 1), (14, (7, 0, 1, []), 1), (15, (9, 1, 0, []), 1), (16, (9, 3, 0, []), 1), (17, (3, 3, 0, []), 1), (18, (24, 4, 0, []), 3), (21, (0, 2, 0, []), 1), (22, (29, 1, 0, []), 1)]
/-- ToneHouseModel.nameOf(III)I -/
def tt_t175 : List (Nat × tt_Op × Nat) := [(0, (2, 0, 0, []), 1), (1, (7, 0, 0, []), 1), (2, (20, 576, 1089, []), 3), (5, (2, 0, 0, []), 1), (6, (0, 1, 0, []), 1), (7, (0, 2, 0, []), 1), (8, (30, 173, 5157, []), 3), (11, (25, 18, 0, []), 3), (14, (0, 3, 0, []), 1), (15, (25, 20, 3, []), 3), (18, (7, 0, (-1), []), 1), (19, (29, 1, 0, []), 1), (20, (7, 0, 0, []), 1), (21, (3, 4, 0, []), 2), (23, (7, 0, 0, []), 1), (24, (3, 5, 0, []), 2), (26, (0, 5, 0, []), 2), (28, (7, 0, 1, []), 1), (29, (2, 0, 0, []), 1), (30, (19, 577, 1090, []), 3), (33, (9, 6, 0, []), 1), (34, (26, 83, 3, []), 3), (37, (2, 0, 0, []), 1), (38, (0, 5, 0, []), 2), (40, (30, 174, 5173, []), 3), (43, (0, 2, 0, []), 1), (44, (26, 77, 1, []), 3), (47, (2, 0, 0, []), 1), (48, (0, 1, 0, []), 1), (49, (0, 5, 0, []), 2), (51, (30, 169, 5093, []), 3), (54, (0, 5, 0, []), 2), (56, (26, 62, 0, []), 3), (59, (24, 77, 0, []), 3), (62, (0, 4, 0, []), 2), (64, (0, 3, 0, []), 1), (65, (26, 71, 1, []), 3), (68, (0, 5, 0, []), 2), (70, (29, 1, 0, []), 1), (71, (0, 4, 0, []), 2), (73, (7, 0, 1, []), 1), (74, (9, 0, 0, []), 1), (75, (3, 4, 0, []), 2), (77, (6, 5, 1, []), 3), (80, (24, 26, 0, []), 3), (83, (7, 0, (-1), []), 1), (84, (29, 1, 0, []), 1)]
/-- ToneHouseModel.interval(II)I -/
def tt_t176 : List (Nat × tt_Op × Nat) := [(0, (2, 0, 0, []), 1), (1, (7, 0, 0, []), 1), (2, (20, 576, 1089, []), 3), (5, (2, 0, 0, []), 1), (6, (0, 1, 0, []), 1), (7, (30, 162, 4981, []), 3), (10, (25, 37, 0, []), 3), (13, (0, 2, 0, []), 1), (14, (7, 0, 1, []), 1), (15, (26, 37, 2, []), 3), (18, (0, 2, 0, []), 1), (19, (2, 0, 0, []), 1), (20, (19, 577, 1090, []), 3), (23, (7, 0, 2, []), 1), (24, (10, 0, 0, []), 1), (25, (26, 37, 4, []), 3), (28, (2, 0, 0, []), 1), (29, (0, 1, 0, []), 1), (30, (0, 2, 0, []), 1), (31, (30, 177, 5221, []), 3), (34, (24, 38, 0, []), 3), (37, (7, 0, (-1), []), 1), (38, (29, 1, 0, []), 1)]
/-- ToneHouseModel.pairs(II)I -/
def tt_t177 : List (Nat × tt_Op × Nat) := [(0, (7, 0, 0, []), 1), (1, (3, 3, 0, []), 1), (2, (7, 0, 0, []), 1), (3, (3, 4, 0, []), 2), (5, (0, 4, 0, []), 2), (7, (2, 0, 0, []), 1), (8, (19, 577, 1090, []), 3), (11, (26, 77, 3, []), 3), (14, (0, 4, 0, []), 2), (16, (7, 0, 1, []), 1), (17, (9, 0, 0, []), 1), (18, (3, 5, 0, []), 2), (20, (0, 5, 0, []), 2), (22, (2, 0, 0, []), 1), (23, (19, 577, 1090, []), 3), (26, (26, 71, 3, []), 3), (29, (2, 0, 0, []), 1), (30, (0, 1, 0, []), 1), (31, (0, 4, 0, []), 2), (33, (30, 166, 5045, []), 3), (36, (25, 65, 0, []), 3), (39, (2, 0, 0, []), 1), (40, (0, 1, 0, []), 1), (41, (0, 5, 0, []), 2), (43, (30, 166, 5045, []), 3), (46, (25, 65, 0, []), 3), (49, (2, 0, 0, []), 1), (50, (0, 4, 0, []), 2), (52, (0, 5, 0, []), 2), (54, (30, 178, 5237, []), 3), (57, (0, 2, 0, []), 1), (58, (26, 65, 1, []), 3), (61, (0, 3, 0, []), 1), (62, (7, 0, 1, []), 1), (63, (9, 0, 0, []), 1), (64, (3, 3, 0, []), 1), (65, (6, 5, 1, []), 3), (68, (24, 20, 0, []), 3), (71, (6, 4, 1, []), 3), (74, (24, 5, 0, []), 3), (77, (0, 3, 0, []), 1), (78, (29, 1, 0, []), 1)]
/-- ToneHouseModel.apart(II)I -/
def tt_t178 : List (Nat × tt_Op × Nat) := [(0, (0, 1, 0, []), 1), (1, (0, 2, 0, []), 1), (2, (26, 11, 3, []), 3), (5, (0, 2, 0, []), 1), (6, (0, 1, 0, []), 1), (7, (9, 1, 0, []), 1), (8, (24, 14, 0, []), 3), (11, (0, 1, 0, []), 1), (12, (0, 2, 0, []), 1), (13, (9, 1, 0, []), 1), (14, (3, 3, 0, []), 1), (15, (7, 0, 2, []), 1), (16, (0, 3, 0, []), 1), (17, (9, 2, 0, []), 1), (18, (2, 0, 0, []), 1), (19, (19, 577, 1090, []), 3), (22, (26, 34, 5, []), 3), (25, (2, 0, 0, []), 1), (26, (19, 577, 1090, []), 3), (29, (0, 3, 0, []), 1), (30, (9, 1, 0, []), 1), (31, (24, 35, 0, []), 3), (34, (0, 3, 0, []), 1), (35, (29, 1, 0, []), 1)]
/-- ToneHouseModel.twin(I)I -/
def tt_t179 : List (Nat × tt_Op × Nat) := [(0, (2, 0, 0, []), 1), (1, (7, 0, 0, []), 1), (2, (20, 576, 1089, []), 3), (5, (2, 0, 0, []), 1), (6, (0, 1, 0, []), 1), (7, (30, 162, 4981, []), 3), (10, (25, 15, 1, []), 3), (13, (7, 0, (-1), []), 1), (14, (29, 1, 0, []), 1), (15, (2, 0, 0, []), 1), (16, (7, 0, 1, []), 1), (17, (0, 1, 0, []), 1), (18, (30, 169, 5093, []), 3), (21, (3, 2, 0, []), 1), (22, (7, 0, 0, []), 1), (23, (3, 3, 0, []), 1), (24, (0, 3, 0, []), 1), (25, (7, 0, 1, []), 1), (26, (2, 0, 0, []), 1), (27, (19, 577, 1090, []), 3), (30, (9, 6, 0, []), 1), (31, (26, 130, 3, []), 3), (34, (0, 3, 0, []), 1), (35, (0, 2, 0, []), 1), (36, (26, 124, 0, []), 3), (39, (2, 0, 0, []), 1), (40, (0, 3, 0, []), 1), (41, (30, 174, 5173, []), 3), (44, (2, 0, 0, []), 1), (45, (0, 1, 0, []), 1), (46, (30, 174, 5173, []), 3), (49, (26, 55, 0, []), 3), (52, (24, 124, 0, []), 3), (55, (7, 0, 1, []), 1), (56, (3, 4, 0, []), 2), (58, (7, 0, 1, []), 1), (59, (3, 5, 0, []), 2), (61, (0, 5, 0, []), 2), (63, (2, 0, 0, []), 1), (64, (19, 577, 1090, []), 3), (67, (7, 0, 2, []), 1), (68, (10, 0, 0, []), 1), (69, (26, 107, 4, []), 3), (72, (0, 4, 0, []), 2), (74, (25, 107, 0, []), 3), (77, (2, 0, 0, []), 1), (78, (0, 3, 0, []), 1), (79, (0, 5, 0, []), 2), (81, (30, 177, 5221, []), 3), (84, (2, 0, 0, []), 1), (85, (0, 1, 0, []), 1), (86, (0, 5, 0, []), 2), (88, (30, 177, 5221, []), 3), (91, (26, 98, 1, []), 3), (94, (7, 0, 1, []), 1), (95, (24, 99, 0, []), 3), (98, (7, 0, 0, []), 1), (99, (3, 4, 0, []), 2), (101, (6, 5, 1, []), 3), (104, (24, 61, 0, []), 3), (107, (0, 4, 0, []), 2), (109, (25, 124, 0, []), 3), (112, (2, 0, 0, []), 1), (113, (7, 0, 1, []), 1), (114, (0, 3, 0, []), 1), (115, (30, 169, 5093, []), 3), (118, (0, 3, 0, []), 1), (119, (26, 124, 1, []), 3), (122, (0, 3, 0, []), 1), (123, (29, 1, 0, []), 1), (124, (6, 3, 1, []), 3), (127, (24, 24, 0, []), 3), (130, (7, 0, (-1), []), 1), (131, (29, 1, 0, []), 1)]
/-- ToneHouseModel.within(III)I -/
def tt_t180 : List (Nat × tt_Op × Nat) := [(0, (2, 0, 0, []), 1), (1, (7, 0, 0, []), 1), (2, (20, 576, 1089, []), 3), (5, (2, 0, 0, []), 1), (6, (0, 1, 0, []), 1), (7, (30, 168, 5077, []), 3), (10, (25, 39, 0, []), 3), (13, (2, 0, 0, []), 1), (14, (0, 2, 0, []), 1), (15, (30, 162, 4981, []), 3), (18, (25, 39, 0, []), 3), (21, (2, 0, 0, []), 1), (22, (0, 3, 0, []), 1), (23, (30, 162, 4981, []), 3), (26, (25, 39, 0, []), 3), (29, (2, 0, 0, []), 1), (30, (0, 1, 0, []), 1), (31, (0, 2, 0, []), 1), (32, (0, 3, 0, []), 1), (33, (30, 171, 5125, []), 3), (36, (24, 40, 0, []), 3), (39, (7, 0, (-1), []), 1), (40, (29, 1, 0, []), 1)]
/-- ToneHouseModel.lead(III)I -/
def tt_t181 : List (Nat × tt_Op × Nat) := [(0, (2, 0, 0, []), 1), (1, (7, 0, 0, []), 1), (2, (20, 576, 1089, []), 3), (5, (2, 0, 0, []), 1), (6, (0, 1, 0, []), 1), (7, (30, 162, 4981, []), 3), (10, (25, 38, 0, []), 3), (13, (2, 0, 0, []), 1), (14, (0, 2, 0, []), 1), (15, (30, 162, 4981, []), 3), (18, (25, 38, 0, []), 3), (21, (2, 0, 0, []), 1), (22, (0, 1, 0, []), 1), (23, (30, 174, 5173, []), 3), (26, (2, 0, 0, []), 1), (27, (0, 2, 0, []), 1), (28, (30, 174, 5173, []), 3), (31, (26, 38, 1, []), 3), (34, (0, 3, 0, []), 1), (35, (25, 40, 3, []), 3), (38, (7, 0, (-1), []), 1), (39, (29, 1, 0, []), 1), (40, (2, 0, 0, []), 1), (41, (0, 1, 0, []), 1), (42, (0, 2, 0, []), 1), (43, (30, 182, 5301, []), 3), (46, (3, 4, 0, []), 2), (48, (0, 3, 0, []), 1), (49, (25, 59, 1, []), 3), (52, (2, 0, 0, []), 1), (53, (19, 581, 1094, []), 3), (56, (7, 0, 0, []), 1), (57, (21, 0, 0, []), 1), (58, (29, 1, 0, []), 1), (59, (0, 3, 0, []), 1), (60, (7, 0, 1, []), 1), (61, (26, 71, 1, []), 3), (64, (2, 0, 0, []), 1), (65, (19, 582, 1095, []), 3), (68, (7, 0, 0, []), 1), (69, (21, 0, 0, []), 1), (70, (29, 1, 0, []), 1), (71, (0, 3, 0, []), 1), (72, (7, 0, 2, []), 1), (73, (9, 1, 0, []), 1), (74, (0, 4, 0, []), 2), (76, (26, 81, 2, []), 3), (79, (7, 0, (-1), []), 1), (80, (29, 1, 0, []), 1), (81, (7, 0, 0, []), 1), (82, (3, 5, 0, []), 2), (84, (7, 0, 0, []), 1), (85, (3, 6, 0, []), 2), (87, (7, 0, 0, []), 1), (88, (3, 7, 0, []), 2), (90, (0, 7, 0, []), 2), (92, (0, 3, 0, []), 1), (93, (7, 0, 2, []), 1), (94, (9, 1, 0, []), 1), (95, (26, 167, 4, []), 3), (98, (7, 0, 0, []), 1), (99, (3, 6, 0, []), 2), (101, (2, 0, 0, []), 1), (102, (0, 5, 0, []), 2), (104, (0, 6, 0, []), 2), (106, (30, 166, 5045, []), 3), (109, (25, 143, 1, []), 3), (112, (2, 0, 0, []), 1), (113, (0, 7, 0, []), 2), (115, (0, 6, 0, []), 2), (117, (30, 183, 5317, []), 3), (120, (2, 0, 0, []), 1), (121, (19, 581, 1094, []), 3), (124, (0, 5, 0, []), 2), (126, (7, 0, 1, []), 1), (127, (0, 6, 0, []), 2), (129, (9, 6, 0, []), 1), (130, (9, 4, 0, []), 1), (131, (21, 0, 0, []), 1), (132, (9, 0, 0, []), 1), (133, (2, 0, 0, []), 1), (134, (19, 581, 1094, []), 3), (137, (0, 5, 0, []), 2), (139, (21, 0, 0, []), 1), (140, (26, 152, 0, []), 3), (143, (0, 6, 0, []), 2), (145, (7, 0, 1, []), 1), (146, (9, 0, 0, []), 1), (147, (3, 6, 0, []), 2), (149, (24, 101, 0, []), 3), (152, (0, 5, 0, []), 2), (154, (7, 0, 1, []), 1), (155, (0, 6, 0, []), 2), (157, (9, 6, 0, []), 1), (158, (9, 4, 0, []), 1), (159, (3, 5, 0, []), 2), (161, (6, 7, 1, []), 3), (164, (24, 90, 0, []), 3), (167, (2, 0, 0, []), 1), (168, (19, 580, 1093, []), 3), (171, (0, 6, 0, []), 2), (173, (21, 0, 0, []), 1), (174, (29, 1, 0, []), 1)]
/-- ToneHouseModel.pair(II)I -/
def tt_t182 : List (Nat × tt_Op × Nat) := [(0, (7, 0, 0, []), 1), (1, (3, 3, 0, []), 1), (2, (7, 0, 0, []), 1), (3, (3, 4, 0, []), 2), (5, (7, 0, 0, []), 1), (6, (3, 5, 0, []), 2), (8, (0, 5, 0, []), 2), (10, (2, 0, 0, []), 1), (11, (19, 577, 1090, []), 3), (14, (26, 70, 3, []), 3), (17, (2, 0, 0, []), 1), (18, (0, 1, 0, []), 1), (19, (0, 5, 0, []), 2), (21, (30, 166, 5045, []), 3), (24, (25, 39, 0, []), 3), (27, (2, 0, 0, []), 1), (28, (19, 579, 1092, []), 3), (31, (0, 3, 0, []), 1), (32, (0, 5, 0, []), 2), (34, (22, 0, 0, []), 1), (35, (0, 3, 0, []), 1), (36, (7, 0, 1, []), 1), (37, (9, 0, 0, []), 1), (38, (3, 3, 0, []), 1), (39, (2, 0, 0, []), 1), (40, (0, 2, 0, []), 1), (41, (0, 5, 0, []), 2), (43, (30, 166, 5045, []), 3), (46, (25, 64, 0, []), 3), (49, (2, 0, 0, []), 1), (50, (19, 580, 1093, []), 3), (53, (0, 4, 0, []), 2), (55, (0, 5, 0, []), 2), (57, (22, 0, 0, []), 1), (58, (0, 4, 0, []), 2), (60, (7, 0, 1, []), 1), (61, (9, 0, 0, []), 1), (62, (3, 4, 0, []), 2), (64, (6, 5, 1, []), 3), (67, (24, 8, 0, []), 3), (70, (7, 0, 1, []), 1), (71, (0, 3, 0, []), 1), (72, (9, 6, 0, []), 1), (73, (7, 0, 1, []), 1), (74, (9, 1, 0, []), 1), (75, (3, 5, 0, []), 2), (77, (0, 5, 0, []), 2), (79, (25, 260, 2, []), 3), (82, (2, 0, 0, []), 1), (83, (0, 5, 0, []), 2), (85, (30, 174, 5173, []), 3), (88, (3, 6, 0, []), 2), (90, (2, 0, 0, []), 1), (91, (19, 581, 1094, []), 3), (94, (0, 5, 0, []), 2), (96, (0, 6, 0, []), 2), (98, (0, 3, 0, []), 1), (99, (26, 106, 1, []), 3), (102, (7, 0, 0, []), 1), (103, (24, 109, 0, []), 3), (106, (7, 0, 10000, []), 3), (109, (22, 0, 0, []), 1), (110, (2, 0, 0, []), 1), (111, (19, 582, 1095, []), 3), (114, (0, 5, 0, []), 2), (116, (0, 6, 0, []), 2), (118, (0, 3, 0, []), 1), (119, (26, 126, 1, []), 3), (122, (7, 0, 1, []), 1), (123, (24, 127, 0, []), 3), (126, (7, 0, 0, []), 1), (127, (22, 0, 0, []), 1), (128, (7, 0, 0, []), 1), (129, (3, 7, 0, []), 2), (131, (0, 7, 0, []), 2), (133, (0, 3, 0, []), 1), (134, (26, 254, 3, []), 3), (137, (0, 6, 0, []), 2), (139, (0, 3, 0, []), 1), (140, (26, 254, 3, []), 3), (143, (2, 0, 0, []), 1), (144, (0, 5, 0, []), 2), (146, (0, 7, 0, []), 2), (148, (30, 166, 5045, []), 3), (151, (25, 157, 0, []), 3), (154, (24, 248, 0, []), 3), (157, (2, 0, 0, []), 1), (158, (0, 6, 0, []), 2), (160, (0, 7, 0, []), 2), (162, (30, 183, 5317, []), 3), (165, (2, 0, 0, []), 1), (166, (19, 581, 1094, []), 3), (169, (0, 5, 0, []), 2), (171, (7, 0, 1, []), 1), (172, (0, 7, 0, []), 2), (174, (9, 6, 0, []), 1), (175, (9, 4, 0, []), 1), (176, (21, 0, 0, []), 1), (177, (9, 0, 0, []), 1), (178, (3, 8, 0, []), 2), (180, (0, 8, 0, []), 2), (182, (2, 0, 0, []), 1), (183, (19, 581, 1094, []), 3), (186, (0, 5, 0, []), 2), (188, (21, 0, 0, []), 1), (189, (26, 209, 3, []), 3), (192, (2, 0, 0, []), 1), (193, (19, 581, 1094, []), 3), (196, (0, 5, 0, []), 2), (198, (0, 8, 0, []), 2), (200, (22, 0, 0, []), 1), (201, (2, 0, 0, []), 1), (202, (19, 582, 1095, []), 3), (205, (0, 5, 0, []), 2), (207, (7, 0, 0, []), 1), (208, (22, 0, 0, []), 1), (209, (0, 8, 0, []), 2), (211, (2, 0, 0, []), 1), (212, (19, 581, 1094, []), 3), (215, (0, 5, 0, []), 2), (217, (21, 0, 0, []), 1), (218, (26, 248, 1, []), 3), (221, (2, 0, 0, []), 1), (222, (19, 582, 1095, []), 3), (225, (0, 5, 0, []), 2), (227, (2, 0, 0, []), 1), (228, (19, 582, 1095, []), 3), (231, (0, 5, 0, []), 2), (233, (21, 0, 0, []), 1), (234, (2, 0, 0, []), 1), (235, (19, 582, 1095, []), 3), (238, (0, 5, 0, []), 2), (240, (7, 0, 1, []), 1), (241, (0, 7, 0, []), 2), (243, (9, 6, 0, []), 1), (244, (9, 4, 0, []), 1), (245, (21, 0, 0, []), 1), (246, (9, 0, 0, []), 1), (247, (22, 0, 0, []), 1), (248, (6, 7, 1, []), 3), (251, (24, 131, 0, []), 3), (254, (6, 5, (-1), []), 3), (257, (24, 77, 0, []), 3), (260, (0, 3, 0, []), 1), (261, (29, 1, 0, []), 1)]
/-- ToneHouseModel.steps(II)I -/
def tt_t183 : List (Nat × tt_Op × Nat) := [(0, (2, 0, 0, []), 1), (1, (2, 0, 0, []), 1), (2, (19, 579, 1092, []), 3), (5, (0, 1, 0, []), 1), (6, (21, 0, 0, []), 1), (7, (2, 0, 0, []), 1), (8, (19, 580, 1093, []), 3), (11, (0, 2, 0, []), 1), (12, (21, 0, 0, []), 1), (13, (30, 178, 5237, []), 3), (16, (29, 1, 0, []), 1)]
/-- ToneHouseModel.road(II)I -/
def tt_t184 : List (Nat × tt_Op × Nat) := [(0, (2, 0, 0, []), 1), (1, (7, 0, 0, []), 1), (2, (20, 576, 1089, []), 3), (5, (2, 0, 0, []), 1), (6, (0, 1, 0, []), 1), (7, (30, 162, 4981, []), 3), (10, (25, 34, 0, []), 3), (13, (2, 0, 0, []), 1), (14, (0, 2, 0, []), 1), (15, (30, 162, 4981, []), 3), (18, (25, 34, 0, []), 3), (21, (2, 0, 0, []), 1), (22, (0, 1, 0, []), 1), (23, (30, 174, 5173, []), 3), (26, (2, 0, 0, []), 1), (27, (0, 2, 0, []), 1), (28, (30, 174, 5173, []), 3), (31, (26, 36, 0, []), 3), (34, (7, 0, (-1), []), 1), (35, (29, 1, 0, []), 1), (36, (2, 0, 0, []), 1), (37, (7, 0, 1, []), 1), (38, (0, 2, 0, []), 1), (39, (30, 169, 5093, []), 3), (42, (3, 3, 0, []), 1), (43, (7, 0, 0, []), 1), (44, (3, 4, 0, []), 2), (46, (0, 4, 0, []), 2), (48, (7, 0, 4096, []), 3), (51, (26, 68, 3, []), 3), (54, (2, 0, 0, []), 1), (55, (19, 583, 1096, []), 3), (58, (0, 4, 0, []), 2), (60, (7, 0, (-1), []), 1), (61, (22, 0, 0, []), 1), (62, (6, 4, 1, []), 3), (65, (24, 46, 0, []), 3), (68, (2, 0, 0, []), 1), (69, (19, 583, 1096, []), 3), (72, (0, 1, 0, []), 1), (73, (7, 0, 0, []), 1), (74, (22, 0, 0, []), 1), (75, (2, 0, 0, []), 1), (76, (19, 584, 1097, []), 3), (79, (7, 0, 0, []), 1), (80, (0, 1, 0, []), 1), (81, (22, 0, 0, []), 1), (82, (7, 0, 0, []), 1), (83, (3, 4, 0, []), 2), (85, (7, 0, 1, []), 1), (86, (3, 5, 0, []), 2), (88, (0, 4, 0, []), 2), (90, (0, 5, 0, []), 2), (92, (26, 275, 3, []), 3), (95, (2, 0, 0, []), 1), (96, (19, 584, 1097, []), 3), (99, (0, 4, 0, []), 2), (101, (21, 0, 0, []), 1), (102, (3, 6, 0, []), 2), (104, (0, 4, 0, []), 2), (106, (7, 0, 1, []), 1), (107, (9, 0, 0, []), 1), (108, (3, 4, 0, []), 2), (110, (2, 0, 0, []), 1), (111, (7, 0, 1, []), 1), (112, (0, 6, 0, []), 2), (114, (30, 169, 5093, []), 3), (117, (0, 3, 0, []), 1), (118, (26, 129, 1, []), 3), (121, (2, 0, 0, []), 1), (122, (19, 583, 1096, []), 3), (125, (0, 6, 0, []), 2), (127, (21, 0, 0, []), 1), (128, (29, 1, 0, []), 1), (129, (7, 0, 0, []), 1), (130, (3, 7, 0, []), 2), (132, (0, 7, 0, []), 2), (134, (2, 0, 0, []), 1), (135, (19, 577, 1090, []), 3), (138, (26, 272, 3, []), 3), (141, (7, 0, 0, []), 1), (142, (3, 8, 0, []), 2), (144, (0, 8, 0, []), 2), (146, (7, 0, 2, []), 1), (147, (26, 266, 3, []), 3), (150, (0, 7, 0, []), 2), (152, (0, 8, 0, []), 2), (154, (7, 0, 1, []), 1), (155, (26, 162, 1, []), 3), (158, (7, 0, 1, []), 1), (159, (24, 168, 0, []), 3), (162, (2, 0, 0, []), 1), (163, (19, 577, 1090, []), 3), (166, (7, 0, 1, []), 1), (167, (9, 1, 0, []), 1), (168, (9, 0, 0, []), 1), (169, (2, 0, 0, []), 1), (170, (19, 577, 1090, []), 3), (173, (11, 0, 0, []), 1), (174, (3, 9, 0, []), 2), (176, (2, 0, 0, []), 1), (177, (0, 6, 0, []), 2), (179, (0, 7, 0, []), 2), (181, (30, 166, 5045, []), 3), (184, (25, 260, 0, []), 3), (187, (2, 0, 0, []), 1), (188, (0, 6, 0, []), 2), (190, (0, 9, 0, []), 2), (192, (30, 166, 5045, []), 3), (195, (25, 201, 0, []), 3), (198, (24, 260, 0, []), 3), (201, (0, 6, 0, []), 2), (203, (7, 0, 1, []), 1), (204, (0, 7, 0, []), 2), (206, (9, 6, 0, []), 1), (207, (9, 5, 0, []), 1), (208, (7, 0, 1, []), 1), (209, (0, 9, 0, []), 2), (211, (9, 6, 0, []), 1), (212, (9, 5, 0, []), 1), (213, (3, 10, 0, []), 2), (215, (2, 0, 0, []), 1), (216, (19, 583, 1096, []), 3), (219, (0, 10, 0, []), 2), (221, (21, 0, 0, []), 1), (222, (7, 0, (-1), []), 1), (223, (26, 229, 0, []), 3), (226, (24, 260, 0, []), 3), (229, (2, 0, 0, []), 1), (230, (19, 583, 1096, []), 3), (233, (0, 10, 0, []), 2), (235, (2, 0, 0, []), 1), (236, (19, 583, 1096, []), 3), (239, (0, 6, 0, []), 2), (241, (21, 0, 0, []), 1), (242, (7, 0, 1, []), 1), (243, (9, 0, 0, []), 1), (244, (22, 0, 0, []), 1), (245, (2, 0, 0, []), 1), (246, (19, 584, 1097, []), 3), (249, (0, 5, 0, []), 2), (251, (0, 10, 0, []), 2), (253, (22, 0, 0, []), 1), (254, (0, 5, 0, []), 2), (256, (7, 0, 1, []), 1), (257, (9, 0, 0, []), 1), (258, (3, 5, 0, []), 2), (260, (6, 8, 1, []), 3), (263, (24, 144, 0, []), 3), (266, (6, 7, 1, []), 3), (269, (24, 132, 0, []), 3), (272, (24, 88, 0, []), 3), (275, (7, 0, (-1), []), 1), (276, (29, 1, 0, []), 1)]
/-- ToneHouseModel.row(IJ)Z -/
def tt_t185 : List (Nat × tt_Op × Nat) := [(0, (2, 0, 0, []), 1), (1, (7, 0, 0, []), 1), (2, (20, 576, 1089, []), 3), (5, (2, 0, 0, []), 1), (6, (0, 1, 0, []), 1), (7, (30, 186, 5365, []), 3), (10, (25, 15, 1, []), 3), (13, (7, 0, 0, []), 1), (14, (29, 1, 0, []), 1), (15, (7, 0, 0, []), 1), (16, (3, 4, 0, []), 2), (18, (7, 0, 0, []), 1), (19, (3, 5, 0, []), 2), (21, (0, 5, 0, []), 2), (23, (2, 0, 0, []), 1), (24, (19, 577, 1090, []), 3), (27, (26, 69, 3, []), 3), (30, (1, 2, 0, []), 1), (31, (7, 0, 4, []), 1), (32, (0, 5, 0, []), 2), (34, (9, 2, 0, []), 1), (35, (14, 1, 0, []), 1), (36, (8, 1345, 15, []), 3), (39, (13, 3, 0, []), 1), (40, (16, 1, 0, []), 1), (41, (3, 6, 0, []), 2), (43, (0, 6, 0, []), 2), (45, (2, 0, 0, []), 1), (46, (19, 577, 1090, []), 3), (49, (26, 54, 2, []), 3), (52, (7, 0, 0, []), 1), (53, (29, 1, 0, []), 1), (54, (0, 4, 0, []), 2), (56, (7, 0, 1, []), 1), (57, (0, 6, 0, []), 2), (59, (9, 6, 0, []), 1), (60, (9, 4, 0, []), 1), (61, (3, 4, 0, []), 2), (63, (6, 5, 1, []), 3), (66, (24, 21, 0, []), 3), (69, (0, 4, 0, []), 2), (71, (7, 0, 1, []), 1), (72, (2, 0, 0, []), 1), (73, (19, 577, 1090, []), 3), (76, (9, 6, 0, []), 1), (77, (7, 0, 1, []), 1), (78, (9, 1, 0, []), 1), (79, (26, 84, 0, []), 3), (82, (7, 0, 0, []), 1), (83, (29, 1, 0, []), 1), (84, (7, 0, 0, []), 1), (85, (3, 5, 0, []), 2), (87, (0, 5, 0, []), 2), (89, (2, 0, 0, []), 1), (90, (19, 577, 1090, []), 3), (93, (26, 125, 3, []), 3), (96, (2, 0, 0, []), 1), (97, (19, 586, 1099, []), 3), (100, (7, 0, 12, []), 2), (102, (0, 1, 0, []), 1), (103, (9, 2, 0, []), 1), (104, (0, 5, 0, []), 2), (106, (9, 0, 0, []), 1), (107, (1, 2, 0, []), 1), (108, (7, 0, 4, []), 1), (109, (0, 5, 0, []), 2), (111, (9, 2, 0, []), 1), (112, (14, 1, 0, []), 1), (113, (8, 1345, 15, []), 3), (116, (13, 3, 0, []), 1), (117, (16, 1, 0, []), 1), (118, (22, 0, 0, []), 1), (119, (6, 5, 1, []), 3), (122, (24, 87, 0, []), 3), (125, (2, 0, 0, []), 1), (126, (19, 585, 1098, []), 3), (129, (0, 1, 0, []), 1), (130, (7, 0, 1, []), 1), (131, (22, 2, 0, []), 1), (132, (7, 0, 1, []), 1), (133, (29, 1, 0, []), 1)]
/-- ToneHouseModel.isSlot(I)Z -/
def tt_t186 : List (Nat × tt_Op × Nat) := [(0, (0, 1, 0, []), 1), (1, (25, 14, 2, []), 3), (4, (0, 1, 0, []), 1), (5, (7, 0, 6, []), 2), (7, (26, 14, 3, []), 3), (10, (7, 0, 1, []), 1), (11, (24, 15, 0, []), 3), (14, (7, 0, 0, []), 1), (15, (29, 1, 0, []), 1)]
/-- ToneHouseModel.form(IIII)I -/
def tt_t187 : List (Nat × tt_Op × Nat) := [(0, (2, 0, 0, []), 1), (1, (7, 0, 0, []), 1), (2, (20, 576, 1089, []), 3), (5, (2, 0, 0, []), 1), (6, (0, 1, 0, []), 1), (7, (30, 188, 5401, []), 3), (10, (25, 59, 0, []), 3), (13, (2, 0, 0, []), 1), (14, (0, 2, 0, []), 1), (15, (30, 189, 5417, []), 3), (18, (25, 59, 0, []), 3), (21, (0, 3, 0, []), 1), (22, (25, 59, 2, []), 3), (25, (0, 3, 0, []), 1), (26, (2, 0, 0, []), 1), (27, (19, 577, 1090, []), 3), (30, (26, 59, 3, []), 3), (33, (0, 4, 0, []), 2), (35, (25, 59, 2, []), 3), (38, (0, 4, 0, []), 2), (40, (2, 0, 0, []), 1), (41, (19, 577, 1090, []), 3), (44, (26, 59, 3, []), 3), (47, (2, 0, 0, []), 1), (48, (0, 1, 0, []), 1), (49, (0, 2, 0, []), 1), (50, (0, 3, 0, []), 1), (51, (0, 4, 0, []), 2), (53, (30, 190, 5433, []), 3), (56, (24, 60, 0, []), 3), (59, (7, 0, (-1), []), 1), (60, (29, 1, 0, []), 1)]
/-- ToneHouseModel.hasRow(I)Z -/
def tt_t188 : List (Nat × tt_Op × Nat) := [(0, (2, 0, 0, []), 1), (1, (0, 1, 0, []), 1), (2, (30, 186, 5365, []), 3), (5, (25, 21, 0, []), 3), (8, (2, 0, 0, []), 1), (9, (19, 585, 1098, []), 3), (12, (0, 1, 0, []), 1), (13, (21, 2, 0, []), 1), (14, (25, 21, 0, []), 3), (17, (7, 0, 1, []), 1), (18, (24, 22, 0, []), 3), (21, (7, 0, 0, []), 1), (22, (29, 1, 0, []), 1)]
/-- ToneHouseModel.isKind(I)Z -/
def tt_t189 : List (Nat × tt_Op × Nat) := [(0, (0, 1, 0, []), 1), (1, (25, 13, 2, []), 3), (4, (0, 1, 0, []), 1), (5, (7, 0, 3, []), 1), (6, (26, 13, 4, []), 3), (9, (7, 0, 1, []), 1), (10, (24, 14, 0, []), 3), (13, (7, 0, 0, []), 1), (14, (29, 1, 0, []), 1)]
/-- ToneHouseModel.formOf(IIII)I -/
def tt_t190 : List (Nat × tt_Op × Nat) := [(0, (2, 0, 0, []), 1), (1, (0, 2, 0, []), 1), (2, (0, 3, 0, []), 1), (3, (2, 0, 0, []), 1), (4, (19, 586, 1099, []), 3), (7, (7, 0, 12, []), 2), (9, (0, 1, 0, []), 1), (10, (9, 2, 0, []), 1), (11, (0, 2, 0, []), 1), (12, (7, 0, 2, []), 1), (13, (26, 21, 3, []), 3), (16, (0, 4, 0, []), 2), (18, (24, 30, 0, []), 3), (21, (2, 0, 0, []), 1), (22, (19, 577, 1090, []), 3), (25, (7, 0, 1, []), 1), (26, (9, 1, 0, []), 1), (27, (0, 4, 0, []), 2), (29, (9, 1, 0, []), 1), (30, (9, 0, 0, []), 1), (31, (21, 0, 0, []), 1), (32, (30, 191, 5449, []), 3), (35, (29, 1, 0, []), 1)]
/-- ToneHouseModel.becomes(III)I -/
def tt_t191 : List (Nat × tt_Op × Nat) := [(0, (0, 1, 0, []), 1), (1, (7, 0, 2, []), 1), (2, (11, 0, 0, []), 1), (3, (25, 12, 1, []), 3), (6, (0, 3, 0, []), 1), (7, (0, 2, 0, []), 1), (8, (9, 0, 0, []), 1), (9, (24, 20, 0, []), 3), (12, (0, 2, 0, []), 1), (13, (0, 3, 0, []), 1), (14, (9, 1, 0, []), 1), (15, (2, 0, 0, []), 1), (16, (19, 577, 1090, []), 3), (19, (9, 0, 0, []), 1), (20, (2, 0, 0, []), 1), (21, (19, 577, 1090, []), 3), (24, (11, 0, 0, []), 1), (25, (29, 1, 0, []), 1)]
/-- ToneHouseModel.about(II)I -/
def tt_t192 : List (Nat × tt_Op × Nat) := [(0, (2, 0, 0, []), 1), (1, (7, 0, 0, []), 1), (2, (20, 576, 1089, []), 3), (5, (2, 0, 0, []), 1), (6, (0, 1, 0, []), 1), (7, (30, 188, 5401, []), 3), (10, (25, 22, 0, []), 3), (13, (0, 2, 0, []), 1), (14, (25, 22, 2, []), 3), (17, (0, 2, 0, []), 1), (18, (7, 0, 2, []), 1), (19, (26, 24, 5, []), 3), (22, (7, 0, (-1), []), 1), (23, (29, 1, 0, []), 1), (24, (0, 2, 0, []), 1), (25, (7, 0, 1, []), 1), (26, (26, 43, 1, []), 3), (29, (2, 0, 0, []), 1), (30, (0, 1, 0, []), 1), (31, (30, 193, 5481, []), 3), (34, (25, 41, 0, []), 3), (37, (7, 0, 1, []), 1), (38, (24, 42, 0, []), 3), (41, (7, 0, 0, []), 1), (42, (29, 1, 0, []), 1), (43, (7, 0, 0, []), 1), (44, (3, 3, 0, []), 1), (45, (7, 0, 0, []), 1), (46, (3, 4, 0, []), 2), (48, (7, 0, 0, []), 1), (49, (3, 5, 0, []), 2), (51, (0, 5, 0, []), 2), (53, (7, 0, 4, []), 1), (54, (2, 0, 0, []), 1), (55, (19, 577, 1090, []), 3), (58, (9, 2, 0, []), 1), (59, (26, 174, 3, []), 3), (62, (2, 0, 0, []), 1), (63, (0, 1, 0, []), 1), (64, (0, 5, 0, []), 2), (66, (2, 0, 0, []), 1), (67, (19, 577, 1090, []), 3), (70, (10, 0, 0, []), 1), (71, (0, 5, 0, []), 2), (73, (2, 0, 0, []), 1), (74, (19, 577, 1090, []), 3), (77, (11, 0, 0, []), 1), (78, (7, 0, 0, []), 1), (79, (7, 0, 0, []), 1), (80, (30, 194, 5497, []), 3), (83, (25, 90, 0, []), 3), (86, (0, 3, 0, []), 1), (87, (7, 0, 1, []), 1), (88, (9, 0, 0, []), 1), (89, (3, 3, 0, []), 1), (90, (7, 0, 1, []), 1), (91, (3, 6, 0, []), 2), (93, (7, 0, 0, []), 1), (94, (3, 7, 0, []), 2), (96, (0, 7, 0, []), 2), (98, (0, 5, 0, []), 2), (100, (26, 157, 3, []), 3), (103, (0, 6, 0, []), 2), (105, (25, 157, 0, []), 3), (108, (2, 0, 0, []), 1), (109, (0, 1, 0, []), 1), (110, (0, 5, 0, []), 2), (112, (2, 0, 0, []), 1), (113, (19, 577, 1090, []), 3), (116, (10, 0, 0, []), 1), (117, (0, 5, 0, []), 2), (119, (2, 0, 0, []), 1), (120, (19, 577, 1090, []), 3), (123, (11, 0, 0, []), 1), (124, (0, 7, 0, []), 2), (126, (2, 0, 0, []), 1), (127, (19, 577, 1090, []), 3), (130, (10, 0, 0, []), 1), (131, (0, 7, 0, []), 2), (133, (2, 0, 0, []), 1), (134, (19, 577, 1090, []), 3), (137, (11, 0, 0, []), 1), (138, (30, 194, 5497, []), 3), (141, (25, 148, 1, []), 3), (144, (7, 0, 1, []), 1), (145, (24, 149, 0, []), 3), (148, (7, 0, 0, []), 1), (149, (3, 6, 0, []), 2), (151, (6, 7, 1, []), 3), (154, (24, 96, 0, []), 3), (157, (0, 6, 0, []), 2), (159, (25, 168, 0, []), 3), (162, (0, 4, 0, []), 2), (164, (7, 0, 1, []), 1), (165, (9, 0, 0, []), 1), (166, (3, 4, 0, []), 2), (168, (6, 5, 1, []), 3), (171, (24, 51, 0, []), 3), (174, (0, 2, 0, []), 1), (175, (25, 182, 1, []), 3), (178, (0, 3, 0, []), 1), (179, (24, 184, 0, []), 3), (182, (0, 4, 0, []), 2), (184, (29, 1, 0, []), 1)]
/-- ToneHouseModel.isFull(I)Z -/
def tt_t193 : List (Nat × tt_Op × Nat) := [(0, (7, 0, 0, []), 1), (1, (3, 2, 0, []), 1), (2, (7, 0, 0, []), 1), (3, (3, 3, 0, []), 1), (4, (0, 3, 0, []), 1), (5, (7, 0, 1, []), 1), (6, (9, 0, 0, []), 1), (7, (2, 0, 0, []), 1), (8, (19, 577, 1090, []), 3), (11, (26, 76, 3, []), 3), (14, (2, 0, 0, []), 1), (15, (19, 586, 1099, []), 3), (18, (7, 0, 12, []), 2), (20, (0, 1, 0, []), 1), (21, (9, 2, 0, []), 1), (22, (0, 3, 0, []), 1), (23, (9, 0, 0, []), 1), (24, (7, 0, 1, []), 1), (25, (9, 0, 0, []), 1), (26, (21, 0, 0, []), 1), (27, (2, 0, 0, []), 1), (28, (19, 586, 1099, []), 3), (31, (7, 0, 12, []), 2), (33, (0, 1, 0, []), 1), (34, (9, 2, 0, []), 1), (35, (0, 3, 0, []), 1), (36, (9, 0, 0, []), 1), (37, (21, 0, 0, []), 1), (38, (9, 1, 0, []), 1), (39, (2, 0, 0, []), 1), (40, (19, 577, 1090, []), 3), (43, (9, 0, 0, []), 1), (44, (2, 0, 0, []), 1), (45, (19, 577, 1090, []), 3), (48, (11, 0, 0, []), 1), (49, (3, 4, 0, []), 2), (51, (2, 0, 0, []), 1), (52, (0, 2, 0, []), 1), (53, (0, 4, 0, []), 2), (55, (30, 166, 5045, []), 3), (58, (25, 63, 0, []), 3), (61, (7, 0, 0, []), 1), (62, (29, 1, 0, []), 1), (63, (0, 2, 0, []), 1), (64, (7, 0, 1, []), 1), (65, (0, 4, 0, []), 2), (67, (9, 6, 0, []), 1), (68, (9, 4, 0, []), 1), (69, (3, 2, 0, []), 1), (70, (6, 3, 1, []), 3), (73, (24, 4, 0, []), 3), (76, (7, 0, 1, []), 1), (77, (29, 1, 0, []), 1)]
/-- ToneHouseModel.isSame(IIIII)Z -/
def tt_t194 : List (Nat × tt_Op × Nat) := [(0, (7, 0, 0, []), 1), (1, (3, 6, 0, []), 2), (3, (0, 6, 0, []), 2), (5, (2, 0, 0, []), 1), (6, (19, 577, 1090, []), 3), (9, (26, 43, 3, []), 3), (12, (2, 0, 0, []), 1), (13, (0, 1, 0, []), 1), (14, (0, 2, 0, []), 1), (15, (0, 3, 0, []), 1), (16, (0, 6, 0, []), 2), (18, (30, 190, 5433, []), 3), (21, (2, 0, 0, []), 1), (22, (0, 1, 0, []), 1), (23, (0, 4, 0, []), 2), (25, (0, 5, 0, []), 2), (27, (0, 6, 0, []), 2), (29, (30, 190, 5433, []), 3), (32, (26, 37, 0, []), 3), (35, (7, 0, 0, []), 1), (36, (29, 1, 0, []), 1), (37, (6, 6, 1, []), 3), (40, (24, 3, 0, []), 3), (43, (7, 0, 1, []), 1), (44, (29, 1, 0, []), 1)]
/-- ToneHouseModel.partners(II)I -/
def tt_t195 : List (Nat × tt_Op × Nat) := [(0, (2, 0, 0, []), 1), (1, (7, 0, 0, []), 1), (2, (20, 576, 1089, []), 3), (5, (2, 0, 0, []), 1), (6, (0, 1, 0, []), 1), (7, (30, 188, 5401, []), 3), (10, (25, 31, 0, []), 3), (13, (2, 0, 0, []), 1), (14, (0, 2, 0, []), 1), (15, (30, 189, 5417, []), 3), (18, (25, 31, 0, []), 3), (21, (2, 0, 0, []), 1), (22, (19, 577, 1090, []), 3), (25, (7, 0, 2, []), 1), (26, (11, 0, 0, []), 1), (27, (7, 0, 1, []), 1), (28, (26, 33, 1, []), 3), (31, (7, 0, (-1), []), 1), (32, (29, 1, 0, []), 1), (33, (7, 0, 0, []), 1), (34, (3, 3, 0, []), 1), (35, (7, 0, 0, []), 1), (36, (3, 4, 0, []), 2), (38, (0, 4, 0, []), 2), (40, (2, 0, 0, []), 1), (41, (19, 577, 1090, []), 3), (44, (7, 0, 2, []), 1), (45, (10, 0, 0, []), 1), (46, (26, 72, 3, []), 3), (49, (0, 3, 0, []), 1), (50, (7, 0, 1, []), 1), (51, (2, 0, 0, []), 1), (52, (19, 586, 1099, []), 3), (55, (7, 0, 12, []), 2), (57, (0, 1, 0, []), 1), (58, (9, 2, 0, []), 1), (59, (0, 4, 0, []), 2), (61, (9, 0, 0, []), 1), (62, (21, 0, 0, []), 1), (63, (9, 6, 0, []), 1), (64, (9, 4, 0, []), 1), (65, (3, 3, 0, []), 1), (66, (6, 4, 1, []), 3), (69, (24, 38, 0, []), 3), (72, (7, 0, 0, []), 1), (73, (3, 4, 0, []), 2), (75, (7, 0, 0, []), 1), (76, (3, 5, 0, []), 2), (78, (0, 5, 0, []), 2), (80, (2, 0, 0, []), 1), (81, (19, 577, 1090, []), 3), (84, (26, 149, 3, []), 3), (87, (7, 0, 0, []), 1), (88, (3, 6, 0, []), 2), (90, (7, 0, 0, []), 1), (91, (3, 7, 0, []), 2), (93, (0, 7, 0, []), 2), (95, (2, 0, 0, []), 1), (96, (19, 577, 1090, []), 3), (99, (7, 0, 2, []), 1), (100, (10, 0, 0, []), 1), (101, (26, 127, 3, []), 3), (104, (0, 6, 0, []), 2), (106, (7, 0, 1, []), 1), (107, (2, 0, 0, []), 1), (108, (0, 1, 0, []), 1), (109, (0, 2, 0, []), 1), (110, (0, 5, 0, []), 2), (112, (0, 7, 0, []), 2), (114, (30, 190, 5433, []), 3), (117, (9, 6, 0, []), 1), (118, (9, 4, 0, []), 1), (119, (3, 6, 0, []), 2), (121, (6, 7, 1, []), 3), (124, (24, 93, 0, []), 3), (127, (0, 6, 0, []), 2), (129, (0, 3, 0, []), 1), (130, (9, 3, 0, []), 1), (131, (25, 143, 1, []), 3), (134, (0, 4, 0, []), 2), (136, (7, 0, 1, []), 1), (137, (0, 5, 0, []), 2), (139, (9, 6, 0, []), 1), (140, (9, 4, 0, []), 1), (141, (3, 4, 0, []), 2), (143, (6, 5, 1, []), 3), (146, (24, 78, 0, []), 3), (149, (0, 4, 0, []), 2), (151, (29, 1, 0, []), 1)]
/-- ToneHouseModel.split(II)I -/
def tt_t196 : List (Nat × tt_Op × Nat) := [(0, (2, 0, 0, []), 1), (1, (7, 0, 0, []), 1), (2, (20, 576, 1089, []), 3), (5, (2, 0, 0, []), 1), (6, (0, 1, 0, []), 1), (7, (30, 188, 5401, []), 3), (10, (25, 35, 0, []), 3), (13, (0, 2, 0, []), 1), (14, (7, 0, 1, []), 1), (15, (26, 35, 2, []), 3), (18, (0, 2, 0, []), 1), (19, (2, 0, 0, []), 1), (20, (19, 577, 1090, []), 3), (23, (26, 35, 4, []), 3), (26, (2, 0, 0, []), 1), (27, (19, 577, 1090, []), 3), (30, (0, 2, 0, []), 1), (31, (11, 0, 0, []), 1), (32, (25, 37, 0, []), 3), (35, (7, 0, (-1), []), 1), (36, (29, 1, 0, []), 1), (37, (7, 0, (-1), []), 1), (38, (3, 3, 0, []), 1), (39, (7, 0, 0, []), 1), (40, (3, 4, 0, []), 2), (42, (0, 4, 0, []), 2), (44, (2, 0, 0, []), 1), (45, (19, 577, 1090, []), 3), (48, (26, 125, 3, []), 3), (51, (7, 0, 0, []), 1), (52, (3, 5, 0, []), 2), (54, (7, 0, 0, []), 1), (55, (3, 6, 0, []), 2), (57, (0, 6, 0, []), 2), (59, (0, 2, 0, []), 1), (60, (26, 91, 3, []), 3), (63, (0, 5, 0, []), 2), (65, (7, 0, 1, []), 1), (66, (2, 0, 0, []), 1), (67, (19, 586, 1099, []), 3), (70, (7, 0, 12, []), 2), (72, (0, 1, 0, []), 1), (73, (9, 2, 0, []), 1), (74, (0, 4, 0, []), 2), (76, (9, 0, 0, []), 1), (77, (0, 6, 0, []), 2), (79, (9, 0, 0, []), 1), (80, (21, 0, 0, []), 1), (81, (9, 6, 0, []), 1), (82, (9, 4, 0, []), 1), (83, (3, 5, 0, []), 2), (85, (6, 6, 1, []), 3), (88, (24, 57, 0, []), 3), (91, (2, 0, 0, []), 1), (92, (7, 0, 1, []), 1), (93, (0, 5, 0, []), 2), (95, (30, 169, 5093, []), 3), (98, (3, 6, 0, []), 2), (100, (0, 3, 0, []), 1), (101, (7, 0, (-1), []), 1), (102, (26, 108, 1, []), 3), (105, (0, 6, 0, []), 2), (107, (3, 3, 0, []), 1), (108, (0, 6, 0, []), 2), (110, (0, 3, 0, []), 1), (111, (26, 116, 0, []), 3), (114, (7, 0, 0, []), 1), (115, (29, 1, 0, []), 1), (116, (0, 4, 0, []), 2), (118, (0, 2, 0, []), 1), (119, (9, 0, 0, []), 1), (120, (3, 4, 0, []), 2), (122, (24, 42, 0, []), 3), (125, (7, 0, 1, []), 1), (126, (29, 1, 0, []), 1)]
/-- ToneHouseModel.full()I -/
def tt_t197 : List (Nat × tt_Op × Nat) := [(0, (2, 0, 0, []), 1), (1, (7, 0, 0, []), 1), (2, (20, 576, 1089, []), 3), (5, (2, 0, 0, []), 1), (6, (30, 198, 5561, []), 3), (9, (2, 0, 0, []), 1), (10, (19, 588, 1101, []), 3), (13, (29, 1, 0, []), 1)]
/-- ToneHouseModel.findFulls()V -/
def tt_t198 : List (Nat × tt_Op × Nat) := [(0, (2, 0, 0, []), 1), (1, (19, 587, 1100, []), 3), (4, (2, 0, 0, []), 1), (5, (19, 577, 1090, []), 3), (8, (26, 12, 1, []), 3), (11, (29, 0, 0, []), 1), (12, (2, 0, 0, []), 1), (13, (2, 0, 0, []), 1), (14, (19, 577, 1090, []), 3), (17, (20, 587, 1100, []), 3), (20, (2, 0, 0, []), 1), (21, (7, 0, 0, []), 1), (22, (20, 588, 1101, []), 3), (25, (7, 0, 1, []), 1), (26, (3, 1, 0, []), 1), (27, (7, 0, 1, []), 1), (28, (3, 2, 0, []), 1), (29, (7, 0, 0, []), 1), (30, (3, 3, 0, []), 1), (31, (2, 0, 0, []), 1), (32, (19, 590, 1103, []), 3), (35, (7, 0, 0, []), 1), (36, (7, 0, 0, []), 1), (37, (22, 0, 0, []), 1), (38, (2, 0, 0, []), 1), (39, (19, 590, 1103, []), 3), (42, (7, 0, 1, []), 1), (43, (7, 0, (-1), []), 1), (44, (22, 0, 0, []), 1), (45, (0, 1, 0, []), 1), (46, (25, 311, 5, []), 3), (49, (2, 0, 0, []), 1), (50, (19, 590, 1103, []), 3), (53, (0, 1, 0, []), 1), (54, (21, 0, 0, []), 1), (55, (7, 0, (-1), []), 1), (56, (26, 100, 0, []), 3), (59, (0, 2, 0, []), 1), (60, (7, 0, 1, []), 1), (61, (2, 0, 0, []), 1), (62, (19, 590, 1103, []), 3), (65, (0, 1, 0, []), 1), (66, (21, 0, 0, []), 1), (67, (9, 6, 0, []), 1), (68, (9, 5, 0, []), 1), (69, (3, 2, 0, []), 1), (70, (0, 3, 0, []), 1), (71, (7, 0, 1, []), 1), (72, (2, 0, 0, []), 1), (73, (19, 590, 1103, []), 3), (76, (0, 1, 0, []), 1), (77, (21, 0, 0, []), 1), (78, (2, 0, 0, []), 1), (79, (19, 590, 1103, []), 3), (82, (0, 1, 0, []), 1), (83, (7, 0, 1, []), 1), (84, (9, 1, 0, []), 1), (85, (21, 0, 0, []), 1), (86, (9, 1, 0, []), 1), (87, (2, 0, 0, []), 1), (88, (19, 577, 1090, []), 3), (91, (9, 0, 0, []), 1), (92, (2, 0, 0, []), 1), (93, (19, 577, 1090, []), 3), (96, (11, 0, 0, []), 1), (97, (9, 6, 0, []), 1), (98, (9, 5, 0, []), 1), (99, (3, 3, 0, []), 1), (100, (2, 0, 0, []), 1), (101, (19, 590, 1103, []), 3), (104, (0, 1, 0, []), 1), (105, (21, 0, 0, []), 1), (106, (7, 0, 1, []), 1), (107, (9, 0, 0, []), 1), (108, (3, 4, 0, []), 2), (110, (0, 4, 0, []), 2), (112, (2, 0, 0, []), 1), (113, (19, 577, 1090, []), 3), (116, (26, 167, 3, []), 3), (119, (2, 0, 0, []), 1), (120, (0, 2, 0, []), 1), (121, (0, 4, 0, []), 2), (123, (30, 166, 5045, []), 3), (126, (25, 158, 1, []), 3), (129, (2, 0, 0, []), 1), (130, (0, 3, 0, []), 1), (131, (0, 4, 0, []), 2), (133, (2, 0, 0, []), 1), (134, (19, 590, 1103, []), 3), (137, (0, 1, 0, []), 1), (138, (7, 0, 1, []), 1), (139, (9, 1, 0, []), 1), (140, (21, 0, 0, []), 1), (141, (9, 1, 0, []), 1), (142, (2, 0, 0, []), 1), (143, (19, 577, 1090, []), 3), (146, (9, 0, 0, []), 1), (147, (2, 0, 0, []), 1), (148, (19, 577, 1090, []), 3), (151, (11, 0, 0, []), 1), (152, (30, 166, 5045, []), 3), (155, (25, 167, 0, []), 3), (158, (0, 4, 0, []), 2), (160, (7, 0, 1, []), 1), (161, (9, 0, 0, []), 1), (162, (3, 4, 0, []), 2), (164, (24, 110, 0, []), 3), (167, (2, 0, 0, []), 1), (168, (19, 590, 1103, []), 3), (171, (0, 1, 0, []), 1), (172, (0, 4, 0, []), 2), (174, (22, 0, 0, []), 1), (175, (0, 4, 0, []), 2), (177, (2, 0, 0, []), 1), (178, (19, 577, 1090, []), 3), (181, (26, 191, 1, []), 3), (184, (0, 1, 0, []), 1), (185, (7, 0, 1, []), 1), (186, (9, 1, 0, []), 1), (187, (3, 1, 0, []), 1), (188, (24, 45, 0, []), 3), (191, (0, 2, 0, []), 1), (192, (7, 0, 1, []), 1), (193, (0, 4, 0, []), 2), (195, (9, 6, 0, []), 1), (196, (9, 4, 0, []), 1), (197, (3, 2, 0, []), 1), (198, (0, 3, 0, []), 1), (199, (7, 0, 1, []), 1), (200, (0, 4, 0, []), 2), (202, (2, 0, 0, []), 1), (203, (19, 590, 1103, []), 3), (206, (0, 1, 0, []), 1), (207, (7, 0, 1, []), 1), (208, (9, 1, 0, []), 1), (209, (21, 0, 0, []), 1), (210, (9, 1, 0, []), 1), (211, (2, 0, 0, []), 1), (212, (19, 577, 1090, []), 3), (215, (9, 0, 0, []), 1), (216, (2, 0, 0, []), 1), (217, (19, 577, 1090, []), 3), (220, (11, 0, 0, []), 1), (221, (9, 6, 0, []), 1), (222, (9, 4, 0, []), 1), (223, (3, 3, 0, []), 1), (224, (0, 1, 0, []), 1), (225, (2, 0, 0, []), 1), (226, (19, 577, 1090, []), 3), (229, (7, 0, 1, []), 1), (230, (9, 1, 0, []), 1), (231, (26, 297, 1, []), 3), (234, (8, 0, 0, []), 1), (235, (4, 5, 0, []), 2), (237, (7, 0, 0, []), 1), (238, (3, 7, 0, []), 2), (240, (0, 7, 0, []), 2), (242, (2, 0, 0, []), 1), (243, (19, 577, 1090, []), 3), (246, (26, 273, 3, []), 3), (249, (1, 5, 0, []), 2), (251, (2, 0, 0, []), 1), (252, (19, 590, 1103, []), 3), (255, (0, 7, 0, []), 2), (257, (21, 0, 0, []), 1), (258, (16, 0, 0, []), 1), (259, (7, 0, 4, []), 1), (260, (0, 7, 0, []), 2), (262, (9, 2, 0, []), 1), (263, (14, 0, 0, []), 1), (264, (13, 4, 0, []), 1), (265, (4, 5, 0, []), 2), (267, (6, 7, 1, []), 3), (270, (24, 240, 0, []), 3), (273, (2, 0, 0, []), 1), (274, (19, 589, 1102, []), 3), (277, (2, 0, 0, []), 1), (278, (19, 588, 1101, []), 3), (281, (1, 5, 0, []), 2), (283, (22, 1, 0, []), 1), (284, (2, 0, 0, []), 1), (285, (2, 0, 0, []), 1), (286, (19, 588, 1101, []), 3), (289, (7, 0, 1, []), 1), (290, (9, 0, 0, []), 1), (291, (20, 588, 1101, []), 3), (294, (24, 308, 0, []), 3), (297, (0, 1, 0, []), 1), (298, (7, 0, 1, []), 1), (299, (9, 0, 0, []), 1), (300, (3, 1, 0, []), 1), (301, (2, 0, 0, []), 1), (302, (19, 590, 1103, []), 3), (305, (0, 1, 0, []), 1), (306, (7, 0, (-1), []), 1), (307, (22, 0, 0, []), 1), (308, (24, 45, 0, []), 3), (311, (29, 0, 0, []), 1)]
/-- ToneHouseModel.pick(II)Z -/
def tt_t199 : List (Nat × tt_Op × Nat) := [(0, (2, 0, 0, []), 1), (1, (7, 0, 0, []), 1), (2, (20, 576, 1089, []), 3), (5, (2, 0, 0, []), 1), (6, (0, 1, 0, []), 1), (7, (30, 186, 5365, []), 3), (10, (25, 17, 0, []), 3), (13, (0, 2, 0, []), 1), (14, (25, 19, 3, []), 3), (17, (7, 0, 0, []), 1), (18, (29, 1, 0, []), 1), (19, (2, 0, 0, []), 1), (20, (30, 198, 5561, []), 3), (23, (0, 2, 0, []), 1), (24, (2, 0, 0, []), 1), (25, (19, 588, 1101, []), 3), (28, (26, 33, 2, []), 3), (31, (7, 0, 0, []), 1), (32, (29, 1, 0, []), 1), (33, (7, 0, 0, []), 1), (34, (3, 3, 0, []), 1), (35, (0, 3, 0, []), 1), (36, (2, 0, 0, []), 1), (37, (19, 577, 1090, []), 3), (40, (26, 75, 3, []), 3), (43, (2, 0, 0, []), 1), (44, (19, 586, 1099, []), 3), (47, (7, 0, 12, []), 2), (49, (0, 1, 0, []), 1), (50, (9, 2, 0, []), 1), (51, (0, 3, 0, []), 1), (52, (9, 0, 0, []), 1), (53, (2, 0, 0, []), 1), (54, (19, 589, 1102, []), 3), (57, (0, 2, 0, []), 1), (58, (21, 1, 0, []), 1), (59, (7, 0, 4, []), 1), (60, (0, 3, 0, []), 1), (61, (9, 2, 0, []), 1), (62, (14, 1, 0, []), 1), (63, (8, 1345, 15, []), 3), (66, (13, 3, 0, []), 1), (67, (16, 1, 0, []), 1), (68, (22, 0, 0, []), 1), (69, (6, 3, 1, []), 3), (72, (24, 35, 0, []), 3), (75, (2, 0, 0, []), 1), (76, (19, 585, 1098, []), 3), (79, (0, 1, 0, []), 1), (80, (7, 0, 1, []), 1), (81, (22, 2, 0, []), 1), (82, (7, 0, 1, []), 1), (83, (29, 1, 0, []), 1)]
/-- ToneHouseModel.rank(I)I -/
def tt_t200 : List (Nat × tt_Op × Nat) := [(0, (2, 0, 0, []), 1), (1, (7, 0, 0, []), 1), (2, (20, 576, 1089, []), 3), (5, (2, 0, 0, []), 1), (6, (0, 1, 0, []), 1), (7, (30, 188, 5401, []), 3), (10, (25, 15, 1, []), 3), (13, (7, 0, (-1), []), 1), (14, (29, 1, 0, []), 1), (15, (2, 0, 0, []), 1), (16, (30, 198, 5561, []), 3), (19, (8, 0, 0, []), 1), (20, (4, 2, 0, []), 1), (21, (7, 0, 0, []), 1), (22, (3, 4, 0, []), 2), (24, (0, 4, 0, []), 2), (26, (2, 0, 0, []), 1), (27, (19, 577, 1090, []), 3), (30, (26, 60, 3, []), 3), (33, (1, 2, 0, []), 1), (34, (2, 0, 0, []), 1), (35, (19, 586, 1099, []), 3), (38, (7, 0, 12, []), 2), (40, (0, 1, 0, []), 1), (41, (9, 2, 0, []), 1), (42, (0, 4, 0, []), 2), (44, (9, 0, 0, []), 1), (45, (21, 0, 0, []), 1), (46, (16, 0, 0, []), 1), (47, (7, 0, 4, []), 1), (48, (0, 4, 0, []), 2), (50, (9, 2, 0, []), 1), (51, (14, 0, 0, []), 1), (52, (13, 4, 0, []), 1), (53, (4, 2, 0, []), 1), (54, (6, 4, 1, []), 3), (57, (24, 24, 0, []), 3), (60, (7, 0, 0, []), 1), (61, (3, 4, 0, []), 2), (63, (0, 4, 0, []), 2), (65, (2, 0, 0, []), 1), (66, (19, 588, 1101, []), 3), (69, (26, 93, 3, []), 3), (72, (2, 0, 0, []), 1), (73, (19, 589, 1102, []), 3), (76, (0, 4, 0, []), 2), (78, (21, 1, 0, []), 1), (79, (1, 2, 0, []), 1), (80, (15, 0, 0, []), 1), (81, (25, 87, 1, []), 3), (84, (0, 4, 0, []), 2), (86, (29, 1, 0, []), 1), (87, (6, 4, 1, []), 3), (90, (24, 63, 0, []), 3), (93, (7, 0, (-1), []), 1), (94, (29, 1, 0, []), 1)]
/-- ToneHouseModel.fills(II)I -/
def tt_t201 : List (Nat × tt_Op × Nat) := [(0, (2, 0, 0, []), 1), (1, (7, 0, 0, []), 1), (2, (20, 576, 1089, []), 3), (5, (2, 0, 0, []), 1), (6, (0, 1, 0, []), 1), (7, (0, 2, 0, []), 1), (8, (30, 202, 5625, []), 3), (11, (25, 16, 1, []), 3), (14, (7, 0, (-1), []), 1), (15, (29, 1, 0, []), 1), (16, (2, 0, 0, []), 1), (17, (0, 1, 0, []), 1), (18, (0, 2, 0, []), 1), (19, (30, 203, 5641, []), 3), (22, (2, 0, 0, []), 1), (23, (19, 593, 1106, []), 3), (26, (29, 1, 0, []), 1)]
/-- ToneHouseModel.isRound(II)Z -/
def tt_t202 : List (Nat × tt_Op × Nat) := [(0, (0, 1, 0, []), 1), (1, (7, 0, 2, []), 1), (2, (26, 26, 2, []), 3), (5, (0, 1, 0, []), 1), (6, (7, 0, 24, []), 2), (8, (26, 26, 4, []), 3), (11, (0, 2, 0, []), 1), (12, (25, 26, 5, []), 3), (15, (0, 2, 0, []), 1), (16, (7, 0, 1, []), 1), (17, (0, 1, 0, []), 1), (18, (9, 6, 0, []), 1), (19, (26, 26, 3, []), 3), (22, (7, 0, 1, []), 1), (23, (24, 27, 0, []), 3), (26, (7, 0, 0, []), 1), (27, (29, 1, 0, []), 1)]
/-- ToneHouseModel.findEntries(II)V -/
def tt_t203 : List (Nat × tt_Op × Nat) := [(0, (2, 0, 0, []), 1), (1, (19, 591, 1104, []), 3), (4, (0, 1, 0, []), 1), (5, (26, 17, 1, []), 3), (8, (2, 0, 0, []), 1), (9, (19, 592, 1105, []), 3), (12, (0, 2, 0, []), 1), (13, (26, 17, 1, []), 3), (16, (29, 0, 0, []), 1), (17, (2, 0, 0, []), 1), (18, (0, 1, 0, []), 1), (19, (20, 591, 1104, []), 3), (22, (2, 0, 0, []), 1), (23, (0, 2, 0, []), 1), (24, (20, 592, 1105, []), 3), (27, (2, 0, 0, []), 1), (28, (7, 0, 0, []), 1), (29, (20, 593, 1106, []), 3), (32, (0, 1, 0, []), 1), (33, (2, 0, 0, []), 1), (34, (0, 2, 0, []), 1), (35, (30, 174, 5173, []), 3), (38, (11, 0, 0, []), 1), (39, (25, 43, 0, []), 3), (42, (29, 0, 0, []), 1), (43, (7, 0, 0, []), 1), (44, (3, 3, 0, []), 1), (45, (2, 0, 0, []), 1), (46, (19, 597, 1110, []), 3), (49, (7, 0, 0, []), 1), (50, (7, 0, 0, []), 1), (51, (22, 0, 0, []), 1), (52, (2, 0, 0, []), 1), (53, (19, 598, 1111, []), 3), (56, (7, 0, 0, []), 1), (57, (7, 0, 0, []), 1), (58, (22, 0, 0, []), 1), (59, (2, 0, 0, []), 1), (60, (19, 596, 1109, []), 3), (63, (7, 0, 0, []), 1), (64, (7, 0, 0, []), 1), (65, (22, 0, 0, []), 1), (66, (0, 3, 0, []), 1), (67, (25, 268, 2, []), 3), (70, (7, 0, 0, []), 1), (71, (3, 4, 0, []), 2), (73, (2, 0, 0, []), 1), (74, (2, 0, 0, []), 1), (75, (19, 597, 1110, []), 3), (78, (0, 3, 0, []), 1), (79, (21, 0, 0, []), 1), (80, (0, 4, 0, []), 2), (82, (30, 166, 5045, []), 3), (85, (25, 97, 0, []), 3), (88, (0, 4, 0, []), 2), (90, (7, 0, 1, []), 1), (91, (9, 0, 0, []), 1), (92, (3, 4, 0, []), 2), (94, (24, 73, 0, []), 3), (97, (2, 0, 0, []), 1), (98, (19, 596, 1109, []), 3), (101, (0, 3, 0, []), 1), (102, (21, 0, 0, []), 1), (103, (3, 5, 0, []), 2), (105, (0, 5, 0, []), 2), (107, (0, 1, 0, []), 1), (108, (26, 155, 3, []), 3), (111, (2, 0, 0, []), 1), (112, (0, 2, 0, []), 1), (113, (0, 5, 0, []), 2), (115, (30, 166, 5045, []), 3), (118, (25, 146, 0, []), 3), (121, (2, 0, 0, []), 1), (122, (0, 1, 0, []), 1), (123, (0, 2, 0, []), 1), (124, (0, 4, 0, []), 2), (126, (0, 5, 0, []), 2), (128, (9, 1, 0, []), 1), (129, (0, 1, 0, []), 1), (130, (9, 0, 0, []), 1), (131, (0, 1, 0, []), 1), (132, (11, 0, 0, []), 1), (133, (30, 204, 5657, []), 3), (136, (2, 0, 0, []), 1), (137, (19, 597, 1110, []), 3), (140, (0, 3, 0, []), 1), (141, (21, 0, 0, []), 1), (142, (9, 3, 0, []), 1), (143, (25, 155, 0, []), 3), (146, (0, 5, 0, []), 2), (148, (7, 0, 1, []), 1), (149, (9, 0, 0, []), 1), (150, (3, 5, 0, []), 2), (152, (24, 105, 0, []), 3), (155, (2, 0, 0, []), 1), (156, (19, 596, 1109, []), 3), (159, (0, 3, 0, []), 1), (160, (0, 5, 0, []), 2), (162, (7, 0, 1, []), 1), (163, (9, 0, 0, []), 1), (164, (22, 0, 0, []), 1), (165, (0, 5, 0, []), 2), (167, (0, 1, 0, []), 1), (168, (26, 178, 2, []), 3), (171, (0, 3, 0, []), 1), (172, (7, 0, 1, []), 1), (173, (9, 1, 0, []), 1), (174, (3, 3, 0, []), 1), (175, (24, 66, 0, []), 3), (178, (0, 4, 0, []), 2), (180, (0, 5, 0, []), 2), (182, (9, 1, 0, []), 1), (183, (0, 1, 0, []), 1), (184, (9, 0, 0, []), 1), (185, (0, 1, 0, []), 1), (186, (11, 0, 0, []), 1), (187, (3, 6, 0, []), 2), (189, (2, 0, 0, []), 1), (190, (19, 597, 1110, []), 3), (193, (0, 3, 0, []), 1), (194, (21, 0, 0, []), 1), (195, (2, 0, 0, []), 1), (196, (0, 1, 0, []), 1), (197, (0, 2, 0, []), 1), (198, (0, 6, 0, []), 2), (200, (30, 204, 5657, []), 3), (203, (9, 4, 0, []), 1), (204, (3, 7, 0, []), 2), (206, (2, 0, 0, []), 1), (207, (19, 598, 1111, []), 3), (210, (0, 3, 0, []), 1), (211, (21, 0, 0, []), 1), (212, (7, 0, 1, []), 1), (213, (0, 6, 0, []), 2), (215, (9, 6, 0, []), 1), (216, (9, 4, 0, []), 1), (217, (3, 8, 0, []), 2), (219, (0, 7, 0, []), 2), (221, (7, 0, 1, []), 1), (222, (0, 1, 0, []), 1), (223, (9, 6, 0, []), 1), (224, (7, 0, 1, []), 1), (225, (9, 1, 0, []), 1), (226, (26, 238, 1, []), 3), (229, (2, 0, 0, []), 1), (230, (0, 8, 0, []), 2), (232, (30, 206, 5689, []), 3), (235, (24, 265, 0, []), 3), (238, (0, 3, 0, []), 1), (239, (7, 0, 1, []), 1), (240, (9, 0, 0, []), 1), (241, (3, 3, 0, []), 1), (242, (2, 0, 0, []), 1), (243, (19, 597, 1110, []), 3), (246, (0, 3, 0, []), 1), (247, (0, 7, 0, []), 2), (249, (22, 0, 0, []), 1), (250, (2, 0, 0, []), 1), (251, (19, 598, 1111, []), 3), (254, (0, 3, 0, []), 1), (255, (0, 8, 0, []), 2), (257, (22, 0, 0, []), 1), (258, (2, 0, 0, []), 1), (259, (19, 596, 1109, []), 3), (262, (0, 3, 0, []), 1), (263, (7, 0, 0, []), 1), (264, (22, 0, 0, []), 1), (265, (24, 66, 0, []), 3), (268, (29, 0, 0, []), 1)]
/-- ToneHouseModel.filled(III)I -/
def tt_t204 : List (Nat × tt_Op × Nat) := [(0, (0, 3, 0, []), 1), (1, (25, 8, 1, []), 3), (4, (0, 2, 0, []), 1), (5, (24, 15, 0, []), 3), (8, (2, 0, 0, []), 1), (9, (0, 1, 0, []), 1), (10, (0, 2, 0, []), 1), (11, (0, 3, 0, []), 1), (12, (30, 205, 5673, []), 3), (15, (29, 1, 0, []), 1)]
/-- ToneHouseModel.later(III)I -/
def tt_t205 : List (Nat × tt_Op × Nat) := [(0, (0, 2, 0, []), 1), (1, (0, 3, 0, []), 1), (2, (9, 6, 0, []), 1), (3, (0, 2, 0, []), 1), (4, (0, 1, 0, []), 1), (5, (0, 3, 0, []), 1), (6, (9, 1, 0, []), 1), (7, (9, 7, 0, []), 1), (8, (9, 4, 0, []), 1), (9, (7, 0, 1, []), 1), (10, (0, 1, 0, []), 1), (11, (9, 6, 0, []), 1), (12, (7, 0, 1, []), 1), (13, (9, 1, 0, []), 1), (14, (9, 3, 0, []), 1), (15, (29, 1, 0, []), 1)]
/-- ToneHouseModel.put(I)V -/
def tt_t206 : List (Nat × tt_Op × Nat) := [(0, (2, 0, 0, []), 1), (1, (19, 593, 1106, []), 3), (4, (3, 2, 0, []), 1), (5, (0, 2, 0, []), 1), (6, (25, 42, 5, []), 3), (9, (2, 0, 0, []), 1), (10, (19, 594, 1107, []), 3), (13, (0, 2, 0, []), 1), (14, (7, 0, 1, []), 1), (15, (9, 1, 0, []), 1), (16, (21, 0, 0, []), 1), (17, (0, 1, 0, []), 1), (18, (26, 42, 5, []), 3), (21, (2, 0, 0, []), 1), (22, (19, 594, 1107, []), 3), (25, (0, 2, 0, []), 1), (26, (2, 0, 0, []), 1), (27, (19, 594, 1107, []), 3), (30, (0, 2, 0, []), 1), (31, (7, 0, 1, []), 1), (32, (9, 1, 0, []), 1), (33, (21, 0, 0, []), 1), (34, (22, 0, 0, []), 1), (35, (0, 2, 0, []), 1), (36, (7, 0, 1, []), 1), (37, (9, 1, 0, []), 1), (38, (3, 2, 0, []), 1), (39, (24, 5, 0, []), 3), (42, (2, 0, 0, []), 1), (43, (19, 594, 1107, []), 3), (46, (0, 2, 0, []), 1), (47, (0, 1, 0, []), 1), (48, (22, 0, 0, []), 1), (49, (2, 0, 0, []), 1), (50, (2, 0, 0, []), 1), (51, (19, 593, 1106, []), 3), (54, (7, 0, 1, []), 1), (55, (9, 0, 0, []), 1), (56, (20, 593, 1106, []), 3), (59, (29, 0, 0, []), 1)]
/-- ToneHouseModel.fill(III)I -/
def tt_t207 : List (Nat × tt_Op × Nat) := [(0, (2, 0, 0, []), 1), (1, (7, 0, 0, []), 1), (2, (20, 576, 1089, []), 3), (5, (2, 0, 0, []), 1), (6, (0, 1, 0, []), 1), (7, (0, 2, 0, []), 1), (8, (30, 202, 5625, []), 3), (11, (25, 16, 1, []), 3), (14, (7, 0, (-1), []), 1), (15, (29, 1, 0, []), 1), (16, (2, 0, 0, []), 1), (17, (0, 1, 0, []), 1), (18, (0, 2, 0, []), 1), (19, (30, 203, 5641, []), 3), (22, (0, 3, 0, []), 1), (23, (25, 43, 2, []), 3), (26, (0, 3, 0, []), 1), (27, (2, 0, 0, []), 1), (28, (19, 593, 1106, []), 3), (31, (26, 43, 3, []), 3), (34, (2, 0, 0, []), 1), (35, (19, 594, 1107, []), 3), (38, (0, 3, 0, []), 1), (39, (21, 0, 0, []), 1), (40, (24, 44, 0, []), 3), (43, (7, 0, (-1), []), 1), (44, (29, 1, 0, []), 1)]
/-- ToneHouseModel.pure(II)I -/
def tt_t208 : List (Nat × tt_Op × Nat) := [(0, (2, 0, 0, []), 1), (1, (7, 0, 0, []), 1), (2, (20, 576, 1089, []), 3), (5, (2, 0, 0, []), 1), (6, (0, 1, 0, []), 1), (7, (0, 2, 0, []), 1), (8, (30, 202, 5625, []), 3), (11, (25, 16, 1, []), 3), (14, (7, 0, (-1), []), 1), (15, (29, 1, 0, []), 1), (16, (2, 0, 0, []), 1), (17, (0, 1, 0, []), 1), (18, (0, 2, 0, []), 1), (19, (30, 203, 5641, []), 3), (22, (2, 0, 0, []), 1), (23, (0, 1, 0, []), 1), (24, (0, 2, 0, []), 1), (25, (30, 209, 5737, []), 3), (28, (0, 1, 0, []), 1), (29, (26, 34, 0, []), 3), (32, (7, 0, 0, []), 1), (33, (29, 1, 0, []), 1), (34, (7, 0, 0, []), 1), (35, (3, 3, 0, []), 1), (36, (7, 0, 0, []), 1), (37, (3, 4, 0, []), 2), (39, (0, 4, 0, []), 2), (41, (2, 0, 0, []), 1), (42, (19, 593, 1106, []), 3), (45, (26, 74, 3, []), 3), (48, (2, 0, 0, []), 1), (49, (0, 1, 0, []), 1), (50, (2, 0, 0, []), 1), (51, (19, 594, 1107, []), 3), (54, (0, 4, 0, []), 2), (56, (21, 0, 0, []), 1), (57, (30, 209, 5737, []), 3), (60, (0, 1, 0, []), 1), (61, (26, 68, 1, []), 3), (64, (0, 3, 0, []), 1), (65, (7, 0, 1, []), 1), (66, (9, 0, 0, []), 1), (67, (3, 3, 0, []), 1), (68, (6, 4, 1, []), 3), (71, (24, 39, 0, []), 3), (74, (0, 3, 0, []), 1), (75, (29, 1, 0, []), 1)]
/-- ToneHouseModel.periodOf(II)I -/
def tt_t209 : List (Nat × tt_Op × Nat) := [(0, (7, 0, 1, []), 1), (1, (3, 3, 0, []), 1), (2, (0, 3, 0, []), 1), (3, (0, 1, 0, []), 1), (4, (26, 25, 3, []), 3), (7, (2, 0, 0, []), 1), (8, (0, 1, 0, []), 1), (9, (0, 2, 0, []), 1), (10, (0, 3, 0, []), 1), (11, (30, 205, 5673, []), 3), (14, (0, 2, 0, []), 1), (15, (26, 25, 0, []), 3), (18, (0, 3, 0, []), 1), (19, (7, 0, 1, []), 1), (20, (9, 0, 0, []), 1), (21, (3, 3, 0, []), 1), (22, (24, 2, 0, []), 3), (25, (0, 3, 0, []), 1), (26, (29, 1, 0, []), 1)]
/-- ToneHouseModel.period(II)I -/
def tt_t210 : List (Nat × tt_Op × Nat) := [(0, (2, 0, 0, []), 1), (1, (7, 0, 0, []), 1), (2, (20, 576, 1089, []), 3), (5, (2, 0, 0, []), 1), (6, (0, 1, 0, []), 1), (7, (0, 2, 0, []), 1), (8, (30, 202, 5625, []), 3), (11, (25, 23, 0, []), 3), (14, (2, 0, 0, []), 1), (15, (0, 1, 0, []), 1), (16, (0, 2, 0, []), 1), (17, (30, 209, 5737, []), 3), (20, (24, 24, 0, []), 3), (23, (7, 0, (-1), []), 1), (24, (29, 1, 0, []), 1)]
/-- ToneHouseModel.score(I)I -/
def tt_t211 : List (Nat × tt_Op × Nat) := [(0, (2, 0, 0, []), 1), (1, (7, 0, 0, []), 1), (2, (20, 576, 1089, []), 3), (5, (0, 1, 0, []), 1), (6, (25, 14, 1, []), 3), (9, (2, 0, 0, []), 1), (10, (19, 599, 1112, []), 3), (13, (29, 1, 0, []), 1), (14, (0, 1, 0, []), 1), (15, (7, 0, 1, []), 1), (16, (26, 24, 1, []), 3), (19, (2, 0, 0, []), 1), (20, (19, 602, 1115, []), 3), (23, (29, 1, 0, []), 1), (24, (0, 1, 0, []), 1), (25, (25, 33, 2, []), 3), (28, (0, 1, 0, []), 1), (29, (7, 0, 3, []), 1), (30, (26, 35, 5, []), 3), (33, (7, 0, (-1), []), 1), (34, (29, 1, 0, []), 1), (35, (7, 0, 0, []), 1), (36, (3, 2, 0, []), 1), (37, (7, 0, 0, []), 1), (38, (3, 3, 0, []), 1), (39, (7, 0, 0, []), 1), (40, (3, 4, 0, []), 2), (42, (0, 4, 0, []), 2), (44, (2, 0, 0, []), 1), (45, (19, 602, 1115, []), 3), (48, (26, 113, 3, []), 3), (51, (7, 0, 0, []), 1), (52, (3, 5, 0, []), 2), (54, (0, 5, 0, []), 2), (56, (0, 4, 0, []), 2), (58, (26, 78, 3, []), 3), (61, (0, 2, 0, []), 1), (62, (2, 0, 0, []), 1), (63, (0, 4, 0, []), 2), (65, (0, 5, 0, []), 2), (67, (30, 212, 5785, []), 3), (70, (9, 0, 0, []), 1), (71, (3, 2, 0, []), 1), (72, (6, 5, 1, []), 3), (75, (24, 54, 0, []), 3), (78, (2, 0, 0, []), 1), (79, (19, 606, 1119, []), 3), (82, (0, 4, 0, []), 2), (84, (21, 0, 0, []), 1), (85, (2, 0, 0, []), 1), (86, (19, 577, 1090, []), 3), (89, (9, 0, 0, []), 1), (90, (0, 3, 0, []), 1), (91, (26, 107, 5, []), 3), (94, (2, 0, 0, []), 1), (95, (19, 606, 1119, []), 3), (98, (0, 4, 0, []), 2), (100, (21, 0, 0, []), 1), (101, (2, 0, 0, []), 1), (102, (19, 577, 1090, []), 3), (105, (9, 0, 0, []), 1), (106, (3, 3, 0, []), 1), (107, (6, 4, 1, []), 3), (110, (24, 42, 0, []), 3), (113, (0, 1, 0, []), 1), (114, (7, 0, 2, []), 1), (115, (26, 122, 1, []), 3), (118, (0, 2, 0, []), 1), (119, (24, 123, 0, []), 3), (122, (0, 3, 0, []), 1), (123, (29, 1, 0, []), 1)]
/-- ToneHouseModel.between(II)I -/
def tt_t212 : List (Nat × tt_Op × Nat) := [(0, (7, 0, 0, []), 1), (1, (3, 3, 0, []), 1), (2, (7, 0, 0, []), 1), (3, (3, 4, 0, []), 2), (5, (0, 4, 0, []), 2), (7, (7, 0, 52, []), 2), (9, (26, 50, 3, []), 3), (12, (2, 0, 0, []), 1), (13, (0, 1, 0, []), 1), (14, (0, 4, 0, []), 2), (16, (30, 213, 5801, []), 3), (19, (7, 0, (-1), []), 1), (20, (26, 44, 0, []), 3), (23, (2, 0, 0, []), 1), (24, (0, 1, 0, []), 1), (25, (0, 4, 0, []), 2), (27, (30, 213, 5801, []), 3), (30, (2, 0, 0, []), 1), (31, (0, 2, 0, []), 1), (32, (0, 4, 0, []), 2), (34, (30, 213, 5801, []), 3), (37, (26, 44, 1, []), 3), (40, (0, 3, 0, []), 1), (41, (7, 0, 1, []), 1), (42, (9, 0, 0, []), 1), (43, (3, 3, 0, []), 1), (44, (6, 4, 1, []), 3), (47, (24, 5, 0, []), 3), (50, (0, 3, 0, []), 1), (51, (29, 1, 0, []), 1)]
/-- ToneHouseModel.sung(II)I -/
def tt_t213 : List (Nat × tt_Op × Nat) := [(0, (0, 2, 0, []), 1), (1, (2, 0, 0, []), 1), (2, (19, 606, 1119, []), 3), (5, (0, 1, 0, []), 1), (6, (21, 0, 0, []), 1), (7, (9, 1, 0, []), 1), (8, (3, 3, 0, []), 1), (9, (0, 2, 0, []), 1), (10, (2, 0, 0, []), 1), (11, (19, 606, 1119, []), 3), (14, (0, 1, 0, []), 1), (15, (21, 0, 0, []), 1), (16, (26, 36, 2, []), 3), (19, (0, 3, 0, []), 1), (20, (2, 0, 0, []), 1), (21, (19, 577, 1090, []), 3), (24, (26, 36, 3, []), 3), (27, (2, 0, 0, []), 1), (28, (0, 1, 0, []), 1), (29, (0, 3, 0, []), 1), (30, (30, 214, 5817, []), 3), (33, (24, 37, 0, []), 3), (36, (7, 0, (-1), []), 1), (37, (29, 1, 0, []), 1)]
/-- ToneHouseModel.noteOf(II)I -/
def tt_t214 : List (Nat × tt_Op × Nat) := [(0, (2, 0, 0, []), 1), (1, (2, 0, 0, []), 1), (2, (19, 604, 1117, []), 3), (5, (0, 1, 0, []), 1), (6, (21, 0, 0, []), 1), (7, (2, 0, 0, []), 1), (8, (19, 605, 1118, []), 3), (11, (0, 1, 0, []), 1), (12, (21, 0, 0, []), 1), (13, (2, 0, 0, []), 1), (14, (19, 601, 1114, []), 3), (17, (7, 0, 12, []), 2), (19, (2, 0, 0, []), 1), (20, (19, 603, 1116, []), 3), (23, (0, 1, 0, []), 1), (24, (21, 0, 0, []), 1), (25, (9, 2, 0, []), 1), (26, (2, 0, 0, []), 1), (27, (19, 604, 1117, []), 3), (30, (0, 1, 0, []), 1), (31, (21, 0, 0, []), 1), (32, (7, 0, 2, []), 1), (33, (26, 40, 3, []), 3), (36, (0, 2, 0, []), 1), (37, (24, 48, 0, []), 3), (40, (2, 0, 0, []), 1), (41, (19, 577, 1090, []), 3), (44, (7, 0, 1, []), 1), (45, (9, 1, 0, []), 1), (46, (0, 2, 0, []), 1), (47, (9, 1, 0, []), 1), (48, (9, 0, 0, []), 1), (49, (21, 0, 0, []), 1), (50, (30, 191, 5449, []), 3), (53, (29, 1, 0, []), 1)]
/-- ToneHouseModel.voice(II)I -/
def tt_t215 : List (Nat × tt_Op × Nat) := [(0, (2, 0, 0, []), 1), (1, (7, 0, 0, []), 1), (2, (20, 576, 1089, []), 3), (5, (2, 0, 0, []), 1), (6, (0, 1, 0, []), 1), (7, (30, 216, 5849, []), 3), (10, (25, 15, 1, []), 3), (13, (7, 0, (-1), []), 1), (14, (29, 1, 0, []), 1), (15, (0, 2, 0, []), 1), (16, (25, 26, 1, []), 3), (19, (2, 0, 0, []), 1), (20, (19, 603, 1116, []), 3), (23, (0, 1, 0, []), 1), (24, (21, 0, 0, []), 1), (25, (29, 1, 0, []), 1), (26, (0, 2, 0, []), 1), (27, (7, 0, 1, []), 1), (28, (26, 38, 1, []), 3), (31, (2, 0, 0, []), 1), (32, (19, 604, 1117, []), 3), (35, (0, 1, 0, []), 1), (36, (21, 0, 0, []), 1), (37, (29, 1, 0, []), 1), (38, (0, 2, 0, []), 1), (39, (7, 0, 2, []), 1), (40, (26, 50, 1, []), 3), (43, (2, 0, 0, []), 1), (44, (19, 605, 1118, []), 3), (47, (0, 1, 0, []), 1), (48, (21, 0, 0, []), 1), (49, (29, 1, 0, []), 1), (50, (0, 2, 0, []), 1), (51, (7, 0, 3, []), 1), (52, (26, 62, 1, []), 3), (55, (2, 0, 0, []), 1), (56, (19, 606, 1119, []), 3), (59, (0, 1, 0, []), 1), (60, (21, 0, 0, []), 1), (61, (29, 1, 0, []), 1), (62, (0, 2, 0, []), 1), (63, (7, 0, 4, []), 1), (64, (26, 75, 1, []), 3), (67, (2, 0, 0, []), 1), (68, (0, 1, 0, []), 1), (69, (30, 217, 5865, []), 3), (72, (24, 76, 0, []), 3), (75, (7, 0, (-1), []), 1), (76, (29, 1, 0, []), 1)]
/-- ToneHouseModel.isVoice(I)Z -/
def tt_t216 : List (Nat × tt_Op × Nat) := [(0, (0, 1, 0, []), 1), (1, (25, 16, 2, []), 3), (4, (0, 1, 0, []), 1), (5, (2, 0, 0, []), 1), (6, (19, 602, 1115, []), 3), (9, (26, 16, 3, []), 3), (12, (7, 0, 1, []), 1), (13, (24, 17, 0, []), 3), (16, (7, 0, 0, []), 1), (17, (29, 1, 0, []), 1)]
/-- ToneHouseModel.clashesOf(I)I -/
def tt_t217 : List (Nat × tt_Op × Nat) := [(0, (7, 0, 0, []), 1), (1, (3, 2, 0, []), 1), (2, (7, 0, 0, []), 1), (3, (3, 3, 0, []), 1), (4, (0, 3, 0, []), 1), (5, (2, 0, 0, []), 1), (6, (19, 602, 1115, []), 3), (9, (26, 32, 3, []), 3), (12, (0, 3, 0, []), 1), (13, (0, 1, 0, []), 1), (14, (26, 26, 0, []), 3), (17, (0, 2, 0, []), 1), (18, (2, 0, 0, []), 1), (19, (0, 1, 0, []), 1), (20, (0, 3, 0, []), 1), (21, (30, 212, 5785, []), 3), (24, (9, 0, 0, []), 1), (25, (3, 2, 0, []), 1), (26, (6, 3, 1, []), 3), (29, (24, 4, 0, []), 3), (32, (0, 2, 0, []), 1), (33, (29, 1, 0, []), 1)]
/-- ToneHouseModel.sings(II)I -/
def tt_t218 : List (Nat × tt_Op × Nat) := [(0, (2, 0, 0, []), 1), (1, (7, 0, 0, []), 1), (2, (20, 576, 1089, []), 3), (5, (2, 0, 0, []), 1), (6, (0, 1, 0, []), 1), (7, (30, 216, 5849, []), 3), (10, (25, 30, 0, []), 3), (13, (2, 0, 0, []), 1), (14, (0, 2, 0, []), 1), (15, (30, 219, 5897, []), 3), (18, (25, 30, 0, []), 3), (21, (2, 0, 0, []), 1), (22, (0, 1, 0, []), 1), (23, (0, 2, 0, []), 1), (24, (30, 213, 5801, []), 3), (27, (24, 31, 0, []), 3), (30, (7, 0, (-1), []), 1), (31, (29, 1, 0, []), 1)]
/-- ToneHouseModel.isBeat(I)Z -/
def tt_t219 : List (Nat × tt_Op × Nat) := [(0, (0, 1, 0, []), 1), (1, (25, 14, 2, []), 3), (4, (0, 1, 0, []), 1), (5, (7, 0, 52, []), 2), (7, (26, 14, 3, []), 3), (10, (7, 0, 1, []), 1), (11, (24, 15, 0, []), 3), (14, (7, 0, 0, []), 1), (15, (29, 1, 0, []), 1)]
/-- ToneHouseModel.chord(I)I -/
def tt_t220 : List (Nat × tt_Op × Nat) := [(0, (2, 0, 0, []), 1), (1, (7, 0, 0, []), 1), (2, (20, 576, 1089, []), 3), (5, (7, 0, 0, []), 1), (6, (3, 2, 0, []), 1), (7, (7, 0, 0, []), 1), (8, (3, 3, 0, []), 1), (9, (0, 3, 0, []), 1), (10, (2, 0, 0, []), 1), (11, (19, 602, 1115, []), 3), (14, (26, 52, 3, []), 3), (17, (2, 0, 0, []), 1), (18, (0, 1, 0, []), 1), (19, (30, 219, 5897, []), 3), (22, (25, 52, 0, []), 3), (25, (2, 0, 0, []), 1), (26, (0, 3, 0, []), 1), (27, (0, 1, 0, []), 1), (28, (30, 213, 5801, []), 3), (31, (7, 0, (-1), []), 1), (32, (26, 46, 0, []), 3), (35, (0, 2, 0, []), 1), (36, (7, 0, 1, []), 1), (37, (2, 0, 0, []), 1), (38, (0, 3, 0, []), 1), (39, (0, 1, 0, []), 1), (40, (30, 213, 5801, []), 3), (43, (9, 6, 0, []), 1), (44, (9, 4, 0, []), 1), (45, (3, 2, 0, []), 1), (46, (6, 3, 1, []), 3), (49, (24, 9, 0, []), 3), (52, (0, 2, 0, []), 1), (53, (29, 1, 0, []), 1)]
/-- ToneHouseModel.fit(II)I -/
def tt_t221 : List (Nat × tt_Op × Nat) := [(0, (2, 0, 0, []), 1), (1, (7, 0, 0, []), 1), (2, (20, 576, 1089, []), 3), (5, (2, 0, 0, []), 1), (6, (0, 1, 0, []), 1), (7, (30, 216, 5849, []), 3), (10, (25, 23, 0, []), 3), (13, (0, 2, 0, []), 1), (14, (25, 23, 2, []), 3), (17, (0, 2, 0, []), 1), (18, (7, 0, 40, []), 2), (20, (26, 25, 5, []), 3), (23, (7, 0, (-1), []), 1), (24, (29, 1, 0, []), 1), (25, (7, 0, 0, []), 1), (26, (3, 3, 0, []), 1), (27, (7, 0, (-1), []), 1), (28, (3, 4, 0, []), 2), (30, (7, 0, 0, []), 1), (31, (3, 5, 0, []), 2), (33, (0, 5, 0, []), 2), (35, (0, 2, 0, []), 1), (36, (26, 83, 4, []), 3), (39, (2, 0, 0, []), 1), (40, (19, 606, 1119, []), 3), (43, (0, 1, 0, []), 1), (44, (0, 5, 0, []), 2), (46, (22, 0, 0, []), 1), (47, (2, 0, 0, []), 1), (48, (0, 1, 0, []), 1), (49, (30, 217, 5865, []), 3), (52, (3, 6, 0, []), 2), (54, (0, 4, 0, []), 2), (56, (7, 0, (-1), []), 1), (57, (26, 70, 0, []), 3), (60, (0, 6, 0, []), 2), (62, (0, 4, 0, []), 2), (64, (26, 70, 2, []), 3), (67, (24, 77, 0, []), 3), (70, (0, 6, 0, []), 2), (72, (3, 4, 0, []), 2), (74, (0, 5, 0, []), 2), (76, (3, 3, 0, []), 1), (77, (6, 5, 1, []), 3), (80, (24, 33, 0, []), 3), (83, (2, 0, 0, []), 1), (84, (19, 606, 1119, []), 3), (87, (0, 1, 0, []), 1), (88, (0, 3, 0, []), 1), (89, (22, 0, 0, []), 1), (90, (0, 4, 0, []), 2), (92, (29, 1, 0, []), 1)]
/-- ToneHouseModel.keep(II)Z -/
def tt_t222 : List (Nat × tt_Op × Nat) := [(0, (2, 0, 0, []), 1), (1, (7, 0, 0, []), 1), (2, (20, 576, 1089, []), 3), (5, (2, 0, 0, []), 1), (6, (0, 1, 0, []), 1), (7, (30, 216, 5849, []), 3), (10, (25, 21, 0, []), 3), (13, (2, 0, 0, []), 1), (14, (0, 2, 0, []), 1), (15, (30, 186, 5365, []), 3), (18, (25, 23, 1, []), 3), (21, (7, 0, 0, []), 1), (22, (29, 1, 0, []), 1), (23, (7, 0, 0, []), 1), (24, (3, 3, 0, []), 1), (25, (0, 3, 0, []), 1), (26, (2, 0, 0, []), 1), (27, (19, 577, 1090, []), 3), (30, (26, 56, 3, []), 3), (33, (2, 0, 0, []), 1), (34, (19, 586, 1099, []), 3), (37, (7, 0, 12, []), 2), (39, (0, 2, 0, []), 1), (40, (9, 2, 0, []), 1), (41, (0, 3, 0, []), 1), (42, (9, 0, 0, []), 1), (43, (2, 0, 0, []), 1), (44, (0, 1, 0, []), 1), (45, (0, 3, 0, []), 1), (46, (30, 214, 5817, []), 3), (49, (22, 0, 0, []), 1), (50, (6, 3, 1, []), 3), (53, (24, 25, 0, []), 3), (56, (2, 0, 0, []), 1), (57, (19, 585, 1098, []), 3), (60, (0, 2, 0, []), 1), (61, (7, 0, 1, []), 1), (62, (22, 2, 0, []), 1), (63, (7, 0, 1, []), 1), (64, (29, 1, 0, []), 1)]
/-- ToneHouseModel.feed(IIIII)I -/
def tt_t223 : List (Nat × tt_Op × Nat) := [(0, (2, 0, 0, []), 1), (1, (7, 0, 0, []), 1), (2, (20, 576, 1089, []), 3), (5, (2, 0, 0, []), 1), (6, (19, 608, 1121, []), 3), (9, (7, 0, 20, []), 2), (11, (9, 0, 0, []), 1), (12, (7, 0, 800, []), 3), (15, (26, 20, 5, []), 3), (18, (7, 0, (-1), []), 1), (19, (29, 1, 0, []), 1), (20, (2, 0, 0, []), 1), (21, (0, 1, 0, []), 1), (22, (30, 224, 5977, []), 3), (25, (2, 0, 0, []), 1), (26, (0, 2, 0, []), 1), (27, (30, 224, 5977, []), 3), (30, (2, 0, 0, []), 1), (31, (0, 3, 0, []), 1), (32, (30, 224, 5977, []), 3), (35, (2, 0, 0, []), 1), (36, (0, 4, 0, []), 2), (38, (30, 224, 5977, []), 3), (41, (2, 0, 0, []), 1), (42, (0, 5, 0, []), 2), (44, (30, 224, 5977, []), 3), (47, (2, 0, 0, []), 1), (48, (19, 608, 1121, []), 3), (51, (29, 1, 0, []), 1)]
/-- ToneHouseModel.lay(I)V -/
def tt_t224 : List (Nat × tt_Op × Nat) := [(0, (7, 0, 24, []), 2), (2, (3, 2, 0, []), 1), (3, (0, 2, 0, []), 1), (4, (25, 39, 2, []), 3), (7, (2, 0, 0, []), 1), (8, (19, 607, 1120, []), 3), (11, (2, 0, 0, []), 1), (12, (19, 608, 1121, []), 3), (15, (0, 1, 0, []), 1), (16, (0, 2, 0, []), 1), (17, (9, 7, 0, []), 1), (18, (7, 0, 255, []), 3), (21, (9, 3, 0, []), 1), (22, (22, 0, 0, []), 1), (23, (2, 0, 0, []), 1), (24, (2, 0, 0, []), 1), (25, (19, 608, 1121, []), 3), (28, (7, 0, 1, []), 1), (29, (9, 0, 0, []), 1), (30, (20, 608, 1121, []), 3), (33, (6, 2, (-8), []), 3), (36, (24, 3, 0, []), 3), (39, (29, 0, 0, []), 1)]
/-- ToneHouseModel.end(I)I -/
def tt_t225 : List (Nat × tt_Op × Nat) := [(0, (2, 0, 0, []), 1), (1, (7, 0, 0, []), 1), (2, (20, 576, 1089, []), 3), (5, (0, 1, 0, []), 1), (6, (25, 17, 2, []), 3), (9, (0, 1, 0, []), 1), (10, (2, 0, 0, []), 1), (11, (19, 608, 1121, []), 3), (14, (26, 19, 5, []), 3), (17, (7, 0, (-1), []), 1), (18, (29, 1, 0, []), 1), (19, (2, 0, 0, []), 1), (20, (0, 1, 0, []), 1), (21, (20, 608, 1121, []), 3), (24, (0, 1, 0, []), 1), (25, (29, 1, 0, []), 1)]
/-- ToneHouseModel.take()I -/
def tt_t226 : List (Nat × tt_Op × Nat) := [(0, (2, 0, 0, []), 1), (1, (7, 0, 0, []), 1), (2, (20, 576, 1089, []), 3), (5, (2, 0, 0, []), 1), (6, (2, 0, 0, []), 1), (7, (19, 610, 1123, []), 3), (10, (7, 0, 800, []), 3), (13, (26, 23, 3, []), 3), (16, (2, 0, 0, []), 1), (17, (19, 610, 1123, []), 3), (20, (24, 26, 0, []), 3), (23, (7, 0, 800, []), 3), (26, (20, 608, 1121, []), 3), (29, (7, 0, 0, []), 1), (30, (3, 1, 0, []), 1), (31, (0, 1, 0, []), 1), (32, (2, 0, 0, []), 1), (33, (19, 608, 1121, []), 3), (36, (26, 57, 3, []), 3), (39, (2, 0, 0, []), 1), (40, (19, 607, 1120, []), 3), (43, (0, 1, 0, []), 1), (44, (2, 0, 0, []), 1), (45, (19, 609, 1122, []), 3), (48, (0, 1, 0, []), 1), (49, (21, 0, 0, []), 1), (50, (22, 0, 0, []), 1), (51, (6, 1, 1, []), 3), (54, (24, 31, 0, []), 3), (57, (2, 0, 0, []), 1), (58, (19, 608, 1121, []), 3), (61, (29, 1, 0, []), 1)]
/-- ToneHouseModel.out(I)I -/
def tt_t227 : List (Nat × tt_Op × Nat) := [(0, (2, 0, 0, []), 1), (1, (7, 0, 0, []), 1), (2, (20, 576, 1089, []), 3), (5, (0, 1, 0, []), 1), (6, (25, 26, 2, []), 3), (9, (0, 1, 0, []), 1), (10, (2, 0, 0, []), 1), (11, (19, 610, 1123, []), 3), (14, (26, 26, 3, []), 3), (17, (2, 0, 0, []), 1), (18, (19, 609, 1122, []), 3), (21, (0, 1, 0, []), 1), (22, (21, 0, 0, []), 1), (23, (24, 27, 0, []), 3), (26, (7, 0, (-1), []), 1), (27, (29, 1, 0, []), 1)]
/-- ToneHouseModel.write()I -/
def tt_t228 : List (Nat × tt_Op × Nat) := [(0, (2, 0, 0, []), 1), (1, (7, 0, 0, []), 1), (2, (20, 576, 1089, []), 3), (5, (2, 0, 0, []), 1), (6, (7, 0, 0, []), 1), (7, (20, 610, 1123, []), 3), (10, (7, 0, 0, []), 1), (11, (3, 1, 0, []), 1), (12, (0, 1, 0, []), 1), (13, (2, 0, 0, []), 1), (14, (19, 599, 1112, []), 3), (17, (26, 103, 3, []), 3), (20, (2, 0, 0, []), 1), (21, (7, 0, 114, []), 2), (23, (30, 229, 6057, []), 3), (26, (2, 0, 0, []), 1), (27, (7, 0, 111, []), 2), (29, (30, 229, 6057, []), 3), (32, (2, 0, 0, []), 1), (33, (7, 0, 119, []), 2), (35, (30, 230, 6073, []), 3), (38, (2, 0, 0, []), 1), (39, (2, 0, 0, []), 1), (40, (19, 600, 1113, []), 3), (43, (0, 1, 0, []), 1), (44, (21, 0, 0, []), 1), (45, (30, 230, 6073, []), 3), (48, (2, 0, 0, []), 1), (49, (7, 0, 61, []), 2), (51, (30, 230, 6073, []), 3), (54, (7, 0, 0, []), 1), (55, (3, 2, 0, []), 1), (56, (0, 2, 0, []), 1), (57, (2, 0, 0, []), 1), (58, (19, 577, 1090, []), 3), (61, (26, 85, 3, []), 3), (64, (2, 0, 0, []), 1), (65, (2, 0, 0, []), 1), (66, (19, 601, 1114, []), 3), (69, (7, 0, 12, []), 2), (71, (0, 1, 0, []), 1), (72, (9, 2, 0, []), 1), (73, (0, 2, 0, []), 1), (74, (9, 0, 0, []), 1), (75, (21, 0, 0, []), 1), (76, (30, 231, 6089, []), 3), (79, (6, 2, 1, []), 3), (82, (24, 56, 0, []), 3), (85, (2, 0, 0, []), 1), (86, (7, 0, 59, []), 2), (88, (30, 229, 6057, []), 3), (91, (2, 0, 0, []), 1), (92, (7, 0, 10, []), 2), (94, (30, 229, 6057, []), 3), (97, (6, 1, 1, []), 3), (100, (24, 12, 0, []), 3), (103, (7, 0, 0, []), 1), (104, (3, 1, 0, []), 1), (105, (0, 1, 0, []), 1), (106, (2, 0, 0, []), 1), (107, (19, 602, 1115, []), 3), (110, (26, 258, 3, []), 3), (113, (2, 0, 0, []), 1), (114, (7, 0, 118, []), 2), (116, (30, 229, 6057, []), 3), (119, (2, 0, 0, []), 1), (120, (7, 0, 111, []), 2), (122, (30, 229, 6057, []), 3), (125, (2, 0, 0, []), 1), (126, (7, 0, 105, []), 2), (128, (30, 229, 6057, []), 3), (131, (2, 0, 0, []), 1), (132, (7, 0, 99, []), 2), (134, (30, 229, 6057, []), 3), (137, (2, 0, 0, []), 1), (138, (7, 0, 101, []), 2), (140, (30, 230, 6073, []), 3), (143, (2, 0, 0, []), 1), (144, (2, 0, 0, []), 1), (145, (19, 600, 1113, []), 3), (148, (2, 0, 0, []), 1), (149, (19, 603, 1116, []), 3), (152, (0, 1, 0, []), 1), (153, (21, 0, 0, []), 1), (154, (21, 0, 0, []), 1), (155, (30, 230, 6073, []), 3), (158, (2, 0, 0, []), 1), (159, (2, 0, 0, []), 1), (160, (19, 604, 1117, []), 3), (163, (0, 1, 0, []), 1), (164, (21, 0, 0, []), 1), (165, (25, 173, 1, []), 3), (168, (7, 0, 112, []), 2), (170, (24, 205, 0, []), 3), (173, (2, 0, 0, []), 1), (174, (19, 604, 1117, []), 3), (177, (0, 1, 0, []), 1), (178, (21, 0, 0, []), 1), (179, (7, 0, 1, []), 1), (180, (26, 188, 1, []), 3), (183, (7, 0, 105, []), 2), (185, (24, 205, 0, []), 3), (188, (2, 0, 0, []), 1), (189, (19, 604, 1117, []), 3), (192, (0, 1, 0, []), 1), (193, (21, 0, 0, []), 1), (194, (7, 0, 2, []), 1), (195, (26, 203, 1, []), 3), (198, (7, 0, 114, []), 2), (200, (24, 205, 0, []), 3), (203, (7, 0, 117, []), 2), (205, (30, 230, 6073, []), 3), (208, (2, 0, 0, []), 1), (209, (2, 0, 0, []), 1), (210, (19, 605, 1118, []), 3), (213, (0, 1, 0, []), 1), (214, (21, 0, 0, []), 1), (215, (30, 231, 6089, []), 3), (218, (2, 0, 0, []), 1), (219, (7, 0, 97, []), 2), (221, (30, 229, 6057, []), 3), (224, (2, 0, 0, []), 1), (225, (7, 0, 116, []), 2), (227, (30, 230, 6073, []), 3), (230, (2, 0, 0, []), 1), (231, (2, 0, 0, []), 1), (232, (19, 606, 1119, []), 3), (235, (0, 1, 0, []), 1), (236, (21, 0, 0, []), 1), (237, (30, 231, 6089, []), 3), (240, (2, 0, 0, []), 1), (241, (7, 0, 59, []), 2), (243, (30, 229, 6057, []), 3), (246, (2, 0, 0, []), 1), (247, (7, 0, 10, []), 2), (249, (30, 229, 6057, []), 3), (252, (6, 1, 1, []), 3), (255, (24, 105, 0, []), 3), (258, (2, 0, 0, []), 1), (259, (19, 610, 1123, []), 3), (262, (29, 1, 0, []), 1)]
/-- ToneHouseModel.say(I)V -/
def tt_t229 : List (Nat × tt_Op × Nat) := [(0, (2, 0, 0, []), 1), (1, (19, 609, 1122, []), 3), (4, (2, 0, 0, []), 1), (5, (19, 610, 1123, []), 3), (8, (0, 1, 0, []), 1), (9, (22, 0, 0, []), 1), (10, (2, 0, 0, []), 1), (11, (2, 0, 0, []), 1), (12, (19, 610, 1123, []), 3), (15, (7, 0, 1, []), 1), (16, (9, 0, 0, []), 1), (17, (20, 610, 1123, []), 3), (20, (29, 0, 0, []), 1)]
/-- ToneHouseModel.sayLetter(I)V -/
def tt_t230 : List (Nat × tt_Op × Nat) := [(0, (2, 0, 0, []), 1), (1, (0, 1, 0, []), 1), (2, (30, 229, 6057, []), 3), (5, (2, 0, 0, []), 1), (6, (7, 0, 32, []), 2), (8, (30, 229, 6057, []), 3), (11, (29, 0, 0, []), 1)]
/-- ToneHouseModel.sayNumber(I)V -/
def tt_t231 : List (Nat × tt_Op × Nat) := [(0, (0, 1, 0, []), 1), (1, (7, 0, 9, []), 2), (3, (26, 17, 5, []), 3), (6, (2, 0, 0, []), 1), (7, (7, 0, 48, []), 2), (9, (0, 1, 0, []), 1), (10, (7, 0, 10, []), 2), (12, (10, 0, 0, []), 1), (13, (9, 0, 0, []), 1), (14, (30, 229, 6057, []), 3), (17, (2, 0, 0, []), 1), (18, (7, 0, 48, []), 2), (20, (0, 1, 0, []), 1), (21, (7, 0, 10, []), 2), (23, (11, 0, 0, []), 1), (24, (9, 0, 0, []), 1), (25, (30, 229, 6057, []), 3), (28, (2, 0, 0, []), 1), (29, (7, 0, 32, []), 2), (31, (30, 229, 6057, []), 3), (34, (29, 0, 0, []), 1)]
/-- ToneHouseModel.load()I -/
def tt_t232 : List (Nat × tt_Op × Nat) := [(0, (2, 0, 0, []), 1), (1, (7, 0, 0, []), 1), (2, (20, 576, 1089, []), 3), (5, (2, 0, 0, []), 1), (6, (30, 233, 6121, []), 3), (9, (3, 1, 0, []), 1), (10, (2, 0, 0, []), 1), (11, (7, 0, 0, []), 1), (12, (20, 608, 1121, []), 3), (15, (0, 1, 0, []), 1), (16, (25, 21, 1, []), 3), (19, (7, 0, (-1), []), 1), (20, (29, 1, 0, []), 1), (21, (2, 0, 0, []), 1), (22, (7, 0, 0, []), 1), (23, (20, 615, 1128, []), 3), (26, (2, 0, 0, []), 1), (27, (7, 0, (-1), []), 1), (28, (20, 616, 1129, []), 3), (31, (2, 0, 0, []), 1), (32, (2, 0, 0, []), 1), (33, (19, 617, 1130, []), 3), (36, (20, 599, 1112, []), 3), (39, (2, 0, 0, []), 1), (40, (2, 0, 0, []), 1), (41, (19, 618, 1131, []), 3), (44, (20, 602, 1115, []), 3), (47, (7, 0, 0, []), 1), (48, (3, 2, 0, []), 1), (49, (0, 2, 0, []), 1), (50, (2, 0, 0, []), 1), (51, (19, 599, 1112, []), 3), (54, (26, 113, 3, []), 3), (57, (2, 0, 0, []), 1), (58, (19, 600, 1113, []), 3), (61, (0, 2, 0, []), 1), (62, (2, 0, 0, []), 1), (63, (19, 619, 1132, []), 3), (66, (0, 2, 0, []), 1), (67, (21, 0, 0, []), 1), (68, (22, 0, 0, []), 1), (69, (7, 0, 0, []), 1), (70, (3, 3, 0, []), 1), (71, (0, 3, 0, []), 1), (72, (2, 0, 0, []), 1), (73, (19, 577, 1090, []), 3), (76, (26, 107, 3, []), 3), (79, (2, 0, 0, []), 1), (80, (19, 601, 1114, []), 3), (83, (7, 0, 12, []), 2), (85, (0, 2, 0, []), 1), (86, (9, 2, 0, []), 1), (87, (0, 3, 0, []), 1), (88, (9, 0, 0, []), 1), (89, (2, 0, 0, []), 1), (90, (19, 620, 1133, []), 3), (93, (7, 0, 12, []), 2), (95, (0, 2, 0, []), 1), (96, (9, 2, 0, []), 1), (97, (0, 3, 0, []), 1), (98, (9, 0, 0, []), 1), (99, (21, 0, 0, []), 1), (100, (22, 0, 0, []), 1), (101, (6, 3, 1, []), 3), (104, (24, 71, 0, []), 3), (107, (6, 2, 1, []), 3), (110, (24, 49, 0, []), 3), (113, (7, 0, 0, []), 1), (114, (3, 2, 0, []), 1), (115, (0, 2, 0, []), 1), (116, (2, 0, 0, []), 1), (117, (19, 602, 1115, []), 3), (120, (26, 177, 3, []), 3), (123, (2, 0, 0, []), 1), (124, (19, 603, 1116, []), 3), (127, (0, 2, 0, []), 1), (128, (2, 0, 0, []), 1), (129, (19, 621, 1134, []), 3), (132, (0, 2, 0, []), 1), (133, (21, 0, 0, []), 1), (134, (22, 0, 0, []), 1), (135, (2, 0, 0, []), 1), (136, (19, 604, 1117, []), 3), (139, (0, 2, 0, []), 1), (140, (2, 0, 0, []), 1), (141, (19, 622, 1135, []), 3), (144, (0, 2, 0, []), 1), (145, (21, 0, 0, []), 1), (146, (22, 0, 0, []), 1), (147, (2, 0, 0, []), 1), (148, (19, 605, 1118, []), 3), (151, (0, 2, 0, []), 1), (152, (2, 0, 0, []), 1), (153, (19, 623, 1136, []), 3), (156, (0, 2, 0, []), 1), (157, (21, 0, 0, []), 1), (158, (22, 0, 0, []), 1), (159, (2, 0, 0, []), 1), (160, (19, 606, 1119, []), 3), (163, (0, 2, 0, []), 1), (164, (2, 0, 0, []), 1), (165, (19, 624, 1137, []), 3), (168, (0, 2, 0, []), 1), (169, (21, 0, 0, []), 1), (170, (22, 0, 0, []), 1), (171, (6, 2, 1, []), 3), (174, (24, 115, 0, []), 3), (177, (2, 0, 0, []), 1), (178, (19, 602, 1115, []), 3), (181, (29, 1, 0, []), 1)]
/-- ToneHouseModel.reading()Z -/
def tt_t233 : List (Nat × tt_Op × Nat) := [(0, (2, 0, 0, []), 1), (1, (7, 0, 0, []), 1), (2, (20, 611, 1124, []), 3), (5, (2, 0, 0, []), 1), (6, (7, 0, 0, []), 1), (7, (20, 617, 1130, []), 3), (10, (2, 0, 0, []), 1), (11, (7, 0, 0, []), 1), (12, (20, 618, 1131, []), 3), (15, (2, 0, 0, []), 1), (16, (30, 234, 6137, []), 3), (19, (2, 0, 0, []), 1), (20, (19, 613, 1126, []), 3), (23, (7, 0, 2, []), 1), (24, (26, 36, 1, []), 3), (27, (2, 0, 0, []), 1), (28, (30, 238, 6201, []), 3), (31, (25, 19, 1, []), 3), (34, (7, 0, 0, []), 1), (35, (29, 1, 0, []), 1), (36, (2, 0, 0, []), 1), (37, (19, 613, 1126, []), 3), (40, (7, 0, 3, []), 1), (41, (26, 53, 1, []), 3), (44, (2, 0, 0, []), 1), (45, (30, 242, 6265, []), 3), (48, (25, 36, 1, []), 3), (51, (7, 0, 0, []), 1), (52, (29, 1, 0, []), 1), (53, (2, 0, 0, []), 1), (54, (19, 613, 1126, []), 3), (57, (25, 68, 0, []), 3), (60, (2, 0, 0, []), 1), (61, (7, 0, 1, []), 1), (62, (30, 239, 6217, []), 3), (65, (25, 72, 0, []), 3), (68, (7, 0, 1, []), 1), (69, (24, 73, 0, []), 3), (72, (7, 0, 0, []), 1), (73, (29, 1, 0, []), 1)]
/-- ToneHouseModel.next()V -/
def tt_t234 : List (Nat × tt_Op × Nat) := [(0, (2, 0, 0, []), 1), (1, (7, 0, 0, []), 1), (2, (30, 235, 6153, []), 3), (5, (7, 0, 32, []), 2), (7, (26, 20, 0, []), 3), (10, (2, 0, 0, []), 1), (11, (7, 0, 0, []), 1), (12, (30, 235, 6153, []), 3), (15, (7, 0, 10, []), 2), (17, (26, 33, 1, []), 3), (20, (2, 0, 0, []), 1), (21, (2, 0, 0, []), 1), (22, (19, 611, 1124, []), 3), (25, (7, 0, 1, []), 1), (26, (9, 0, 0, []), 1), (27, (20, 611, 1124, []), 3), (30, (24, 0, 0, []), 3), (33, (2, 0, 0, []), 1), (34, (2, 0, 0, []), 1), (35, (19, 611, 1124, []), 3), (38, (20, 612, 1125, []), 3), (41, (2, 0, 0, []), 1), (42, (7, 0, 1, []), 1), (43, (20, 613, 1126, []), 3), (46, (2, 0, 0, []), 1), (47, (7, 0, 0, []), 1), (48, (30, 235, 6153, []), 3), (51, (3, 1, 0, []), 1), (52, (0, 1, 0, []), 1), (53, (7, 0, (-1), []), 1), (54, (26, 65, 1, []), 3), (57, (2, 0, 0, []), 1), (58, (7, 0, 0, []), 1), (59, (20, 613, 1126, []), 3), (62, (24, 362, 0, []), 3), (65, (2, 0, 0, []), 1), (66, (0, 1, 0, []), 1), (67, (30, 236, 6169, []), 3), (70, (25, 246, 0, []), 3), (73, (7, 0, 0, []), 1), (74, (3, 2, 0, []), 1), (75, (2, 0, 0, []), 1), (76, (2, 0, 0, []), 1), (77, (0, 2, 0, []), 1), (78, (30, 235, 6153, []), 3), (81, (30, 236, 6169, []), 3), (84, (25, 94, 0, []), 3), (87, (0, 2, 0, []), 1), (88, (7, 0, 1, []), 1), (89, (9, 0, 0, []), 1), (90, (3, 2, 0, []), 1), (91, (24, 75, 0, []), 3), (94, (2, 0, 0, []), 1), (95, (0, 1, 0, []), 1), (96, (20, 614, 1127, []), 3), (99, (0, 2, 0, []), 1), (100, (7, 0, 1, []), 1), (101, (26, 115, 1, []), 3), (104, (0, 1, 0, []), 1), (105, (7, 0, 97, []), 2), (107, (26, 115, 2, []), 3), (110, (2, 0, 0, []), 1), (111, (7, 0, 5, []), 1), (112, (20, 613, 1126, []), 3), (115, (0, 2, 0, []), 1), (116, (7, 0, 3, []), 1), (117, (26, 151, 1, []), 3), (120, (0, 1, 0, []), 1), (121, (7, 0, 114, []), 2), (123, (26, 151, 1, []), 3), (126, (2, 0, 0, []), 1), (127, (7, 0, 1, []), 1), (128, (30, 235, 6153, []), 3), (131, (7, 0, 111, []), 2), (133, (26, 151, 1, []), 3), (136, (2, 0, 0, []), 1), (137, (7, 0, 2, []), 1), (138, (30, 235, 6153, []), 3), (141, (7, 0, 119, []), 2), (143, (26, 151, 1, []), 3), (146, (2, 0, 0, []), 1), (147, (7, 0, 2, []), 1), (148, (20, 613, 1126, []), 3), (151, (0, 2, 0, []), 1), (152, (7, 0, 5, []), 1), (153, (26, 207, 1, []), 3), (156, (0, 1, 0, []), 1), (157, (7, 0, 118, []), 2), (159, (26, 207, 1, []), 3), (162, (2, 0, 0, []), 1), (163, (7, 0, 1, []), 1), (164, (30, 235, 6153, []), 3), (167, (7, 0, 111, []), 2), (169, (26, 207, 1, []), 3), (172, (2, 0, 0, []), 1), (173, (7, 0, 2, []), 1), (174, (30, 235, 6153, []), 3), (177, (7, 0, 105, []), 2), (179, (26, 207, 1, []), 3), (182, (2, 0, 0, []), 1), (183, (7, 0, 3, []), 1), (184, (30, 235, 6153, []), 3), (187, (7, 0, 99, []), 2), (189, (26, 207, 1, []), 3), (192, (2, 0, 0, []), 1), (193, (7, 0, 4, []), 1), (194, (30, 235, 6153, []), 3), (197, (7, 0, 101, []), 2), (199, (26, 207, 1, []), 3), (202, (2, 0, 0, []), 1), (203, (7, 0, 3, []), 1), (204, (20, 613, 1126, []), 3), (207, (0, 2, 0, []), 1), (208, (7, 0, 2, []), 1), (209, (26, 233, 1, []), 3), (212, (0, 1, 0, []), 1), (213, (7, 0, 97, []), 2), (215, (26, 233, 1, []), 3), (218, (2, 0, 0, []), 1), (219, (7, 0, 1, []), 1), (220, (30, 235, 6153, []), 3), (223, (7, 0, 116, []), 2), (225, (26, 233, 1, []), 3), (228, (2, 0, 0, []), 1), (229, (7, 0, 4, []), 1), (230, (20, 613, 1126, []), 3), (233, (2, 0, 0, []), 1), (234, (2, 0, 0, []), 1), (235, (19, 611, 1124, []), 3), (238, (0, 2, 0, []), 1), (239, (9, 0, 0, []), 1), (240, (20, 611, 1124, []), 3), (243, (24, 362, 0, []), 3), (246, (2, 0, 0, []), 1), (247, (0, 1, 0, []), 1), (248, (30, 237, 6185, []), 3), (251, (25, 329, 0, []), 3), (254, (7, 0, 0, []), 1), (255, (3, 2, 0, []), 1), (256, (2, 0, 0, []), 1), (257, (7, 0, 0, []), 1), (258, (20, 614, 1127, []), 3), (261, (2, 0, 0, []), 1), (262, (2, 0, 0, []), 1), (263, (7, 0, 0, []), 1), (264, (30, 235, 6153, []), 3), (267, (30, 237, 6185, []), 3), (270, (25, 315, 0, []), 3), (273, (0, 2, 0, []), 1), (274, (7, 0, 2, []), 1), (275, (26, 298, 3, []), 3), (278, (2, 0, 0, []), 1), (279, (7, 0, 10, []), 2), (281, (2, 0, 0, []), 1), (282, (19, 614, 1127, []), 3), (285, (9, 2, 0, []), 1), (286, (2, 0, 0, []), 1), (287, (7, 0, 0, []), 1), (288, (30, 235, 6153, []), 3), (291, (9, 0, 0, []), 1), (292, (7, 0, 48, []), 2), (294, (9, 1, 0, []), 1), (295, (20, 614, 1127, []), 3), (298, (0, 2, 0, []), 1), (299, (7, 0, 1, []), 1), (300, (9, 0, 0, []), 1), (301, (3, 2, 0, []), 1), (302, (2, 0, 0, []), 1), (303, (2, 0, 0, []), 1), (304, (19, 611, 1124, []), 3), (307, (7, 0, 1, []), 1), (308, (9, 0, 0, []), 1), (309, (20, 611, 1124, []), 3), (312, (24, 261, 0, []), 3), (315, (0, 2, 0, []), 1), (316, (7, 0, 3, []), 1), (317, (26, 326, 3, []), 3), (320, (2, 0, 0, []), 1), (321, (7, 0, 6, []), 2), (323, (20, 613, 1126, []), 3), (326, (24, 362, 0, []), 3), (329, (2, 0, 0, []), 1), (330, (0, 1, 0, []), 1), (331, (20, 614, 1127, []), 3), (334, (0, 1, 0, []), 1), (335, (7, 0, 61, []), 2), (337, (26, 346, 0, []), 3), (340, (0, 1, 0, []), 1), (341, (7, 0, 59, []), 2), (343, (26, 352, 1, []), 3), (346, (2, 0, 0, []), 1), (347, (7, 0, 7, []), 2), (349, (20, 613, 1126, []), 3), (352, (2, 0, 0, []), 1), (353, (2, 0, 0, []), 1), (354, (19, 611, 1124, []), 3), (357, (7, 0, 1, []), 1), (358, (9, 0, 0, []), 1), (359, (20, 611, 1124, []), 3), (362, (29, 0, 0, []), 1)]
/-- ToneHouseModel.raw(I)I -/
def tt_t235 : List (Nat × tt_Op × Nat) := [(0, (2, 0, 0, []), 1), (1, (19, 611, 1124, []), 3), (4, (0, 1, 0, []), 1), (5, (9, 0, 0, []), 1), (6, (2, 0, 0, []), 1), (7, (19, 608, 1121, []), 3), (10, (26, 27, 3, []), 3), (13, (2, 0, 0, []), 1), (14, (19, 607, 1120, []), 3), (17, (2, 0, 0, []), 1), (18, (19, 611, 1124, []), 3), (21, (0, 1, 0, []), 1), (22, (9, 0, 0, []), 1), (23, (21, 0, 0, []), 1), (24, (24, 28, 0, []), 3), (27, (7, 0, (-1), []), 1), (28, (29, 1, 0, []), 1)]
/-- ToneHouseModel.isLetter(I)Z -/
def tt_t236 : List (Nat × tt_Op × Nat) := [(0, (0, 1, 0, []), 1), (1, (7, 0, 97, []), 2), (3, (26, 12, 2, []), 3), (6, (0, 1, 0, []), 1), (7, (7, 0, 122, []), 2), (9, (26, 24, 5, []), 3), (12, (0, 1, 0, []), 1), (13, (7, 0, 65, []), 2), (15, (26, 28, 2, []), 3), (18, (0, 1, 0, []), 1), (19, (7, 0, 90, []), 2), (21, (26, 28, 4, []), 3), (24, (7, 0, 1, []), 1), (25, (24, 29, 0, []), 3), (28, (7, 0, 0, []), 1), (29, (29, 1, 0, []), 1)]
/-- ToneHouseModel.isDigit(I)Z -/
def tt_t237 : List (Nat × tt_Op × Nat) := [(0, (0, 1, 0, []), 1), (1, (7, 0, 48, []), 2), (3, (26, 16, 2, []), 3), (6, (0, 1, 0, []), 1), (7, (7, 0, 57, []), 2), (9, (26, 16, 4, []), 3), (12, (7, 0, 1, []), 1), (13, (24, 17, 0, []), 3), (16, (7, 0, 0, []), 1), (17, (29, 1, 0, []), 1)]
/-- ToneHouseModel.readRow()Z -/
def tt_t238 : List (Nat × tt_Op × Nat) := [(0, (2, 0, 0, []), 1), (1, (19, 617, 1130, []), 3), (4, (7, 0, 6, []), 2), (6, (26, 15, 1, []), 3), (9, (2, 0, 0, []), 1), (10, (7, 0, 4, []), 1), (11, (30, 239, 6217, []), 3), (14, (29, 1, 0, []), 1), (15, (2, 0, 0, []), 1), (16, (30, 234, 6137, []), 3), (19, (2, 0, 0, []), 1), (20, (19, 613, 1126, []), 3), (23, (7, 0, 5, []), 1), (24, (26, 33, 0, []), 3), (27, (2, 0, 0, []), 1), (28, (7, 0, 1, []), 1), (29, (30, 239, 6217, []), 3), (32, (29, 1, 0, []), 1), (33, (2, 0, 0, []), 1), (34, (2, 0, 0, []), 1), (35, (19, 614, 1127, []), 3), (38, (30, 240, 6233, []), 3), (41, (7, 0, (-1), []), 1), (42, (26, 51, 0, []), 3), (45, (2, 0, 0, []), 1), (46, (7, 0, 2, []), 1), (47, (30, 239, 6217, []), 3), (50, (29, 1, 0, []), 1), (51, (2, 0, 0, []), 1), (52, (19, 614, 1127, []), 3), (55, (3, 1, 0, []), 1), (56, (2, 0, 0, []), 1), (57, (30, 234, 6137, []), 3), (60, (2, 0, 0, []), 1), (61, (7, 0, 61, []), 2), (63, (30, 241, 6249, []), 3), (66, (25, 75, 1, []), 3), (69, (2, 0, 0, []), 1), (70, (7, 0, 1, []), 1), (71, (30, 239, 6217, []), 3), (74, (29, 1, 0, []), 1), (75, (2, 0, 0, []), 1), (76, (30, 234, 6137, []), 3), (79, (2, 0, 0, []), 1), (80, (19, 613, 1126, []), 3), (83, (7, 0, 6, []), 2), (85, (26, 94, 0, []), 3), (88, (2, 0, 0, []), 1), (89, (7, 0, 1, []), 1), (90, (30, 239, 6217, []), 3), (93, (29, 1, 0, []), 1), (94, (7, 0, 0, []), 1), (95, (3, 2, 0, []), 1), (96, (7, 0, 0, []), 1), (97, (3, 3, 0, []), 1), (98, (2, 0, 0, []), 1), (99, (19, 613, 1126, []), 3), (102, (7, 0, 6, []), 2), (104, (26, 174, 1, []), 3), (107, (2, 0, 0, []), 1), (108, (19, 614, 1127, []), 3), (111, (2, 0, 0, []), 1), (112, (19, 577, 1090, []), 3), (115, (26, 130, 3, []), 3), (118, (2, 0, 0, []), 1), (119, (0, 2, 0, []), 1), (120, (2, 0, 0, []), 1), (121, (19, 614, 1127, []), 3), (124, (30, 166, 5045, []), 3), (127, (25, 136, 0, []), 3), (130, (2, 0, 0, []), 1), (131, (7, 0, 3, []), 1), (132, (30, 239, 6217, []), 3), (135, (29, 1, 0, []), 1), (136, (2, 0, 0, []), 1), (137, (19, 620, 1133, []), 3), (140, (7, 0, 12, []), 2), (142, (2, 0, 0, []), 1), (143, (19, 617, 1130, []), 3), (146, (9, 2, 0, []), 1), (147, (0, 3, 0, []), 1), (148, (9, 0, 0, []), 1), (149, (2, 0, 0, []), 1), (150, (19, 614, 1127, []), 3), (153, (22, 0, 0, []), 1), (154, (0, 2, 0, []), 1), (155, (7, 0, 1, []), 1), (156, (2, 0, 0, []), 1), (157, (19, 614, 1127, []), 3), (160, (9, 6, 0, []), 1), (161, (9, 4, 0, []), 1), (162, (3, 2, 0, []), 1), (163, (0, 3, 0, []), 1), (164, (7, 0, 1, []), 1), (165, (9, 0, 0, []), 1), (166, (3, 3, 0, []), 1), (167, (2, 0, 0, []), 1), (168, (30, 234, 6137, []), 3), (171, (24, 98, 0, []), 3), (174, (2, 0, 0, []), 1), (175, (7, 0, 59, []), 2), (177, (30, 241, 6249, []), 3), (180, (25, 189, 1, []), 3), (183, (2, 0, 0, []), 1), (184, (7, 0, 1, []), 1), (185, (30, 239, 6217, []), 3), (188, (29, 1, 0, []), 1), (189, (0, 3, 0, []), 1), (190, (2, 0, 0, []), 1), (191, (19, 577, 1090, []), 3), (194, (26, 203, 3, []), 3), (197, (2, 0, 0, []), 1), (198, (7, 0, 3, []), 1), (199, (30, 239, 6217, []), 3), (202, (29, 1, 0, []), 1), (203, (2, 0, 0, []), 1), (204, (19, 619, 1132, []), 3), (207, (2, 0, 0, []), 1), (208, (19, 617, 1130, []), 3), (211, (0, 1, 0, []), 1), (212, (22, 0, 0, []), 1), (213, (2, 0, 0, []), 1), (214, (2, 0, 0, []), 1), (215, (19, 617, 1130, []), 3), (218, (7, 0, 1, []), 1), (219, (9, 0, 0, []), 1), (220, (20, 617, 1130, []), 3), (223, (2, 0, 0, []), 1), (224, (30, 234, 6137, []), 3), (227, (7, 0, 1, []), 1), (228, (29, 1, 0, []), 1)]
/-- ToneHouseModel.fails(I)Z -/
def tt_t239 : List (Nat × tt_Op × Nat) := [(0, (2, 0, 0, []), 1), (1, (0, 1, 0, []), 1), (2, (20, 615, 1128, []), 3), (5, (2, 0, 0, []), 1), (6, (2, 0, 0, []), 1), (7, (19, 612, 1125, []), 3), (10, (20, 616, 1129, []), 3), (13, (7, 0, 0, []), 1), (14, (29, 1, 0, []), 1)]
/-- ToneHouseModel.rowNamed(I)I -/
def tt_t240 : List (Nat × tt_Op × Nat) := [(0, (7, 0, 0, []), 1), (1, (3, 2, 0, []), 1), (2, (0, 2, 0, []), 1), (3, (2, 0, 0, []), 1), (4, (19, 617, 1130, []), 3), (7, (26, 28, 3, []), 3), (10, (2, 0, 0, []), 1), (11, (19, 619, 1132, []), 3), (14, (0, 2, 0, []), 1), (15, (21, 0, 0, []), 1), (16, (0, 1, 0, []), 1), (17, (26, 22, 1, []), 3), (20, (0, 2, 0, []), 1), (21, (29, 1, 0, []), 1), (22, (6, 2, 1, []), 3), (25, (24, 2, 0, []), 3), (28, (7, 0, (-1), []), 1), (29, (29, 1, 0, []), 1)]
/-- ToneHouseModel.isSign(I)Z -/
def tt_t241 : List (Nat × tt_Op × Nat) := [(0, (2, 0, 0, []), 1), (1, (19, 613, 1126, []), 3), (4, (7, 0, 7, []), 2), (6, (26, 21, 1, []), 3), (9, (2, 0, 0, []), 1), (10, (19, 614, 1127, []), 3), (13, (0, 1, 0, []), 1), (14, (26, 21, 1, []), 3), (17, (7, 0, 1, []), 1), (18, (24, 22, 0, []), 3), (21, (7, 0, 0, []), 1), (22, (29, 1, 0, []), 1)]
/-- ToneHouseModel.readVoice()Z -/
def tt_t242 : List (Nat × tt_Op × Nat) := [(0, (2, 0, 0, []), 1), (1, (19, 618, 1131, []), 3), (4, (7, 0, 8, []), 2), (6, (26, 15, 1, []), 3), (9, (2, 0, 0, []), 1), (10, (7, 0, 4, []), 1), (11, (30, 239, 6217, []), 3), (14, (29, 1, 0, []), 1), (15, (2, 0, 0, []), 1), (16, (30, 234, 6137, []), 3), (19, (2, 0, 0, []), 1), (20, (19, 613, 1126, []), 3), (23, (7, 0, 5, []), 1), (24, (26, 33, 0, []), 3), (27, (2, 0, 0, []), 1), (28, (7, 0, 1, []), 1), (29, (30, 239, 6217, []), 3), (32, (29, 1, 0, []), 1), (33, (2, 0, 0, []), 1), (34, (2, 0, 0, []), 1), (35, (19, 614, 1127, []), 3), (38, (30, 240, 6233, []), 3), (41, (3, 1, 0, []), 1), (42, (0, 1, 0, []), 1), (43, (7, 0, (-1), []), 1), (44, (26, 53, 1, []), 3), (47, (2, 0, 0, []), 1), (48, (7, 0, 2, []), 1), (49, (30, 239, 6217, []), 3), (52, (29, 1, 0, []), 1), (53, (2, 0, 0, []), 1), (54, (30, 234, 6137, []), 3), (57, (2, 0, 0, []), 1), (58, (19, 613, 1126, []), 3), (61, (7, 0, 5, []), 1), (62, (26, 69, 0, []), 3), (65, (7, 0, (-1), []), 1), (66, (24, 122, 0, []), 3), (69, (2, 0, 0, []), 1), (70, (19, 614, 1127, []), 3), (73, (7, 0, 112, []), 2), (75, (26, 82, 1, []), 3), (78, (7, 0, 0, []), 1), (79, (24, 122, 0, []), 3), (82, (2, 0, 0, []), 1), (83, (19, 614, 1127, []), 3), (86, (7, 0, 105, []), 2), (88, (26, 95, 1, []), 3), (91, (7, 0, 1, []), 1), (92, (24, 122, 0, []), 3), (95, (2, 0, 0, []), 1), (96, (19, 614, 1127, []), 3), (99, (7, 0, 114, []), 2), (101, (26, 108, 1, []), 3), (104, (7, 0, 2, []), 1), (105, (24, 122, 0, []), 3), (108, (2, 0, 0, []), 1), (109, (19, 614, 1127, []), 3), (112, (7, 0, 117, []), 2), (114, (26, 121, 1, []), 3), (117, (7, 0, 3, []), 1), (118, (24, 122, 0, []), 3), (121, (7, 0, (-1), []), 1), (122, (3, 2, 0, []), 1), (123, (0, 2, 0, []), 1), (124, (7, 0, (-1), []), 1), (125, (26, 134, 1, []), 3), (128, (2, 0, 0, []), 1), (129, (7, 0, 1, []), 1), (130, (30, 239, 6217, []), 3), (133, (29, 1, 0, []), 1), (134, (2, 0, 0, []), 1), (135, (30, 234, 6137, []), 3), (138, (2, 0, 0, []), 1), (139, (19, 613, 1126, []), 3), (142, (7, 0, 6, []), 2), (144, (26, 153, 0, []), 3), (147, (2, 0, 0, []), 1), (148, (7, 0, 1, []), 1), (149, (30, 239, 6217, []), 3), (152, (29, 1, 0, []), 1), (153, (2, 0, 0, []), 1), (154, (19, 614, 1127, []), 3), (157, (2, 0, 0, []), 1), (158, (19, 577, 1090, []), 3), (161, (26, 170, 2, []), 3), (164, (2, 0, 0, []), 1), (165, (7, 0, 3, []), 1), (166, (30, 239, 6217, []), 3), (169, (29, 1, 0, []), 1), (170, (2, 0, 0, []), 1), (171, (19, 623, 1136, []), 3), (174, (2, 0, 0, []), 1), (175, (19, 618, 1131, []), 3), (178, (2, 0, 0, []), 1), (179, (19, 614, 1127, []), 3), (182, (22, 0, 0, []), 1), (183, (2, 0, 0, []), 1), (184, (30, 234, 6137, []), 3), (187, (2, 0, 0, []), 1), (188, (19, 613, 1126, []), 3), (191, (7, 0, 4, []), 1), (192, (26, 201, 0, []), 3), (195, (2, 0, 0, []), 1), (196, (7, 0, 1, []), 1), (197, (30, 239, 6217, []), 3), (200, (29, 1, 0, []), 1), (201, (2, 0, 0, []), 1), (202, (30, 234, 6137, []), 3), (205, (2, 0, 0, []), 1), (206, (19, 613, 1126, []), 3), (209, (7, 0, 6, []), 2), (211, (26, 220, 0, []), 3), (214, (2, 0, 0, []), 1), (215, (7, 0, 1, []), 1), (216, (30, 239, 6217, []), 3), (219, (29, 1, 0, []), 1), (220, (2, 0, 0, []), 1), (221, (19, 614, 1127, []), 3), (224, (7, 0, 40, []), 2), (226, (26, 235, 5, []), 3), (229, (2, 0, 0, []), 1), (230, (7, 0, 3, []), 1), (231, (30, 239, 6217, []), 3), (234, (29, 1, 0, []), 1), (235, (2, 0, 0, []), 1), (236, (19, 624, 1137, []), 3), (239, (2, 0, 0, []), 1), (240, (19, 618, 1131, []), 3), (243, (2, 0, 0, []), 1), (244, (19, 614, 1127, []), 3), (247, (22, 0, 0, []), 1), (248, (2, 0, 0, []), 1), (249, (30, 234, 6137, []), 3), (252, (2, 0, 0, []), 1), (253, (7, 0, 59, []), 2), (255, (30, 241, 6249, []), 3), (258, (25, 267, 1, []), 3), (261, (2, 0, 0, []), 1), (262, (7, 0, 1, []), 1), (263, (30, 239, 6217, []), 3), (266, (29, 1, 0, []), 1), (267, (2, 0, 0, []), 1), (268, (19, 621, 1134, []), 3), (271, (2, 0, 0, []), 1), (272, (19, 618, 1131, []), 3), (275, (0, 1, 0, []), 1), (276, (22, 0, 0, []), 1), (277, (2, 0, 0, []), 1), (278, (19, 622, 1135, []), 3), (281, (2, 0, 0, []), 1), (282, (19, 618, 1131, []), 3), (285, (0, 2, 0, []), 1), (286, (22, 0, 0, []), 1), (287, (2, 0, 0, []), 1), (288, (2, 0, 0, []), 1), (289, (19, 618, 1131, []), 3), (292, (7, 0, 1, []), 1), (293, (9, 0, 0, []), 1), (294, (20, 618, 1131, []), 3), (297, (2, 0, 0, []), 1), (298, (30, 234, 6137, []), 3), (301, (7, 0, 1, []), 1), (302, (29, 1, 0, []), 1)]
/-- ToneHouseModel.fault(I)I -/
def tt_t243 : List (Nat × tt_Op × Nat) := [(0, (2, 0, 0, []), 1), (1, (7, 0, 0, []), 1), (2, (20, 576, 1089, []), 3), (5, (0, 1, 0, []), 1), (6, (25, 16, 1, []), 3), (9, (2, 0, 0, []), 1), (10, (19, 615, 1128, []), 3), (13, (24, 29, 0, []), 3), (16, (0, 1, 0, []), 1), (17, (7, 0, 1, []), 1), (18, (26, 28, 1, []), 3), (21, (2, 0, 0, []), 1), (22, (19, 616, 1129, []), 3), (25, (24, 29, 0, []), 3), (28, (7, 0, (-1), []), 1), (29, (29, 1, 0, []), 1)]
def tt_tab : List (List (Nat × tt_Op × Nat)) := [tt_t0, tt_t1, tt_t2, tt_t3, tt_t4, tt_t5, tt_t6, tt_t7, tt_t8, tt_t9, tt_t10, tt_t11, tt_t12, tt_t13, tt_t14, tt_t15, tt_t16, tt_t17, tt_t18, tt_t19, tt_t20, tt_t21, tt_t22, tt_t23, tt_t24, tt_t25, tt_t26, tt_t27, tt_t28, tt_t29, tt_t30, tt_t31, tt_t32, tt_t33, tt_t34, tt_t35, tt_t36, tt_t37, tt_t38, tt_t39, tt_t40, tt_t41, tt_t42, tt_t43, tt_t44, tt_t45, tt_t46, tt_t47, tt_t48, tt_t49, tt_t50, tt_t51, tt_t52, tt_t53, tt_t54, tt_t55, tt_t56, tt_t57, tt_t58, tt_t59, tt_t60, tt_t61, tt_t62, tt_t63, tt_t64, tt_t65, tt_t66, tt_t67, tt_t68, tt_t69, tt_t70, tt_t71, tt_t72, tt_t73, tt_t74, tt_t75, tt_t76, tt_t77, tt_t78, tt_t79, tt_t80, tt_t81, tt_t82, tt_t83, tt_t84, tt_t85, tt_t86, tt_t87, tt_t88, tt_t89, tt_t90, tt_t91, tt_t92, tt_t93, tt_t94, tt_t95, tt_t96, tt_t97, tt_t98, tt_t99, tt_t100, tt_t101, tt_t102, tt_t103, tt_t104, tt_t105, tt_t106, tt_t107, tt_t108, tt_t109, tt_t110, tt_t111, tt_t112, tt_t113, tt_t114, tt_t115, tt_t116, tt_t117, tt_t118, tt_t119, tt_t120, tt_t121, tt_t122, tt_t123, tt_t124, tt_t125, tt_t126, tt_t127, tt_t128, tt_t129, tt_t130, tt_t131, tt_t132, tt_t133, tt_t134, tt_t135, tt_t136, tt_t137, tt_t138, tt_t139, tt_t140, tt_t141, tt_t142, tt_t143, tt_t144, tt_t145, tt_t146, tt_t147, tt_t148, tt_t149, tt_t150, tt_t151, tt_t152, tt_t153, tt_t154, tt_t155, tt_t156, tt_t157, tt_t158, tt_t159, tt_t160, tt_t161, tt_t162, tt_t163, tt_t164, tt_t165, tt_t166, tt_t167, tt_t168, tt_t169, tt_t170, tt_t171, tt_t172, tt_t173, tt_t174, tt_t175, tt_t176, tt_t177, tt_t178, tt_t179, tt_t180, tt_t181, tt_t182, tt_t183, tt_t184, tt_t185, tt_t186, tt_t187, tt_t188, tt_t189, tt_t190, tt_t191, tt_t192, tt_t193, tt_t194, tt_t195, tt_t196, tt_t197, tt_t198, tt_t199, tt_t200, tt_t201, tt_t202, tt_t203, tt_t204, tt_t205, tt_t206, tt_t207, tt_t208, tt_t209, tt_t210, tt_t211, tt_t212, tt_t213, tt_t214, tt_t215, tt_t216, tt_t217, tt_t218, tt_t219, tt_t220, tt_t221, tt_t222, tt_t223, tt_t224, tt_t225, tt_t226, tt_t227, tt_t228, tt_t229, tt_t230, tt_t231, tt_t232, tt_t233, tt_t234, tt_t235, tt_t236, tt_t237, tt_t238, tt_t239, tt_t240, tt_t241, tt_t242, tt_t243]
def tt_find (pc : Nat) : List (Nat × tt_Op × Nat) → Option (tt_Op × Nat)
  | [] => none
  | q :: t => cond (Nat.beq q.1 pc) (some q.2) (tt_find pc t)
def tt_at (j pc : Nat) : Option (tt_Op × Nat) := tt_find pc (tt_tab.getD j [])
end
section
/-! ===== the machine: stores, worlds, the judgement ===== -/
/-- a store: ints, longs, references (places) by place and slot -/
abbrev tm_S : Type := (Nat → Nat → Int32) × (Nat → Nat → Int64) × (Nat → Nat → Nat)
def tm_sA (σ : tm_S) (k : Nat) (f : Nat → Int32) : tm_S := (fun a => if a = k then f else σ.1 a, σ.2.1, σ.2.2)
def tm_sI (σ : tm_S) (k j : Nat) (v : Int32) : tm_S := tm_sA σ k (upd (σ.1 k) j v)
def tm_sJ (σ : tm_S) (k j : Nat) (v : Int64) : tm_S := (σ.1, fun a => if a = k then vp_updL (σ.2.1 k) j v else σ.2.1 a, σ.2.2)
def tm_sR (σ : tm_S) (k j v : Nat) : tm_S := (σ.1, σ.2.1, fun a => if a = k then (fun i => if i = j then v else σ.2.2 k i) else σ.2.2 a)
def tm_fld (adr : Nat → Nat) (σ : tm_S) (k j : Nat) : Nat → Value
  | 0 => .int (σ.1 k j)
  | 1 => .int (σ.1 k j)
  | 2 => .long (σ.2.1 k j)
  | 3 => .ref (adr (σ.2.2 k j))
  | p + 4 => .ref (adr p)
/-- the same with places for addresses -/
def tm_val (σ : tm_S) (k j : Nat) : Nat → Value
  | 0 => .int (σ.1 k j)
  | 1 => .int (σ.1 k j)
  | 2 => .long (σ.2.1 k j)
  | 3 => .ref (σ.2.2 k j)
  | p + 4 => .ref p
def tm_fs (adr : Nat → Nat) (σ : tm_S) (k : Nat) : Nat → List Nat → List Value
  | _, [] => []
  | j, d :: ds => tm_fld adr σ k j d :: tm_fs adr σ k (j + 1) ds
def tm_cel (adr : Nat → Nat) (dA : Nat → ClassId) (σ : tm_S) (k : Nat) : tt_Sh → va_E
  | .inl (ci, ks) => .inr (ci, tm_fs adr σ k 0 ks)
  | .inr (0, n) => .inl (dA 0, n, .inl (σ.1 k))
  | .inr (1, n) => .inl (dA 1, n, .inr (.inl (σ.2.1 k)))
  | .inr (2, n) => .inl (dA 2, n, .inl (σ.1 k))
  | .inr (t + 3, n) => .inl (dA 3, n, .inr (.inr (.inr (.inr (fun i => if i < n then some (adr (t + i)) else none)))))
def tm_w (adr : Nat → Nat) (dA : Nat → ClassId) (σ : tm_S) : va_W := tt_shp.mapIdx (fun k sh => (adr k, tm_cel adr dA σ k sh))
def tm_ty (dA : Nat → ClassId) : List (ClassId × FieldType) := [(dA 0, .int), (dA 1, .long), (dA 2, .boolean), (dA 3, .array .int)]
def tm_tr (adr : Nat → Nat) : Value → Value
  | .ref k => .ref (adr k)
  | v => v
def tm_trl (adr : Nat → Nat) (ls : List (Nat × Value)) : List (Nat × Value) := ls.map (fun q => (q.1, tm_tr adr q.2))
/-- storing a local of one word, of two words -/
def tm_st1 (ls : List (Nat × Value)) (i : Nat) (v : Value) : List (Nat × Value) := (i, v) :: ls.filter (fun q => !(q.1 == i) && !(q.1 + 1 == i && q.2.category == 2))
def tm_st2 (ls : List (Nat × Value)) (i : Nat) (v : Value) : List (Nat × Value) := (i, v) :: ls.filter (fun q => !(q.1 == i) && (!(q.1 == i + 1) && !(q.1 + 1 == i && q.2.category == 2)))
theorem tm_tr_cat (adr : Nat → Nat) (v : Value) : (tm_tr adr v).category = v.category := by cases v <;> rfl
theorem tm_trl_st1 (adr : Nat → Nat) (ls : List (Nat × Value)) (i : Nat) (v : Value) : tm_trl adr (tm_st1 ls i v) = (i, tm_tr adr v) :: (tm_trl adr ls).filter (fun q => !(q.1 == i) && !(q.1 + 1 == i && q.2.category == 2)) := by
  unfold tm_trl tm_st1
  rw [List.map_cons, List.filter_map]
  congr 2
  refine congrArg (fun f => List.filter f ls) (funext fun q => ?_)
  simp [tm_tr_cat]
theorem tm_trl_st2 (adr : Nat → Nat) (ls : List (Nat × Value)) (i : Nat) (v : Value) : tm_trl adr (tm_st2 ls i v) = (i, tm_tr adr v) :: (tm_trl adr ls).filter (fun q => !(q.1 == i) && (!(q.1 == i + 1) && !(q.1 + 1 == i && q.2.category == 2))) := by
  unfold tm_trl tm_st2
  rw [List.map_cons, List.filter_map]
  congr 2
  refine congrArg (fun f => List.filter f ls) (funext fun q => ?_)
  simp [tm_tr_cat]
theorem tm_trl_mem {adr : Nat → Nat} {ls : List (Nat × Value)} {i : Nat} {v : Value} (h : (i, v) ∈ ls) : (i, tm_tr adr v) ∈ tm_trl adr ls := List.mem_map.mpr ⟨(i, v), h, rfl⟩
theorem tm_args_tr (adr : Nat → Nat) : ∀ (vs : List Value) (i : Nat), lv_args i (vs.map (tm_tr adr)) = tm_trl adr (lv_args i vs)
  | [], _ => rfl
  | v :: vs, i => by
    show (i, tm_tr adr v) :: lv_args (if (tm_tr adr v).category = 2 then i + 2 else i + 1) (vs.map (tm_tr adr)) = (i, tm_tr adr v) :: tm_trl adr (lv_args (if v.category = 2 then i + 2 else i + 1) vs)
    rw [tm_tr_cat, tm_args_tr adr vs]
theorem tm_sl_len (adr : Nat → Nat) : ∀ vs : List Value, (lg_sl (vs.map (tm_tr adr))).length = (lg_sl vs).length
  | [] => rfl
  | v :: vs => by
    have h := tm_sl_len adr vs
    unfold lg_sl at h ⊢
    rw [List.map_cons, List.flatMap_cons, List.flatMap_cons, List.length_append, List.length_append, h, tm_tr_cat]
    by_cases hc : v.category = 2 <;> simp [hc]
/-- the places are apart -/
def tm_inj (adr : Nat → Nat) : Prop := ∀ i j : Nat, i < tt_NQ → j < tt_NQ → adr i = adr j → i = j
/-- what a method may change -/
def tm_A (adr : Nat → Nat) (sz : Nat) : Nat → Prop := fun q => (∃ k : Nat, k < tt_NP ∧ q = adr k) ∨ sz ≤ q
theorem tm_A_le {adr : Nat → Nat} {a b : Nat} (h : a ≤ b) : ∀ q, tm_A adr b q → tm_A adr a q := fun _ hq => hq.elim Or.inl (fun z => Or.inr (Nat.le_trans h z))
theorem tm_w_get {adr : Nat → Nat} {dA : Nat → ClassId} {σ : tm_S} {k : Nat} {sh : tt_Sh} (h : tt_shp[k]? = some sh) : (tm_w adr dA σ)[k]? = some (adr k, tm_cel adr dA σ k sh) := by
  unfold tm_w
  rw [List.getElem?_mapIdx, h]
  rfl
theorem tm_w_inv {adr : Nat → Nat} {dA : Nat → ClassId} {σ : tm_S} {k : Nat} {q : Nat × va_E} (h : (tm_w adr dA σ)[k]? = some q) : ∃ sh, tt_shp[k]? = some sh ∧ q = (adr k, tm_cel adr dA σ k sh) := by
  unfold tm_w at h
  rw [List.getElem?_mapIdx] at h
  cases hs : tt_shp[k]? with
  | none => rw [hs] at h; cases h
  | some sh => rw [hs] at h; exact ⟨sh, rfl, (Option.some.inj h).symm⟩
theorem tm_lt {k : Nat} {sh : tt_Sh} (h : tt_shp[k]? = some sh) : k < tt_NP := by
  have h1 := (List.getElem?_eq_some_iff.mp h).1
  exact Nat.lt_of_lt_of_eq h1 tt_NP_eq.symm
theorem tm_D {adr : Nat → Nat} (hi : tm_inj adr) (dA : Nat → ClassId) (σ : tm_S) (sz : Nat) : va_D (tm_A adr sz) (tm_w adr dA σ) := by
  refine ⟨fun i j x y hx hy e => ?_, fun k q h => ?_⟩
  · obtain ⟨s1, h1, rfl⟩ := tm_w_inv hx
    obtain ⟨s2, h2, rfl⟩ := tm_w_inv hy
    exact hi i j (Nat.lt_of_lt_of_le (tm_lt h1) tt_NPQ) (Nat.lt_of_lt_of_le (tm_lt h2) tt_NPQ) e
  · obtain ⟨s1, h1, rfl⟩ := tm_w_inv h
    exact Or.inl ⟨k, tm_lt h1, rfl⟩
/-- one cell set: the world of the new store -/
theorem tm_w_set {adr : Nat → Nat} {dA : Nat → ClassId} {σ σ' : tm_S} {k : Nat} {sh : tt_Sh} (h : tt_shp[k]? = some sh) (ho : ∀ (a : Nat) (s : tt_Sh), a ≠ k → tm_cel adr dA σ' a s = tm_cel adr dA σ a s) : (tm_w adr dA σ).set k (adr k, tm_cel adr dA σ' k sh) = tm_w adr dA σ' := by
  apply List.ext_getElem?
  intro i
  by_cases hk : k = i
  · subst hk
    have hl : k < (tm_w adr dA σ).length := (List.getElem?_eq_some_iff.mp (tm_w_get (adr := adr) (dA := dA) (σ := σ) h)).1
    rw [List.getElem?_set_self hl, tm_w_get h]
  · rw [List.getElem?_set_ne hk]
    unfold tm_w
    rw [List.getElem?_mapIdx, List.getElem?_mapIdx]
    cases tt_shp[i]? with
    | none => rfl
    | some s => simp only [Option.map_some]; rw [ho i s (fun e => hk e.symm)]
theorem tm_fs_get (adr : Nat → Nat) (σ : tm_S) (k : Nat) : ∀ (ks : List Nat) (j i : Nat) (d : Nat), ks[i]? = some d → (tm_fs adr σ k j ks)[i]? = some (tm_fld adr σ k (j + i) d)
  | [], _, _, _, h => by simp at h
  | e :: es, j, 0, d, h => by
    simp at h
    subst h
    rfl
  | e :: es, j, i + 1, d, h => by
    have h1 : es[i]? = some d := by simpa using h
    have h2 := tm_fs_get adr σ k es (j + 1) i d h1
    show (tm_fs adr σ k (j + 1) es)[i]? = _
    rw [h2, show j + 1 + i = j + (i + 1) by omega]
theorem tm_fs_len (adr : Nat → Nat) (σ : tm_S) (k : Nat) : ∀ (ks : List Nat) (j : Nat), (tm_fs adr σ k j ks).length = ks.length
  | [], _ => rfl
  | e :: es, j => by show (tm_fs adr σ k (j + 1) es).length + 1 = es.length + 1; rw [tm_fs_len adr σ k es (j + 1)]
theorem tm_fs_set (adr : Nat → Nat) (σ σ' : tm_S) (k : Nat) : ∀ (ks : List Nat) (j i : Nat) (d : Nat) (v : Value), ks[i]? = some d → tm_fld adr σ' k (j + i) d = v → (∀ a e, a ≠ j + i → tm_fld adr σ' k a e = tm_fld adr σ k a e) → (tm_fs adr σ k j ks).set i v = tm_fs adr σ' k j ks
  | [], _, _, _, _, h, _, _ => by simp at h
  | e :: es, j, 0, d, v, h, hv, ho => by
    simp at h
    subst h
    show v :: tm_fs adr σ k (j + 1) es = tm_fld adr σ' k j e :: tm_fs adr σ' k (j + 1) es
    have e2 : ∀ (es : List Nat) (n : Nat), j < n → tm_fs adr σ k n es = tm_fs adr σ' k n es := by
      intro es
      induction es with
      | nil => intro n _; rfl
      | cons x xs ih => intro n hn; show tm_fld adr σ k n x :: _ = tm_fld adr σ' k n x :: _; rw [ho n x (by omega), ih (n + 1) (by omega)]
    rw [e2 es (j + 1) (by omega), ← hv]
    rfl
  | e :: es, j, i + 1, d, v, h, hv, ho => by
    have h1 : es[i]? = some d := by simpa using h
    show tm_fld adr σ k j e :: (tm_fs adr σ k (j + 1) es).set i v = tm_fld adr σ' k j e :: tm_fs adr σ' k (j + 1) es
    rw [ho j e (by omega), tm_fs_set adr σ σ' k es (j + 1) i d v h1 (by rw [show j + 1 + i = j + (i + 1) by omega]; exact hv) (fun a e2 ha => ho a e2 (by omega))]
/-- what does not change: the constants, their objects, the links of nest mates -/
def tm_isNest : Cond → Bool
  | .methodLinkNest .. => true
  | _ => false
def tm_nest : List Cond := lw_tbl.filter tm_isNest
def tm_K (adr : Nat → Nat) (A : Nat → Prop) (U : State) (H : Heap) : Prop :=
  va_En "ToneHouse$Token" "LToneHouse$Token;" tt_tok [] (fun i => adr (tt_EN + i)) A U H ∧ vk_S tt_NS tt_len tt_byt (fun i => adr (tt_ST + i)) (fun i => adr (tt_SV + i)) A U H ∧ va_Z "java/lang/String" "COMPACT_STRINGS" "Z" (.int 1) A U H ∧
  (va_Z "jdk/internal/util/Preconditions" "SIOOBE_FORMATTER" "Ljava/util/function/BiFunction;" .null A U H ∨ va_Z "jdk/internal/util/Preconditions" "SIOOBE_FORMATTER" "Ljava/util/function/BiFunction;" (.ref (adr tt_XQ)) A U H) ∧
  (∀ q ∈ tt_ldc, vk_R q.1 q.2.1 q.2.2.1 (adr q.2.2.2) U) ∧ ∀ w ∈ tm_nest, va_Nw w U
theorem tm_K_go {adr : Nat → Nat} {A B : Nat → Prop} {s U : State} {H H1 : Heap} (h : tm_K adr A s H) (hW : s.WarmedH U.vm) (hq : ∀ a : Nat, a < H.size → ¬ A a → H1[a]? = H[a]?) (hAB : ∀ q, B q → A q) : tm_K adr B U H1 := by
  obtain ⟨h1, h2, h3, h4, h5, h6⟩ := h
  refine ⟨(va_En.moved hW.alike (h1.kept hq)).narrow hAB, (vk_S.moved hW.alike (h2.kept hq)).narrow hAB, (va_Z.moved hW.alike (h3.kept hq)).narrow hAB, ?_, fun q hq => (h5 q hq).warm hW, fun w hw => ?_⟩
  · rcases h4 with h | h
    · exact Or.inl ((va_Z.moved hW.alike (h.kept hq)).narrow hAB)
    · exact Or.inr ((va_Z.moved hW.alike (h.kept hq)).narrow hAB)
  · have hn := h6 w hw
    have hm := (List.mem_filter.mp hw).2
    cases w <;> first | (simp [tm_isNest] at hm; done) | exact va_Nw.warmM hW hn
theorem tm_K_same {adr : Nat → Nat} {A : Nat → Prop} {s U : State} {H : Heap} (h : tm_K adr A s H) (hv : s.vm = U.vm) : tm_K adr A U H := by
  have ha : s.vm.Alike U.vm := by rw [hv]; exact Vm.Alike.refl U.vm
  obtain ⟨h1, h2, h3, h4, h5, h6⟩ := h
  refine ⟨va_En.moved ha h1, vk_S.moved ha h2, va_Z.moved ha h3, ?_, fun q hq => (h5 q hq).same hv.symm, fun w hw => ?_⟩
  · rcases h4 with h | h
    · exact Or.inl (va_Z.moved ha h)
    · exact Or.inr (va_Z.moved ha h)
  · have hn := h6 w hw
    have hm := (List.mem_filter.mp hw).2
    cases w <;> first | (simp [tm_isNest] at hm; done) | exact va_Nw.same rfl hv hn
/-- the words of every method -/
def tm_tbl : List Cond := lw_tbl.filter goodWord
def tm_ws (j : Nat) : List Cond := Cond.code (tt_y j) (tt_c j) (tt_n j) (tt_r j) :: tm_tbl
def tm_rm (d : Nat) : Room := { frames := d, cells := 0, slots := 0, locals := 64 * d }
theorem tm_tbl_in {w : Cond} (h : w ∈ lw_tbl) (hg : goodWord w = true) : w ∈ tm_tbl := List.mem_filter.mpr ⟨h, hg⟩
theorem tm_tbl_good : GoodIn tm_tbl tm_tbl := fun w h => ⟨h, good_of_word (List.mem_filter.mp h).2⟩
/-- an activation: what does not change while a method runs -/
def tm_Fix (d j : Nat) (p : Program) (R : Room) (s : State) (m : MethodId) (args : Array Value) (meth : Method) (c : Code) (adr : Nat → Nat) (D : va_G) (dA : Nat → ClassId) : Prop :=
  (p.tables.exec = Jvm.exec ∧ c.code = tt_c j ∧ c.maxLocals = tt_n j ∧ s.vm.findClass (tt_y j).cls = some m.cls ∧ ∀ w ∈ tm_tbl, w.before args s = true) ∧
  (meth.sig.returnType = tt_r j ∧ meth.locks = false ∧ d ≤ R.frames ∧ 64 * d ≤ R.locals) ∧ va_K D tt_cl (tm_ty dA) s ∧ tm_inj adr ∧ tm_K adr (tm_A adr s.heap.size) s s.heap
def tm_Q (adr : Nat → Nat) (D : va_G) (dA : Nat → ClassId) (sz : Nat) (Q : Option Value → tm_S → Prop) : Array Value → State → Outcome → State → Prop := fun _ st oc t =>
  ∃ (r : Option Value) (σ' : tm_S), Q r σ' ∧ oc = .returned (r.map (tm_tr adr)) ∧ va_P D tt_cl (tm_w adr dA σ') t.heap ∧ va_F (tm_A adr sz) st t
/-- THE JUDGEMENT: method j at pc, locals ls, stack st, store σ: it returns, with Q -/
def WP (d j pc : Nat) (ls : List (Nat × Value)) (st : List Value) (σ : tm_S) (Q : Option Value → tm_S → Prop) : Prop :=
  ∀ (p : Program) (l : Launch) (e : Env) (R : Room) (s : State) (m : MethodId) (args : Array Value) (below : List Frame) (meth : Method) (c : Code) (H : Heap) (locs : List Loc) (rls : Array Slot) (adr : Nat → Nat) (D : va_G) (dA : Nat → ClassId),
    tm_Fix d j p R s m args meth c adr D dA → va_P D tt_cl (tm_w adr dA σ) H → va_S (tm_A adr s.heap.size) s.heap H locs → lv_has rls (tt_n j) (tm_trl adr ls) →
    W p l e R s m args below meth c H locs 0 0 (MQ below (tm_Q adr D dA s.heap.size Q) args s 0 0 (tm_A adr s.heap.size)) (F0 m pc rls (st.map (tm_tr adr)))
/-- a method whole -/
def WM (d j : Nat) (As : List Value) (σ : tm_S) (Q : Option Value → tm_S → Prop) : Prop := WP d j 0 (lv_args 0 As) [] σ Q
theorem WP.mono {d j pc : Nat} {ls : List (Nat × Value)} {st : List Value} {σ : tm_S} {Q Q' : Option Value → tm_S → Prop} (h : WP d j pc ls st σ Q) (hq : ∀ r σ', Q r σ' → Q' r σ') : WP d j pc ls st σ Q' := by
  intro p l e R s m args below meth c H locs rls adr D dA C hP hS hl T hT X
  obtain ⟨t, a, o, b1, b2, ⟨r, σ', h1, h2⟩, b4⟩ := h p l e R s m args below meth c H locs rls adr D dA C hP hS hl T hT X
  exact ⟨t, a, o, b1, b2, ⟨r, σ', hq r σ' h1, h2⟩, b4⟩
theorem WP.deep {d d' j pc : Nat} {ls : List (Nat × Value)} {st : List Value} {σ : tm_S} {Q : Option Value → tm_S → Prop} (h : WP d j pc ls st σ Q) (hd : d ≤ d') : WP d' j pc ls st σ Q := by
  intro p l e R s m args below meth c H locs rls adr D dA C
  obtain ⟨c1, ⟨c2, c3, c4, c5⟩, c6⟩ := C
  exact h p l e R s m args below meth c H locs rls adr D dA ⟨c1, ⟨c2, c3, Nat.le_trans hd c4, Nat.le_trans (Nat.mul_le_mul_left 64 hd) c5⟩, c6⟩
theorem WP.less {d j pc : Nat} {ls ls' : List (Nat × Value)} {st : List Value} {σ : tm_S} {Q : Option Value → tm_S → Prop} (h : WP d j pc ls' st σ Q) (hl : ∀ q ∈ ls', q ∈ ls) : WP d j pc ls st σ Q := by
  intro p l e R s m args below meth c H locs rls adr D dA C hP hS hv
  refine h p l e R s m args below meth c H locs rls adr D dA C hP hS ⟨hv.1, hv.2.1, fun q hq => ?_⟩
  obtain ⟨x, hx, rfl⟩ := List.mem_map.mp hq
  exact hv.2.2 _ (List.mem_map.mpr ⟨x, hl x hx, rfl⟩)
theorem WM.mono {d j : Nat} {As : List Value} {σ : tm_S} {Q Q' : Option Value → tm_S → Prop} (h : WM d j As σ Q) (hq : ∀ r σ', Q r σ' → Q' r σ') : WM d j As σ Q' := WP.mono h hq
theorem WM.deep {d d' j : Nat} {As : List Value} {σ : tm_S} {Q : Option Value → tm_S → Prop} (h : WM d j As σ Q) (hd : d ≤ d') : WM d' j As σ Q := WP.deep h hd
/-- a method's contract at a call: the start -/
def tm_P (adr : Nat → Nat) (D : va_G) (dA : Nat → ClassId) (As : List Value) (σ : tm_S) (sz : Nat) : Array Value → State → Prop :=
  va_Pc (As.map (tm_tr adr)) (fun U => U.heap.size = sz ∧ va_P D tt_cl (tm_w adr dA σ) U.heap ∧ va_K D tt_cl (tm_ty dA) U ∧ tm_K adr (tm_A adr sz) U U.heap)
set_option maxHeartbeats 4000000 in
theorem tm_met {d j : Nat} {As : List Value} {σ : tm_S} {Q : Option Value → tm_S → Prop} (h : WM d j As σ Q) (hy : plainName (tt_y j).cls = true) (hn : (lg_sl As).length ≤ tt_n j) (l : Launch) {adr : Nat → Nat} (hi : tm_inj adr) (D : va_G) (dA : Nat → ClassId) (sz : Nat) :
    Met l (tt_y j) (tm_ws j) (tm_rm d) (tm_P adr D dA As σ sz) (tm_Q adr D dA sz Q) 0 0 (tm_A adr sz) := by
  refine Met.ofW (cc := tt_c j) (maxL := tt_n j) (ret := tt_r j) hy rfl ?_
  intro p e s m args below meth c s₁ B hml hv
  obtain ⟨rfl, hsz, hP, hK, hKo⟩ := hv
  subst hsz
  have hts := atoms_spec (ws := tm_ws j) B.pre
  have hown : s.vm.findClass (tt_y j).cls = some m.cls := findClass_of_methodNamed B.named
  have hl := lv_entry (As.map (tm_tr adr)) (n := tt_n j) (by rw [tm_sl_len]; exact hn)
  rw [lg_entry_eq]
  rw [tm_args_tr] at hl
  exact h p l e (headSpec (tm_ws j) (tm_rm d)).room s m _ below meth c s.heap [] _ adr D dA ⟨⟨B.exec, B.bytes, hml, hown, fun w hw => hts w (List.mem_cons_of_mem _ hw)⟩, ⟨B.returns, B.notSynchronized, Nat.le_refl _, Nat.le_refl _⟩, hK, hi, hKo⟩ hP va_S.rf hl
theorem tm_blind (adr : Nat → Nat) (D : va_G) (dA : Nat → ClassId) (As : List Value) (σ : tm_S) (sz : Nat) : FrameBlind (tm_P adr D dA As σ sz) := by
  intro a U g mk q
  obtain ⟨q0, q1, qP, qK, qO⟩ := q
  exact ⟨q0, q1, qP, va_K.moved (u := U) (U := U.calling g mk a) (Vm.Alike.refl U.vm) qK, tm_K_same (U := U.calling g mk a) qO rfl⟩
theorem tm_start {adr : Nat → Nat} {D : va_G} {dA : Nat → ClassId} {As : List Value} {σ : tm_S} {s : State} {H : Heap} {locs : List Loc} (hK : va_K D tt_cl (tm_ty dA) s) (hKo : tm_K adr (tm_A adr s.heap.size) s s.heap) (hP : va_P D tt_cl (tm_w adr dA σ) H) (hS : va_S (tm_A adr s.heap.size) s.heap H locs) :
    ∀ U : State, U.heap = H → s.WarmedH U.vm → tm_P adr D dA As σ H.size (As.map (tm_tr adr)).toArray U := by
  intro U hU hW
  refine ⟨rfl, by rw [hU], by rw [hU]; exact hP, va_K.moved hW.alike hK, ?_⟩
  rw [hU]
  exact tm_K_go hKo hW hS.2.1 (tm_A_le hS.1)
set_option maxHeartbeats 4000000 in
theorem tm_cont {p : Program} {l : Launch} {e : Env} {R : Room} {s : State} {m : MethodId} {args : Array Value} {below : List Frame} {meth : Method} {c : Code} {H : Heap} {locs : List Loc} {Qf : State → Prop} {pc : Nat} {rls : Array Slot} {st0 rest : List Value} {a : Array Value} {adr : Nat → Nat} {D : va_G} {dA : Nat → ClassId} {Q' : Option Value → tm_S → Prop}
    (hr : va_Run p l e R s m args below meth c H locs 0 0 0 0 (F0 m pc rls st0) rest (tm_Q adr D dA H.size Q' a) (tm_A adr H.size)) (hS : va_S (tm_A adr s.heap.size) s.heap H locs)
    (kk : ∀ (r : Option Value) (σ' : tm_S) (H1 : Heap) (locs1 : List Loc), Q' r σ' → va_P D tt_cl (tm_w adr dA σ') H1 → va_S (tm_A adr s.heap.size) s.heap H1 locs1 → W p l e R s m args below meth c H1 locs1 0 0 Qf (F0 m (pc + 3) rls ((r.map (tm_tr adr)).toList ++ rest))) : W p l e R s m args below meth c H locs 0 0 Qf (F0 m pc rls st0) := by
  intro T hT X
  obtain ⟨v, st₀, t, T', L, h0, X', hL, e1, e2, ⟨r, σ', hq, hv, hP, hz, hk⟩, st⟩ := hr T hT X
  cases hv
  rw [h0] at hz hk
  obtain ⟨t2, a1, b1⟩ := kk r σ' T'.heap (locs ++ L) hq (by rw [e1]; exact hP)
    ⟨Nat.le_trans hS.1 (by rw [e1]; exact hz), fun q h1 h2 => by rw [e1, hk q (Nat.lt_of_lt_of_le h1 hS.1) (fun z => h2 (tm_A_le hS.1 q z))]; exact hS.2.1 q h1 h2, fun q hq => by
      rcases List.mem_append.mp hq with h | h
      · exact hS.2.2 q h
      · exact tm_A_le hS.1 _ (hL q h)⟩ T' rfl X'
  exact ⟨t2, st t2 a1, b1⟩
end
section
/-! ===== what a coded instruction stands for: checked against decode and the words ===== -/
def tb_w (k : Nat) (w : Cond) : Bool := decide (lw_tbl[k]? = some w) && goodWord w
def tb_ldi (k n : Nat) : Instr → Bool
  | .iload a => a == k && n == 2
  | .iload_n a => a.val == k && n == 1
  | _ => false
def tb_ldl (k n : Nat) : Instr → Bool
  | .lload a => a == k && n == 2
  | .lload_n a => a.val == k && n == 1
  | _ => false
def tb_lda (k n : Nat) : Instr → Bool
  | .aload a => a == k && n == 2
  | .aload_n a => a.val == k && n == 1
  | _ => false
def tb_sti (k n nL : Nat) : Instr → Bool
  | .istore a => a == k && n == 2 && Nat.blt k nL
  | .istore_n a => a.val == k && n == 1 && Nat.blt k nL
  | _ => false
def tb_stl (k n nL : Nat) : Instr → Bool
  | .lstore a => a == k && n == 2 && Nat.blt (k + 1) nL
  | .lstore_n a => a.val == k && n == 1 && Nat.blt (k + 1) nL
  | _ => false
def tb_sta (k n nL : Nat) : Instr → Bool
  | .astore a => a == k && n == 2 && Nat.blt k nL
  | .astore_n a => a.val == k && n == 1 && Nat.blt k nL
  | _ => false
def tb_inc (k : Nat) (z : Int) (n nL : Nat) : Instr → Bool
  | .iinc a b => a == k && b == z && n == 3 && Nat.blt k nL
  | _ => false
def tb_con (own : String) (k : Nat) (z : Int) (n : Nat) : Instr → Bool
  | .iconst a => a == z && n == 1
  | .bipush a => (Int8.ofInt a).toInt32 == Int32.ofInt z && n == 2
  | .sipush a => (Int16.ofInt a).toInt32 == Int32.ofInt z && n == 3
  | .ldc a => tb_w k (.constant own a (Int32.ofInt z)) && n == 2
  | .ldc_w a => tb_w k (.constant own a (Int32.ofInt z)) && n == 3
  | _ => false
def tb_lco (own : String) (k : Nat) (z : Int) (n : Nat) : Instr → Bool
  | .lconst a => Int64.ofNat a.val == Int64.ofInt z && n == 1
  | .ldc2_w a => tb_w k (.constantLong own a (Int64.ofInt z)) && n == 3
  | _ => false
def tb_ib (o n : Nat) : Instr → Bool
  | .iadd => o == 0 && n == 1
  | .isub => o == 1 && n == 1
  | .imul => o == 2 && n == 1
  | .iand => o == 3 && n == 1
  | .ior => o == 4 && n == 1
  | .ixor => o == 5 && n == 1
  | .ishl => o == 6 && n == 1
  | .ishr => o == 7 && n == 1
  | .iushr => o == 8 && n == 1
  | _ => false
def tb_lb (o n : Nat) : Instr → Bool
  | .ladd => o == 0 && n == 1
  | .lsub => o == 1 && n == 1
  | .lmul => o == 2 && n == 1
  | .land => o == 3 && n == 1
  | .lor => o == 4 && n == 1
  | .lxor => o == 5 && n == 1
  | _ => false
def tb_ls (o n : Nat) : Instr → Bool
  | .lshl => o == 0 && n == 1
  | .lshr => o == 1 && n == 1
  | .lushr => o == 2 && n == 1
  | _ => false
def tb_cv (o n : Nat) : Instr → Bool
  | .i2l => o == 0 && n == 1
  | .l2i => o == 1 && n == 1
  | .i2c => o == 2 && n == 1
  | .i2b => o == 3 && n == 1
  | _ => false
def tb_div (n : Nat) : Instr → Bool
  | .idiv => n == 1
  | _ => false
def tb_rem (n : Nat) : Instr → Bool
  | .irem => n == 1
  | _ => false
def tb_neg (n : Nat) : Instr → Bool
  | .ineg => n == 1
  | _ => false
def tb_cmp (n : Nat) : Instr → Bool
  | .lcmp => n == 1
  | _ => false
def tb_dup (n : Nat) : Instr → Bool
  | .dup => n == 1
  | _ => false
def tb_pop (n : Nat) : Instr → Bool
  | .pop => n == 1
  | _ => false
def tb_len (n : Nat) : Instr → Bool
  | .arraylength => n == 1
  | _ => false
def tb_ald (o n : Nat) : Instr → Bool
  | .iaload => o == 0 && n == 1
  | .laload => o == 1 && n == 1
  | .baload => o == 2 && n == 1
  | .aaload => o == 3 && n == 1
  | _ => false
def tb_ast (o n : Nat) : Instr → Bool
  | .iastore => o == 0 && n == 1
  | .lastore => o == 1 && n == 1
  | .bastore => o == 2 && n == 1
  | _ => false
def tb_fl (own : String) (a b idx : Nat) : Bool := match tt_cl[a / 64]? with
  | some q => Nat.blt (a % 64) q.2.2 && tb_w b (.fieldLink own idx (q.2.1 (a % 64)).1 (q.2.1 (a % 64)).2.1 (q.2.1 (a % 64)).2.2.1)
  | none => false
def tb_get (own : String) (a b n : Nat) : Instr → Bool
  | .getfield idx => n == 3 && tb_fl own a b idx
  | _ => false
def tb_fin (a : Nat) : Bool := match tt_cl[a / 64]? with
  | some q => !(q.2.1 (a % 64)).2.2.2
  | none => false
def tb_put (own : String) (a b n : Nat) : Instr → Bool
  | .putfield idx => n == 3 && tb_fl own a b idx && tb_fin a
  | _ => false
def tb_go (pc t n : Nat) : Instr → Bool
  | .goto off => n == 3 && (pc : Int) + off == (t : Int)
  | _ => false
def tb_cd : ClassFile.Cond → Int
  | .eq => 0
  | .ne => 1
  | .lt => 2
  | .ge => 3
  | .gt => 4
  | .le => 5
def tb_if (pc t : Nat) (z : Int) (n : Nat) : Instr → Bool
  | .ifCond c off => n == 3 && (pc : Int) + off == (t : Int) && tb_cd c == z
  | _ => false
def tb_ic (pc t : Nat) (z : Int) (n : Nat) : Instr → Bool
  | .if_icmp c off => n == 3 && (pc : Int) + off == (t : Int) && tb_cd c == z
  | _ => false
def tb_ac (pc t : Nat) (z : Int) (n : Nat) : Instr → Bool
  | .if_acmp .eq off => n == 3 && (pc : Int) + off == (t : Int) && z == 0
  | .if_acmp .ne off => n == 3 && (pc : Int) + off == (t : Int) && z == 1
  | _ => false
/-- the switch: where a key goes -/
def tb_sw (l : List (Int × Nat)) (a : Nat) (x : Int) : Nat := match l with
  | [] => a
  | q :: t => if q.1 = x then q.2 else tb_sw t a x
def tb_tb (pc : Nat) : Int → List Int → List (Int × Nat) → Bool
  | _, [], [] => true
  | k, o :: os, q :: qs => q.1 == k && (pc : Int) + o == (q.2 : Int) && tb_tb pc (k + 1) os qs
  | _, _, _ => false
def tb_lk (pc : Nat) : List (Int × Int) → List (Int × Nat) → Bool
  | [], [] => true
  | o :: os, q :: qs => q.1 == o.1 && (pc : Int) + o.2 == (q.2 : Int) && tb_lk pc os qs
  | _, _ => false
def tb_swi (pc a : Nat) (l : List (Int × Nat)) : Instr → Bool
  | .tableswitch d lo hi offs => (pc : Int) + d == (a : Int) && hi == lo + (offs.size : Int) - 1 && tb_tb pc lo offs.toList l
  | .lookupswitch d ps => (pc : Int) + d == (a : Int) && (ps.toList.zip (ps.toList.drop 1)).all (fun (a, next) => a.1 < next.1) && tb_lk pc ps.toList l
  | _ => false
def tb_isO : Option FieldType → Bool
  | some (.object _) => true
  | some (.array _) => true
  | _ => false
def tb_ret (r : Option FieldType) (o n : Nat) : Instr → Bool
  | .return_ => o == 0 && n == 1 && decide (r = none)
  | .ireturn => o == 1 && n == 1 && (decide (r = some .int) || decide (r = some .boolean) || decide (r = some .char) || decide (r = some .byte))
  | .lreturn => o == 2 && n == 1 && decide (r = some .long)
  | .areturn => o == 3 && n == 1 && tb_isO r
  | _ => false
def tb_cal (own : String) (j' b n : Nat) : Instr → Bool
  | .invokestatic idx => n == 3 && Nat.blt j' tt_NM && tt_s j' && ((b % 4 == 0 && tb_w (b / 4) (.methodLink own idx (tt_y j'))) || (b % 4 == 2 && decide (lw_tbl[b / 4]? = some (Cond.methodLinkNest own idx (tt_y j') "ToneHouse"))))
  | .invokevirtual idx => n == 3 && Nat.blt j' tt_NM && !tt_s j' && ((b % 4 == 1 && tb_w (b / 4) (.methodLink own idx (tt_y j'))) || (b % 4 == 3 && decide (lw_tbl[b / 4]? = some (Cond.methodLinkNest own idx (tt_y j') "ToneHouse"))))
  | _ => false
def tb_gsE (own : String) (a b n : Nat) : Instr → Bool
  | .getstatic idx => n == 3 && Nat.ble tt_EN a && Nat.blt (a - tt_EN) 9 && tb_w b (.fieldLink own idx "ToneHouse$Token" (tt_tok.getD (a - tt_EN) "") "LToneHouse$Token;")
  | _ => false
def tb_gsC (own : String) (a b n : Nat) : Instr → Bool
  | .getstatic idx => n == 3 && ((a == 0 && tb_w b (.fieldLink own idx "java/lang/String" "COMPACT_STRINGS" "Z")) || (a == 1 && tb_w b (.fieldLink own idx "jdk/internal/util/Preconditions" "SIOOBE_FORMATTER" "Ljava/util/function/BiFunction;")))
  | _ => false
def tb_str (own : String) (a : Nat) (z : Int) (n : Nat) : Instr → Bool
  | .ldc idx => n == 2 && (idx : Int) == z && tt_ldc.any (fun q => q.1 == own && q.2.1 == idx && q.2.2.2 == a)
  | _ => false
def tb_cpy (own : String) (b n : Nat) : Instr → Bool
  | .invokestatic idx => n == 3 && tb_w b (.methodLink own idx arraycopyName)
  | _ => false
def tb_mth (own : String) (a b n : Nat) : Instr → Bool
  | .invokestatic idx => n == 3 && ((a == 0 && tb_w b (.methodLink own idx Lib.Math.abs.name)) || ((a == 1 && tb_w b (.methodLink own idx Lib.Math.min.name)) || (a == 2 && tb_w b (.methodLink own idx Lib.Math.max.name))))
  | _ => false
def tb_sf (own : String) (a b n : Nat) : Instr → Bool
  | .getfield idx => n == 3 && ((a == 0 && tb_w b (.fieldLink own idx "java/lang/String" "value" "[B")) || (a == 1 && tb_w b (.fieldLink own idx "java/lang/String" "coder" "B")))
  | _ => false
def tb_i (j pc : Nat) (o : tt_Op) (n : Nat) (i : Instr) : Bool := match o.1 with
  | 0 => tb_ldi o.2.1 n i
  | 1 => tb_ldl o.2.1 n i
  | 2 => tb_lda o.2.1 n i
  | 3 => tb_sti o.2.1 n (tt_n j) i
  | 4 => tb_stl o.2.1 n (tt_n j) i
  | 5 => tb_sta o.2.1 n (tt_n j) i
  | 6 => tb_inc o.2.1 o.2.2.1 n (tt_n j) i
  | 7 => tb_con (tt_y j).cls o.2.1 o.2.2.1 n i
  | 8 => tb_lco (tt_y j).cls o.2.1 o.2.2.1 n i
  | 9 => tb_ib o.2.1 n i
  | 10 => tb_div n i
  | 11 => tb_rem n i
  | 12 => tb_neg n i
  | 13 => tb_lb o.2.1 n i
  | 14 => tb_ls o.2.1 n i
  | 15 => tb_cmp n i
  | 16 => tb_cv o.2.1 n i
  | 17 => tb_dup n i
  | 18 => tb_pop n i
  | 19 => tb_get (tt_y j).cls o.2.1 o.2.2.1.toNat n i
  | 20 => tb_put (tt_y j).cls o.2.1 o.2.2.1.toNat n i
  | 21 => tb_ald o.2.1 n i
  | 22 => tb_ast o.2.1 n i
  | 23 => tb_len n i
  | 24 => tb_go pc o.2.1 n i
  | 25 => tb_if pc o.2.1 o.2.2.1 n i
  | 26 => tb_ic pc o.2.1 o.2.2.1 n i
  | 27 => tb_ac pc o.2.1 o.2.2.1 n i
  | 28 => tb_swi pc o.2.1 o.2.2.2 i
  | 29 => tb_ret (tt_r j) o.2.1 n i
  | 30 => tb_cal (tt_y j).cls o.2.1 o.2.2.1.toNat n i
  | 31 => tb_gsE (tt_y j).cls o.2.1 o.2.2.1.toNat n i
  | 32 => tb_gsC (tt_y j).cls o.2.1 o.2.2.1.toNat n i
  | 33 => tb_str (tt_y j).cls o.2.1 o.2.2.1 n i
  | 34 => tb_cpy (tt_y j).cls o.2.2.1.toNat n i
  | 36 => tb_mth (tt_y j).cls o.2.1 o.2.2.1.toNat n i
  | 35 => tb_sf (tt_y j).cls o.2.1 o.2.2.1.toNat n i
  | _ => false
def tb_q (j : Nat) (q : Nat × tt_Op × Nat) : Bool := match decode (tt_c j) q.1 with
  | .ok (i, n) => n == q.2.2 && tb_i j q.1 q.2.1 n i
  | _ => false
/-- a method's own rows: its code, its kind, its words -/
def tb_m (j : Nat) : Bool := plainName (tt_y j).cls && decide ((tt_y j).cls ≠ "java/lang/invoke/MethodHandle") && decide ((tt_y j).cls ≠ "java/lang/invoke/VarHandle") &&
  decide ((parseMethodDescriptor (tt_y j).desc).map (fun d => d.parameters.length) = some (tt_p j)) && Nat.ble (tt_n j) 40 &&
  tb_w ((tt_h j).getD 0 0) (.code (tt_y j) (tt_c j) (tt_n j) (tt_r j)) && tb_w ((tt_h j).getD 3 0) (.initialized (tt_y j).cls) &&
  cond (tt_s j) (tb_w ((tt_h j).getD 1 0) (.static (tt_y j))) (tb_w ((tt_h j).getD 1 0) (.instanceMethod (tt_y j)) && tb_w ((tt_h j).getD 2 0) (.selects (tt_y j).cls (tt_y j) (tt_y j)))
end
section
/-! ===== the tables are right: all of them ===== -/
theorem tb_valid (j : Nat) (hj : j < tt_NM) : (tb_m j && (tt_tab.getD j []).all (tb_q j)) = true := sorry
theorem tt_at_lt {j pc : Nat} {q : tt_Op × Nat} (h : tt_at j pc = some q) : j < tt_NM := by
  rcases Nat.lt_or_ge j tt_NM with h1 | h1
  · exact h1
  · have h2 : tt_tab.getD j [] = [] := by
      rw [List.getD_eq_getElem?_getD, List.getElem?_eq_none]
      · rfl
      · exact Nat.le_trans (show tt_tab.length ≤ tt_NM by decide +kernel) h1
    unfold tt_at at h
    rw [h2] at h
    cases h
theorem tt_find_mem {pc : Nat} {q : tt_Op × Nat} : ∀ {l : List (Nat × tt_Op × Nat)}, tt_find pc l = some q → (pc, q) ∈ l
  | [], h => by cases h
  | x :: t, h => by
    unfold tt_find at h
    cases hb : Nat.beq x.1 pc with
    | true =>
      rw [hb] at h
      have e1 : x.1 = pc := Nat.eq_of_beq_eq_true hb
      have e2 : x.2 = q := Option.some.inj h
      have e3 : x = (pc, q) := by rw [← e1, ← e2]
      rw [e3]
      exact List.mem_cons_self
    | false =>
      rw [hb] at h
      exact List.mem_cons_of_mem _ (tt_find_mem h)
theorem tb_ok {j pc n : Nat} {o : tt_Op} (h : tt_at j pc = some (o, n)) : ∃ i, decode (tt_c j) pc = .ok (i, n) ∧ tb_i j pc o n i = true := by
  have h1 := tb_valid j (tt_at_lt h)
  rw [Bool.and_eq_true] at h1
  have h2 := List.all_eq_true.mp h1.2 _ (tt_find_mem h)
  unfold tb_q at h2
  cases hd : decode (tt_c j) pc with
  | error e => rw [hd] at h2; cases h2
  | ok x =>
    obtain ⟨i, m⟩ := x
    rw [hd] at h2
    simp only [Bool.and_eq_true, beq_iff_eq] at h2
    obtain ⟨rfl, h3⟩ := h2
    exact ⟨i, rfl, h3⟩
theorem tb_w_in {k : Nat} {w : Cond} (h : tb_w k w = true) : w ∈ tm_tbl := by
  unfold tb_w at h
  rw [Bool.and_eq_true, decide_eq_true_eq] at h
  exact tm_tbl_in (List.mem_of_getElem? h.1) h.2
end
section
/-! ===== the rules of the judgement, an instruction each ===== -/
def tm_ib : Nat → Int32 → Int32 → Int32
  | 0, x, y => x + y
  | 1, x, y => x - y
  | 2, x, y => x * y
  | 3, x, y => x &&& y
  | 4, x, y => x ||| y
  | 5, x, y => x ^^^ y
  | 6, x, y => x <<< (y &&& 31)
  | 7, x, y => x >>> (y &&& 31)
  | _, x, y => (x.toUInt32 >>> (y.toUInt32 &&& Int32.toUInt32 31)).toInt32
def tm_lb : Nat → Int64 → Int64 → Int64
  | 0, x, y => x + y
  | 1, x, y => x - y
  | 2, x, y => x * y
  | 3, x, y => x &&& y
  | 4, x, y => x ||| y
  | _, x, y => x ^^^ y
def tm_ls : Nat → Int64 → Int32 → Int64
  | 0, x, y => x <<< (y.toInt64 &&& 63)
  | 1, x, y => x >>> (y.toInt64 &&& 63)
  | _, x, y => (x.toUInt64 >>> (y.toInt64.toUInt64 &&& Int64.toUInt64 63)).toInt64
theorem wp_ldi {d j pc : Nat} {ls : List (Nat × Value)} {st : List Value} {σ : tm_S} {Q : Option Value → tm_S → Prop} {n : Nat} {zz : List (Int × Nat)} {k : Nat} {z : Int} {x : Int32} (h : tt_at j pc = some ((0, k, z, zz), n)) (hv : (k, Value.int x) ∈ ls) (kk : WP d j (pc + n) ls (.int x :: st) σ Q) : WP d j pc ls st σ Q := by
  obtain ⟨i, hd, hi⟩ := tb_ok h
  intro p l e R s m args below meth c H locs rls adr D dA C hP hS hl
  have hx := C.1.1
  have hb := C.1.2.1
  have K := kk p l e R s m args below meth c H locs rls adr D dA C hP hS hl
  have hm := hl.2.2 _ (tm_trl_mem hv)
  change tb_ldi k n i = true at hi
  unfold tb_ldi at hi
  split at hi
  · simp only [Bool.and_eq_true, beq_iff_eq] at hi
    obtain ⟨rfl, rfl⟩ := hi
    exact lv_iload hx hb hd hm K
  · simp only [Bool.and_eq_true, beq_iff_eq] at hi
    obtain ⟨e1, rfl⟩ := hi
    exact lv_iload_n hx hb hd e1 hm K
  · cases hi
theorem wp_ldl {d j pc : Nat} {ls : List (Nat × Value)} {st : List Value} {σ : tm_S} {Q : Option Value → tm_S → Prop} {n : Nat} {zz : List (Int × Nat)} {k : Nat} {z : Int} {x : Int64} (h : tt_at j pc = some ((1, k, z, zz), n)) (hv : (k, Value.long x) ∈ ls) (kk : WP d j (pc + n) ls (.long x :: st) σ Q) : WP d j pc ls st σ Q := by
  obtain ⟨i, hd, hi⟩ := tb_ok h
  intro p l e R s m args below meth c H locs rls adr D dA C hP hS hl
  have hx := C.1.1
  have hb := C.1.2.1
  have K := kk p l e R s m args below meth c H locs rls adr D dA C hP hS hl
  have hm := hl.2.2 _ (tm_trl_mem hv)
  change tb_ldl k n i = true at hi
  unfold tb_ldl at hi
  split at hi
  · simp only [Bool.and_eq_true, beq_iff_eq] at hi
    obtain ⟨rfl, rfl⟩ := hi
    exact lv_lload hx hb hd hm K
  · simp only [Bool.and_eq_true, beq_iff_eq] at hi
    obtain ⟨e1, rfl⟩ := hi
    exact lv_lload_n hx hb hd e1 hm K
  · cases hi
theorem wp_lda {d j pc : Nat} {ls : List (Nat × Value)} {st : List Value} {σ : tm_S} {Q : Option Value → tm_S → Prop} {n : Nat} {zz : List (Int × Nat)} {k : Nat} {z : Int} {x : Nat} (h : tt_at j pc = some ((2, k, z, zz), n)) (hv : (k, Value.ref x) ∈ ls) (kk : WP d j (pc + n) ls (.ref x :: st) σ Q) : WP d j pc ls st σ Q := by
  obtain ⟨i, hd, hi⟩ := tb_ok h
  intro p l e R s m args below meth c H locs rls adr D dA C hP hS hl
  have hx := C.1.1
  have hb := C.1.2.1
  have K := kk p l e R s m args below meth c H locs rls adr D dA C hP hS hl
  have hm := hl.2.2 _ (tm_trl_mem hv)
  change tb_lda k n i = true at hi
  unfold tb_lda at hi
  split at hi
  · simp only [Bool.and_eq_true, beq_iff_eq] at hi
    obtain ⟨rfl, rfl⟩ := hi
    exact lv_aload hx hb hd hm K
  · simp only [Bool.and_eq_true, beq_iff_eq] at hi
    obtain ⟨e1, rfl⟩ := hi
    exact lv_aload_n hx hb hd e1 hm K
  · cases hi
theorem wp_sti {d j pc : Nat} {ls : List (Nat × Value)} {st : List Value} {σ : tm_S} {Q : Option Value → tm_S → Prop} {n : Nat} {zz : List (Int × Nat)} {k : Nat} {z : Int} {x : Int32} (h : tt_at j pc = some ((3, k, z, zz), n)) (kk : WP d j (pc + n) (tm_st1 ls k (.int x)) st σ Q) : WP d j pc ls (.int x :: st) σ Q := by
  obtain ⟨i, hd, hi⟩ := tb_ok h
  intro p l e R s m args below meth c H locs rls adr D dA C hP hS hl
  have hx := C.1.1
  have hb := C.1.2.1
  have K := fun (rl2 : Array Slot) (h2 : lv_has rl2 (tt_n j) (tm_trl adr (tm_st1 ls k (.int x)))) => kk p l e R s m args below meth c H locs rl2 adr D dA C hP hS h2
  rw [tm_trl_st1] at K
  change tb_sti k n (tt_n j) i = true at hi
  unfold tb_sti at hi
  split at hi
  · simp only [Bool.and_eq_true, beq_iff_eq] at hi
    obtain ⟨⟨rfl, rfl⟩, e2⟩ := hi
    exact lv_istore hx hb hd hl (Nat.blt_eq.mp e2) rfl K
  · simp only [Bool.and_eq_true, beq_iff_eq] at hi
    obtain ⟨⟨e1, rfl⟩, e2⟩ := hi
    exact lv_istore_n hx hb hd e1 hl (Nat.blt_eq.mp e2) rfl K
  · cases hi
theorem wp_stl {d j pc : Nat} {ls : List (Nat × Value)} {st : List Value} {σ : tm_S} {Q : Option Value → tm_S → Prop} {n : Nat} {zz : List (Int × Nat)} {k : Nat} {z : Int} {x : Int64} (h : tt_at j pc = some ((4, k, z, zz), n)) (kk : WP d j (pc + n) (tm_st2 ls k (.long x)) st σ Q) : WP d j pc ls (.long x :: st) σ Q := by
  obtain ⟨i, hd, hi⟩ := tb_ok h
  intro p l e R s m args below meth c H locs rls adr D dA C hP hS hl
  have hx := C.1.1
  have hb := C.1.2.1
  have K := fun (rl2 : Array Slot) (h2 : lv_has rl2 (tt_n j) (tm_trl adr (tm_st2 ls k (.long x)))) => kk p l e R s m args below meth c H locs rl2 adr D dA C hP hS h2
  rw [tm_trl_st2] at K
  change tb_stl k n (tt_n j) i = true at hi
  unfold tb_stl at hi
  split at hi
  · simp only [Bool.and_eq_true, beq_iff_eq] at hi
    obtain ⟨⟨rfl, rfl⟩, e2⟩ := hi
    exact lv_lstore hx hb hd hl (Nat.blt_eq.mp e2) rfl K
  · simp only [Bool.and_eq_true, beq_iff_eq] at hi
    obtain ⟨⟨e1, rfl⟩, e2⟩ := hi
    exact lv_lstore_n hx hb hd e1 hl (Nat.blt_eq.mp e2) rfl K
  · cases hi
theorem wp_sta {d j pc : Nat} {ls : List (Nat × Value)} {st : List Value} {σ : tm_S} {Q : Option Value → tm_S → Prop} {n : Nat} {zz : List (Int × Nat)} {k : Nat} {z : Int} {x : Nat} (h : tt_at j pc = some ((5, k, z, zz), n)) (kk : WP d j (pc + n) (tm_st1 ls k (.ref x)) st σ Q) : WP d j pc ls (.ref x :: st) σ Q := by
  obtain ⟨i, hd, hi⟩ := tb_ok h
  intro p l e R s m args below meth c H locs rls adr D dA C hP hS hl
  have hx := C.1.1
  have hb := C.1.2.1
  have K := fun (rl2 : Array Slot) (h2 : lv_has rl2 (tt_n j) (tm_trl adr (tm_st1 ls k (.ref x)))) => kk p l e R s m args below meth c H locs rl2 adr D dA C hP hS h2
  rw [tm_trl_st1] at K
  change tb_sta k n (tt_n j) i = true at hi
  unfold tb_sta at hi
  split at hi
  · simp only [Bool.and_eq_true, beq_iff_eq] at hi
    obtain ⟨⟨rfl, rfl⟩, e2⟩ := hi
    exact lv_astore hx hb hd hl (Nat.blt_eq.mp e2) rfl K
  · simp only [Bool.and_eq_true, beq_iff_eq] at hi
    obtain ⟨⟨e1, rfl⟩, e2⟩ := hi
    exact lv_astore_n hx hb hd e1 hl (Nat.blt_eq.mp e2) rfl K
  · cases hi
theorem wp_inc {d j pc : Nat} {ls : List (Nat × Value)} {st : List Value} {σ : tm_S} {Q : Option Value → tm_S → Prop} {n : Nat} {zz : List (Int × Nat)} {k : Nat} {z : Int} {x : Int32} (h : tt_at j pc = some ((6, k, z, zz), n)) (hv : (k, Value.int x) ∈ ls) (kk : WP d j (pc + n) (tm_st1 ls k (.int (x + Int32.ofInt z))) st σ Q) : WP d j pc ls st σ Q := by
  obtain ⟨i, hd, hi⟩ := tb_ok h
  intro p l e R s m args below meth c H locs rls adr D dA C hP hS hl
  have hx := C.1.1
  have hb := C.1.2.1
  have K := fun (rl2 : Array Slot) (h2 : lv_has rl2 (tt_n j) (tm_trl adr (tm_st1 ls k (.int (x + Int32.ofInt z))))) => kk p l e R s m args below meth c H locs rl2 adr D dA C hP hS h2
  rw [tm_trl_st1] at K
  obtain ⟨q, hq⟩ := List.getElem?_of_mem (tm_trl_mem (adr := adr) hv)
  change tb_inc k z n (tt_n j) i = true at hi
  unfold tb_inc at hi
  split at hi
  · simp only [Bool.and_eq_true, beq_iff_eq] at hi
    obtain ⟨⟨⟨rfl, rfl⟩, rfl⟩, e2⟩ := hi
    exact lv_iinc hx hb hd hl hq rfl (Nat.blt_eq.mp e2) rfl K
  · cases hi
theorem wp_con {d j pc : Nat} {ls : List (Nat × Value)} {st : List Value} {σ : tm_S} {Q : Option Value → tm_S → Prop} {n : Nat} {zz : List (Int × Nat)} {k : Nat} {z : Int} (h : tt_at j pc = some ((7, k, z, zz), n)) (kk : WP d j (pc + n) ls (.int (Int32.ofInt z) :: st) σ Q) : WP d j pc ls st σ Q := by
  obtain ⟨i, hd, hi⟩ := tb_ok h
  intro p l e R s m args below meth c H locs rls adr D dA C hP hS hl
  have hx := C.1.1
  have hb := C.1.2.1
  have K := kk p l e R s m args below meth c H locs rls adr D dA C hP hS hl
  change tb_con (tt_y j).cls k z n i = true at hi
  unfold tb_con at hi
  split at hi
  · simp only [Bool.and_eq_true, beq_iff_eq] at hi
    obtain ⟨rfl, rfl⟩ := hi
    exact lv_iconst hx hb hd rfl K
  · simp only [Bool.and_eq_true, beq_iff_eq] at hi
    obtain ⟨e1, rfl⟩ := hi
    exact lv_bipush hx hb hd e1 K
  · simp only [Bool.and_eq_true, beq_iff_eq] at hi
    obtain ⟨e1, rfl⟩ := hi
    exact lv_sipush hx hb hd e1 K
  · simp only [Bool.and_eq_true, beq_iff_eq] at hi
    obtain ⟨e1, rfl⟩ := hi
    exact lv_ldc hx hb C.1.2.2.2.1 (C.1.2.2.2.2 _ (tb_w_in e1)) hd K
  · simp only [Bool.and_eq_true, beq_iff_eq] at hi
    obtain ⟨e1, rfl⟩ := hi
    exact lv_ldcw hx hb C.1.2.2.2.1 (C.1.2.2.2.2 _ (tb_w_in e1)) hd K
  · cases hi
theorem wp_lco {d j pc : Nat} {ls : List (Nat × Value)} {st : List Value} {σ : tm_S} {Q : Option Value → tm_S → Prop} {n : Nat} {zz : List (Int × Nat)} {k : Nat} {z : Int} (h : tt_at j pc = some ((8, k, z, zz), n)) (kk : WP d j (pc + n) ls (.long (Int64.ofInt z) :: st) σ Q) : WP d j pc ls st σ Q := by
  obtain ⟨i, hd, hi⟩ := tb_ok h
  intro p l e R s m args below meth c H locs rls adr D dA C hP hS hl
  have hx := C.1.1
  have hb := C.1.2.1
  have K := kk p l e R s m args below meth c H locs rls adr D dA C hP hS hl
  change tb_lco (tt_y j).cls k z n i = true at hi
  unfold tb_lco at hi
  split at hi
  · simp only [Bool.and_eq_true, beq_iff_eq] at hi
    obtain ⟨e1, rfl⟩ := hi
    exact lv_lconst hx hb hd e1 K
  · simp only [Bool.and_eq_true, beq_iff_eq] at hi
    obtain ⟨e1, rfl⟩ := hi
    exact lv_ldc2 hx hb C.1.2.2.2.1 (C.1.2.2.2.2 _ (tb_w_in e1)) hd K
  · cases hi
theorem wp_ib {d j pc : Nat} {ls : List (Nat × Value)} {st : List Value} {σ : tm_S} {Q : Option Value → tm_S → Prop} {n : Nat} {zz : List (Int × Nat)} {k : Nat} {z : Int} {x y : Int32} (h : tt_at j pc = some ((9, k, z, zz), n)) (kk : WP d j (pc + n) ls (.int (tm_ib k x y) :: st) σ Q) : WP d j pc ls (.int y :: .int x :: st) σ Q := by
  obtain ⟨i, hd, hi⟩ := tb_ok h
  intro p l e R s m args below meth c H locs rls adr D dA C hP hS hl
  have hx := C.1.1
  have hb := C.1.2.1
  have K := kk p l e R s m args below meth c H locs rls adr D dA C hP hS hl
  show W p l e R s m args below meth c H locs 0 0 _ (F0 m pc rls (.int y :: .int x :: st.map (tm_tr adr)))
  change tb_ib k n i = true at hi
  unfold tb_ib at hi
  split at hi
  · simp only [Bool.and_eq_true, beq_iff_eq] at hi
    obtain ⟨rfl, rfl⟩ := hi
    exact lv_iadd hx hb hd K
  · simp only [Bool.and_eq_true, beq_iff_eq] at hi
    obtain ⟨rfl, rfl⟩ := hi
    exact lv_isub hx hb hd K
  · simp only [Bool.and_eq_true, beq_iff_eq] at hi
    obtain ⟨rfl, rfl⟩ := hi
    exact lv_imul hx hb hd K
  · simp only [Bool.and_eq_true, beq_iff_eq] at hi
    obtain ⟨rfl, rfl⟩ := hi
    exact lv_iand hx hb hd K
  · simp only [Bool.and_eq_true, beq_iff_eq] at hi
    obtain ⟨rfl, rfl⟩ := hi
    exact lv_ior hx hb hd K
  · simp only [Bool.and_eq_true, beq_iff_eq] at hi
    obtain ⟨rfl, rfl⟩ := hi
    exact lv_ixor hx hb hd K
  · simp only [Bool.and_eq_true, beq_iff_eq] at hi
    obtain ⟨rfl, rfl⟩ := hi
    exact lv_ishl hx hb hd K
  · simp only [Bool.and_eq_true, beq_iff_eq] at hi
    obtain ⟨rfl, rfl⟩ := hi
    exact lv_ishr hx hb hd K
  · simp only [Bool.and_eq_true, beq_iff_eq] at hi
    obtain ⟨rfl, rfl⟩ := hi
    exact lv_iushr hx hb hd rfl K
  · cases hi
theorem wp_lb {d j pc : Nat} {ls : List (Nat × Value)} {st : List Value} {σ : tm_S} {Q : Option Value → tm_S → Prop} {n : Nat} {zz : List (Int × Nat)} {k : Nat} {z : Int} {x y : Int64} (h : tt_at j pc = some ((13, k, z, zz), n)) (kk : WP d j (pc + n) ls (.long (tm_lb k x y) :: st) σ Q) : WP d j pc ls (.long y :: .long x :: st) σ Q := by
  obtain ⟨i, hd, hi⟩ := tb_ok h
  intro p l e R s m args below meth c H locs rls adr D dA C hP hS hl
  have hx := C.1.1
  have hb := C.1.2.1
  have K := kk p l e R s m args below meth c H locs rls adr D dA C hP hS hl
  show W p l e R s m args below meth c H locs 0 0 _ (F0 m pc rls (.long y :: .long x :: st.map (tm_tr adr)))
  change tb_lb k n i = true at hi
  unfold tb_lb at hi
  split at hi
  · simp only [Bool.and_eq_true, beq_iff_eq] at hi
    obtain ⟨rfl, rfl⟩ := hi
    exact lv_ladd hx hb hd K
  · simp only [Bool.and_eq_true, beq_iff_eq] at hi
    obtain ⟨rfl, rfl⟩ := hi
    exact lv_lsub hx hb hd K
  · simp only [Bool.and_eq_true, beq_iff_eq] at hi
    obtain ⟨rfl, rfl⟩ := hi
    exact lv_lmul hx hb hd K
  · simp only [Bool.and_eq_true, beq_iff_eq] at hi
    obtain ⟨rfl, rfl⟩ := hi
    exact lv_land hx hb hd K
  · simp only [Bool.and_eq_true, beq_iff_eq] at hi
    obtain ⟨rfl, rfl⟩ := hi
    exact lv_lor hx hb hd K
  · simp only [Bool.and_eq_true, beq_iff_eq] at hi
    obtain ⟨rfl, rfl⟩ := hi
    exact lv_lxor hx hb hd K
  · cases hi
theorem wp_ls {d j pc : Nat} {ls : List (Nat × Value)} {st : List Value} {σ : tm_S} {Q : Option Value → tm_S → Prop} {n : Nat} {zz : List (Int × Nat)} {k : Nat} {z : Int} {x : Int64} {y : Int32} (h : tt_at j pc = some ((14, k, z, zz), n)) (kk : WP d j (pc + n) ls (.long (tm_ls k x y) :: st) σ Q) : WP d j pc ls (.int y :: .long x :: st) σ Q := by
  obtain ⟨i, hd, hi⟩ := tb_ok h
  intro p l e R s m args below meth c H locs rls adr D dA C hP hS hl
  have hx := C.1.1
  have hb := C.1.2.1
  have K := kk p l e R s m args below meth c H locs rls adr D dA C hP hS hl
  show W p l e R s m args below meth c H locs 0 0 _ (F0 m pc rls (.int y :: .long x :: st.map (tm_tr adr)))
  change tb_ls k n i = true at hi
  unfold tb_ls at hi
  split at hi
  · simp only [Bool.and_eq_true, beq_iff_eq] at hi
    obtain ⟨rfl, rfl⟩ := hi
    exact lv_lshl hx hb hd rfl K
  · simp only [Bool.and_eq_true, beq_iff_eq] at hi
    obtain ⟨rfl, rfl⟩ := hi
    exact lv_lshr hx hb hd rfl K
  · simp only [Bool.and_eq_true, beq_iff_eq] at hi
    obtain ⟨rfl, rfl⟩ := hi
    exact lv_lushr hx hb hd rfl K
  · cases hi
theorem wp_div {d j pc : Nat} {ls : List (Nat × Value)} {st : List Value} {σ : tm_S} {Q : Option Value → tm_S → Prop} {n : Nat} {zz : List (Int × Nat)} {k : Nat} {z : Int} {x y : Int32} (h : tt_at j pc = some ((10, k, z, zz), n)) (hy : ¬ y = 0) (kk : WP d j (pc + n) ls (.int (x / y) :: st) σ Q) : WP d j pc ls (.int y :: .int x :: st) σ Q := by
  obtain ⟨i, hd, hi⟩ := tb_ok h
  intro p l e R s m args below meth c H locs rls adr D dA C hP hS hl
  have hx := C.1.1
  have hb := C.1.2.1
  have K := kk p l e R s m args below meth c H locs rls adr D dA C hP hS hl
  show W p l e R s m args below meth c H locs 0 0 _ (F0 m pc rls (.int y :: .int x :: st.map (tm_tr adr)))
  change tb_div n i = true at hi
  unfold tb_div at hi
  split at hi
  · simp only [beq_iff_eq] at hi
    subst hi
    exact lv_idiv hx hb hd hy K
  · cases hi
theorem wp_rem {d j pc : Nat} {ls : List (Nat × Value)} {st : List Value} {σ : tm_S} {Q : Option Value → tm_S → Prop} {n : Nat} {zz : List (Int × Nat)} {k : Nat} {z : Int} {x y : Int32} (h : tt_at j pc = some ((11, k, z, zz), n)) (hy : ¬ y = 0) (kk : WP d j (pc + n) ls (.int (x - x / y * y) :: st) σ Q) : WP d j pc ls (.int y :: .int x :: st) σ Q := by
  obtain ⟨i, hd, hi⟩ := tb_ok h
  intro p l e R s m args below meth c H locs rls adr D dA C hP hS hl
  have hx := C.1.1
  have hb := C.1.2.1
  have K := kk p l e R s m args below meth c H locs rls adr D dA C hP hS hl
  show W p l e R s m args below meth c H locs 0 0 _ (F0 m pc rls (.int y :: .int x :: st.map (tm_tr adr)))
  change tb_rem n i = true at hi
  unfold tb_rem at hi
  split at hi
  · simp only [beq_iff_eq] at hi
    subst hi
    exact lv_irem hx hb hd hy K
  · cases hi
theorem wp_neg {d j pc : Nat} {ls : List (Nat × Value)} {st : List Value} {σ : tm_S} {Q : Option Value → tm_S → Prop} {n : Nat} {zz : List (Int × Nat)} {k : Nat} {z : Int} {x : Int32} (h : tt_at j pc = some ((12, k, z, zz), n)) (kk : WP d j (pc + n) ls (.int (-x) :: st) σ Q) : WP d j pc ls (.int x :: st) σ Q := by
  obtain ⟨i, hd, hi⟩ := tb_ok h
  intro p l e R s m args below meth c H locs rls adr D dA C hP hS hl
  have hx := C.1.1
  have hb := C.1.2.1
  have K := kk p l e R s m args below meth c H locs rls adr D dA C hP hS hl
  show W p l e R s m args below meth c H locs 0 0 _ (F0 m pc rls (.int x :: st.map (tm_tr adr)))
  change tb_neg n i = true at hi
  unfold tb_neg at hi
  split at hi
  · simp only [beq_iff_eq] at hi
    subst hi
    exact lv_ineg hx hb hd K
  · cases hi
theorem wp_cmp {d j pc : Nat} {ls : List (Nat × Value)} {st : List Value} {σ : tm_S} {Q : Option Value → tm_S → Prop} {n : Nat} {zz : List (Int × Nat)} {k : Nat} {z : Int} {x y : Int64} (h : tt_at j pc = some ((15, k, z, zz), n)) (kk : WP d j (pc + n) ls (.int (lg_cmp x y) :: st) σ Q) : WP d j pc ls (.long y :: .long x :: st) σ Q := by
  obtain ⟨i, hd, hi⟩ := tb_ok h
  intro p l e R s m args below meth c H locs rls adr D dA C hP hS hl
  have hx := C.1.1
  have hb := C.1.2.1
  have K := kk p l e R s m args below meth c H locs rls adr D dA C hP hS hl
  show W p l e R s m args below meth c H locs 0 0 _ (F0 m pc rls (.long y :: .long x :: st.map (tm_tr adr)))
  change tb_cmp n i = true at hi
  unfold tb_cmp at hi
  split at hi
  · simp only [beq_iff_eq] at hi
    subst hi
    exact W.lcmp hx hb hd K
  · cases hi
theorem wp_dup {d j pc : Nat} {ls : List (Nat × Value)} {st : List Value} {σ : tm_S} {Q : Option Value → tm_S → Prop} {n : Nat} {zz : List (Int × Nat)} {k : Nat} {z : Int} {va : Value} (h : tt_at j pc = some ((17, k, z, zz), n)) (hc : va.category = 1) (kk : WP d j (pc + n) ls (va :: va :: st) σ Q) : WP d j pc ls (va :: st) σ Q := by
  obtain ⟨i, hd, hi⟩ := tb_ok h
  intro p l e R s m args below meth c H locs rls adr D dA C hP hS hl
  have hx := C.1.1
  have hb := C.1.2.1
  have K := kk p l e R s m args below meth c H locs rls adr D dA C hP hS hl
  show W p l e R s m args below meth c H locs 0 0 _ (F0 m pc rls (tm_tr adr va :: st.map (tm_tr adr)))
  change tb_dup n i = true at hi
  unfold tb_dup at hi
  split at hi
  · simp only [beq_iff_eq] at hi
    subst hi
    exact lv_dup hx hb hd (by rw [tm_tr_cat]; exact hc) K
  · cases hi
theorem wp_pop {d j pc : Nat} {ls : List (Nat × Value)} {st : List Value} {σ : tm_S} {Q : Option Value → tm_S → Prop} {n : Nat} {zz : List (Int × Nat)} {k : Nat} {z : Int} {va : Value} (h : tt_at j pc = some ((18, k, z, zz), n)) (hc : va.category = 1) (kk : WP d j (pc + n) ls (st) σ Q) : WP d j pc ls (va :: st) σ Q := by
  obtain ⟨i, hd, hi⟩ := tb_ok h
  intro p l e R s m args below meth c H locs rls adr D dA C hP hS hl
  have hx := C.1.1
  have hb := C.1.2.1
  have K := kk p l e R s m args below meth c H locs rls adr D dA C hP hS hl
  show W p l e R s m args below meth c H locs 0 0 _ (F0 m pc rls (tm_tr adr va :: st.map (tm_tr adr)))
  change tb_pop n i = true at hi
  unfold tb_pop at hi
  split at hi
  · simp only [beq_iff_eq] at hi
    subst hi
    exact lv_pop hx hb hd (by rw [tm_tr_cat]; exact hc) K
  · cases hi
theorem wp_i2l {d j pc : Nat} {ls : List (Nat × Value)} {st : List Value} {σ : tm_S} {Q : Option Value → tm_S → Prop} {n : Nat} {zz : List (Int × Nat)} {z : Int} {x : Int32} (h : tt_at j pc = some ((16, 0, z, zz), n)) (kk : WP d j (pc + n) ls (.long (x.toInt64) :: st) σ Q) : WP d j pc ls (.int x :: st) σ Q := by
  obtain ⟨i, hd, hi⟩ := tb_ok h
  intro p l e R s m args below meth c H locs rls adr D dA C hP hS hl
  have hx := C.1.1
  have hb := C.1.2.1
  have K := kk p l e R s m args below meth c H locs rls adr D dA C hP hS hl
  show W p l e R s m args below meth c H locs 0 0 _ (F0 m pc rls (.int x :: st.map (tm_tr adr)))
  change tb_cv 0 n i = true at hi
  unfold tb_cv at hi
  split at hi <;> first | (cases hi; done) | (simp only [Bool.and_eq_true, beq_iff_eq] at hi; first | (exact absurd hi.1 (by decide)) | (obtain ⟨-, rfl⟩ := hi; exact lv_i2l hx hb hd rfl K))
theorem wp_l2i {d j pc : Nat} {ls : List (Nat × Value)} {st : List Value} {σ : tm_S} {Q : Option Value → tm_S → Prop} {n : Nat} {zz : List (Int × Nat)} {z : Int} {x : Int64} (h : tt_at j pc = some ((16, 1, z, zz), n)) (kk : WP d j (pc + n) ls (.int (x.toInt32) :: st) σ Q) : WP d j pc ls (.long x :: st) σ Q := by
  obtain ⟨i, hd, hi⟩ := tb_ok h
  intro p l e R s m args below meth c H locs rls adr D dA C hP hS hl
  have hx := C.1.1
  have hb := C.1.2.1
  have K := kk p l e R s m args below meth c H locs rls adr D dA C hP hS hl
  show W p l e R s m args below meth c H locs 0 0 _ (F0 m pc rls (.long x :: st.map (tm_tr adr)))
  change tb_cv 1 n i = true at hi
  unfold tb_cv at hi
  split at hi <;> first | (cases hi; done) | (simp only [Bool.and_eq_true, beq_iff_eq] at hi; first | (exact absurd hi.1 (by decide)) | (obtain ⟨-, rfl⟩ := hi; exact lv_l2i hx hb hd rfl K))
theorem wp_i2c {d j pc : Nat} {ls : List (Nat × Value)} {st : List Value} {σ : tm_S} {Q : Option Value → tm_S → Prop} {n : Nat} {zz : List (Int × Nat)} {z : Int} {x : Int32} (h : tt_at j pc = some ((16, 2, z, zz), n)) (kk : WP d j (pc + n) ls (.int ((x.toUInt32 % 65536).toInt32) :: st) σ Q) : WP d j pc ls (.int x :: st) σ Q := by
  obtain ⟨i, hd, hi⟩ := tb_ok h
  intro p l e R s m args below meth c H locs rls adr D dA C hP hS hl
  have hx := C.1.1
  have hb := C.1.2.1
  have K := kk p l e R s m args below meth c H locs rls adr D dA C hP hS hl
  show W p l e R s m args below meth c H locs 0 0 _ (F0 m pc rls (.int x :: st.map (tm_tr adr)))
  change tb_cv 2 n i = true at hi
  unfold tb_cv at hi
  split at hi <;> first | (cases hi; done) | (simp only [Bool.and_eq_true, beq_iff_eq] at hi; first | (exact absurd hi.1 (by decide)) | (obtain ⟨-, rfl⟩ := hi; exact lv_i2c hx hb hd rfl K))
theorem wp_i2b {d j pc : Nat} {ls : List (Nat × Value)} {st : List Value} {σ : tm_S} {Q : Option Value → tm_S → Prop} {n : Nat} {zz : List (Int × Nat)} {z : Int} {x : Int32} (h : tt_at j pc = some ((16, 3, z, zz), n)) (kk : WP d j (pc + n) ls (.int (x.toInt8.toInt32) :: st) σ Q) : WP d j pc ls (.int x :: st) σ Q := by
  obtain ⟨i, hd, hi⟩ := tb_ok h
  intro p l e R s m args below meth c H locs rls adr D dA C hP hS hl
  have hx := C.1.1
  have hb := C.1.2.1
  have K := kk p l e R s m args below meth c H locs rls adr D dA C hP hS hl
  show W p l e R s m args below meth c H locs 0 0 _ (F0 m pc rls (.int x :: st.map (tm_tr adr)))
  change tb_cv 3 n i = true at hi
  unfold tb_cv at hi
  split at hi <;> first | (cases hi; done) | (simp only [Bool.and_eq_true, beq_iff_eq] at hi; first | (exact absurd hi.1 (by decide)) | (obtain ⟨-, rfl⟩ := hi; exact lv_i2b hx hb hd rfl K))
theorem wp_go {d j pc : Nat} {ls : List (Nat × Value)} {st : List Value} {σ : tm_S} {Q : Option Value → tm_S → Prop} {n : Nat} {zz : List (Int × Nat)} {k : Nat} {z : Int} (h : tt_at j pc = some ((24, k, z, zz), n)) (kk : WP d j k ls st σ Q) : WP d j pc ls st σ Q := by
  obtain ⟨i, hd, hi⟩ := tb_ok h
  intro p l e R s m args below meth c H locs rls adr D dA C hP hS hl
  have hx := C.1.1
  have hb := C.1.2.1
  have K := kk p l e R s m args below meth c H locs rls adr D dA C hP hS hl
  change tb_go pc k n i = true at hi
  unfold tb_go at hi
  split at hi
  · simp only [Bool.and_eq_true, beq_iff_eq] at hi
    obtain ⟨rfl, hi⟩ := hi
    exact lv_goto hx hb hd hi K
  · cases hi
def tm_cd (z : Int) (x y : Int32) : Prop := match z with
  | 0 => x = y
  | 1 => ¬ x = y
  | 2 => x < y
  | 3 => y ≤ x
  | 4 => y < x
  | _ => x ≤ y
theorem wp_if {d j pc : Nat} {ls : List (Nat × Value)} {st : List Value} {σ : tm_S} {Q : Option Value → tm_S → Prop} {n : Nat} {zz : List (Int × Nat)} {k : Nat} {z : Int} {x : Int32} (h : tt_at j pc = some ((25, k, z, zz), n)) (kt : tm_cd z x 0 → WP d j k ls st σ Q) (kf : ¬ tm_cd z x 0 → WP d j (pc + n) ls st σ Q) : WP d j pc ls (.int x :: st) σ Q := by
  obtain ⟨i, hd, hi⟩ := tb_ok h
  intro p l e R s m args below meth c H locs rls adr D dA C hP hS hl
  have hx := C.1.1
  have hb := C.1.2.1
  have KT := fun z => kt z p l e R s m args below meth c H locs rls adr D dA C hP hS hl
  have KF := fun z => kf z p l e R s m args below meth c H locs rls adr D dA C hP hS hl
  show W p l e R s m args below meth c H locs 0 0 _ (F0 m pc rls (.int x :: st.map (tm_tr adr)))
  change tb_if pc k z n i = true at hi
  unfold tb_if at hi
  split at hi
  · rename_i cc off
    simp only [Bool.and_eq_true, beq_iff_eq] at hi
    obtain ⟨⟨rfl, e2⟩, e3⟩ := hi
    subst e3
    cases cc
    · exact lv_if_eq hx hb hd e2 KT KF
    · exact lv_if_ne hx hb hd e2 KT (fun q => KF (fun w => w q))
    · exact lv_if_lt hx hb hd e2 KT KF
    · exact lv_if_ge hx hb hd e2 (fun q => KT q) (fun q => KF q)
    · exact lv_if_gt hx hb hd e2 (fun q => KT q) (fun q => KF q)
    · exact lv_if_le hx hb hd e2 KT KF
  · cases hi
theorem wp_ic {d j pc : Nat} {ls : List (Nat × Value)} {st : List Value} {σ : tm_S} {Q : Option Value → tm_S → Prop} {n : Nat} {zz : List (Int × Nat)} {k : Nat} {z : Int} {x y : Int32} (h : tt_at j pc = some ((26, k, z, zz), n)) (kt : tm_cd z x y → WP d j k ls st σ Q) (kf : ¬ tm_cd z x y → WP d j (pc + n) ls st σ Q) : WP d j pc ls (.int y :: .int x :: st) σ Q := by
  obtain ⟨i, hd, hi⟩ := tb_ok h
  intro p l e R s m args below meth c H locs rls adr D dA C hP hS hl
  have hx := C.1.1
  have hb := C.1.2.1
  have KT := fun z => kt z p l e R s m args below meth c H locs rls adr D dA C hP hS hl
  have KF := fun z => kf z p l e R s m args below meth c H locs rls adr D dA C hP hS hl
  show W p l e R s m args below meth c H locs 0 0 _ (F0 m pc rls (.int y :: .int x :: st.map (tm_tr adr)))
  change tb_ic pc k z n i = true at hi
  unfold tb_ic at hi
  split at hi
  · rename_i cc off
    simp only [Bool.and_eq_true, beq_iff_eq] at hi
    obtain ⟨⟨rfl, e2⟩, e3⟩ := hi
    subst e3
    cases cc
    · exact lv_icmp_eq hx hb hd e2 KT KF
    · exact lv_icmp_ne hx hb hd e2 KT (fun q => KF (fun w => w q))
    · exact lv_icmp_lt hx hb hd e2 KT KF
    · exact lv_icmp_ge hx hb hd e2 (fun q => KT q) (fun q => KF q)
    · exact lv_icmp_gt hx hb hd e2 (fun q => KT q) (fun q => KF q)
    · exact lv_icmp_le hx hb hd e2 KT KF
  · cases hi
theorem wp_ac {d j pc : Nat} {ls : List (Nat × Value)} {st : List Value} {σ : tm_S} {Q : Option Value → tm_S → Prop} {n : Nat} {zz : List (Int × Nat)} {k : Nat} {z : Int} {x y : Nat} (h : tt_at j pc = some ((27, k, z, zz), n)) (hxq : x < tt_NQ) (hyq : y < tt_NQ) (kt : (z = 0 ↔ x = y) → WP d j k ls st σ Q) (kf : ¬ (z = 0 ↔ x = y) → WP d j (pc + n) ls st σ Q) : WP d j pc ls (.ref y :: .ref x :: st) σ Q := by
  obtain ⟨i, hd, hi⟩ := tb_ok h
  intro p l e R s m args below meth c H locs rls adr D dA C hP hS hl
  have hx := C.1.1
  have hb := C.1.2.1
  have KT := fun z => kt z p l e R s m args below meth c H locs rls adr D dA C hP hS hl
  have KF := fun z => kf z p l e R s m args below meth c H locs rls adr D dA C hP hS hl
  have hin : (some (adr x) = some (adr y)) ↔ x = y := ⟨fun q => C.2.2.2.1 x y hxq hyq (Option.some.inj q), fun q => by rw [q]⟩
  show W p l e R s m args below meth c H locs 0 0 _ (F0 m pc rls (va_rf (some (adr y)) :: va_rf (some (adr x)) :: st.map (tm_tr adr)))
  change tb_ac pc k z n i = true at hi
  unfold tb_ac at hi
  split at hi
  · simp only [Bool.and_eq_true, beq_iff_eq] at hi
    obtain ⟨⟨rfl, e2⟩, rfl⟩ := hi
    exact lv_acmp_eq hx hb hd e2 (fun q => KT ⟨fun _ => hin.mp q, fun _ => rfl⟩) (fun q => KF (fun w => q (hin.mpr (w.mp rfl))))
  · simp only [Bool.and_eq_true, beq_iff_eq] at hi
    obtain ⟨⟨rfl, e2⟩, rfl⟩ := hi
    exact lv_acmp_ne hx hb hd e2 (fun q => KT ⟨fun w => absurd w (by decide), fun w => absurd (hin.mpr w) q⟩) (fun q => KF (fun w => absurd (w.mpr (hin.mp q)) (by decide)))
  · cases hi
theorem tb_tb_at {pc : Nat} {a : Nat} : ∀ (os : List Int) (qs : List (Int × Nat)) (k x : Int), tb_tb pc k os qs = true → k ≤ x → x ≤ k + (os.length : Int) - 1 → ∃ off, os[(x - k).toNat]? = some off ∧ (pc : Int) + off = ((tb_sw qs a x : Nat) : Int)
  | [], _, k, x, _, h1, h2 => by simp at h2; omega
  | o :: os, [], k, x, h, _, _ => by cases h
  | o :: os, q :: qs, k, x, h, h1, h2 => by
    simp only [tb_tb, Bool.and_eq_true, beq_iff_eq] at h
    obtain ⟨⟨e1, e2⟩, e3⟩ := h
    by_cases hk : k = x
    · subst hk
      refine ⟨o, by simp, ?_⟩
      rw [tb_sw, if_pos e1]
      exact e2
    · obtain ⟨off, g1, g2⟩ := tb_tb_at os qs (k + 1) x e3 (by omega) (by simp at h2; omega)
      refine ⟨off, ?_, ?_⟩
      · rw [show (x - k).toNat = (x - (k + 1)).toNat + 1 by omega]
        simpa using g1
      · rw [tb_sw, if_neg (by rw [e1]; exact hk)]
        exact g2
theorem tb_tb_out {pc : Nat} {a : Nat} : ∀ (os : List Int) (qs : List (Int × Nat)) (k x : Int), tb_tb pc k os qs = true → (x < k ∨ k + (os.length : Int) - 1 < x) → tb_sw qs a x = a
  | [], [], k, x, _, _ => rfl
  | [], q :: qs, k, x, h, _ => by cases h
  | o :: os, [], k, x, h, _ => by cases h
  | o :: os, q :: qs, k, x, h, hx => by
    simp only [tb_tb, Bool.and_eq_true, beq_iff_eq] at h
    obtain ⟨⟨e1, e2⟩, e3⟩ := h
    have hne : ¬ q.1 = x := by rw [e1]; simp at hx; omega
    rw [tb_sw, if_neg hne]
    exact tb_tb_out os qs (k + 1) x e3 (by simp at hx; omega)
theorem tb_lk_at {pc : Nat} {a : Nat} {dflt : Int} (ha : (pc : Int) + dflt = (a : Int)) : ∀ (os : List (Int × Int)) (qs : List (Int × Nat)) (x : Int), tb_lk pc os qs = true → (pc : Int) + Op.lookupswitch.offset os dflt x = ((tb_sw qs a x : Nat) : Int)
  | [], [], x, _ => ha
  | [], q :: qs, x, h => by cases h
  | o :: os, [], x, h => by cases h
  | (o1, o2) :: os, q :: qs, x, h => by
    simp only [tb_lk, Bool.and_eq_true, beq_iff_eq] at h
    obtain ⟨⟨e1, e2⟩, e3⟩ := h
    rw [Op.lookupswitch.offset_cons, tb_sw]
    by_cases hk : o1 = x
    · rw [if_pos hk, if_pos (by rw [e1]; exact hk)]
      exact e2
    · rw [if_neg hk, if_neg (by rw [e1]; exact hk)]
      exact tb_lk_at ha os qs x e3
theorem wp_sw {d j pc : Nat} {ls : List (Nat × Value)} {st : List Value} {σ : tm_S} {Q : Option Value → tm_S → Prop} {n : Nat} {zz : List (Int × Nat)} {k : Nat} {z : Int} {x : Int32} (h : tt_at j pc = some ((28, k, z, zz), n)) (kk : WP d j (tb_sw zz k x.toInt) ls st σ Q) : WP d j pc ls (.int x :: st) σ Q := by
  obtain ⟨i, hd, hi⟩ := tb_ok h
  intro p l e R s m args below meth c H locs rls adr D dA C hP hS hl
  have hx := C.1.1
  have hb := C.1.2.1
  have K := kk p l e R s m args below meth c H locs rls adr D dA C hP hS hl
  show W p l e R s m args below meth c H locs 0 0 _ (F0 m pc rls (.int x :: st.map (tm_tr adr)))
  change tb_swi pc k zz i = true at hi
  unfold tb_swi at hi
  split at hi
  · rename_i dd lo hh offs
    simp only [Bool.and_eq_true, beq_iff_eq] at hi
    obtain ⟨⟨e1, e2⟩, e3⟩ := hi
    have hsz : (offs.toList.length : Int) = (offs.size : Int) := by simp
    by_cases ho : x.toInt < lo ∨ hh < x.toInt
    · have ho2 : x.toInt < lo ∨ lo + (offs.toList.length : Int) - 1 < x.toInt := by rw [hsz]; omega
      rw [tb_tb_out offs.toList zz lo x.toInt e3 ho2] at K
      exact lv_tableOut hx hb hd ho e1 K
    · obtain ⟨off, g1, g2⟩ := tb_tb_at (a := k) offs.toList zz lo x.toInt e3 (by omega) (by rw [hsz]; omega)
      exact lv_tableIn hx hb hd (by omega) (by omega) (by rw [← Array.getElem?_toList]; exact g1) g2 K
  · simp only [Bool.and_eq_true, beq_iff_eq] at hi
    obtain ⟨⟨e1, e2⟩, e3⟩ := hi
    exact lv_lookup hx hb hd e2 rfl (tb_lk_at e1 _ _ _ e3) K
  · cases hi
end
section
/-! ===== rules: fields, arrays, constants, returns, calls ===== -/
theorem tm_cl_in {ci : Nat} {q : vw_C} (h : tt_cl[ci]? = some q) : ∀ w ∈ u_ws q.1 q.2.1 q.2.2, w ∈ tm_tbl := by
  intro w hw
  match ci, h with
  | 0, h => cases h; exact tm_tbl_in (tt_in0 w hw).1 (tt_in0 w hw).2
  | 1, h => cases h; exact tm_tbl_in (tt_in1 w hw).1 (tt_in1 w hw).2
  | 2, h => cases h; exact tm_tbl_in (tt_in2 w hw).1 (tt_in2 w hw).2
  | 3, h => cases h; exact tm_tbl_in (tt_in3 w hw).1 (tt_in3 w hw).2
  | 4, h => cases h; exact tm_tbl_in (tt_in4 w hw).1 (tt_in4 w hw).2
  | 5, h => cases h; exact tm_tbl_in (tt_in5 w hw).1 (tt_in5 w hw).2
  | 6, h => cases h; exact tm_tbl_in (tt_in6 w hw).1 (tt_in6 w hw).2
  | 7, h => cases h; exact tm_tbl_in (tt_in7 w hw).1 (tt_in7 w hw).2
  | 8, h => cases h; exact tm_tbl_in (tt_in8 w hw).1 (tt_in8 w hw).2
  | 9, h => cases h; exact tm_tbl_in (tt_in9 w hw).1 (tt_in9 w hw).2
  | k + 10, h => simp [tt_cl] at h
theorem tm_cl_ty {ci : Nat} {q : vw_C} (h : tt_cl[ci]? = some q) : ∃ ty0 : Nat → FieldType, (∀ k, k < q.2.2 → parseFieldDescriptor (q.2.1 k).2.2.1 = some (ty0 k)) ∧ ∀ a, a < q.2.2 → ∀ b, b < q.2.2 → a ≠ b → (q.2.1 a).2.1 ≠ (q.2.1 b).2.1 := by
  match ci, h with
  | 0, h => cases h; exact ⟨tt_ty0, tt_tok0, tt_nm0⟩
  | 1, h => cases h; exact ⟨tt_ty1, tt_tok1, tt_nm1⟩
  | 2, h => cases h; exact ⟨tt_ty2, tt_tok2, tt_nm2⟩
  | 3, h => cases h; exact ⟨tt_ty3, tt_tok3, tt_nm3⟩
  | 4, h => cases h; exact ⟨tt_ty4, tt_tok4, tt_nm4⟩
  | 5, h => cases h; exact ⟨tt_ty5, tt_tok5, tt_nm5⟩
  | 6, h => cases h; exact ⟨tt_ty6, tt_tok6, tt_nm6⟩
  | 7, h => cases h; exact ⟨tt_ty7, tt_tok7, tt_nm7⟩
  | 8, h => cases h; exact ⟨tt_ty8, tt_tok8, tt_nm8⟩
  | 9, h => cases h; exact ⟨tt_ty9, tt_tok9, tt_nm9⟩
  | k + 10, h => simp [tt_cl] at h
def tb_obj : Option FieldType → Bool
  | some (.object _) => true
  | some (.array _) => true
  | _ => false
def tb_kd (T : u_T) : Nat → List Nat → Bool
  | _, [] => true
  | k, 0 :: t => decide (parseFieldDescriptor (T k).2.2.1 = some .int) && tb_kd T (k + 1) t
  | k, 1 :: t => decide (parseFieldDescriptor (T k).2.2.1 = some .boolean) && tb_kd T (k + 1) t
  | k, 2 :: t => decide (parseFieldDescriptor (T k).2.2.1 = some .long) && tb_kd T (k + 1) t
  | k, _ :: t => tb_obj (parseFieldDescriptor (T k).2.2.1) && tb_kd T (k + 1) t
def tb_sh : tt_Sh → Bool
  | .inl (ci, ks) => match tt_cl[ci]? with
    | some q => q.2.2 == ks.length && tb_kd q.2.1 0 ks
    | none => false
  | .inr _ => true
theorem tb_shp : tt_shp.all tb_sh = true := by decide +kernel
theorem tm_kd {T : u_T} : ∀ (ks : List Nat) (k i kd : Nat), tb_kd T k ks = true → ks[i]? = some kd → (kd = 0 → parseFieldDescriptor (T (k + i)).2.2.1 = some .int) ∧ (kd = 1 → parseFieldDescriptor (T (k + i)).2.2.1 = some .boolean) ∧ (kd = 3 → tb_obj (parseFieldDescriptor (T (k + i)).2.2.1) = true)
  | [], _, _, _, _, h => by simp at h
  | e :: es, k, 0, kd, hb, h => by
    have e1 : e = kd := by simpa using h
    subst e1
    match e, hb with
    | 0, hb => simp only [tb_kd, Bool.and_eq_true, decide_eq_true_eq] at hb; exact ⟨fun _ => hb.1, fun q => absurd q (by decide), fun q => absurd q (by decide)⟩
    | 1, hb => simp only [tb_kd, Bool.and_eq_true, decide_eq_true_eq] at hb; exact ⟨fun q => absurd q (by decide), fun _ => hb.1, fun q => absurd q (by decide)⟩
    | 2, hb => exact ⟨fun q => absurd q (by decide), fun q => absurd q (by decide), fun q => absurd q (by decide)⟩
    | x + 3, hb => simp only [tb_kd, Bool.and_eq_true] at hb; exact ⟨fun q => absurd q (by omega), fun q => absurd q (by omega), fun _ => hb.1⟩
  | e :: es, k, i + 1, kd, hb, h => by
    have h1 : es[i]? = some kd := by simpa using h
    have h2 : tb_kd T (k + 1) es = true := by
      match e, hb with
      | 0, hb => simp only [tb_kd, Bool.and_eq_true] at hb; exact hb.2
      | 1, hb => simp only [tb_kd, Bool.and_eq_true] at hb; exact hb.2
      | 2, hb => simp only [tb_kd, Bool.and_eq_true] at hb; exact hb.2
      | x + 3, hb => simp only [tb_kd, Bool.and_eq_true] at hb; exact hb.2
    have h3 := tm_kd es (k + 1) i kd h2 h1
    rw [show k + 1 + i = k + (i + 1) by omega] at h3
    exact h3
theorem tm_obj {q ci : Nat} {ks : List Nat} (h : tt_shp[q]? = some (.inl (ci, ks))) : ∃ r : vw_C, tt_cl[ci]? = some r ∧ r.2.2 = ks.length ∧ tb_kd r.2.1 0 ks = true := by
  have h1 := List.all_eq_true.mp tb_shp _ (List.mem_of_getElem? h)
  unfold tb_sh at h1
  cases hc : tt_cl[ci]? with
  | none => simp only [hc] at h1; cases h1
  | some r =>
    simp only [hc, Bool.and_eq_true, beq_iff_eq] at h1
    exact ⟨r, rfl, h1.1, h1.2⟩
theorem tm_tr_val (adr : Nat → Nat) (σ : tm_S) (k j : Nat) : ∀ kd : Nat, tm_tr adr (tm_val σ k j kd) = tm_fld adr σ k j kd
  | 0 => rfl
  | 1 => rfl
  | 2 => rfl
  | 3 => rfl
  | _ + 4 => rfl
theorem tm_fld_ext {adr : Nat → Nat} {σ σ' : tm_S} {k j : Nat} (h1 : σ'.1 k j = σ.1 k j) (h2 : σ'.2.1 k j = σ.2.1 k j) (h3 : σ'.2.2 k j = σ.2.2 k j) : ∀ kd : Nat, tm_fld adr σ' k j kd = tm_fld adr σ k j kd
  | 0 => by show Value.int _ = Value.int _; rw [h1]
  | 1 => by show Value.int _ = Value.int _; rw [h1]
  | 2 => by show Value.long _ = Value.long _; rw [h2]
  | 3 => by show Value.ref _ = Value.ref _; rw [h3]
  | _ + 4 => rfl
theorem tm_fs_ext {adr : Nat → Nat} {σ σ' : tm_S} {k : Nat} (h1 : σ'.1 k = σ.1 k) (h2 : σ'.2.1 k = σ.2.1 k) (h3 : σ'.2.2 k = σ.2.2 k) : ∀ (ks : List Nat) (j : Nat), tm_fs adr σ' k j ks = tm_fs adr σ k j ks
  | [], _ => rfl
  | e :: es, j => by
    show tm_fld adr σ' k j e :: tm_fs adr σ' k (j + 1) es = tm_fld adr σ k j e :: tm_fs adr σ k (j + 1) es
    rw [tm_fs_ext h1 h2 h3 es (j + 1), tm_fld_ext (σ := σ) (σ' := σ') (k := k) (j := j) (congrFun h1 j) (congrFun h2 j) (congrFun h3 j) e]
theorem tm_cel_ext {adr : Nat → Nat} {dA : Nat → ClassId} {σ σ' : tm_S} {k : Nat} (h1 : σ'.1 k = σ.1 k) (h2 : σ'.2.1 k = σ.2.1 k) (h3 : σ'.2.2 k = σ.2.2 k) : ∀ s : tt_Sh, tm_cel adr dA σ' k s = tm_cel adr dA σ k s
  | .inl (ci, ks) => by show Sum.inr (ci, tm_fs adr σ' k 0 ks) = Sum.inr (ci, tm_fs adr σ k 0 ks); rw [tm_fs_ext h1 h2 h3]
  | .inr (0, n) => by show Sum.inl (dA 0, n, Sum.inl (σ'.1 k)) = Sum.inl (dA 0, n, Sum.inl (σ.1 k)); rw [h1]
  | .inr (1, n) => by show Sum.inl (dA 1, n, Sum.inr (Sum.inl (σ'.2.1 k))) = Sum.inl (dA 1, n, Sum.inr (Sum.inl (σ.2.1 k))); rw [h2]
  | .inr (2, n) => by show Sum.inl (dA 2, n, Sum.inl (σ'.1 k)) = Sum.inl (dA 2, n, Sum.inl (σ.1 k)); rw [h1]
  | .inr (_ + 3, n) => rfl
theorem tm_sA_at (σ : tm_S) (k : Nat) (f : Nat → Int32) : (tm_sA σ k f).1 k = f := if_pos rfl
theorem tm_sA_ne (σ : tm_S) {k a : Nat} (f : Nat → Int32) (h : a ≠ k) : (tm_sA σ k f).1 a = σ.1 a := if_neg h
theorem tm_sJ_at (σ : tm_S) (k j : Nat) (v : Int64) : (tm_sJ σ k j v).2.1 k = vp_updL (σ.2.1 k) j v := if_pos rfl
theorem tm_sJ_ne (σ : tm_S) {k a j : Nat} (v : Int64) (h : a ≠ k) : (tm_sJ σ k j v).2.1 a = σ.2.1 a := if_neg h
theorem tm_sR_at (σ : tm_S) (k j v : Nat) : (tm_sR σ k j v).2.2 k = fun i => if i = j then v else σ.2.2 k i := if_pos rfl
theorem tm_sR_ne (σ : tm_S) {k a j : Nat} (v : Nat) (h : a ≠ k) : (tm_sR σ k j v).2.2 a = σ.2.2 a := if_neg h
theorem tm_w_sA {adr : Nat → Nat} {dA : Nat → ClassId} {σ : tm_S} {k : Nat} {f : Nat → Int32} {sh : tt_Sh} (h : tt_shp[k]? = some sh) : (tm_w adr dA σ).set k (adr k, tm_cel adr dA (tm_sA σ k f) k sh) = tm_w adr dA (tm_sA σ k f) :=
  tm_w_set h (fun a s ha => tm_cel_ext (σ := σ) (σ' := tm_sA σ k f) (tm_sA_ne σ f ha) rfl rfl s)
theorem tm_w_sJ {adr : Nat → Nat} {dA : Nat → ClassId} {σ : tm_S} {k j : Nat} {v : Int64} {sh : tt_Sh} (h : tt_shp[k]? = some sh) : (tm_w adr dA σ).set k (adr k, tm_cel adr dA (tm_sJ σ k j v) k sh) = tm_w adr dA (tm_sJ σ k j v) :=
  tm_w_set h (fun a s ha => tm_cel_ext (σ := σ) (σ' := tm_sJ σ k j v) rfl (tm_sJ_ne σ v ha) rfl s)
theorem tm_w_sR {adr : Nat → Nat} {dA : Nat → ClassId} {σ : tm_S} {k j v : Nat} {sh : tt_Sh} (h : tt_shp[k]? = some sh) : (tm_w adr dA σ).set k (adr k, tm_cel adr dA (tm_sR σ k j v) k sh) = tm_w adr dA (tm_sR σ k j v) :=
  tm_w_set h (fun a s ha => tm_cel_ext (σ := σ) (σ' := tm_sR σ k j v) rfl rfl (tm_sR_ne σ v ha) s)
theorem tb_fl_spec {own : String} {a b idx : Nat} {r : vw_C} (h : tb_fl own a b idx = true) (hc : tt_cl[a / 64]? = some r) : a % 64 < r.2.2 ∧ Cond.fieldLink own idx (r.2.1 (a % 64)).1 (r.2.1 (a % 64)).2.1 (r.2.1 (a % 64)).2.2.1 ∈ tm_tbl := by
  unfold tb_fl at h
  simp only [hc, Bool.and_eq_true] at h
  exact ⟨Nat.blt_eq.mp h.1, tb_w_in h.2⟩
theorem wp_get {d j pc : Nat} {ls : List (Nat × Value)} {st : List Value} {σ : tm_S} {Q : Option Value → tm_S → Prop} {n : Nat} {zz : List (Int × Nat)} {k : Nat} {z : Int} {q kd : Nat} {ks : List Nat} (h : tt_at j pc = some ((19, k, z, zz), n)) (hs : tt_shp[q]? = some (.inl (k / 64, ks))) (hk : ks[k % 64]? = some kd) (kk : WP d j (pc + n) ls (tm_val σ q (k % 64) kd :: st) σ Q) : WP d j pc ls (.ref q :: st) σ Q := by
  obtain ⟨i, hd, hi⟩ := tb_ok h
  intro p l e R s m args below meth c H locs rls adr D dA C hP hS hl
  have hx := C.1.1
  have hb := C.1.2.1
  have K := kk p l e R s m args below meth c H locs rls adr D dA C hP hS hl
  obtain ⟨r, hc, hN, hkd⟩ := tm_obj hs
  change tb_get (tt_y j).cls k z.toNat n i = true at hi
  unfold tb_get at hi
  split at hi
  · simp only [Bool.and_eq_true, beq_iff_eq] at hi
    obtain ⟨rfl, e2⟩ := hi
    obtain ⟨hlt, hw⟩ := tb_fl_spec e2 hc
    have hv := tm_fs_get adr σ q ks 0 (k % 64) kd hk
    rw [Nat.zero_add, ← tm_tr_val] at hv
    exact va_get (ci := k / 64) (C := r.1) (T := r.2.1) (N := r.2.2) hx hb C.1.2.2.2.2 (tm_cl_in hc) C.1.2.2.2.1 C.2.2.1 hP q (tm_w_get hs) hc (k % 64) hlt (C.1.2.2.2.2 _ hw) (fun _ w => w) hv hd K
  · cases hi
theorem wp_puti {d j pc : Nat} {ls : List (Nat × Value)} {st : List Value} {σ : tm_S} {Q : Option Value → tm_S → Prop} {n : Nat} {zz : List (Int × Nat)} {k : Nat} {z : Int} {q kd : Nat} {x : Int32} {ks : List Nat} (h : tt_at j pc = some ((20, k, z, zz), n)) (hs : tt_shp[q]? = some (.inl (k / 64, ks))) (hk : ks[k % 64]? = some kd) (hkd0 : kd = 0 ∨ (kd = 1 ∧ (x = 0 ∨ x = 1))) (kk : WP d j (pc + n) ls st (tm_sI σ q (k % 64) x) Q) : WP d j pc ls (.int x :: .ref q :: st) σ Q := by
  obtain ⟨i, hd, hi⟩ := tb_ok h
  intro p l e R s m args below meth c H locs rls adr D dA C hP hS hl
  have hx := C.1.1
  have hb := C.1.2.1
  have K := fun H1 locs1 h1 h2 => kk p l e R s m args below meth c H1 locs1 rls adr D dA C h1 h2 hl
  obtain ⟨r, hc, hN, hkd⟩ := tm_obj hs
  obtain ⟨ty0, hty, hnm⟩ := tm_cl_ty hc
  have hki := tm_kd ks 0 (k % 64) kd hkd hk
  rw [Nat.zero_add] at hki
  change tb_put (tt_y j).cls k z.toNat n i = true at hi
  unfold tb_put at hi
  split at hi
  · simp only [Bool.and_eq_true, beq_iff_eq] at hi
    obtain ⟨⟨rfl, e2⟩, e3⟩ := hi
    obtain ⟨hlt, hw⟩ := tb_fl_spec e2 hc
    have hfin : (r.2.1 (k % 64)).2.2.2 = false := by
      unfold tb_fin at e3
      simp only [hc] at e3
      simpa using e3
    have key : ∀ (ty : FieldType), parseFieldDescriptor (r.2.1 (k % 64)).2.2.1 = some ty → narrow ty (.int x) = .int x → fits ty (.int x) = true → W p l e R s m args below meth c H locs 0 0 (MQ below (tm_Q adr D dA s.heap.size Q) args s 0 0 (tm_A adr s.heap.size)) (F0 m pc rls (.int x :: .ref (adr q) :: st.map (tm_tr adr))) := by
      intro ty t1 t2 t3
      refine va_put (ci := k / 64) (C := r.1) (T := r.2.1) (N := r.2.2) hx hb C.1.2.2.2.2 (tm_cl_in hc) ty0 hty hnm C.1.2.2.2.1 C.2.2.1 hP (tm_D C.2.2.2.1 dA σ s.heap.size) hS q (tm_w_get hs) hc (k % 64) hlt (C.1.2.2.2.2 _ hw) (fun _ w => w) hfin t1 t2 t3 (by rw [tm_fs_len, ← hN]; exact hlt) hd (fun H1 locs1 h1 h2 h3 => K H1 locs1 ?_ h3)
      rw [tm_fs_set adr σ (tm_sI σ q (k % 64) x) q ks 0 (k % 64) kd (.int x) hk (by
        rw [Nat.zero_add]
        have e9 : (tm_sI σ q (k % 64) x).1 q (k % 64) = x := by unfold tm_sI; rw [tm_sA_at]; exact if_pos rfl
        rcases hkd0 with rfl | ⟨rfl, -⟩
        · show Value.int _ = _; rw [e9]
        · show Value.int _ = _; rw [e9]) (fun a e2 ha => tm_fld_ext (σ := σ) (σ' := tm_sI σ q (k % 64) x) (k := q) (j := a) (by rw [Nat.zero_add] at ha; unfold tm_sI; rw [tm_sA_at]; exact if_neg ha) rfl rfl e2)] at h1
      exact tm_w_sA (f := upd (σ.1 q) (k % 64) x) (adr := adr) (dA := dA) (σ := σ) hs ▸ h1
    rcases hkd0 with rfl | ⟨rfl, hxx⟩
    · exact key .int (hki.1 rfl) rfl rfl
    · refine key .boolean (hki.2.1 rfl) ?_ ?_
      · rcases hxx with rfl | rfl <;> rfl
      · rcases hxx with rfl | rfl <;> rfl
  · cases hi
theorem wp_putr {d j pc : Nat} {ls : List (Nat × Value)} {st : List Value} {σ : tm_S} {Q : Option Value → tm_S → Prop} {n : Nat} {zz : List (Int × Nat)} {k : Nat} {z : Int} {q kd : Nat} {x : Nat} {ks : List Nat} (h : tt_at j pc = some ((20, k, z, zz), n)) (hs : tt_shp[q]? = some (.inl (k / 64, ks))) (hk : ks[k % 64]? = some kd) (hkd0 : kd = 3) (kk : WP d j (pc + n) ls st (tm_sR σ q (k % 64) x) Q) : WP d j pc ls (.ref x :: .ref q :: st) σ Q := by
  obtain ⟨i, hd, hi⟩ := tb_ok h
  intro p l e R s m args below meth c H locs rls adr D dA C hP hS hl
  have hx := C.1.1
  have hb := C.1.2.1
  have K := fun H1 locs1 h1 h2 => kk p l e R s m args below meth c H1 locs1 rls adr D dA C h1 h2 hl
  obtain ⟨r, hc, hN, hkd⟩ := tm_obj hs
  obtain ⟨ty0, hty, hnm⟩ := tm_cl_ty hc
  have hki := tm_kd ks 0 (k % 64) kd hkd hk
  rw [Nat.zero_add] at hki
  change tb_put (tt_y j).cls k z.toNat n i = true at hi
  unfold tb_put at hi
  split at hi
  · simp only [Bool.and_eq_true, beq_iff_eq] at hi
    obtain ⟨⟨rfl, e2⟩, e3⟩ := hi
    obtain ⟨hlt, hw⟩ := tb_fl_spec e2 hc
    have hfin : (r.2.1 (k % 64)).2.2.2 = false := by
      unfold tb_fin at e3
      simp only [hc] at e3
      simpa using e3
    have key : ∀ (ty : FieldType), parseFieldDescriptor (r.2.1 (k % 64)).2.2.1 = some ty → narrow ty (.ref (adr x)) = .ref (adr x) → fits ty (.ref (adr x)) = true → W p l e R s m args below meth c H locs 0 0 (MQ below (tm_Q adr D dA s.heap.size Q) args s 0 0 (tm_A adr s.heap.size)) (F0 m pc rls (.ref (adr x) :: .ref (adr q) :: st.map (tm_tr adr))) := by
      intro ty t1 t2 t3
      refine va_put (ci := k / 64) (C := r.1) (T := r.2.1) (N := r.2.2) hx hb C.1.2.2.2.2 (tm_cl_in hc) ty0 hty hnm C.1.2.2.2.1 C.2.2.1 hP (tm_D C.2.2.2.1 dA σ s.heap.size) hS q (tm_w_get hs) hc (k % 64) hlt (C.1.2.2.2.2 _ hw) (fun _ w => w) hfin t1 t2 t3 (by rw [tm_fs_len, ← hN]; exact hlt) hd (fun H1 locs1 h1 h2 h3 => K H1 locs1 ?_ h3)
      rw [tm_fs_set adr σ (tm_sR σ q (k % 64) x) q ks 0 (k % 64) kd (.ref (adr x)) hk (by
        rw [Nat.zero_add]
        subst hkd0
        show Value.ref (adr _) = _
        rw [show (tm_sR σ q (k % 64) x).2.2 q (k % 64) = x by rw [tm_sR_at]; exact if_pos rfl]) (fun a e2 ha => tm_fld_ext (σ := σ) (σ' := tm_sR σ q (k % 64) x) (k := q) (j := a) rfl rfl (by rw [Nat.zero_add] at ha; rw [tm_sR_at]; exact if_neg ha) e2)] at h1
      exact tm_w_sR (j := k % 64) (v := x) (adr := adr) (dA := dA) (σ := σ) hs ▸ h1
    have ho := hki.2.2 hkd0
    cases hty2 : parseFieldDescriptor (r.2.1 (k % 64)).2.2.1 with
    | none => rw [hty2] at ho; cases ho
    | some ty =>
      rw [hty2] at ho
      cases ty <;> first | (exact absurd ho (by decide)) | exact key _ hty2 rfl rfl
  · cases hi
theorem wp_iald {d j pc : Nat} {ls : List (Nat × Value)} {st : List Value} {σ : tm_S} {Q : Option Value → tm_S → Prop} {n : Nat} {zz : List (Int × Nat)} {z : Int} {q L : Nat} {x : Int32} (h : tt_at j pc = some ((21, 0, z, zz), n)) (hs : tt_shp[q]? = some (.inr (0, L))) (hx1 : vp_in x L) (kk : WP d j (pc + n) ls (.int (σ.1 q x.toNatClampNeg) :: st) σ Q) : WP d j pc ls (.int x :: .ref q :: st) σ Q := by
  obtain ⟨i, hd, hi⟩ := tb_ok h
  intro p l e R s m args below meth c H locs rls adr D dA C hP hS hl
  have hx := C.1.1
  have hb := C.1.2.1
  have K := kk p l e R s m args below meth c H locs rls adr D dA C hP hS hl
  show W p l e R s m args below meth c H locs 0 0 _ (F0 m pc rls (.int x :: .ref (adr q) :: st.map (tm_tr adr)))
  change tb_ald 0 n i = true at hi
  unfold tb_ald at hi
  split at hi <;> first | (cases hi; done) | (simp only [Bool.and_eq_true, beq_iff_eq] at hi; first | (exact absurd hi.1 (by decide)) | (obtain ⟨-, rfl⟩ := hi; exact va_iald hx hb C.2.2.1 hP q 0 (tm_w_get hs) rfl hx1 hd K))
theorem wp_lald {d j pc : Nat} {ls : List (Nat × Value)} {st : List Value} {σ : tm_S} {Q : Option Value → tm_S → Prop} {n : Nat} {zz : List (Int × Nat)} {z : Int} {q L : Nat} {x : Int32} (h : tt_at j pc = some ((21, 1, z, zz), n)) (hs : tt_shp[q]? = some (.inr (1, L))) (hx1 : vp_in x L) (kk : WP d j (pc + n) ls (.long (σ.2.1 q x.toNatClampNeg) :: st) σ Q) : WP d j pc ls (.int x :: .ref q :: st) σ Q := by
  obtain ⟨i, hd, hi⟩ := tb_ok h
  intro p l e R s m args below meth c H locs rls adr D dA C hP hS hl
  have hx := C.1.1
  have hb := C.1.2.1
  have K := kk p l e R s m args below meth c H locs rls adr D dA C hP hS hl
  show W p l e R s m args below meth c H locs 0 0 _ (F0 m pc rls (.int x :: .ref (adr q) :: st.map (tm_tr adr)))
  change tb_ald 1 n i = true at hi
  unfold tb_ald at hi
  split at hi <;> first | (cases hi; done) | (simp only [Bool.and_eq_true, beq_iff_eq] at hi; first | (exact absurd hi.1 (by decide)) | (obtain ⟨-, rfl⟩ := hi; exact va_lald hx hb C.2.2.1 hP q 1 (tm_w_get hs) rfl hx1 hd K))
theorem wp_zald {d j pc : Nat} {ls : List (Nat × Value)} {st : List Value} {σ : tm_S} {Q : Option Value → tm_S → Prop} {n : Nat} {zz : List (Int × Nat)} {z : Int} {q L : Nat} {x : Int32} (h : tt_at j pc = some ((21, 2, z, zz), n)) (hs : tt_shp[q]? = some (.inr (2, L))) (hx1 : vp_in x L) (kk : WP d j (pc + n) ls (.int (σ.1 q x.toNatClampNeg) :: st) σ Q) : WP d j pc ls (.int x :: .ref q :: st) σ Q := by
  obtain ⟨i, hd, hi⟩ := tb_ok h
  intro p l e R s m args below meth c H locs rls adr D dA C hP hS hl
  have hx := C.1.1
  have hb := C.1.2.1
  have K := kk p l e R s m args below meth c H locs rls adr D dA C hP hS hl
  show W p l e R s m args below meth c H locs 0 0 _ (F0 m pc rls (.int x :: .ref (adr q) :: st.map (tm_tr adr)))
  change tb_ald 2 n i = true at hi
  unfold tb_ald at hi
  split at hi <;> first | (cases hi; done) | (simp only [Bool.and_eq_true, beq_iff_eq] at hi; first | (exact absurd hi.1 (by decide)) | (obtain ⟨-, rfl⟩ := hi; exact va_zald hx hb C.2.2.1 hP q 2 (tm_w_get hs) rfl hx1 hd K))
theorem wp_aald {d j pc : Nat} {ls : List (Nat × Value)} {st : List Value} {σ : tm_S} {Q : Option Value → tm_S → Prop} {n : Nat} {zz : List (Int × Nat)} {z : Int} {q L t : Nat} {x : Int32} (h : tt_at j pc = some ((21, 3, z, zz), n)) (hs : tt_shp[q]? = some (.inr (t + 3, L))) (hx1 : vp_in x L) (kk : WP d j (pc + n) ls (.ref (t + x.toNatClampNeg) :: st) σ Q) : WP d j pc ls (.int x :: .ref q :: st) σ Q := by
  obtain ⟨i, hd, hi⟩ := tb_ok h
  intro p l e R s m args below meth c H locs rls adr D dA C hP hS hl
  have hx := C.1.1
  have hb := C.1.2.1
  have K := kk p l e R s m args below meth c H locs rls adr D dA C hP hS hl
  show W p l e R s m args below meth c H locs 0 0 _ (F0 m pc rls (.int x :: .ref (adr q) :: st.map (tm_tr adr)))
  have hlt : x.toNatClampNeg < L := Nat.not_le.mp fun w => hx1 (Or.inr w)
  change tb_ald 3 n i = true at hi
  unfold tb_ald at hi
  split at hi <;> first | (cases hi; done) | (simp only [Bool.and_eq_true, beq_iff_eq] at hi; first | (exact absurd hi.1 (by decide)) | skip)
  · obtain ⟨-, rfl⟩ := hi
    have hat := hP q _ (tm_w_get hs)
    exact W.aald (v := .ref (adr (t + x.toNatClampNeg))) (ty := .array .int) hx hb hat ((C.2.2.1.2 3 _ rfl).1 L (fun i => va_rf (if i < L then some (adr (t + i)) else none))) rfl (fun w => by cases w) (by show ¬ (x < 0 ∨ (arrV _ _ _).slots.size ≤ _); rw [arrV_size]; exact hx1) (by show (arrV _ _ _).slots[_]? = _; rw [arrV_read _ _ hlt]; simp [hlt, va_rf]) rfl rfl hd K
theorem wp_iast {d j pc : Nat} {ls : List (Nat × Value)} {st : List Value} {σ : tm_S} {Q : Option Value → tm_S → Prop} {n : Nat} {zz : List (Int × Nat)} {z : Int} {q L : Nat} {x : Int32} {y : Int32} (h : tt_at j pc = some ((22, 0, z, zz), n)) (hs : tt_shp[q]? = some (.inr (0, L))) (hx1 : vp_in x L) (kk : WP d j (pc + n) ls st (tm_sI σ q x.toNatClampNeg y) Q) : WP d j pc ls (.int y :: .int x :: .ref q :: st) σ Q := by
  obtain ⟨i, hd, hi⟩ := tb_ok h
  intro p l e R s m args below meth c H locs rls adr D dA C hP hS hl
  have hx := C.1.1
  have hb := C.1.2.1
  have K := fun H1 locs1 h1 h2 => kk p l e R s m args below meth c H1 locs1 rls adr D dA C h1 h2 hl
  show W p l e R s m args below meth c H locs 0 0 _ (F0 m pc rls (.int y :: .int x :: .ref (adr q) :: st.map (tm_tr adr)))
  change tb_ast 0 n i = true at hi
  unfold tb_ast at hi
  split at hi <;> first | (cases hi; done) | (simp only [Bool.and_eq_true, beq_iff_eq] at hi; first | (exact absurd hi.1 (by decide)) | skip)
  · obtain ⟨-, rfl⟩ := hi
    refine va_iast hx hb C.2.2.1 hP (tm_D C.2.2.2.1 dA σ s.heap.size) hS q 0 (tm_w_get hs) rfl hx1 hd (fun H1 locs1 h1 h2 h3 => K H1 locs1 ?_ h3)
    have e1 := tm_w_sA (adr := adr) (dA := dA) (σ := σ) (f := upd (σ.1 q) x.toNatClampNeg y) hs
    rw [show tm_cel adr dA (tm_sA σ q (upd (σ.1 q) x.toNatClampNeg y)) q (.inr (0, L)) = .inl (dA 0, L, .inl (upd (σ.1 q) x.toNatClampNeg y)) from congrArg (fun f => Sum.inl (dA 0, L, Sum.inl f)) (tm_sA_at _ _ _)] at e1
    exact e1 ▸ h1
theorem wp_zast {d j pc : Nat} {ls : List (Nat × Value)} {st : List Value} {σ : tm_S} {Q : Option Value → tm_S → Prop} {n : Nat} {zz : List (Int × Nat)} {z : Int} {q L : Nat} {x : Int32} {y : Int32} (h : tt_at j pc = some ((22, 2, z, zz), n)) (hs : tt_shp[q]? = some (.inr (2, L))) (hx1 : vp_in x L) (hy : y = 0 ∨ y = 1) (kk : WP d j (pc + n) ls st (tm_sI σ q x.toNatClampNeg y) Q) : WP d j pc ls (.int y :: .int x :: .ref q :: st) σ Q := by
  obtain ⟨i, hd, hi⟩ := tb_ok h
  intro p l e R s m args below meth c H locs rls adr D dA C hP hS hl
  have hx := C.1.1
  have hb := C.1.2.1
  have K := fun H1 locs1 h1 h2 => kk p l e R s m args below meth c H1 locs1 rls adr D dA C h1 h2 hl
  show W p l e R s m args below meth c H locs 0 0 _ (F0 m pc rls (.int y :: .int x :: .ref (adr q) :: st.map (tm_tr adr)))
  change tb_ast 2 n i = true at hi
  unfold tb_ast at hi
  split at hi <;> first | (cases hi; done) | (simp only [Bool.and_eq_true, beq_iff_eq] at hi; first | (exact absurd hi.1 (by decide)) | skip)
  · obtain ⟨-, rfl⟩ := hi
    refine va_zast hx hb C.2.2.1 hP (tm_D C.2.2.2.1 dA σ s.heap.size) hS q 2 (tm_w_get hs) rfl hx1 hd (fun H1 locs1 h1 h2 h3 => K H1 locs1 ?_ h3)
    rw [show vp_nar .boolean y = y by rcases hy with rfl | rfl <;> rfl] at h1
    have e1 := tm_w_sA (adr := adr) (dA := dA) (σ := σ) (f := upd (σ.1 q) x.toNatClampNeg y) hs
    rw [show tm_cel adr dA (tm_sA σ q (upd (σ.1 q) x.toNatClampNeg y)) q (.inr (2, L)) = .inl (dA 2, L, .inl (upd (σ.1 q) x.toNatClampNeg y)) from congrArg (fun f => Sum.inl (dA 2, L, Sum.inl f)) (tm_sA_at _ _ _)] at e1
    exact e1 ▸ h1
theorem wp_last {d j pc : Nat} {ls : List (Nat × Value)} {st : List Value} {σ : tm_S} {Q : Option Value → tm_S → Prop} {n : Nat} {zz : List (Int × Nat)} {z : Int} {q L : Nat} {x : Int32} {y : Int64} (h : tt_at j pc = some ((22, 1, z, zz), n)) (hs : tt_shp[q]? = some (.inr (1, L))) (hx1 : vp_in x L) (kk : WP d j (pc + n) ls st (tm_sJ σ q x.toNatClampNeg y) Q) : WP d j pc ls (.long y :: .int x :: .ref q :: st) σ Q := by
  obtain ⟨i, hd, hi⟩ := tb_ok h
  intro p l e R s m args below meth c H locs rls adr D dA C hP hS hl
  have hx := C.1.1
  have hb := C.1.2.1
  have K := fun H1 locs1 h1 h2 => kk p l e R s m args below meth c H1 locs1 rls adr D dA C h1 h2 hl
  show W p l e R s m args below meth c H locs 0 0 _ (F0 m pc rls (.long y :: .int x :: .ref (adr q) :: st.map (tm_tr adr)))
  change tb_ast 1 n i = true at hi
  unfold tb_ast at hi
  split at hi <;> first | (cases hi; done) | (simp only [Bool.and_eq_true, beq_iff_eq] at hi; first | (exact absurd hi.1 (by decide)) | skip)
  · obtain ⟨-, rfl⟩ := hi
    refine va_last hx hb C.2.2.1 hP (tm_D C.2.2.2.1 dA σ s.heap.size) hS q 1 (tm_w_get hs) rfl hx1 hd (fun H1 locs1 h1 h2 h3 => K H1 locs1 ?_ h3)
    have e1 := tm_w_sJ (adr := adr) (dA := dA) (σ := σ) (j := x.toNatClampNeg) (v := y) hs
    rw [show tm_cel adr dA (tm_sJ σ q x.toNatClampNeg y) q (.inr (1, L)) = .inl (dA 1, L, .inr (.inl (vp_updL (σ.2.1 q) x.toNatClampNeg y))) from congrArg (fun f => Sum.inl (dA 1, L, Sum.inr (Sum.inl f))) (tm_sJ_at _ _ _ _)] at e1
    exact e1 ▸ h1
theorem wp_len {d j pc : Nat} {ls : List (Nat × Value)} {st : List Value} {σ : tm_S} {Q : Option Value → tm_S → Prop} {n : Nat} {zz : List (Int × Nat)} {k : Nat} {z : Int} {q t L : Nat} (h : tt_at j pc = some ((23, k, z, zz), n)) (hs : tt_shp[q]? = some (.inr (t, L))) (kk : WP d j (pc + n) ls (.int (Int32.ofNat L) :: st) σ Q) : WP d j pc ls (.ref q :: st) σ Q := by
  obtain ⟨i, hd, hi⟩ := tb_ok h
  intro p l e R s m args below meth c H locs rls adr D dA C hP hS hl
  have hx := C.1.1
  have hb := C.1.2.1
  have K := kk p l e R s m args below meth c H locs rls adr D dA C hP hS hl
  show W p l e R s m args below meth c H locs 0 0 _ (F0 m pc rls (.ref (adr q) :: st.map (tm_tr adr)))
  change tb_len n i = true at hi
  unfold tb_len at hi
  split at hi
  · simp only [beq_iff_eq] at hi
    subst hi
    match t, hs with
    | 0, hs => exact va_alen hx hb C.2.2.1 hP q 0 (tm_w_get hs) rfl rfl hd K
    | 1, hs => exact va_alen hx hb C.2.2.1 hP q 1 (tm_w_get hs) rfl rfl hd K
    | 2, hs => exact va_alen hx hb C.2.2.1 hP q 2 (tm_w_get hs) rfl rfl hd K
    | t + 3, hs => exact va_alen hx hb C.2.2.1 hP q 3 (tm_w_get hs) rfl rfl hd K
  · cases hi
theorem tm_ret {p : Program} {s t : State} {args : Array Value} {adr : Nat → Nat} {D : va_G} {dA : Nat → ClassId} {σ : tm_S} {Q : Option Value → tm_S → Prop} {H : Heap} {locs : List Loc} {r : Option Value} (hq : Q r σ) (hP : va_P D tt_cl (tm_w adr dA σ) H) (hS : va_S (tm_A adr s.heap.size) s.heap H locs) (ht : t.heap = H) : tm_Q adr D dA s.heap.size Q args s (.returned (r.map (tm_tr adr))) t :=
  ⟨r, σ, hq, rfl, by rw [ht]; exact hP, hS.F ht⟩
theorem wp_retv {d j pc : Nat} {ls : List (Nat × Value)} {σ : tm_S} {Q : Option Value → tm_S → Prop} {n : Nat} {zz : List (Int × Nat)} {z : Int} (h : tt_at j pc = some ((29, 0, z, zz), n)) (hq : Q none σ) : WP d j pc ls [] σ Q := by
  obtain ⟨i, hd, hi⟩ := tb_ok h
  intro p l e R s m args below meth c H locs rls adr D dA C hP hS hl
  have hx := C.1.1
  have hb := C.1.2.1
  have hlocks : meth.locks = false := C.2.1.2.1
  change tb_ret (tt_r j) 0 n i = true at hi
  unfold tb_ret at hi
  split at hi <;> first | (cases hi; done) | (simp only [Bool.and_eq_true, beq_iff_eq, decide_eq_true_eq] at hi; first | (exact absurd hi.1.1 (by decide)) | skip)
  · obtain ⟨⟨-, rfl⟩, e2⟩ := hi
    exact W.vret hx hb (C.2.1.1.trans e2) (fun t ht _ => tm_ret (p := p) (r := none) hq hP hS ht) hS.2.2 hd hlocks
theorem wp_reti {d j pc : Nat} {ls : List (Nat × Value)} {σ : tm_S} {Q : Option Value → tm_S → Prop} {n : Nat} {zz : List (Int × Nat)} {z : Int} {x : Int32} (h : tt_at j pc = some ((29, 1, z, zz), n)) (hnr : ∀ ty, tt_r j = some ty → narrow ty (.int x) = .int x) (hq : Q (some (.int x)) σ) : WP d j pc ls [.int x] σ Q := by
  obtain ⟨i, hd, hi⟩ := tb_ok h
  intro p l e R s m args below meth c H locs rls adr D dA C hP hS hl
  have hx := C.1.1
  have hb := C.1.2.1
  have hlocks : meth.locks = false := C.2.1.2.1
  change tb_ret (tt_r j) 1 n i = true at hi
  unfold tb_ret at hi
  split at hi <;> first | (cases hi; done) | (simp only [Bool.and_eq_true, Bool.or_eq_true, beq_iff_eq, decide_eq_true_eq] at hi; first | (exact absurd hi.1.1 (by decide)) | skip)
  · obtain ⟨⟨-, rfl⟩, e2⟩ := hi
    have key : ∀ ty, tt_r j = some ty → W p l e R s m args below meth c H locs 0 0 (MQ below (tm_Q adr D dA s.heap.size Q) args s 0 0 (tm_A adr s.heap.size)) (F0 m pc rls [.int x]) := fun ty e3 =>
      W.zret hx hb (C.2.1.1.trans e3) (hnr ty e3) (fun t ht _ => tm_ret (p := p) (r := some (.int x)) hq hP hS ht) hS.2.2 hd hlocks
    rcases e2 with ((e2 | e2) | e2) | e2
    · exact key _ e2
    · exact key _ e2
    · exact key _ e2
    · exact key _ e2
theorem wp_retl {d j pc : Nat} {ls : List (Nat × Value)} {σ : tm_S} {Q : Option Value → tm_S → Prop} {n : Nat} {zz : List (Int × Nat)} {z : Int} {x : Int64} (h : tt_at j pc = some ((29, 2, z, zz), n)) (hq : Q (some (.long x)) σ) : WP d j pc ls [.long x] σ Q := by
  obtain ⟨i, hd, hi⟩ := tb_ok h
  intro p l e R s m args below meth c H locs rls adr D dA C hP hS hl
  have hx := C.1.1
  have hb := C.1.2.1
  have hlocks : meth.locks = false := C.2.1.2.1
  change tb_ret (tt_r j) 2 n i = true at hi
  unfold tb_ret at hi
  split at hi <;> first | (cases hi; done) | (simp only [Bool.and_eq_true, beq_iff_eq, decide_eq_true_eq] at hi; first | (exact absurd hi.1.1 (by decide)) | skip)
  · obtain ⟨⟨-, rfl⟩, e2⟩ := hi
    exact W.lret hx hb (C.2.1.1.trans e2) (fun t ht _ => tm_ret (p := p) (r := some (.long x)) hq hP hS ht) hS.2.2 hd hlocks
theorem wp_retr {d j pc : Nat} {ls : List (Nat × Value)} {σ : tm_S} {Q : Option Value → tm_S → Prop} {n : Nat} {zz : List (Int × Nat)} {z : Int} {x : Nat} (h : tt_at j pc = some ((29, 3, z, zz), n)) (hq : Q (some (.ref x)) σ) : WP d j pc ls [.ref x] σ Q := by
  obtain ⟨i, hd, hi⟩ := tb_ok h
  intro p l e R s m args below meth c H locs rls adr D dA C hP hS hl
  have hx := C.1.1
  have hb := C.1.2.1
  have hlocks : meth.locks = false := C.2.1.2.1
  change tb_ret (tt_r j) 3 n i = true at hi
  unfold tb_ret at hi
  split at hi <;> first | (cases hi; done) | (simp only [Bool.and_eq_true, beq_iff_eq, decide_eq_true_eq] at hi; first | (exact absurd hi.1.1 (by decide)) | skip)
  · obtain ⟨⟨-, rfl⟩, e2⟩ := hi
    cases hty : tt_r j with
    | none => rw [hty] at e2; cases e2
    | some ty =>
      rw [hty] at e2
      cases ty <;> first | (exact absurd e2 (by decide)) | exact W.aret (v := .ref (adr x)) hx hb (C.2.1.1.trans hty) (Or.inl ⟨_, rfl⟩) (Or.inr ⟨_, rfl⟩) (fun t ht _ => tm_ret (p := p) (r := some (.ref x)) hq hP hS ht) hS.2.2 hd hlocks | exact W.aret (v := .ref (adr x)) hx hb (C.2.1.1.trans hty) (Or.inr ⟨_, rfl⟩) (Or.inr ⟨_, rfl⟩) (fun t ht _ => tm_ret (p := p) (r := some (.ref x)) hq hP hS ht) hS.2.2 hd hlocks
theorem wp_gsE {d j pc : Nat} {ls : List (Nat × Value)} {st : List Value} {σ : tm_S} {Q : Option Value → tm_S → Prop} {n : Nat} {zz : List (Int × Nat)} {k : Nat} {z : Int} (h : tt_at j pc = some ((31, k, z, zz), n)) (kk : WP d j (pc + n) ls (.ref k :: st) σ Q) : WP d j pc ls st σ Q := by
  obtain ⟨i, hd, hi⟩ := tb_ok h
  intro p l e R s m args below meth c H locs rls adr D dA C hP hS hl
  have hx := C.1.1
  have hb := C.1.2.1
  have K := kk p l e R s m args below meth c H locs rls adr D dA C hP hS hl
  change tb_gsE (tt_y j).cls k z.toNat n i = true at hi
  unfold tb_gsE at hi
  split at hi
  · simp only [Bool.and_eq_true, beq_iff_eq] at hi
    obtain ⟨⟨⟨rfl, e1⟩, e2⟩, e3⟩ := hi
    have h1 : tt_EN ≤ k := Nat.le_of_ble_eq_true e1
    have h2 : k - tt_EN < 9 := Nat.blt_eq.mp e2
    have hZ := (C.2.2.2.2.1.1 (k - tt_EN) h2).1
    simp only [show tt_EN + (k - tt_EN) = k by omega] at hZ
    exact va_gets hx hb hZ hS C.1.2.2.2.1 (C.1.2.2.2.2 _ (tb_w_in e3)) (fun _ w => w) hd K
  · cases hi
theorem wp_gsC {d j pc : Nat} {ls : List (Nat × Value)} {st : List Value} {σ : tm_S} {Q : Option Value → tm_S → Prop} {n : Nat} {zz : List (Int × Nat)} {z : Int} (h : tt_at j pc = some ((32, 0, z, zz), n)) (kk : WP d j (pc + n) ls (.int 1 :: st) σ Q) : WP d j pc ls st σ Q := by
  obtain ⟨i, hd, hi⟩ := tb_ok h
  intro p l e R s m args below meth c H locs rls adr D dA C hP hS hl
  have hx := C.1.1
  have hb := C.1.2.1
  have K := kk p l e R s m args below meth c H locs rls adr D dA C hP hS hl
  change tb_gsC (tt_y j).cls 0 z.toNat n i = true at hi
  unfold tb_gsC at hi
  split at hi
  · simp only [Bool.and_eq_true, Bool.or_eq_true, beq_iff_eq] at hi
    obtain ⟨rfl, ⟨-, e3⟩ | ⟨e2, -⟩⟩ := hi
    · exact va_gets hx hb C.2.2.2.2.2.2.1 hS C.1.2.2.2.1 (C.1.2.2.2.2 _ (tb_w_in e3)) (fun _ w => w) hd K
    · exact absurd e2 (by decide)
  · cases hi
theorem wp_gsQ {d j pc : Nat} {ls : List (Nat × Value)} {st : List Value} {σ : tm_S} {Q : Option Value → tm_S → Prop} {n : Nat} {zz : List (Int × Nat)} {z : Int} (h : tt_at j pc = some ((32, 1, z, zz), n)) (k1 : WP d j (pc + n) ls (.null :: st) σ Q) (k2 : WP d j (pc + n) ls (.ref tt_XQ :: st) σ Q) : WP d j pc ls st σ Q := by
  obtain ⟨i, hd, hi⟩ := tb_ok h
  intro p l e R s m args below meth c H locs rls adr D dA C hP hS hl
  have hx := C.1.1
  have hb := C.1.2.1
  have K1 := k1 p l e R s m args below meth c H locs rls adr D dA C hP hS hl
  have K2 := k2 p l e R s m args below meth c H locs rls adr D dA C hP hS hl
  change tb_gsC (tt_y j).cls 1 z.toNat n i = true at hi
  unfold tb_gsC at hi
  split at hi
  · simp only [Bool.and_eq_true, Bool.or_eq_true, beq_iff_eq] at hi
    obtain ⟨rfl, ⟨e2, -⟩ | ⟨-, e3⟩⟩ := hi
    · exact absurd e2 (by decide)
    · rcases C.2.2.2.2.2.2.2.1 with hZ | hZ
      · exact va_gets hx hb hZ hS C.1.2.2.2.1 (C.1.2.2.2.2 _ (tb_w_in e3)) (fun _ w => w) hd K1
      · exact va_gets hx hb hZ hS C.1.2.2.2.1 (C.1.2.2.2.2 _ (tb_w_in e3)) (fun _ w => w) hd K2
  · cases hi
theorem wp_str {d j pc : Nat} {ls : List (Nat × Value)} {st : List Value} {σ : tm_S} {Q : Option Value → tm_S → Prop} {n : Nat} {zz : List (Int × Nat)} {k : Nat} {z : Int} (h : tt_at j pc = some ((33, k, z, zz), n)) (kk : WP d j (pc + n) ls (.ref k :: st) σ Q) : WP d j pc ls st σ Q := by
  obtain ⟨i, hd, hi⟩ := tb_ok h
  intro p l e R s m args below meth c H locs rls adr D dA C hP hS hl
  have hx := C.1.1
  have hb := C.1.2.1
  have K := kk p l e R s m args below meth c H locs rls adr D dA C hP hS hl
  change tb_str (tt_y j).cls k z n i = true at hi
  unfold tb_str at hi
  split at hi
  · simp only [Bool.and_eq_true, beq_iff_eq, List.any_eq_true] at hi
    obtain ⟨⟨rfl, -⟩, ⟨q, hq, ⟨e1, e2⟩, e3⟩⟩ := hi
    have hR := C.2.2.2.2.2.2.2.2.1 q hq
    rw [e1, e2, e3] at hR
    exact va_ldcS hx hb C.1.2.2.2.1 hR hd K
  · cases hi
/-- String's own two fields, by the literal's place -/
theorem wp_sfV {d j pc : Nat} {ls : List (Nat × Value)} {st : List Value} {σ : tm_S} {Q : Option Value → tm_S → Prop} {n : Nat} {zz : List (Int × Nat)} {z : Int} {q : Nat} (h : tt_at j pc = some ((35, 0, z, zz), n)) (hq : q < tt_NS) (kk : WP d j (pc + n) ls (.ref (tt_SV + q) :: st) σ Q) : WP d j pc ls (.ref (tt_ST + q) :: st) σ Q := by
  obtain ⟨i, hd, hi⟩ := tb_ok h
  intro p l e R s m args below meth c H locs rls adr D dA C hP hS hl
  have hx := C.1.1
  have hb := C.1.2.1
  have K := kk p l e R s m args below meth c H locs rls adr D dA C hP hS hl
  change tb_sf (tt_y j).cls 0 z.toNat n i = true at hi
  unfold tb_sf at hi
  split at hi
  · simp only [Bool.and_eq_true, Bool.or_eq_true, beq_iff_eq] at hi
    obtain ⟨rfl, ⟨-, e3⟩ | ⟨e2, -⟩⟩ := hi
    · exact vk_getf hx hb (C.2.2.2.2.2.1.1 q hq).2.2.1 hS C.1.2.2.2.1 (C.1.2.2.2.2 _ (tb_w_in e3)) (fun _ w => w) hd K
    · exact absurd e2 (by decide)
  · cases hi
theorem wp_sfC {d j pc : Nat} {ls : List (Nat × Value)} {st : List Value} {σ : tm_S} {Q : Option Value → tm_S → Prop} {n : Nat} {zz : List (Int × Nat)} {z : Int} {q : Nat} (h : tt_at j pc = some ((35, 1, z, zz), n)) (hq : q < tt_NS) (kk : WP d j (pc + n) ls (.int 0 :: st) σ Q) : WP d j pc ls (.ref (tt_ST + q) :: st) σ Q := by
  obtain ⟨i, hd, hi⟩ := tb_ok h
  intro p l e R s m args below meth c H locs rls adr D dA C hP hS hl
  have hx := C.1.1
  have hb := C.1.2.1
  have K := kk p l e R s m args below meth c H locs rls adr D dA C hP hS hl
  change tb_sf (tt_y j).cls 1 z.toNat n i = true at hi
  unfold tb_sf at hi
  split at hi
  · simp only [Bool.and_eq_true, Bool.or_eq_true, beq_iff_eq] at hi
    obtain ⟨rfl, ⟨e2, -⟩ | ⟨-, e3⟩⟩ := hi
    · exact absurd e2 (by decide)
    · exact vk_getf hx hb (C.2.2.2.2.2.1.1 q hq).2.1 hS C.1.2.2.2.1 (C.1.2.2.2.2 _ (tb_w_in e3)) (fun _ w => w) hd K
  · cases hi
theorem wp_slen {d j pc : Nat} {ls : List (Nat × Value)} {st : List Value} {σ : tm_S} {Q : Option Value → tm_S → Prop} {n : Nat} {zz : List (Int × Nat)} {k : Nat} {z : Int} {q : Nat} (h : tt_at j pc = some ((23, k, z, zz), n)) (hq : q < tt_NS) (kk : WP d j (pc + n) ls (.int (Int32.ofNat (tt_len.getD q 0)) :: st) σ Q) : WP d j pc ls (.ref (tt_SV + q) :: st) σ Q := by
  obtain ⟨i, hd, hi⟩ := tb_ok h
  intro p l e R s m args below meth c H locs rls adr D dA C hP hS hl
  have hx := C.1.1
  have hb := C.1.2.1
  have K := kk p l e R s m args below meth c H locs rls adr D dA C hP hS hl
  change tb_len n i = true at hi
  unfold tb_len at hi
  split at hi
  · simp only [beq_iff_eq] at hi
    subst hi
    exact va_tlen hx hb (C.2.2.2.2.2.1.1 q hq).2.2.2 hS rfl hd K
  · cases hi
theorem wp_sald {d j pc : Nat} {ls : List (Nat × Value)} {st : List Value} {σ : tm_S} {Q : Option Value → tm_S → Prop} {n : Nat} {zz : List (Int × Nat)} {z : Int} {q : Nat} {x : Int32} (h : tt_at j pc = some ((21, 2, z, zz), n)) (hq : q < tt_NS) (hx1 : vp_in x (tt_len.getD q 0)) (kk : WP d j (pc + n) ls (.int ((tt_byt.getD q []).getD x.toNatClampNeg 0) :: st) σ Q) : WP d j pc ls (.int x :: .ref (tt_SV + q) :: st) σ Q := by
  obtain ⟨i, hd, hi⟩ := tb_ok h
  intro p l e R s m args below meth c H locs rls adr D dA C hP hS hl
  have hx := C.1.1
  have hb := C.1.2.1
  have K := kk p l e R s m args below meth c H locs rls adr D dA C hP hS hl
  show W p l e R s m args below meth c H locs 0 0 _ (F0 m pc rls (.int x :: .ref (adr (tt_SV + q)) :: st.map (tm_tr adr)))
  change tb_ald 2 n i = true at hi
  unfold tb_ald at hi
  split at hi <;> first | (cases hi; done) | (simp only [Bool.and_eq_true, beq_iff_eq] at hi; first | (exact absurd hi.1 (by decide)) | (obtain ⟨-, rfl⟩ := hi; exact va_tb hx hb (C.2.2.2.2.2.1.1 q hq).2.2.2 hS hx1 rfl hd K))
theorem wp_cpy {d j pc : Nat} {ls : List (Nat × Value)} {st : List Value} {σ : tm_S} {Q : Option Value → tm_S → Prop} {n : Nat} {zz : List (Int × Nat)} {k : Nat} {z : Int} {q0 q1 L0 L1 : Nat} {sp dp c0 : Int32} (h : tt_at j pc = some ((34, k, z, zz), n)) (hs0 : tt_shp[q0]? = some (.inr (0, L0))) (hs1 : tt_shp[q1]? = some (.inr (0, L1))) (h1 : ¬ sp < 0) (h2 : ¬ dp < 0) (h3 : ¬ c0 < 0) (h4 : sp.toNatClampNeg + c0.toNatClampNeg ≤ L0) (h5 : dp.toNatClampNeg + c0.toNatClampNeg ≤ L1)
    (hd1 : 1 ≤ d) (hst : (st.map fun v => v.category).sum ≤ 8) (hsys : (Cond.native arraycopyName ∈ tm_tbl ∧ Cond.static arraycopyName ∈ tm_tbl ∧ Cond.initialized "java/lang/System" ∈ tm_tbl)) (kk : WP d j (pc + n) ls st (tm_sA σ q1 (va_cpy (σ.1 q0) (σ.1 q1) sp.toNatClampNeg dp.toNatClampNeg c0.toNatClampNeg)) Q) : WP d j pc ls (.int c0 :: .int dp :: .ref q1 :: .int sp :: .ref q0 :: st) σ Q := by
  obtain ⟨i, hd, hi⟩ := tb_ok h
  intro p l e R s m args below meth c H locs rls adr D dA C hP hS hl
  have hx := C.1.1
  have hb := C.1.2.1
  have K := fun H1 locs1 h1 h2 => kk p l e R s m args below meth c H1 locs1 rls adr D dA C h1 h2 hl
  show W p l e R s m args below meth c H locs 0 0 _ (F0 m pc rls (.int c0 :: .int dp :: .ref (adr q1) :: .int sp :: .ref (adr q0) :: st.map (tm_tr adr)))
  change tb_cpy (tt_y j).cls z.toNat n i = true at hi
  unfold tb_cpy at hi
  split at hi
  · simp only [Bool.and_eq_true, beq_iff_eq] at hi
    obtain ⟨rfl, e3⟩ := hi
    have hcat : ((st.map (tm_tr adr)).map fun v => v.category).sum ≤ 8 := by
      rw [List.map_map, show ((fun v : Value => v.category) ∘ tm_tr adr) = fun v => v.category from funext (tm_tr_cat adr)]
      exact hst
    refine va_copyi hx hb (C.1.2.2.1.trans hl.1.symm) C.1.2.2.2.1 (C.1.2.2.2.2 _ (tb_w_in e3)) (C.1.2.2.2.2 _ hsys.1) (C.1.2.2.2.2 _ hsys.2.1) (C.1.2.2.2.2 _ hsys.2.2) C.2.2.1 hP (tm_D C.2.2.2.1 dA σ s.heap.size) hS q0 q1 0 0 (tm_w_get hs0) (tm_w_get hs1) rfl rfl rfl h1 h2 h3 h4 h5 (fun i _ => rfl) (Nat.le_trans hd1 C.2.1.2.2.1) ?_ hd (fun H1 locs1 g1 g2 g3 => K H1 locs1 ?_ g3)
    · have := C.2.1.2.2.2
      have hw : nativeFrameWords "java/lang/System" "arraycopy" 5 + 11 ≤ 56 := by decide +kernel
      omega
    · have e1 := tm_w_sA (adr := adr) (dA := dA) (σ := σ) (f := va_cpy (σ.1 q0) (σ.1 q1) sp.toNatClampNeg dp.toNatClampNeg c0.toNatClampNeg) hs1
      rw [show tm_cel adr dA (tm_sA σ q1 (va_cpy (σ.1 q0) (σ.1 q1) sp.toNatClampNeg dp.toNatClampNeg c0.toNatClampNeg)) q1 (.inr (0, L1)) = .inl (dA 0, L1, .inl (va_cpy (σ.1 q0) (σ.1 q1) sp.toNatClampNeg dp.toNatClampNeg c0.toNatClampNeg)) from congrArg (fun f => Sum.inl (dA 0, L1, Sum.inl f)) (tm_sA_at _ _ _)] at e1
      exact e1 ▸ g1
  · cases hi
/-! Math: by the rows of the kit -/
theorem tm_m_abs : Cond.static Lib.Math.abs.name ∈ tm_tbl ∧ Cond.initialized "java/lang/Math" ∈ tm_tbl ∧ Cond.code Lib.Math.abs.name Lib.Math.abs.code 1 (some .int) ∈ tm_tbl := ⟨tm_tbl_in (List.mem_of_getElem? (i := 506) (by decide +kernel)) rfl, tm_tbl_in (List.mem_of_getElem? (i := 94) (by decide +kernel)) rfl, tm_tbl_in (List.mem_of_getElem? (i := 507) (by decide +kernel)) rfl⟩
theorem tm_m_min : Cond.static Lib.Math.min.name ∈ tm_tbl ∧ Cond.initialized "java/lang/Math" ∈ tm_tbl ∧ Cond.code Lib.Math.min.name Lib.Math.min.code 2 (some .int) ∈ tm_tbl := ⟨tm_tbl_in (List.mem_of_getElem? (i := 509) (by decide +kernel)) rfl, tm_tbl_in (List.mem_of_getElem? (i := 94) (by decide +kernel)) rfl, tm_tbl_in (List.mem_of_getElem? (i := 510) (by decide +kernel)) rfl⟩
theorem tm_m_max : Cond.static Lib.Math.max.name ∈ tm_tbl ∧ Cond.initialized "java/lang/Math" ∈ tm_tbl ∧ Cond.code Lib.Math.max.name Lib.Math.max.code 2 (some .int) ∈ tm_tbl := ⟨tm_tbl_in (List.mem_of_getElem? (i := 891) (by decide +kernel)) rfl, tm_tbl_in (List.mem_of_getElem? (i := 94) (by decide +kernel)) rfl, tm_tbl_in (List.mem_of_getElem? (i := 892) (by decide +kernel)) rfl⟩
theorem wp_mabs {d j pc : Nat} {ls : List (Nat × Value)} {st : List Value} {σ : tm_S} {Q : Option Value → tm_S → Prop} {n : Nat} {zz : List (Int × Nat)} {z : Int} {x : Int32} (h : tt_at j pc = some ((36, 0, z, zz), n)) (hd1 : 1 ≤ d) (hst : (st.map fun v => v.category).sum ≤ 8) (kk : WP d j (pc + n) ls (.int (if 0 ≤ x then x else 0 - x) :: st) σ Q) : WP d j pc ls (.int x :: st) σ Q := by
  obtain ⟨i, hd, hi⟩ := tb_ok h
  intro p l e R s m args below meth c H locs rls adr D dA C hP hS hl
  have hx := C.1.1
  have hb := C.1.2.1
  have K := kk p l e R s m args below meth c H locs rls adr D dA C hP hS hl
  change tb_mth (tt_y j).cls 0 z.toNat n i = true at hi
  unfold tb_mth at hi
  split at hi
  · rename_i idx
    simp only [Bool.and_eq_true, Bool.or_eq_true, beq_iff_eq] at hi
    obtain ⟨rfl, hi⟩ := hi
    have e3 : tb_w z.toNat (.methodLink (tt_y j).cls idx Lib.Math.abs.name) = true := by
      rcases hi with ⟨e, e3⟩ | ⟨e, e3⟩ | ⟨e, e3⟩ <;> first | exact e3 | exact absurd e (by decide)
    have hcat : ((st.map (tm_tr adr)).map fun v => v.category).sum ≤ 8 := by
      rw [List.map_map, show ((fun v : Value => v.category) ∘ tm_tr adr) = fun v => v.category from funext (tm_tr_cat adr)]
      exact hst
    refine va_mabs hx hb (C.1.2.2.1.trans hl.1.symm) C.1.2.2.2.1 (C.1.2.2.2.2 _ (tb_w_in e3)) (C.1.2.2.2.2 _ tm_m_abs.1) (C.1.2.2.2.2 _ tm_m_abs.2.1) (C.1.2.2.2.2 _ tm_m_abs.2.2) (Nat.le_trans hd1 C.2.1.2.2.1) ?_ (Nat.zero_le _) (Nat.zero_le _) hd K
    have := C.2.1.2.2.2
    omega
  · cases hi
theorem wp_mmin {d j pc : Nat} {ls : List (Nat × Value)} {st : List Value} {σ : tm_S} {Q : Option Value → tm_S → Prop} {n : Nat} {zz : List (Int × Nat)} {z : Int} {x y : Int32} (h : tt_at j pc = some ((36, 1, z, zz), n)) (hd1 : 1 ≤ d) (hst : (st.map fun v => v.category).sum ≤ 8) (kk : WP d j (pc + n) ls (.int (if y < x then y else x) :: st) σ Q) : WP d j pc ls (.int y :: .int x :: st) σ Q := by
  obtain ⟨i, hd, hi⟩ := tb_ok h
  intro p l e R s m args below meth c H locs rls adr D dA C hP hS hl
  have hx := C.1.1
  have hb := C.1.2.1
  have K := kk p l e R s m args below meth c H locs rls adr D dA C hP hS hl
  change tb_mth (tt_y j).cls 1 z.toNat n i = true at hi
  unfold tb_mth at hi
  split at hi
  · rename_i idx
    simp only [Bool.and_eq_true, Bool.or_eq_true, beq_iff_eq] at hi
    obtain ⟨rfl, hi⟩ := hi
    have e3 : tb_w z.toNat (.methodLink (tt_y j).cls idx Lib.Math.min.name) = true := by
      rcases hi with ⟨e, e3⟩ | ⟨e, e3⟩ | ⟨e, e3⟩ <;> first | exact e3 | exact absurd e (by decide)
    have hcat : ((st.map (tm_tr adr)).map fun v => v.category).sum ≤ 8 := by
      rw [List.map_map, show ((fun v : Value => v.category) ∘ tm_tr adr) = fun v => v.category from funext (tm_tr_cat adr)]
      exact hst
    refine va_mmin hx hb (C.1.2.2.1.trans hl.1.symm) C.1.2.2.2.1 (C.1.2.2.2.2 _ (tb_w_in e3)) (C.1.2.2.2.2 _ tm_m_min.1) (C.1.2.2.2.2 _ tm_m_min.2.1) (C.1.2.2.2.2 _ tm_m_min.2.2) (Nat.le_trans hd1 C.2.1.2.2.1) ?_ (Nat.zero_le _) (Nat.zero_le _) hd K
    have := C.2.1.2.2.2
    omega
  · cases hi
theorem wp_mmax {d j pc : Nat} {ls : List (Nat × Value)} {st : List Value} {σ : tm_S} {Q : Option Value → tm_S → Prop} {n : Nat} {zz : List (Int × Nat)} {z : Int} {x y : Int32} (h : tt_at j pc = some ((36, 2, z, zz), n)) (hd1 : 1 ≤ d) (hst : (st.map fun v => v.category).sum ≤ 8) (kk : WP d j (pc + n) ls (.int (if x < y then y else x) :: st) σ Q) : WP d j pc ls (.int y :: .int x :: st) σ Q := by
  obtain ⟨i, hd, hi⟩ := tb_ok h
  intro p l e R s m args below meth c H locs rls adr D dA C hP hS hl
  have hx := C.1.1
  have hb := C.1.2.1
  have K := kk p l e R s m args below meth c H locs rls adr D dA C hP hS hl
  change tb_mth (tt_y j).cls 2 z.toNat n i = true at hi
  unfold tb_mth at hi
  split at hi
  · rename_i idx
    simp only [Bool.and_eq_true, Bool.or_eq_true, beq_iff_eq] at hi
    obtain ⟨rfl, hi⟩ := hi
    have e3 : tb_w z.toNat (.methodLink (tt_y j).cls idx Lib.Math.max.name) = true := by
      rcases hi with ⟨e, e3⟩ | ⟨e, e3⟩ | ⟨e, e3⟩ <;> first | exact e3 | exact absurd e (by decide)
    have hcat : ((st.map (tm_tr adr)).map fun v => v.category).sum ≤ 8 := by
      rw [List.map_map, show ((fun v : Value => v.category) ∘ tm_tr adr) = fun v => v.category from funext (tm_tr_cat adr)]
      exact hst
    refine va_mmax hx hb (C.1.2.2.1.trans hl.1.symm) C.1.2.2.2.1 (C.1.2.2.2.2 _ (tb_w_in e3)) (C.1.2.2.2.2 _ tm_m_max.1) (C.1.2.2.2.2 _ tm_m_max.2.1) (C.1.2.2.2.2 _ tm_m_max.2.2) (Nat.le_trans hd1 C.2.1.2.2.1) ?_ (Nat.zero_le _) (Nat.zero_le _) hd K
    have := C.2.1.2.2.2
    omega
  · cases hi
end
section
/-! ===== the rule of a call ===== -/
/-- the place q is an object of the class of that name -/
def tm_isA (q : Nat) (cls : String) : Prop := (∃ (ci : Nat) (ks : List Nat) (r : vw_C), tt_shp[q]? = some (.inl (ci, ks)) ∧ tt_cl[ci]? = some r ∧ r.1 = cls) ∨ (cls = "java/lang/String" ∧ ∃ i : Nat, i < tt_NS ∧ q = tt_ST + i)
theorem tm_meth {j : Nat} (hj : j < tt_NM) : plainName (tt_y j).cls = true ∧ ((tt_y j).cls ≠ "java/lang/invoke/MethodHandle" ∧ (tt_y j).cls ≠ "java/lang/invoke/VarHandle" ∧ (parseMethodDescriptor (tt_y j).desc).map (fun d => d.parameters.length) = some (tt_p j)) ∧ tt_n j ≤ 40 ∧
    Cond.code (tt_y j) (tt_c j) (tt_n j) (tt_r j) ∈ tm_tbl ∧ Cond.initialized (tt_y j).cls ∈ tm_tbl ∧ (tt_s j = true → Cond.static (tt_y j) ∈ tm_tbl) ∧ (tt_s j = false → Cond.instanceMethod (tt_y j) ∈ tm_tbl ∧ Cond.selects (tt_y j).cls (tt_y j) (tt_y j) ∈ tm_tbl) := by
  have h := tb_valid j hj
  rw [Bool.and_eq_true] at h
  have h1 := h.1
  unfold tb_m at h1
  simp only [Bool.and_eq_true, decide_eq_true_eq] at h1
  obtain ⟨⟨⟨⟨⟨⟨⟨a1, a2⟩, a3⟩, a4⟩, a5⟩, a6⟩, a7⟩, a8⟩ := h1
  refine ⟨a1, ⟨a2, a3, a4⟩, Nat.le_of_ble_eq_true a5, tb_w_in a6, tb_w_in a7, fun e => ?_, fun e => ?_⟩
  · rw [e] at a8
    exact tb_w_in a8
  · rw [e] at a8
    simp only [cond_false, Bool.and_eq_true] at a8
    exact ⟨tb_w_in a8.1, tb_w_in a8.2⟩
theorem tm_ws_good {j : Nat} (hj : j < tt_NM) : GoodIn tm_tbl (tm_ws j) := by
  intro w hw
  rcases List.mem_cons.mp hw with rfl | h
  · exact tm_tbl_good _ (tm_meth hj).2.2.2.1
  · exact tm_tbl_good _ h
set_option maxHeartbeats 4000000 in
theorem wp_call {d j pc n a : Nat} {ls : List (Nat × Value)} {st st0 : List Value} {σ : tm_S} {Q Q' : Option Value → tm_S → Prop} {zz : List (Int × Nat)} {z : Int} {As : List Value} (h : tt_at j pc = some ((30, a, z, zz), n)) (hst : st0 = As.reverse ++ st) (hlen : As.length = tt_p a + (cond (tt_s a) 0 1)) (hsl : (lg_sl As).length ≤ tt_n a)
    (hrec : tt_s a = false → ∃ (q : Nat) (B : List Value), As = .ref q :: B ∧ tm_isA q (tt_y a).cls) (hW : (st.map fun v => v.category).sum ≤ 8) (hM : WM d a As σ Q') (kk : ∀ r σ', Q' r σ' → WP (d + 1) j (pc + n) ls (r.toList ++ st) σ' Q) : WP (d + 1) j pc ls st0 σ Q := by
  obtain ⟨i, hd, hi⟩ := tb_ok h
  intro p l e R s m args below meth c H locs rls adr D dA C hP hS hl
  have hx := C.1.1
  have hb := C.1.2.1
  subst hst
  have hcat : ((st.map (tm_tr adr)).map fun v => v.category).sum ≤ 8 := by
    rw [List.map_map, show ((fun v : Value => v.category) ∘ tm_tr adr) = fun v => v.category from funext (tm_tr_cat adr)]
    exact hW
  have hstk : (As.reverse ++ st).map (tm_tr adr) = (As.map (tm_tr adr)).reverse ++ st.map (tm_tr adr) := by rw [List.map_append, List.map_reverse]
  change tb_cal (tt_y j).cls a z.toNat n i = true at hi
  have hres : ∀ r : Option Value, (r.map (tm_tr adr)).toList ++ st.map (tm_tr adr) = (r.toList ++ st).map (tm_tr adr) := fun r => by cases r <;> rfl
  have Rr : (tm_rm d).frames + 1 ≤ R.frames ∧ 8 + (40 + 11) + (tm_rm d).locals ≤ R.locals := by
    have g1 := C.2.1.2.2.1
    have g2 := C.2.1.2.2.2
    refine ⟨g1, ?_⟩
    show 8 + (40 + 11) + 64 * d ≤ R.locals
    omega
  unfold tb_cal at hi
  split at hi
  · rename_i idx
    simp only [Bool.and_eq_true, Bool.or_eq_true, beq_iff_eq, decide_eq_true_eq] at hi
    obtain ⟨⟨⟨rfl, e1⟩, e2⟩, e3⟩ := hi
    have hj : a < tt_NM := Nat.blt_eq.mp e1
    obtain ⟨m1, m2, m3, m4, m5, m6, m7⟩ := tm_meth hj
    have hMet := tm_met hM m1 hsl l C.2.2.2.1 D dA H.size
    have hR : (tm_rm d).frames + 1 ≤ R.frames ∧ 8 + (tt_n a + 11) + (tm_rm d).locals ≤ R.locals := ⟨Rr.1, by have := Rr.2; omega⟩
    rw [hstk]
    have hn : (As.map (tm_tr adr)).length = tt_p a := by rw [List.length_map, hlen, e2]; rfl
    have hpre : PreS s H (tm_P adr D dA As σ H.size) (As.map (tm_tr adr)) := ⟨tm_blind adr D dA As σ H.size, tm_start C.2.2.1 C.2.2.2.2 hP hS⟩
    rcases e3 with ⟨-, e4⟩ | ⟨-, e4⟩
    · refine tm_cont (va_runS (nL := tt_n j) ⟨hx, hb, C.1.2.2.1, C.1.2.2.2.1, C.1.2.2.2.2⟩ hMet ⟨callB_of (tt_p a) C.1.2.2.2.2 (tm_ws_good hj) rfl rfl rfl (C.1.2.2.2.2 _ m5) (C.1.2.2.2.2 _ (tb_w_in e4)) m2 hR, C.1.2.2.2.2 _ (m6 e2)⟩ hpre rfl hn hl.1 rfl (lv_room hcat) hd ⟨Nat.zero_le _, Nat.zero_le _⟩) hS (fun r σ' H1 locs1 g1 g2 g3 => ?_)
      rw [hres]
      exact kk r σ' g1 p l e R s m args below meth c H1 locs1 rls adr D dA C g2 g3 hl
    · have hnw : va_Nw (.methodLinkNest (tt_y j).cls idx (tt_y a) "ToneHouse") s := C.2.2.2.2.2.2.2.2.2 _ (List.mem_filter.mpr ⟨List.mem_of_getElem? e4, rfl⟩)
      refine tm_cont (va_runSN (nL := tt_n j) ⟨hx, hb, C.1.2.2.1, C.1.2.2.2.1, C.1.2.2.2.2⟩ hMet ⟨va_cnB (tt_p a) C.1.2.2.2.2 (tm_ws_good hj) rfl rfl rfl hnw (C.1.2.2.2.2 _ m5) m2 hR, C.1.2.2.2.2 _ (m6 e2), trivial⟩ hpre rfl hn hl.1 rfl (lv_room hcat) hd ⟨Nat.zero_le _, Nat.zero_le _⟩) hS (fun r σ' H1 locs1 g1 g2 g3 => ?_)
      rw [hres]
      exact kk r σ' g1 p l e R s m args below meth c H1 locs1 rls adr D dA C g2 g3 hl
  · rename_i idx
    simp only [Bool.and_eq_true, Bool.or_eq_true, beq_iff_eq, decide_eq_true_eq, Bool.not_eq_true'] at hi
    obtain ⟨⟨⟨rfl, e1⟩, e2⟩, e3⟩ := hi
    have hj : a < tt_NM := Nat.blt_eq.mp e1
    obtain ⟨m1, m2, m3, m4, m5, m6, m7⟩ := tm_meth hj
    obtain ⟨q, B, rfl, hq⟩ := hrec e2
    have hMet := tm_met hM m1 hsl l C.2.2.2.1 D dA H.size
    have hR : (tm_rm d).frames + 1 ≤ R.frames ∧ 8 + (tt_n a + 11) + (tm_rm d).locals ≤ R.locals := ⟨Rr.1, by have := Rr.2; omega⟩
    have hstk2 : ((Value.ref q :: B).map (tm_tr adr)).reverse ++ st.map (tm_tr adr) = (B.map (tm_tr adr)).reverse ++ .ref (adr q) :: st.map (tm_tr adr) := by
      rw [List.map_cons, List.reverse_cons, List.append_assoc]
      rfl
    rw [hstk, hstk2]
    have hn : (B.map (tm_tr adr)).length = tt_p a := by
      rw [e2] at hlen
      simpa using hlen
    have hrc : ∃ cellB : Cell, H[adr q]? = some cellB ∧ cellB.vm.isStatics = false ∧ s.vm.findClass (tt_y a).cls = some cellB.cls := by
      rcases hq with ⟨ci, ks, r, g1, g2, g3⟩ | ⟨g1, i2, g2, rfl⟩
      · rw [← g3]
        exact va_recv C.2.2.1 hP g2 (tm_w_get g1)
      · rw [g1]
        exact vk_recv (adK := fun i => adr (tt_ST + i)) (i := i2) C.2.2.2.2.2.1 g2 hS
    have hpre : PreV s H (tt_y a).cls (adr q) (tm_P adr D dA (.ref q :: B) σ H.size) (B.map (tm_tr adr)) := ⟨tm_blind adr D dA _ σ H.size, hrc, tm_start C.2.2.1 C.2.2.2.2 hP hS⟩
    have hse := m7 e2
    rcases e3 with ⟨-, e4⟩ | ⟨-, e4⟩
    · refine tm_cont (va_runV (nL := tt_n j) ⟨hx, hb, C.1.2.2.1, C.1.2.2.2.1, C.1.2.2.2.2⟩ hMet ⟨callB_of (tt_p a) C.1.2.2.2.2 (tm_ws_good hj) rfl rfl rfl (C.1.2.2.2.2 _ m5) (C.1.2.2.2.2 _ (tb_w_in e4)) m2 hR, C.1.2.2.2.2 _ hse.1, C.1.2.2.2.2 _ hse.2⟩ hpre rfl hn hl.1 rfl (lv_room hcat) hd ⟨Nat.zero_le _, Nat.zero_le _⟩) hS (fun r σ' H1 locs1 g1 g2 g3 => ?_)
      rw [hres]
      exact kk r σ' g1 p l e R s m args below meth c H1 locs1 rls adr D dA C g2 g3 hl
    · have hnw : va_Nw (.methodLinkNest (tt_y j).cls idx (tt_y a) "ToneHouse") s := C.2.2.2.2.2.2.2.2.2 _ (List.mem_filter.mpr ⟨List.mem_of_getElem? e4, rfl⟩)
      refine tm_cont (va_runVN (nL := tt_n j) ⟨hx, hb, C.1.2.2.1, C.1.2.2.2.1, C.1.2.2.2.2⟩ hMet ⟨va_cnB (tt_p a) C.1.2.2.2.2 (tm_ws_good hj) rfl rfl rfl hnw (C.1.2.2.2.2 _ m5) m2 hR, C.1.2.2.2.2 _ hse.1, C.1.2.2.2.2 _ hse.2⟩ hpre rfl hn hl.1 rfl (lv_room hcat) hd ⟨Nat.zero_le _, Nat.zero_le _⟩) hS (fun r σ' H1 locs1 g1 g2 g3 => ?_)
      rw [hres]
      exact kk r σ' g1 p l e R s m args below meth c H1 locs1 rls adr D dA C g2 g3 hl
  · cases hi
end
section
/-! ===== ints: signs, ranges, bits ===== -/
theorem tn_cond (x : Int32) : x.toInt = if 2 * x.toBitVec.toNat < 2 ^ 32 then (x.toBitVec.toNat : Int) else (x.toBitVec.toNat : Int) - ((2 ^ 32 : Nat) : Int) := BitVec.toInt_eq_toNat_cond x.toBitVec
theorem tn_lt (x : Int32) : x.toBitVec.toNat < 4294967296 := x.toBitVec.isLt
theorem tn_rng (x : Int32) : -2147483648 ≤ x.toInt ∧ x.toInt ≤ 2147483647 := by
  have h1 := x.le_toInt
  have h2 := x.toInt_lt
  omega
theorem tn_nn {x : Int32} (h : 0 ≤ x.toInt) : x.toInt = (x.toBitVec.toNat : Int) ∧ x.toBitVec.toNat < 2147483648 := by
  have h1 := tn_cond x
  have h2 := tn_lt x
  split at h1 <;> omega
theorem tn_of {x : Int32} (h : x.toBitVec.toNat < 2147483648) : x.toInt = (x.toBitVec.toNat : Int) := by
  have h1 := tn_cond x
  split at h1 <;> omega
theorem tn_bmod {m : Int} (h1 : -2147483648 ≤ m) (h2 : m ≤ 2147483647) : m.bmod (2 ^ 32) = m := by
  apply Int.bmod_eq_of_le
  · exact h1
  · show m < 2147483648
    omega
theorem tn_add {x y : Int32} (h1 : -2147483648 ≤ x.toInt + y.toInt) (h2 : x.toInt + y.toInt ≤ 2147483647) : (x + y).toInt = x.toInt + y.toInt := by rw [Int32.toInt_add, tn_bmod h1 h2]
theorem tn_sub {x y : Int32} (h1 : -2147483648 ≤ x.toInt - y.toInt) (h2 : x.toInt - y.toInt ≤ 2147483647) : (x - y).toInt = x.toInt - y.toInt := by rw [Int32.toInt_sub, tn_bmod h1 h2]
theorem tn_mul {x y : Int32} (h1 : -2147483648 ≤ x.toInt * y.toInt) (h2 : x.toInt * y.toInt ≤ 2147483647) : (x * y).toInt = x.toInt * y.toInt := by rw [Int32.toInt_mul, tn_bmod h1 h2]
theorem tn_neg {x : Int32} (h1 : -2147483648 ≤ -x.toInt) (h2 : -x.toInt ≤ 2147483647) : (-x).toInt = -x.toInt := by rw [Int32.toInt_neg, tn_bmod h1 h2]
theorem tn_ofInt {z : Int} (h1 : -2147483648 ≤ z) (h2 : z ≤ 2147483647) : (Int32.ofInt z).toInt = z := Int32.toInt_ofInt_of_le h1 (by show z < 2147483648; omega)
theorem tn_ofNat {n : Nat} (h : n ≤ 2147483647) : (Int32.ofNat n).toInt = (n : Int) := Int32.toInt_ofNat_of_lt (by show n < 2147483648; omega)
theorem tn_in {x : Int32} {n : Nat} (h1 : 0 ≤ x.toInt) (h2 : x.toInt < (n : Int)) : vp_in x n := vp_in_iff.mpr ⟨h1, h2⟩
theorem tn_cl {x : Int32} (h : 0 ≤ x.toInt) : (x.toNatClampNeg : Int) = x.toInt := by
  show ((x.toInt.toNat : Nat) : Int) = x.toInt
  omega
/-- a product lies between those of the ends -/
theorem tn_prod1 {a b x y : Int} (h1 : a ≤ x) (h2 : x ≤ b) : min (a * y) (b * y) ≤ x * y ∧ x * y ≤ max (a * y) (b * y) := by
  rcases Int.le_total 0 y with hy | hy
  · have e1 := Int.mul_le_mul_of_nonneg_right h1 hy
    have e2 := Int.mul_le_mul_of_nonneg_right h2 hy
    omega
  · have e1 := Int.mul_le_mul_of_nonpos_right h1 hy
    have e2 := Int.mul_le_mul_of_nonpos_right h2 hy
    omega
theorem tn_prod {a b c d x y : Int} (h1 : a ≤ x) (h2 : x ≤ b) (h3 : c ≤ y) (h4 : y ≤ d) : min (min (a * c) (a * d)) (min (b * c) (b * d)) ≤ x * y ∧ x * y ≤ max (max (a * c) (a * d)) (max (b * c) (b * d)) := by
  have e1 := tn_prod1 (y := y) h1 h2
  have e2 := tn_prod1 (y := a) h3 h4
  have e3 := tn_prod1 (y := b) h3 h4
  rw [Int.mul_comm c a, Int.mul_comm d a, Int.mul_comm y a] at e2
  rw [Int.mul_comm c b, Int.mul_comm d b, Int.mul_comm y b] at e3
  omega
/-! shifts -/
theorem tn_k32 : ∀ j : Nat, j < 32 → ((nI j).toBitVec.smod 32).toNat = j := by decide +kernel
theorem tn_ksh (y : Int32) : ((y &&& 31).toBitVec.smod 32).toNat = y.toBitVec.toNat % 32 := by
  rw [pk_and y (m := 31) 5 (by decide)]
  exact tn_k32 _ (Nat.mod_lt _ (by decide))
theorem tn_kush (y : Int32) : ((y.toUInt32 &&& Int32.toUInt32 31).toBitVec % 32).toNat = y.toBitVec.toNat % 32 := by
  have e : (y.toUInt32 &&& Int32.toUInt32 31).toBitVec = y.toBitVec &&& 31#32 := rfl
  rw [e, BitVec.toNat_umod, BitVec.toNat_and]
  show (y.toBitVec.toNat &&& (2 ^ 5 - 1)) % 32 = _
  rw [Nat.and_two_pow_sub_one_eq_mod, show (2 : Nat) ^ 5 = 32 from rfl, Nat.mod_mod]
theorem tn_shl (x y : Int32) : (x <<< (y &&& 31)).toBitVec.toNat = x.toBitVec.toNat * 2 ^ (y.toBitVec.toNat % 32) % 4294967296 := pk_shl x _ _ (tn_ksh y)
theorem tn_shr (x y : Int32) : (x >>> (y &&& 31)).toInt = x.toInt / ((2 ^ (y.toBitVec.toNat % 32) : Nat) : Int) := by
  rw [pk_shr x _ _ (tn_ksh y), Int.shiftRight_eq_div_pow]
theorem tn_ushr (x y : Int32) : (x.toUInt32 >>> (y.toUInt32 &&& Int32.toUInt32 31)).toInt32.toBitVec.toNat = x.toBitVec.toNat / 2 ^ (y.toBitVec.toNat % 32) := pk_ushr x y _ (tn_kush y)
theorem tn_and (x y : Int32) : (x &&& y).toBitVec.toNat = x.toBitVec.toNat &&& y.toBitVec.toNat := by rw [Int32.toBitVec_and, BitVec.toNat_and]
theorem tn_or (x y : Int32) : (x ||| y).toBitVec.toNat = x.toBitVec.toNat ||| y.toBitVec.toNat := by rw [Int32.toBitVec_or, BitVec.toNat_or]
theorem tn_xor (x y : Int32) : (x ^^^ y).toBitVec.toNat = x.toBitVec.toNat ^^^ y.toBitVec.toNat := by rw [Int32.toBitVec_xor, BitVec.toNat_xor]
end
section
/-! ===== the checker: intervals over symbolic variables ===== -/
abbrev tv_A : Type := Nat × Nat × Int
abbrev tv_E : Type := List (Int × Int)
abbrev tv_F : Type := List ((Nat × Nat) × tv_A)
abbrev tv_T : Type := Nat × Int × Int
abbrev tv_M : Type := List (Int × Nat × Int)
abbrev tv_H : Type := Nat × List tv_T × tv_M
/-- a context: method, types of the arguments, heads, cases of the answer (type, arguments narrowed), fields written, rank -/
abbrev tv_C : Type := Nat × List tv_T × List tv_H × List (tv_T × List (Nat × Int × Int)) × List (Nat × Nat) × Nat
abbrev tv_TT : Type := List (List (Int × Int) ⊕ (Int × Int))
def tv_lo : Int := -2147483648
def tv_hi : Int := 2147483647
def tv_ti (T : tv_TT) (k j : Nat) : Int × Int := match T[k]? with
  | some (.inl l) => l.getD j (tv_lo, tv_hi)
  | some (.inr q) => q
  | none => (tv_lo, tv_hi)
def tv_le : Int → Int → Bool
  | .ofNat m, .ofNat n => Nat.ble m n
  | .negSucc _, .ofNat _ => true
  | .ofNat _, .negSucc _ => false
  | .negSucc m, .negSucc n => Nat.ble n m
def tv_eq (a b : Int) : Bool := tv_le a b && tv_le b a
def tv_mx (a b : Int) : Int := cond (tv_le a b) b a
def tv_mn (a b : Int) : Int := cond (tv_le a b) a b
def tv_iv (E : tv_E) : tv_A → Option (Int × Int)
  | (1, v, o) => match E[v]? with
    | some q => some (q.1 + o, q.2 + o)
    | none => none
  | _ => none
def tv_nw (r : Int × Int) : Int × Int := cond (tv_le tv_lo r.1 && tv_le r.2 tv_hi) r (tv_lo, tv_hi)
def tv_bl (n : Int) : Nat := match n.toNat with
  | 0 => 0
  | k + 1 => Nat.log2 (k + 1) + 1
def tv_any : Int × Int := (tv_lo, tv_hi)
def tv_sr (x y : Int × Int) : Int × Int := cond (tv_le 0 y.1 && tv_le y.2 31) (x.1 / 2 ^ y.2.toNat, x.2 / 2 ^ y.1.toNat) (0, x.2)
def tv_bi (o : Nat) (x y : Int × Int) : Int × Int := match o with
  | 0 => (x.1 + y.1, x.2 + y.2)
  | 1 => (x.1 - y.2, x.2 - y.1)
  | 2 => (tv_mn (tv_mn (x.1 * y.1) (x.1 * y.2)) (tv_mn (x.2 * y.1) (x.2 * y.2)), tv_mx (tv_mx (x.1 * y.1) (x.1 * y.2)) (tv_mx (x.2 * y.1) (x.2 * y.2)))
  | 3 => cond (tv_le 0 x.1) (cond (tv_le 0 y.1) (0, tv_mn x.2 y.2) (0, x.2)) (cond (tv_le 0 y.1) (0, y.2) tv_any)
  | 4 => cond (tv_le 0 x.1 && tv_le 0 y.1) (tv_mx x.1 y.1, 2 ^ Nat.max (tv_bl x.2) (tv_bl y.2) - 1) tv_any
  | 5 => cond (tv_le 0 x.1 && tv_le 0 y.1) (0, 2 ^ Nat.max (tv_bl x.2) (tv_bl y.2) - 1) tv_any
  | 6 => cond (tv_le 0 x.1 && tv_le 0 y.1 && tv_le y.2 31 && tv_le (x.2 * 2 ^ y.2.toNat) tv_hi) (x.1 * 2 ^ y.1.toNat, x.2 * 2 ^ y.2.toNat) tv_any
  | 7 => cond (tv_le 0 x.1) (tv_sr x y) tv_any
  | _ => cond (tv_le 0 x.1) (tv_sr x y) (cond (tv_le 1 y.1 && tv_le y.2 31) (0, 2 ^ (32 - y.1.toNat) - 1) tv_any)
/-- a result that is a variable and a number, where it can be: else none -/
def tv_ex (nL o : Nat) (x y : tv_A) (X Y : Int × Int) : Option tv_A := match o with
  | 0 => cond (Nat.beq y.2.1 nL && tv_le tv_lo (X.1 + y.2.2) && tv_le (X.2 + y.2.2) tv_hi) (some (1, x.2.1, x.2.2 + y.2.2))
      (cond (Nat.beq x.2.1 nL && tv_le tv_lo (Y.1 + x.2.2) && tv_le (Y.2 + x.2.2) tv_hi) (some (1, y.2.1, y.2.2 + x.2.2)) none)
  | 1 => cond (Nat.beq y.2.1 nL && tv_le tv_lo (X.1 - y.2.2) && tv_le (X.2 - y.2.2) tv_hi) (some (1, x.2.1, x.2.2 - y.2.2)) none
  | _ => none
def tv_cut (E : tv_E) (a : tv_A) (lo hi : Int) : Option tv_E := match E[a.2.1]? with
  | some q => cond (tv_le (tv_mx q.1 (lo - a.2.2)) (tv_mn q.2 (hi - a.2.2))) (some (E.set a.2.1 (tv_mx q.1 (lo - a.2.2), tv_mn q.2 (hi - a.2.2)))) none
  | none => none
def tv_cut2 (E : tv_E) (x : tv_A) (a b : Int) (y : tv_A) (c d : Int) : Option tv_E := match tv_cut E x a b with
  | some E1 => tv_cut E1 y c d
  | none => none
/-- what a condition says of the variables: none where it can't hold. 0 eq 1 ne 2 lt 3 ge 4 gt 5 le -/
def tv_rf (E : tv_E) (c : Nat) (x y : tv_A) (X Y : Int × Int) : Option tv_E := match c with
  | 0 => tv_cut2 E x Y.1 Y.2 y X.1 X.2
  | 1 => cond (tv_eq Y.1 Y.2)
      (cond (tv_eq X.1 Y.1) (tv_cut E x (X.1 + 1) X.2) (cond (tv_eq X.2 Y.1) (tv_cut E x X.1 (X.2 - 1)) (some E)))
      (cond (tv_eq X.1 X.2) (cond (tv_eq Y.1 X.1) (tv_cut E y (Y.1 + 1) Y.2) (cond (tv_eq Y.2 X.1) (tv_cut E y Y.1 (Y.2 - 1)) (some E))) (some E))
  | 2 => tv_cut2 E x X.1 (Y.2 - 1) y (X.1 + 1) Y.2
  | 3 => tv_cut2 E y Y.1 X.2 x Y.1 X.2
  | 4 => tv_cut2 E y Y.1 (X.2 - 1) x (Y.1 + 1) X.2
  | _ => tv_cut2 E x X.1 Y.2 y X.1 Y.2
def tv_ng : Nat → Nat
  | 0 => 1
  | 1 => 0
  | 2 => 3
  | 3 => 2
  | 4 => 5
  | _ => 4
def tv_sub (E : tv_E) (a : tv_A) (t : tv_T) : Bool := match t with
  | (0, _, _) => true
  | (1, lo, hi) => match tv_iv E a with
    | some q => tv_le lo q.1 && tv_le q.2 hi
    | none => false
  | (2, _, _) => Nat.beq a.1 2
  | (3, lo, hi) => Nat.beq a.1 3 && tv_le lo (a.2.1 : Int) && tv_le a.2.2 hi
  | _ => false
def tv_k1 (L : List tv_A) (k : Nat) : List tv_A := match k with
  | 0 => L
  | i + 1 => match L[i]? with
    | some (2, _, _) => L.set i (0, 0, 0)
    | _ => L
def tv_s1 (L : List tv_A) (k : Nat) (a : tv_A) : List tv_A := (tv_k1 L k).set k a
def tv_s2 (L : List tv_A) (k : Nat) (a : tv_A) : List tv_A := ((tv_k1 L k).set k a).set (k + 1) (0, 0, 0)
def tv_fl (F : tv_F) (p k : Nat) : Option tv_A := match F with
  | [] => none
  | q :: t => cond (Nat.beq q.1.1 p && Nat.beq q.1.2 k) (some q.2) (tv_fl t p k)
def tv_fd (F : tv_F) (p k : Nat) : tv_F := F.filter (fun q => !(Nat.beq q.1.1 p && Nat.beq q.1.2 k))
def tv_mem (w : List (Nat × Nat)) (p k : Nat) : Bool := w.any (fun q => Nat.beq q.1 p && Nat.beq q.2 k)
/-- the references that vary: where, from which place to which, whether a read of them goes on place by place -/
def tv_rt : List ((Nat × Nat) × Nat × Nat × Bool) := [((0, 8), 9, 10, true), ((6, 1), 9, 10, true), ((6, 3), tt_EN, tt_EN + 8, false)]
def tv_rg (p k : Nat) : Option (Nat × Nat × Bool) := match tv_rt.find? (fun q => Nat.beq q.1.1 p && Nat.beq q.1.2 k) with
  | some q => some q.2
  | none => none
/-- all places of a range are arrays of this kind, length and type -/
def tv_ar (T : tv_TT) (t L : Nat) (ty : Int × Int) (p : Nat) : Nat → Bool
  | 0 => true
  | n + 1 => (match tt_shp[p]? with
      | some (.inr q) => Nat.beq q.1 t && Nat.beq q.2 L && tv_eq (tv_ti T p 0).1 ty.1 && tv_eq (tv_ti T p 0).2 ty.2
      | _ => false) && (match T[p]? with
      | some (.inl _) => false
      | _ => true) && tv_ar T t L ty (p + 1) n
def tv_rc : Type := Nat → tv_E → List tv_A → List tv_A → tv_F → Bool
def tv_opt (r : Option tv_E) (f : tv_E → Bool) : Bool := match r with
  | some E => f E
  | none => true
def tv_po : List tv_T → Nat → List Nat
  | [], _ => []
  | t :: ts, i => i :: tv_po ts (cond (Nat.beq t.1 2) (i + 2) (i + 1))
/-- the locals that no instruction of the method stores to -/
def tv_kq (i : Nat) : tt_Op → Bool
  | (3, k, _, _) => !(Nat.beq k i)
  | (4, k, _, _) => !(Nat.beq k i) && !(Nat.beq (k + 1) i)
  | (5, k, _, _) => !(Nat.beq k i)
  | (6, k, _, _) => !(Nat.beq k i)
  | _ => true
def tv_kp (j i : Nat) : Bool := (tt_tab.getD j []).all (fun q => tv_kq i q.2.1)
def tv_gT (ts : List tv_T) (S : List tv_A) (E : tv_E) : Bool := match ts, S with
  | [], [] => true
  | t :: ts, a :: S => tv_sub E a t && tv_gT ts S E
  | _, _ => false
def tv_gA (ts : List tv_T) (S : List tv_A) (E : tv_E) : Bool := match ts, S with
  | [], [] => true
  | t :: ts, a :: S => Nat.blt 0 t.1 && tv_sub E a t && tv_gA ts S E
  | _, _ => false
/-- the arguments narrowed by a case of the answer: none where the case can't be -/
def tv_nr (E : tv_E) (ar : List tv_A) : List (Nat × Int × Int) → Option tv_E
  | [] => some E
  | q :: t => match ar[q.1]? with
    | some a => cond (Nat.beq a.1 1) (match tv_cut E a q.2.1 q.2.2 with
        | some E1 => tv_nr E1 ar t
        | none => none) (tv_nr E ar t)
    | none => tv_nr E ar t
def tv_cs (rc : tv_rc) (pc : Nat) (E : tv_E) (L ar S : List tv_A) (F : tv_F) : List (tv_T × List (Nat × Int × Int)) → Bool
  | [] => true
  | q :: t => tv_opt (tv_nr E ar q.2) (fun E1 => match q.1 with
      | (0, _, _) => rc pc E1 L S F
      | (1, lo, hi) => rc pc (E1 ++ [(lo, hi)]) L ((1, E1.length, 0) :: S) F
      | (2, _, _) => rc pc E1 L ((2, 0, 0) :: S) F
      | (3, lo, hi) => rc pc E1 L ((3, lo.toNat, hi) :: S) F
      | _ => false) && tv_cs rc pc E L ar S F t
/-- the kind of an answer fits the method's -/
def tv_rk (r : Option FieldType) (t : tv_T) : Bool := match r with
  | none => Nat.beq t.1 0
  | some .int => Nat.beq t.1 1
  | some .boolean => Nat.beq t.1 1
  | some .char => Nat.beq t.1 1
  | some .byte => Nat.beq t.1 1
  | some .long => Nat.beq t.1 2
  | some _ => Nat.beq t.1 3
/-- the first context of that method whose arguments' types hold these -/
def tv_pick (j : Nat) (cs : List tv_C) (E : tv_E) (ar : List tv_A) (rk : Nat) : Option tv_C := match cs with
  | [] => none
  | c :: t => cond (Nat.beq c.1 j && tv_gA c.2.1 ar E && Nat.blt c.2.2.2.2.2 rk) (some c) (tv_pick j t E ar rk)
def tv_cat (S : List tv_A) : Nat := match S with
  | [] => 0
  | a :: t => cond (Nat.beq a.1 2) 2 1 + tv_cat t
def tv_isA (a : tv_A) (cls : String) : Bool := Nat.beq a.1 3 && tv_eq (a.2.1 : Int) a.2.2 && (match tt_shp[a.2.1]? with
  | some (.inl q) => (match tt_cl[q.1]? with
    | some r => decide (r.1 = cls)
    | none => false)
  | some (.inr _) => false
  | none => decide (cls = "java/lang/String") && Nat.ble tt_ST a.2.1 && Nat.blt a.2.1 (tt_ST + tt_NS))
/-- reading a reference that varies, place by place -/
def tv_each (rc : tv_rc) (pc : Nat) (E : tv_E) (L S : List tv_A) (F : tv_F) (p k q : Nat) : Nat → Bool
  | 0 => true
  | n + 1 => rc pc E L ((3, q, (q : Int)) :: S) (((p, k), (3, q, (q : Int))) :: F) && tv_each rc pc E L S F p k (q + 1) n
def tv_retv (E : tv_E) (L : List tv_A) (po : List Nat) (a : tv_A) : List (tv_T × List (Nat × Int × Int)) → Bool
  | [] => false
  | q :: t => (tv_sub E a q.1 && q.2.all (fun w => match po[w.1]? with
      | some i => (match L[i]? with
        | some b => (match tv_iv E b with
          | some I => tv_le w.2.1 I.1 && tv_le I.2 w.2.2
          | none => false)
        | none => false)
      | none => false)) || tv_retv E L po a t
def tv_hld (k : Nat) (rc : tv_rc) (pc : Nat) (E : tv_E) (L S : List tv_A) (F : tv_F) (t : Nat) : Bool := match L[k]? with
  | some a => Nat.beq a.1 t && rc pc E L (a :: S) F
  | none => false
def tv_hs1 (k : Nat) (rc : tv_rc) (pc : Nat) (E : tv_E) (L S : List tv_A) (F : tv_F) (t : Nat) : Bool := match S with
  | a :: S => Nat.beq a.1 t && rc pc E (tv_s1 L k a) S F
  | [] => false
def tv_hs2 (k : Nat) (rc : tv_rc) (pc : Nat) (E : tv_E) (L S : List tv_A) (F : tv_F) : Bool := match S with
  | a :: S => Nat.beq a.1 2 && rc pc E (tv_s2 L k a) S F
  | [] => false
def tv_hinc (k : Nat) (z : Int) (rc : tv_rc) (pc : Nat) (E : tv_E) (L S : List tv_A) (F : tv_F) : Bool := match L[k]? with
  | some a => (match tv_iv E a with
    | some q => tv_le tv_lo z && tv_le z tv_hi && cond (tv_le tv_lo (q.1 + z) && tv_le (q.2 + z) tv_hi) (rc pc E (tv_s1 L k (1, a.2.1, a.2.2 + z)) S F) (rc pc (E ++ [tv_any]) (tv_s1 L k (1, E.length, 0)) S F)
    | none => false)
  | none => false
def tv_zero (E : tv_E) (nL : Nat) : Bool := match E[nL]? with
  | some q => tv_eq q.1 0 && tv_eq q.2 0
  | none => false
def tv_hcon (nL : Nat) (z : Int) (rc : tv_rc) (pc : Nat) (E : tv_E) (L S : List tv_A) (F : tv_F) : Bool := tv_zero E nL && tv_le tv_lo z && tv_le z tv_hi && rc pc E L ((1, nL, z) :: S) F
def tv_hib (nL o : Nat) (rc : tv_rc) (pc : Nat) (E : tv_E) (L S : List tv_A) (F : tv_F) : Bool := match S with
  | y :: x :: S => (match tv_iv E x, tv_iv E y with
    | some X, some Y => tv_zero E nL && (match tv_ex nL o x y X Y with
      | some r => rc pc E L (r :: S) F
      | none => rc pc (E ++ [tv_nw (tv_bi o X Y)]) L ((1, E.length, 0) :: S) F)
    | _, _ => false)
  | _ => false
def tv_hdiv (rc : tv_rc) (pc : Nat) (E : tv_E) (L S : List tv_A) (F : tv_F) : Bool := match S with
  | y :: x :: S => (match tv_iv E x, tv_iv E y with
    | some X, some Y => tv_le 1 Y.1 && rc pc (E ++ [cond (tv_le 0 X.1) (X.1 / Y.2, X.2 / Y.1) (tv_mn X.1 0, tv_mx X.2 0)]) L ((1, E.length, 0) :: S) F
    | _, _ => false)
  | _ => false
def tv_hrem (rc : tv_rc) (pc : Nat) (E : tv_E) (L S : List tv_A) (F : tv_F) : Bool := match S with
  | y :: x :: S => (match tv_iv E x, tv_iv E y with
    | some X, some Y => tv_le 1 Y.1 && rc pc (E ++ [cond (tv_le 0 X.1) (0, tv_mn X.2 (Y.2 - 1)) (1 - Y.2, Y.2 - 1)]) L ((1, E.length, 0) :: S) F
    | _, _ => false)
  | _ => false
def tv_hneg (rc : tv_rc) (pc : Nat) (E : tv_E) (L S : List tv_A) (F : tv_F) : Bool := match S with
  | x :: S => (match tv_iv E x with
    | some X => rc pc (E ++ [tv_nw (-X.2, -X.1)]) L ((1, E.length, 0) :: S) F
    | none => false)
  | _ => false
/-- two operands of these kinds: a long; a number of an interval -/
def tv_hll (s t : Nat) (rc : tv_rc) (pc : Nat) (E : tv_E) (L S : List tv_A) (F : tv_F) : Bool := match S with
  | y :: x :: S => Nat.beq y.1 s && Nat.beq x.1 t && rc pc E L ((2, 0, 0) :: S) F
  | _ => false
def tv_hcmp (rc : tv_rc) (pc : Nat) (E : tv_E) (L S : List tv_A) (F : tv_F) : Bool := match S with
  | y :: x :: S => Nat.beq y.1 2 && Nat.beq x.1 2 && rc pc (E ++ [(-1, 1)]) L ((1, E.length, 0) :: S) F
  | _ => false
def tv_hcv (o : Nat) (rc : tv_rc) (pc : Nat) (E : tv_E) (L S : List tv_A) (F : tv_F) : Bool := match S with
  | x :: S => (match o with
    | 0 => Nat.beq x.1 1 && rc pc E L ((2, 0, 0) :: S) F
    | 1 => Nat.beq x.1 2 && rc pc (E ++ [tv_any]) L ((1, E.length, 0) :: S) F
    | 2 => (match tv_iv E x with
      | some X => cond (tv_le 0 X.1 && tv_le X.2 65535) (rc pc E L (x :: S) F) (rc pc (E ++ [(0, 65535)]) L ((1, E.length, 0) :: S) F)
      | none => false)
    | _ => false)
  | _ => false
def tv_hdup (rc : tv_rc) (pc : Nat) (E : tv_E) (L S : List tv_A) (F : tv_F) : Bool := match S with
  | x :: S => (Nat.beq x.1 1 || Nat.beq x.1 3) && rc pc E L (x :: x :: S) F
  | _ => false
def tv_hpop (rc : tv_rc) (pc : Nat) (E : tv_E) (L S : List tv_A) (F : tv_F) : Bool := match S with
  | x :: S => (Nat.beq x.1 1 || Nat.beq x.1 3) && rc pc E L S F
  | _ => false
/-- an object's place, of class ci -/
def tv_ob (a : tv_A) (ci : Nat) : Option (List Nat) := cond (Nat.beq a.1 3 && tv_eq (a.2.1 : Int) a.2.2) (match tt_shp[a.2.1]? with
  | some (.inl q) => cond (Nat.beq q.1 ci) (some q.2) none
  | _ => none) none
def tv_hgi (T : tv_TT) (p k : Nat) (rc : tv_rc) (pc : Nat) (E : tv_E) (L S : List tv_A) (F : tv_F) : Bool := match tv_fl F p k with
  | some a => Nat.beq a.1 1 && rc pc E L (a :: S) F
  | none => rc pc (E ++ [tv_ti T p k]) L ((1, E.length, 0) :: S) (((p, k), (1, E.length, 0)) :: F)
def tv_hgr (p k : Nat) (rc : tv_rc) (pc : Nat) (E : tv_E) (L S : List tv_A) (F : tv_F) : Bool := match tv_fl F p k with
  | some a => Nat.beq a.1 3 && rc pc E L (a :: S) F
  | none => (match tv_rg p k with
    | some q => cond q.2.2 (tv_each rc pc E L S F p k q.1 (q.2.1 + 1 - q.1)) (rc pc E L ((3, q.1, (q.2.1 : Int)) :: S) F)
    | none => false)
def tv_hget (T : tv_TT) (o : Nat) (rc : tv_rc) (pc : Nat) (E : tv_E) (L S : List tv_A) (F : tv_F) : Bool := match S with
  | a :: S => (match tv_ob a (o / 64) with
    | some ks => (match ks[o % 64]? with
      | some kd => (match kd with
        | 0 => tv_hgi T a.2.1 (o % 64) rc pc E L S F
        | 1 => tv_hgi T a.2.1 (o % 64) rc pc E L S F
        | 2 => false
        | 3 => tv_hgr a.2.1 (o % 64) rc pc E L S F
        | r + 4 => rc pc E L ((3, r, (r : Int)) :: S) F)
      | none => false)
    | none => false)
  | _ => false
def tv_hput (T : tv_TT) (w : List (Nat × Nat)) (o : Nat) (rc : tv_rc) (pc : Nat) (E : tv_E) (L S : List tv_A) (F : tv_F) : Bool := match S with
  | v :: a :: S => (match tv_ob a (o / 64) with
    | some ks => tv_mem w a.2.1 (o % 64) && (match ks[o % 64]? with
      | some kd => (match kd with
        | 0 => tv_sub E v (1, tv_ti T a.2.1 (o % 64)) && rc pc E L S (((a.2.1, o % 64), v) :: tv_fd F a.2.1 (o % 64))
        | 1 => tv_sub E v (1, tv_ti T a.2.1 (o % 64)) && tv_sub E v (1, 0, 1) && rc pc E L S (((a.2.1, o % 64), v) :: tv_fd F a.2.1 (o % 64))
        | 3 => (match tv_rg a.2.1 (o % 64) with
          | some q => tv_sub E v (3, (q.1 : Int), (q.2.1 : Int)) && rc pc E L S (((a.2.1, o % 64), v) :: tv_fd F a.2.1 (o % 64))
          | none => false)
        | _ => false)
      | none => false)
    | none => false)
  | _ => false
/-- an array's place or places, an index: kind, length -/
def tv_ix (E : tv_E) (i a : tv_A) : Option (Nat × Nat) := cond (Nat.beq a.1 3) (match tv_iv E i, tt_shp[a.2.1]? with
  | some I, some (.inr q) => cond (tv_le 0 I.1 && tv_le (I.2 + 1) (q.2 : Int)) (some q) none
  | _, _ => none) none
def tv_all (T : tv_TT) (a : tv_A) (t N : Nat) : Bool := tv_ar T t N (tv_ti T a.2.1 0) a.2.1 (a.2.2.toNat + 1 - a.2.1)
def tv_hald (T : tv_TT) (o : Nat) (rc : tv_rc) (pc : Nat) (E : tv_E) (L S : List tv_A) (F : tv_F) : Bool := match S with
  | i :: a :: S => (match tv_ix E i a with
    | some q => (match o with
      | 0 => tv_all T a 0 q.2 && rc pc (E ++ [tv_ti T a.2.1 0]) L ((1, E.length, 0) :: S) F
      | 1 => tv_all T a 1 q.2 && rc pc E L ((2, 0, 0) :: S) F
      | 2 => tv_all T a 2 q.2 && rc pc (E ++ [tv_ti T a.2.1 0]) L ((1, E.length, 0) :: S) F
      | 3 => Nat.ble 3 q.1 && tv_eq (a.2.1 : Int) a.2.2 && rc pc E L ((3, q.1 - 3, ((q.1 - 3 + q.2 - 1 : Nat) : Int)) :: S) F
      | _ => false)
    | none => false)
  | _ => false
def tv_hast (T : tv_TT) (o : Nat) (rc : tv_rc) (pc : Nat) (E : tv_E) (L S : List tv_A) (F : tv_F) : Bool := match S with
  | v :: i :: a :: S => (match tv_ix E i a with
    | some q => (match o with
      | 0 => tv_all T a 0 q.2 && tv_sub E v (1, tv_ti T a.2.1 0) && rc pc E L S F
      | 1 => tv_all T a 1 q.2 && Nat.beq v.1 2 && rc pc E L S F
      | 2 => tv_all T a 2 q.2 && tv_sub E v (1, tv_ti T a.2.1 0) && tv_sub E v (1, 0, 1) && rc pc E L S F
      | _ => false)
    | none => false)
  | _ => false
def tv_hlen (T : tv_TT) (nL : Nat) (rc : tv_rc) (pc : Nat) (E : tv_E) (L S : List tv_A) (F : tv_F) : Bool := match S with
  | a :: S => Nat.beq a.1 3 && tv_zero E nL && (match tt_shp[a.2.1]? with
    | some (.inr q) => tv_all T a q.1 q.2 && tv_le (q.2 : Int) tv_hi && rc pc E L ((1, nL, (q.2 : Int)) :: S) F
    | _ => false)
  | _ => false
def tv_hif (nL : Nat) (z : Int) (rc : tv_rc) (pt pc : Nat) (E : tv_E) (L S : List tv_A) (F : tv_F) : Bool := match S with
  | x :: S => (match tv_iv E x with
    | some X => tv_zero E nL && tv_le 0 z && tv_le z 5 && tv_opt (tv_rf E z.toNat x (1, nL, 0) X (0, 0)) (fun E1 => rc pt E1 L S F) && tv_opt (tv_rf E (tv_ng z.toNat) x (1, nL, 0) X (0, 0)) (fun E1 => rc pc E1 L S F)
    | none => false)
  | _ => false
def tv_hic (z : Int) (rc : tv_rc) (pt pc : Nat) (E : tv_E) (L S : List tv_A) (F : tv_F) : Bool := match S with
  | y :: x :: S => (match tv_iv E x, tv_iv E y with
    | some X, some Y => tv_le 0 z && tv_le z 5 && tv_opt (tv_rf E z.toNat x y X Y) (fun E1 => rc pt E1 L S F) && tv_opt (tv_rf E (tv_ng z.toNat) x y X Y) (fun E1 => rc pc E1 L S F)
    | _, _ => false)
  | _ => false
def tv_dj (x y : tv_A) : Bool := tv_le (x.2.2 + 1) (y.2.1 : Int) || tv_le (y.2.2 + 1) (x.2.1 : Int)
def tv_sm (x y : tv_A) : Bool := tv_eq (x.2.1 : Int) x.2.2 && tv_eq (y.2.1 : Int) y.2.2 && Nat.beq x.2.1 y.2.1
def tv_hac (z : Int) (rc : tv_rc) (pt pc : Nat) (E : tv_E) (L S : List tv_A) (F : tv_F) : Bool := match S with
  | y :: x :: S => Nat.beq y.1 3 && Nat.beq x.1 3 && tv_le (y.2.2 + 1) (tt_NQ : Int) && tv_le (x.2.2 + 1) (tt_NQ : Int) &&
      cond (tv_eq z 0) ((tv_dj x y || rc pt E L S F) && (tv_sm x y || rc pc E L S F)) ((tv_sm x y || rc pt E L S F) && (tv_dj x y || rc pc E L S F))
  | _ => false
def tv_hsw (zz : List (Int × Nat)) (rc : tv_rc) (pt : Nat) (E : tv_E) (L S : List tv_A) (F : tv_F) : Bool := match S with
  | x :: S => Nat.beq x.1 1 && zz.all (fun q => tv_opt (tv_cut E x q.1 q.1) (fun E1 => rc q.2 E1 L S F)) && rc pt E L S F
  | _ => false
def tv_hret (c : tv_C) (o : Nat) (E : tv_E) (L S : List tv_A) : Bool := match S with
  | [] => Nat.beq o 0 && tv_retv E L (tv_po c.2.1 0) (0, 0, 0) c.2.2.2.1
  | [a] => (match o with
    | 1 => (match tt_r c.1 with
      | some .int => Nat.beq a.1 1
      | some .boolean => tv_sub E a (1, 0, 1)
      | _ => false) && tv_retv E L (tv_po c.2.1 0) a c.2.2.2.1
    | 2 => Nat.beq a.1 2 && tv_retv E L (tv_po c.2.1 0) a c.2.2.2.1
    | 3 => Nat.beq a.1 3 && tv_retv E L (tv_po c.2.1 0) a c.2.2.2.1
    | _ => false)
  | _ => false
def tv_hcal (cx : Nat → List tv_C) (c : tv_C) (j2 : Nat) (rc : tv_rc) (pc : Nat) (E : tv_E) (L ar S : List tv_A) (F : tv_F) : Bool :=
  Nat.beq ar.length (tt_p j2 + cond (tt_s j2) 0 1) && Nat.ble (tv_cat S) 8 && Nat.ble (tv_cat ar) (tt_n j2) && (tt_s j2 || (match ar with
    | a :: _ => tv_isA a (tt_y j2).cls
    | [] => false)) && (match tv_pick j2 (cx j2) E ar c.2.2.2.2.2 with
  | some c2 => c2.2.2.2.2.1.all (fun q => tv_mem c.2.2.2.2.1 q.1 q.2) && tv_cs rc pc E L ar S (F.filter (fun q => !(tv_mem c2.2.2.2.2.1 q.1.1 q.1.2))) c2.2.2.2.1
  | none => false)
/-- Math.abs, min, max -/
def tv_mi (o : Nat) (x y : Int × Int) : Int × Int := match o with
  | 0 => cond (tv_le 0 x.1) x (cond (tv_le (tv_lo + 1) x.1) (0, tv_mx (-x.1) x.2) tv_any)
  | 1 => (tv_mn x.1 y.1, tv_mn x.2 y.2)
  | _ => (tv_mx x.1 y.1, tv_mx x.2 y.2)
def tv_hmth (rk o : Nat) (rc : tv_rc) (pc : Nat) (E : tv_E) (L S : List tv_A) (F : tv_F) : Bool := Nat.blt 0 rk && (match o with
  | 0 => (match S with
    | x :: S => (match tv_iv E x with
      | some X => Nat.ble (tv_cat S) 8 && rc pc (E ++ [tv_mi 0 X X]) L ((1, E.length, 0) :: S) F
      | none => false)
    | _ => false)
  | 1 => (match S with
    | y :: x :: S => (match tv_iv E x, tv_iv E y with
      | some X, some Y => Nat.ble (tv_cat S) 8 && rc pc (E ++ [tv_mi 1 X Y]) L ((1, E.length, 0) :: S) F
      | _, _ => false)
    | _ => false)
  | 2 => (match S with
    | y :: x :: S => (match tv_iv E x, tv_iv E y with
      | some X, some Y => Nat.ble (tv_cat S) 8 && rc pc (E ++ [tv_mi 2 X Y]) L ((1, E.length, 0) :: S) F
      | _, _ => false)
    | _ => false)
  | _ => false)
def tv_step (T : tv_TT) (cx : Nat → List tv_C) (c : tv_C) (rc : tv_rc) (pc : Nat) (E : tv_E) (L S : List tv_A) (F : tv_F) : Bool := match tt_at c.1 pc with
  | none => false
  | some ((t, a, z, zz), n) => match t with
    | 0 => tv_hld a rc (pc + n) E L S F 1
    | 1 => tv_hld a rc (pc + n) E L S F 2
    | 2 => tv_hld a rc (pc + n) E L S F 3
    | 3 => tv_hs1 a rc (pc + n) E L S F 1
    | 4 => tv_hs2 a rc (pc + n) E L S F
    | 5 => tv_hs1 a rc (pc + n) E L S F 3
    | 6 => tv_hinc a z rc (pc + n) E L S F
    | 7 => tv_hcon (tt_n c.1) z rc (pc + n) E L S F
    | 8 => rc (pc + n) E L ((2, 0, 0) :: S) F
    | 9 => tv_hib (tt_n c.1) a rc (pc + n) E L S F
    | 10 => tv_hdiv rc (pc + n) E L S F
    | 11 => tv_hrem rc (pc + n) E L S F
    | 12 => tv_hneg rc (pc + n) E L S F
    | 13 => tv_hll 2 2 rc (pc + n) E L S F
    | 14 => tv_hll 1 2 rc (pc + n) E L S F
    | 15 => tv_hcmp rc (pc + n) E L S F
    | 16 => tv_hcv a rc (pc + n) E L S F
    | 17 => tv_hdup rc (pc + n) E L S F
    | 18 => tv_hpop rc (pc + n) E L S F
    | 19 => tv_hget T a rc (pc + n) E L S F
    | 20 => tv_hput T c.2.2.2.2.1 a rc (pc + n) E L S F
    | 21 => tv_hald T a rc (pc + n) E L S F
    | 22 => tv_hast T a rc (pc + n) E L S F
    | 23 => tv_hlen T (tt_n c.1) rc (pc + n) E L S F
    | 24 => rc a E L S F
    | 25 => tv_hif (tt_n c.1) z rc a (pc + n) E L S F
    | 26 => tv_hic z rc a (pc + n) E L S F
    | 27 => tv_hac z rc a (pc + n) E L S F
    | 28 => tv_hsw zz rc a E L S F
    | 29 => tv_hret c a E L S
    | 30 => tv_hcal cx c a rc (pc + n) E L (S.take (tt_p a + cond (tt_s a) 0 1)).reverse (S.drop (tt_p a + cond (tt_s a) 0 1)) F
    | 31 => rc (pc + n) E L ((3, a, (a : Int)) :: S) F
    | 33 => rc (pc + n) E L ((3, a, (a : Int)) :: S) F
    | 36 => tv_hmth c.2.2.2.2.2 a rc (pc + n) E L S F
    | _ => false
/-- a head's measure: terms sg * local + k, the first that differs decides -/
def tv_tm (E : tv_E) (a : tv_A) (sg k : Int) : Option (Int × Int) := cond (tv_eq sg 0) (some (k, k)) (match tv_iv E a with
  | some q => cond (tv_eq sg 1) (some (q.1 + k, q.2 + k)) (cond (tv_eq sg (-1)) (some (k - q.2, k - q.1)) none)
  | none => none)
def tv_lex (E : tv_E) (L : List tv_A) : tv_M → tv_M → Bool
  | s :: ss, t :: ts => match L[t.2.1]? with
    | some b => (match (cond (tv_eq s.1 t.1 && !(tv_eq s.1 0) && Nat.beq b.1 1 && Nat.beq b.2.1 s.2.1 && (tv_eq s.1 1 || tv_eq s.1 (-1)))
          (some (s.1 * b.2.2 + t.2.2 - s.2.2, s.1 * b.2.2 + t.2.2 - s.2.2))
          (match tv_tm E (1, s.2.1, 0) s.1 s.2.2, tv_tm E b t.1 t.2.2 with
            | some S1, some T1 => some (T1.1 - S1.2, T1.2 - S1.1)
            | _, _ => none)) with
      | some D => cond (tv_le (D.2 + 1) 0) true (tv_eq D.1 0 && tv_eq D.2 0 && tv_lex E L ss ts)
      | none => false)
    | none => false
  | _, _ => false
def tv_hd (hs : List tv_H) (pc : Nat) : Option tv_H := hs.find? (fun h => Nat.beq h.1 pc)
/-- an edge to a head: types and measure -/
def tv_edge (src : Option tv_M) (E : tv_E) (L : List tv_A) (h : tv_H) : Bool := tv_gT h.2.1 L E && (match src with
  | none => true
  | some m => tv_lex E L m h.2.2)
def tv_run (T : tv_TT) (cx : Nat → List tv_C) (c : tv_C) (src : Option tv_M) : Nat → tv_rc
  | 0 => fun _ _ _ _ _ => false
  | f + 1 => fun pc E L S F => tv_step T cx c (fun pc E L S F => match tv_hd c.2.2.1 pc with
      | some h => (match S with
        | [] => tv_edge src E L h
        | _ => false)
      | none => tv_run T cx c src f pc E L S F) pc E L S F
def tv_E0 : List tv_T → tv_E
  | [] => [(0, 0)]
  | t :: ts => cond (Nat.beq t.1 1) (t.2.1, t.2.2) (0, 0) :: tv_E0 ts
def tv_L1 (t : tv_T) (i : Nat) : tv_A := match t with
  | (1, _, _) => (1, i, 0)
  | (2, _, _) => (2, 0, 0)
  | (3, lo, hi) => (3, lo.toNat, hi)
  | _ => (0, 0, 0)
def tv_L0 : List tv_T → Nat → List tv_A
  | [], _ => []
  | t :: ts, i => tv_L1 t i :: tv_L0 ts (i + 1)
/-- the types of the locals at the entry -/
def tv_en (n : Nat) : List tv_T → List tv_T
  | [] => List.replicate n (0, 0, 0)
  | t :: ts => cond (Nat.beq t.1 2) ((2, 0, 0) :: (0, 0, 0) :: tv_en (n - 2) ts) (t :: tv_en (n - 1) ts)
def tv_tok (t : tv_T) : Bool := match t with
  | (3, lo, _) => tv_le 0 lo
  | _ => true
def tv_mok (h : tv_H) : Bool := h.2.2.all (fun t => cond (tv_eq t.1 0) (tv_le 0 t.2.2) (match h.2.1[t.2.1]? with
  | some (1, lo, hi) => cond (tv_eq t.1 1) (tv_le 0 (lo + t.2.2)) (cond (tv_eq t.1 (-1)) (tv_le 0 (t.2.2 - hi)) false)
  | _ => false) && tv_le t.2.2 1099511627775) && Nat.beq h.2.2.length 5
/-- a context is right -/
def tv_ck (T : tv_TT) (cx : Nat → List tv_C) (f : Nat) (c : tv_C) : Bool :=
  c.2.1.all tv_tok && c.2.2.1.all (fun h => h.2.1.all tv_tok && tv_mok h && Nat.beq h.2.1.length (tt_n c.1)) && c.2.2.2.1.all (fun q => tv_rk (tt_r c.1) q.1 && tv_tok q.1 && q.2.all (fun w => (match (tv_po c.2.1 0)[w.1]? with
    | some i => tv_kp c.1 i
    | none => false) && (match c.2.1[w.1]? with
    | some t => Nat.beq t.1 1
    | none => false))) &&
  Nat.beq (tv_en (tt_n c.1) c.2.1).length (tt_n c.1) && tv_run T cx c none f 0 (tv_E0 (tv_en (tt_n c.1) c.2.1)) (tv_L0 (tv_en (tt_n c.1) c.2.1) 0) [] [] &&
  c.2.2.1.all (fun h => tv_run T cx c (some h.2.2) f h.1 (tv_E0 h.2.1) (tv_L0 h.2.1 0) [] [])
end
section
/-! ===== the checker is right: the meaning of its states ===== -/
theorem tv_le_iff (a b : Int) : tv_le a b = true ↔ a ≤ b := by
  cases a with
  | ofNat m =>
    cases b with
    | ofNat n => show Nat.ble m n = true ↔ (m : Int) ≤ (n : Int); rw [Nat.ble_eq]; omega
    | negSucc n =>
      show false = true ↔ (m : Int) ≤ Int.negSucc n
      constructor
      · intro h; cases h
      · intro h; omega
  | negSucc m =>
    cases b with
    | ofNat n =>
      show true = true ↔ Int.negSucc m ≤ (n : Int)
      constructor
      · intro _; omega
      · intro _; rfl
    | negSucc n => show Nat.ble n m = true ↔ Int.negSucc m ≤ Int.negSucc n; rw [Nat.ble_eq]; omega
theorem tv_eq_iff (a b : Int) : tv_eq a b = true ↔ a = b := by
  unfold tv_eq
  rw [Bool.and_eq_true, tv_le_iff, tv_le_iff]
  omega
theorem tv_mx_eq (a b : Int) : tv_mx a b = max a b := by
  unfold tv_mx
  cases h : tv_le a b with
  | true => have := (tv_le_iff a b).mp h; simp only [cond_true]; omega
  | false => have := mt (tv_le_iff a b).mpr (by rw [h]; decide); simp only [cond_false]; omega
theorem tv_mn_eq (a b : Int) : tv_mn a b = min a b := by
  unfold tv_mn
  cases h : tv_le a b with
  | true => have := (tv_le_iff a b).mp h; simp only [cond_true]; omega
  | false => have := mt (tv_le_iff a b).mpr (by rw [h]; decide); simp only [cond_false]; omega
theorem tv_beq {a b : Nat} (h : Nat.beq a b = true) : a = b := Nat.eq_of_beq_eq_true h
def tv_gE (ρ : List Int) (E : tv_E) : Prop := ρ.length = E.length ∧ ∀ (v : Nat) (m : Int) (q : Int × Int), ρ[v]? = some m → E[v]? = some q → q.1 ≤ m ∧ m ≤ q.2
def tv_gv (ρ : List Int) (a : tv_A) (x : Value) : Prop :=
  (a.1 = 1 ∧ ∃ (n : Int32) (m : Int), x = .int n ∧ ρ[a.2.1]? = some m ∧ n.toInt = m + a.2.2) ∨ (a.1 = 2 ∧ ∃ n : Int64, x = .long n) ∨ (a.1 = 3 ∧ ∃ k : Nat, x = .ref k ∧ a.2.1 ≤ k ∧ (k : Int) ≤ a.2.2)
def tv_gs (ρ : List Int) : List tv_A → List Value → Prop
  | [], [] => True
  | a :: S, x :: st => tv_gv ρ a x ∧ tv_gs ρ S st
  | _, _ => False
def tv_kd (k j : Nat) : Option Nat := match tt_shp[k]? with
  | some (.inl q) => q.2[j]?
  | _ => none
def tv_gF (ρ : List Int) (q : (Nat × Nat) × tv_A) (σ : tm_S) : Prop := ∀ kd, tv_kd q.1.1 q.1.2 = some kd → tv_gv ρ q.2 (tm_val σ q.1.1 q.1.2 kd)
def tv_TY (T : tv_TT) (σ : tm_S) : Prop := (∀ k j : Nat, (tv_ti T k j).1 ≤ (σ.1 k j).toInt ∧ (σ.1 k j).toInt ≤ (tv_ti T k j).2) ∧ ∀ q ∈ tv_rt, q.2.1 ≤ σ.2.2 q.1.1 q.1.2 ∧ σ.2.2 q.1.1 q.1.2 ≤ q.2.2.1
def tv_un (σ0 σ : tm_S) (w : List (Nat × Nat)) : Prop := ∀ k j kd : Nat, tv_kd k j = some kd → tv_mem w k j = false → tm_val σ k j kd = tm_val σ0 k j kd
def tv_g (T : tv_TT) (c : tv_C) (A0 : List (Nat × Value)) (σ0 : tm_S) (ρ0 ρ : List Int) (E : tv_E) (L S : List tv_A) (F : tv_F) (ls : List (Nat × Value)) (st : List Value) (σ : tm_S) : Prop :=
  tv_gE ρ E ∧ (∀ (i : Nat) (m : Int), ρ0[i]? = some m → ρ[i]? = some m) ∧ (∀ (i : Nat) (a : tv_A), L[i]? = some a → a.1 ≠ 0 → ∃ x, (i, x) ∈ ls ∧ tv_gv ρ a x) ∧ tv_gs ρ S st ∧ (∀ q ∈ F, tv_gF ρ q σ) ∧ (tv_TY T σ ∧ tv_un σ0 σ c.2.2.2.2.1) ∧ (∀ q ∈ A0, tv_kp c.1 q.1 = true → ¬ q.2.category = 2 → q ∈ ls) ∧ (∀ (i : Nat) (x y : Value), (i, x) ∈ ls → (i, y) ∈ ls → x = y)
def tv_SD (T : tv_TT) (c : tv_C) (A0 : List (Nat × Value)) (σ0 : tm_S) (ρ0 : List Int) (Q : Option Value → tm_S → Prop) (pc : Nat) (E : tv_E) (L S : List tv_A) (F : tv_F) : Prop :=
  ∀ (ρ : List Int) (ls : List (Nat × Value)) (st : List Value) (σ : tm_S), tv_g T c A0 σ0 ρ0 ρ E L S F ls st σ → WP c.2.2.2.2.2 c.1 pc ls st σ Q
theorem tv_gv_ext {ρ : List Int} {a : tv_A} {x : Value} (m : Int) (h : tv_gv ρ a x) : tv_gv (ρ ++ [m]) a x := by
  rcases h with ⟨h1, n, k, h2, h3, h4⟩ | h | h
  · refine Or.inl ⟨h1, n, k, h2, ?_, h4⟩
    rw [List.getElem?_append_left (List.getElem?_eq_some_iff.mp h3).1]
    exact h3
  · exact Or.inr (Or.inl h)
  · exact Or.inr (Or.inr h)
theorem tv_gs_ext {ρ : List Int} (m : Int) : ∀ {S : List tv_A} {st : List Value}, tv_gs ρ S st → tv_gs (ρ ++ [m]) S st
  | [], [], _ => trivial
  | _ :: _, _ :: _, h => ⟨tv_gv_ext m h.1, tv_gs_ext m h.2⟩
  | [], _ :: _, h => h.elim
  | _ :: _, [], h => h.elim
theorem tv_gE_ext {ρ : List Int} {E : tv_E} (h : tv_gE ρ E) {m : Int} {r : Int × Int} (h1 : r.1 ≤ m) (h2 : m ≤ r.2) : tv_gE (ρ ++ [m]) (E ++ [r]) := by
  refine ⟨by simp [h.1], fun v k q hk hq => ?_⟩
  by_cases hv : v < ρ.length
  · rw [List.getElem?_append_left hv] at hk
    rw [List.getElem?_append_left (by rw [← h.1]; exact hv)] at hq
    exact h.2 v k q hk hq
  · rw [List.getElem?_append_right (by omega)] at hk
    rw [List.getElem?_append_right (by rw [← h.1]; omega)] at hq
    have hz : v - ρ.length < 1 := (List.getElem?_eq_some_iff.mp hk).1
    rw [show v - ρ.length = 0 by omega] at hk
    rw [← h.1, show v - ρ.length = 0 by omega] at hq
    cases hk
    cases hq
    exact ⟨h1, h2⟩
section TVG
variable {T : tv_TT} {c : tv_C} {A0 : List (Nat × Value)} {σ0 : tm_S} {ρ0 ρ : List Int} {E : tv_E} {L S : List tv_A} {F : tv_F} {ls : List (Nat × Value)} {st : List Value} {σ : tm_S} {Q : Option Value → tm_S → Prop}
theorem tv_push (g : tv_g T c A0 σ0 ρ0 ρ E L S F ls st σ) {a : tv_A} {x : Value} (hv : tv_gv ρ a x) : tv_g T c A0 σ0 ρ0 ρ E L (a :: S) F ls (x :: st) σ := ⟨g.1, g.2.1, g.2.2.1, ⟨hv, g.2.2.2.1⟩, g.2.2.2.2⟩
theorem tv_pop {a : tv_A} (g : tv_g T c A0 σ0 ρ0 ρ E L (a :: S) F ls st σ) : ∃ (x : Value) (st' : List Value), st = x :: st' ∧ tv_gv ρ a x ∧ tv_g T c A0 σ0 ρ0 ρ E L S F ls st' σ := by
  cases st with
  | nil => exact g.2.2.2.1.elim
  | cons x st' => exact ⟨x, st', rfl, g.2.2.2.1.1, g.1, g.2.1, g.2.2.1, g.2.2.2.1.2, g.2.2.2.2⟩
theorem tv_ext (g : tv_g T c A0 σ0 ρ0 ρ E L S F ls st σ) {m : Int} {r : Int × Int} (h1 : r.1 ≤ m) (h2 : m ≤ r.2) : tv_g T c A0 σ0 ρ0 (ρ ++ [m]) (E ++ [r]) L S F ls st σ := by
  refine ⟨tv_gE_ext g.1 h1 h2, fun i k hk => ?_, fun i a ha hn => ?_, tv_gs_ext m g.2.2.2.1, fun q hq kd hkd => tv_gv_ext m (g.2.2.2.2.1 q hq kd hkd), g.2.2.2.2.2⟩
  · have h3 := g.2.1 i k hk
    rw [List.getElem?_append_left (List.getElem?_eq_some_iff.mp h3).1]
    exact h3
  · obtain ⟨x, hx, hv⟩ := g.2.2.1 i a ha hn
    exact ⟨x, hx, tv_gv_ext m hv⟩
theorem tv_gv_new (h : tv_gE ρ E) (x : Int32) : tv_gv (ρ ++ [x.toInt]) (1, E.length, 0) (.int x) := by
  refine Or.inl ⟨rfl, x, x.toInt, rfl, ?_, by simp⟩
  show (ρ ++ [x.toInt])[E.length]? = some x.toInt
  rw [← h.1, List.getElem?_append_right (Nat.le_refl _)]
  simp
theorem tv_new (g : tv_g T c A0 σ0 ρ0 ρ E L S F ls st σ) {x : Int32} {r : Int × Int} (h1 : r.1 ≤ x.toInt) (h2 : x.toInt ≤ r.2) : tv_g T c A0 σ0 ρ0 (ρ ++ [x.toInt]) (E ++ [r]) L ((1, E.length, 0) :: S) F ls (.int x :: st) σ := tv_push (tv_ext g h1 h2) (tv_gv_new g.1 x)
theorem tv_gi {a : tv_A} {x : Value} (h : tv_gv ρ a x) (ha : a.1 = 1) : ∃ (n : Int32) (m : Int), x = .int n ∧ ρ[a.2.1]? = some m ∧ n.toInt = m + a.2.2 := by
  rcases h with ⟨-, h⟩ | ⟨e, -⟩ | ⟨e, -⟩
  · exact h
  · omega
  · omega
theorem tv_gl {a : tv_A} {x : Value} (h : tv_gv ρ a x) (ha : a.1 = 2) : ∃ n : Int64, x = .long n := by
  rcases h with ⟨e, -⟩ | ⟨-, h⟩ | ⟨e, -⟩
  · omega
  · exact h
  · omega
theorem tv_gr {a : tv_A} {x : Value} (h : tv_gv ρ a x) (ha : a.1 = 3) : ∃ k : Nat, x = .ref k ∧ a.2.1 ≤ k ∧ (k : Int) ≤ a.2.2 := by
  rcases h with ⟨e, -⟩ | ⟨e, -⟩ | ⟨-, h⟩
  · omega
  · omega
  · exact h
theorem tv_long (n : Int64) : tv_gv ρ (2, 0, 0) (.long n) := Or.inr (Or.inl ⟨rfl, n, rfl⟩)
theorem tv_ref (k : Nat) : tv_gv ρ (3, k, (k : Int)) (.ref k) := Or.inr (Or.inr ⟨rfl, k, rfl, Nat.le_refl _, Int.le_refl _⟩)
theorem tv_iv_ok {a : tv_A} {x : Value} {q : Int × Int} (h : tv_iv E a = some q) (hE : tv_gE ρ E) (hv : tv_gv ρ a x) : a.1 = 1 ∧ ∃ (n : Int32) (m : Int), x = .int n ∧ ρ[a.2.1]? = some m ∧ n.toInt = m + a.2.2 ∧ q.1 ≤ n.toInt ∧ n.toInt ≤ q.2 := by
  unfold tv_iv at h
  split at h
  · rename_i v o
    split at h
    · rename_i r hr
      cases h
      obtain ⟨n, m, h1, h2, h3⟩ := tv_gi hv rfl
      have h4 := hE.2 v m r h2 hr
      exact ⟨rfl, n, m, h1, h2, h3, by dsimp only at h3 ⊢; omega, by dsimp only at h3 ⊢; omega⟩
    · cases h
  · cases h
theorem tv_zero_ok {nL : Nat} (h : tv_zero E nL = true) (hE : tv_gE ρ E) : ρ[nL]? = some 0 := by
  unfold tv_zero at h
  split at h
  · rename_i q hq
    simp only [Bool.and_eq_true, tv_eq_iff] at h
    have hl : nL < ρ.length := by rw [hE.1]; exact (List.getElem?_eq_some_iff.mp hq).1
    have h1 := List.getElem?_eq_getElem hl
    have h2 := hE.2 nL _ q h1 hq
    rw [h1, show ρ[nL] = 0 by omega]
  · cases h
theorem tv_cut_ok {a : tv_A} {n : Int32} {m lo hi : Int} (hE : tv_gE ρ E) (hm : ρ[a.2.1]? = some m) (hn : n.toInt = m + a.2.2) (h1 : lo ≤ n.toInt) (h2 : n.toInt ≤ hi) : ∃ E1, tv_cut E a lo hi = some E1 ∧ tv_gE ρ E1 := by
  have hl : a.2.1 < E.length := by rw [← hE.1]; exact (List.getElem?_eq_some_iff.mp hm).1
  have hq := List.getElem?_eq_getElem hl
  have h3 := hE.2 _ m _ hm hq
  unfold tv_cut
  rw [hq]
  simp only [tv_mx_eq, tv_mn_eq]
  have h4 : tv_le (max E[a.2.1].1 (lo - a.2.2)) (min E[a.2.1].2 (hi - a.2.2)) = true := by rw [tv_le_iff]; omega
  rw [h4]
  refine ⟨_, rfl, by simpa using hE.1, fun v k q hk hq2 => ?_⟩
  by_cases hv : a.2.1 = v
  · subst hv
    rw [List.getElem?_set_self hl] at hq2
    cases hq2
    rw [hm] at hk
    cases hk
    dsimp only
    omega
  · rw [List.getElem?_set_ne hv] at hq2
    exact hE.2 v k q hk hq2
end TVG
end
section
/-! ===== the intervals of the operations are right ===== -/
theorem tv_bl_ok {n : Int} {m : Nat} (hm : (m : Int) ≤ n) : m < 2 ^ tv_bl n := by
  unfold tv_bl
  have h1 : m ≤ n.toNat := by omega
  cases hn : n.toNat with
  | zero => simp only; omega
  | succ j =>
    simp only
    have h2 := Nat.lt_log2_self (n := j + 1)
    omega
theorem tv_pow_mono {a b : Nat} (h : a ≤ b) : (2 : Nat) ^ a ≤ 2 ^ b := Nat.pow_le_pow_right (by decide) h
theorem tv_sr_ok {X Y : Int × Int} {x : Int32} {k : Nat} {y : Int32} (hk : k = y.toBitVec.toNat % 32) (hx0 : 0 ≤ X.1) (h1 : X.1 ≤ x.toInt) (h2 : x.toInt ≤ X.2) (h3 : Y.1 ≤ y.toInt) (h4 : y.toInt ≤ Y.2) : (tv_sr X Y).1 ≤ x.toInt / ((2 ^ k : Nat) : Int) ∧ x.toInt / ((2 ^ k : Nat) : Int) ≤ (tv_sr X Y).2 := by
  have hp : (0 : Int) < ((2 ^ k : Nat) : Int) := by have := Nat.two_pow_pos k; omega
  unfold tv_sr
  cases hb : (tv_le 0 Y.1 && tv_le Y.2 31) with
  | false =>
    simp only [cond_false]
    refine ⟨Int.ediv_nonneg (by omega) (by omega), ?_⟩
    have := Int.ediv_le_self ((2 ^ k : Nat) : Int) (show 0 ≤ x.toInt by omega)
    omega
  | true =>
    simp only [cond_true]
    rw [Bool.and_eq_true, tv_le_iff, tv_le_iff] at hb
    have hy := tn_nn (x := y) (by omega)
    have hk2 : (k : Int) = y.toInt := by rw [hk, Nat.mod_eq_of_lt (by omega)]; omega
    have p1 : ((2 : Int) ^ Y.2.toNat) = ((2 ^ Y.2.toNat : Nat) : Int) := by simp
    have p2 : ((2 : Int) ^ Y.1.toNat) = ((2 ^ Y.1.toNat : Nat) : Int) := by simp
    rw [p1, p2]
    have q1 : 2 ^ k ≤ 2 ^ Y.2.toNat := tv_pow_mono (by omega)
    have q2 : 2 ^ Y.1.toNat ≤ 2 ^ k := tv_pow_mono (by omega)
    have r1 := Nat.two_pow_pos Y.1.toNat
    have r2 := Nat.two_pow_pos Y.2.toNat
    constructor
    · have s1 : X.1 / ((2 ^ Y.2.toNat : Nat) : Int) ≤ X.1 / ((2 ^ k : Nat) : Int) := by
        rw [Int.le_ediv_iff_mul_le hp]
        have t1 : 0 ≤ X.1 / ((2 ^ Y.2.toNat : Nat) : Int) := Int.ediv_nonneg hx0 (by omega)
        have t2 := Int.mul_le_mul_of_nonneg_left (show ((2 ^ k : Nat) : Int) ≤ ((2 ^ Y.2.toNat : Nat) : Int) by omega) t1
        have t3 := Int.ediv_mul_le X.1 (show ((2 ^ Y.2.toNat : Nat) : Int) ≠ 0 by omega)
        omega
      have s2 := Int.ediv_le_ediv hp h1
      omega
    · have s1 : X.2 / ((2 ^ k : Nat) : Int) ≤ X.2 / ((2 ^ Y.1.toNat : Nat) : Int) := by
        rw [Int.le_ediv_iff_mul_le (by omega)]
        have t1 : 0 ≤ X.2 / ((2 ^ k : Nat) : Int) := Int.ediv_nonneg (by omega) (by omega)
        have t2 := Int.mul_le_mul_of_nonneg_left (show ((2 ^ Y.1.toNat : Nat) : Int) ≤ ((2 ^ k : Nat) : Int) by omega) t1
        have t3 := Int.ediv_mul_le X.2 (show ((2 ^ k : Nat) : Int) ≠ 0 by omega)
        omega
      have s2 := Int.ediv_le_ediv hp h2
      omega
theorem tv_any_ok (x : Int32) : tv_any.1 ≤ x.toInt ∧ x.toInt ≤ tv_any.2 := tn_rng x
theorem tv_bi_ok (o : Nat) {X Y : Int × Int} {x y : Int32} (h1 : X.1 ≤ x.toInt) (h2 : x.toInt ≤ X.2) (h3 : Y.1 ≤ y.toInt) (h4 : y.toInt ≤ Y.2) (hl : tv_lo ≤ (tv_bi o X Y).1) (hh : (tv_bi o X Y).2 ≤ tv_hi) : (tv_bi o X Y).1 ≤ (tm_ib o x y).toInt ∧ (tm_ib o x y).toInt ≤ (tv_bi o X Y).2 := by
  have c1 : tv_lo = -2147483648 := rfl
  have c2 : tv_hi = 2147483647 := rfl
  match o with
  | 0 =>
    simp only [tv_bi, tm_ib] at hl hh ⊢
    rw [tn_add (by omega) (by omega)]
    omega
  | 1 =>
    simp only [tv_bi, tm_ib] at hl hh ⊢
    rw [tn_sub (by omega) (by omega)]
    omega
  | 2 =>
    simp only [tv_bi, tm_ib, tv_mn_eq, tv_mx_eq] at hl hh ⊢
    have e := tn_prod h1 h2 h3 h4
    rw [tn_mul (by omega) (by omega)]
    exact e
  | 3 =>
    simp only [tv_bi, tm_ib] at hl hh ⊢
    have ha := tn_and x y
    have l1 := Nat.and_le_left (n := x.toBitVec.toNat) (m := y.toBitVec.toNat)
    have l2 := Nat.and_le_right (n := x.toBitVec.toNat) (m := y.toBitVec.toNat)
    cases hb : tv_le 0 X.1 with
    | true =>
      have g := tn_nn (x := x) (by have := (tv_le_iff _ _).mp hb; omega)
      have e := tn_of (x := x &&& y) (by omega)
      simp only [cond_true]
      cases hc : tv_le 0 Y.1 with
      | true =>
        have g2 := tn_nn (x := y) (by have := (tv_le_iff _ _).mp hc; omega)
        simp only [cond_true, tv_mn_eq]
        omega
      | false => simp only [cond_false]; omega
    | false =>
      simp only [cond_false]
      cases hc : tv_le 0 Y.1 with
      | true =>
        have g2 := tn_nn (x := y) (by have := (tv_le_iff _ _).mp hc; omega)
        have e := tn_of (x := x &&& y) (by omega)
        simp only [cond_true]
        omega
      | false => simp only [cond_false]; exact tv_any_ok _
  | 4 =>
    simp only [tv_bi, tm_ib] at hl hh ⊢
    cases hb : (tv_le 0 X.1 && tv_le 0 Y.1) with
    | false => simp only [cond_false]; exact tv_any_ok _
    | true =>
      simp only [hb, cond_true] at hh ⊢
      rw [Bool.and_eq_true, tv_le_iff, tv_le_iff] at hb
      have g1 := tn_nn (x := x) (by omega)
      have g2 := tn_nn (x := y) (by omega)
      have ha := tn_or x y
      have b1 := Nat.lt_of_lt_of_le (tv_bl_ok (n := X.2) (m := x.toBitVec.toNat) (by omega)) (tv_pow_mono (Nat.le_max_left (tv_bl X.2) (tv_bl Y.2)))
      have b2 := Nat.lt_of_lt_of_le (tv_bl_ok (n := Y.2) (m := y.toBitVec.toNat) (by omega)) (tv_pow_mono (Nat.le_max_right (tv_bl X.2) (tv_bl Y.2)))
      have b3 := Nat.or_lt_two_pow b1 b2
      have b4 : 2 ^ 31 > 0 := by decide
      have b5 := Nat.or_lt_two_pow (n := 31) (show x.toBitVec.toNat < 2 ^ 31 by omega) (show y.toBitVec.toNat < 2 ^ 31 by omega)
      have e := tn_of (x := x ||| y) (by omega)
      have l1 := Nat.left_le_or (n := x.toBitVec.toNat) (m := y.toBitVec.toNat)
      have l2 := Nat.right_le_or (n := x.toBitVec.toNat) (m := y.toBitVec.toNat)
      have p : ((2 : Int) ^ Nat.max (tv_bl X.2) (tv_bl Y.2)) = ((2 ^ Nat.max (tv_bl X.2) (tv_bl Y.2) : Nat) : Int) := by simp
      rw [p, tv_mx_eq]
      have b6 : x.toBitVec.toNat ||| y.toBitVec.toNat < 2 ^ Nat.max (tv_bl X.2) (tv_bl Y.2) := b3
      omega
  | 5 =>
    simp only [tv_bi, tm_ib] at hl hh ⊢
    cases hb : (tv_le 0 X.1 && tv_le 0 Y.1) with
    | false => simp only [cond_false]; exact tv_any_ok _
    | true =>
      simp only [hb, cond_true] at hh ⊢
      rw [Bool.and_eq_true, tv_le_iff, tv_le_iff] at hb
      have g1 := tn_nn (x := x) (by omega)
      have g2 := tn_nn (x := y) (by omega)
      have ha := tn_xor x y
      have b1 := Nat.lt_of_lt_of_le (tv_bl_ok (n := X.2) (m := x.toBitVec.toNat) (by omega)) (tv_pow_mono (Nat.le_max_left (tv_bl X.2) (tv_bl Y.2)))
      have b2 := Nat.lt_of_lt_of_le (tv_bl_ok (n := Y.2) (m := y.toBitVec.toNat) (by omega)) (tv_pow_mono (Nat.le_max_right (tv_bl X.2) (tv_bl Y.2)))
      have b3 := Nat.xor_lt_two_pow b1 b2
      have b5 := Nat.xor_lt_two_pow (n := 31) (show x.toBitVec.toNat < 2 ^ 31 by omega) (show y.toBitVec.toNat < 2 ^ 31 by omega)
      have e := tn_of (x := x ^^^ y) (by omega)
      have p : ((2 : Int) ^ Nat.max (tv_bl X.2) (tv_bl Y.2)) = ((2 ^ Nat.max (tv_bl X.2) (tv_bl Y.2) : Nat) : Int) := by simp
      rw [p]
      have b6 : x.toBitVec.toNat ^^^ y.toBitVec.toNat < 2 ^ Nat.max (tv_bl X.2) (tv_bl Y.2) := b3
      omega
  | 6 =>
    simp only [tv_bi, tm_ib] at hl hh ⊢
    cases hb : (tv_le 0 X.1 && tv_le 0 Y.1 && tv_le Y.2 31 && tv_le (X.2 * 2 ^ Y.2.toNat) tv_hi) with
    | false => simp only [cond_false]; exact tv_any_ok _
    | true =>
      simp only [hb, cond_true] at hh ⊢
      simp only [Bool.and_eq_true, tv_le_iff] at hb
      obtain ⟨⟨⟨b1, b2⟩, b3⟩, b4⟩ := hb
      have g1 := tn_nn (x := x) (by omega)
      have g2 := tn_nn (x := y) (by omega)
      have hs := tn_shl x y
      rw [Nat.mod_eq_of_lt (show y.toBitVec.toNat < 32 by omega)] at hs
      have p1 : ((2 : Int) ^ Y.2.toNat) = ((2 ^ Y.2.toNat : Nat) : Int) := by simp
      have p2 : ((2 : Int) ^ Y.1.toNat) = ((2 ^ Y.1.toNat : Nat) : Int) := by simp
      rw [p1] at b4 hh ⊢
      rw [p2]
      have q1 : 2 ^ y.toBitVec.toNat ≤ 2 ^ Y.2.toNat := tv_pow_mono (by omega)
      have q2 : 2 ^ Y.1.toNat ≤ 2 ^ y.toBitVec.toNat := tv_pow_mono (by omega)
      have m1 : x.toBitVec.toNat * 2 ^ y.toBitVec.toNat ≤ X.2.toNat * 2 ^ Y.2.toNat := Nat.mul_le_mul (by omega) q1
      have m2 : X.1.toNat * 2 ^ Y.1.toNat ≤ x.toBitVec.toNat * 2 ^ y.toBitVec.toNat := Nat.mul_le_mul (by omega) q2
      have m3 : X.2 * ((2 ^ Y.2.toNat : Nat) : Int) = ((X.2.toNat * 2 ^ Y.2.toNat : Nat) : Int) := by
        rw [Int.natCast_mul, Int.toNat_of_nonneg (by omega)]
      have m4 : X.1 * ((2 ^ Y.1.toNat : Nat) : Int) = ((X.1.toNat * 2 ^ Y.1.toNat : Nat) : Int) := by
        rw [Int.natCast_mul, Int.toNat_of_nonneg (by omega)]
      rw [m3] at b4 ⊢
      rw [m4]
      rw [Nat.mod_eq_of_lt (by omega)] at hs
      have e := tn_of (x := x <<< (y &&& 31)) (by omega)
      omega
  | 7 =>
    simp only [tv_bi, tm_ib] at hl hh ⊢
    cases hb : tv_le 0 X.1 with
    | false => simp only [cond_false]; exact tv_any_ok _
    | true =>
      simp only [cond_true]
      rw [tn_shr]
      exact tv_sr_ok rfl ((tv_le_iff _ _).mp hb) h1 h2 h3 h4
  | k + 8 =>
    simp only [tv_bi, tm_ib] at hl hh ⊢
    have hs := tn_ushr x y
    cases hb : tv_le 0 X.1 with
    | true =>
      simp only [cond_true]
      have b0 := (tv_le_iff _ _).mp hb
      have g1 := tn_nn (x := x) (by omega)
      have e := tv_sr_ok (k := y.toBitVec.toNat % 32) rfl b0 h1 h2 h3 h4
      have d1 := Nat.div_le_self x.toBitVec.toNat (2 ^ (y.toBitVec.toNat % 32))
      have e2 := tn_of (x := (x.toUInt32 >>> (y.toUInt32 &&& Int32.toUInt32 31)).toInt32) (by omega)
      rw [e2, hs, Int.natCast_ediv, ← g1.1]
      exact e
    | false =>
      simp only [cond_false]
      cases hc : (tv_le 1 Y.1 && tv_le Y.2 31) with
      | false => simp only [cond_false]; exact tv_any_ok _
      | true =>
        simp only [cond_true]
        rw [Bool.and_eq_true, tv_le_iff, tv_le_iff] at hc
        have g2 := tn_nn (x := y) (by omega)
        rw [Nat.mod_eq_of_lt (show y.toBitVec.toNat < 32 by omega)] at hs
        have q1 : 2 ^ Y.1.toNat ≤ 2 ^ y.toBitVec.toNat := tv_pow_mono (by omega)
        have q3 : 2 ^ (32 - Y.1.toNat) * 2 ^ Y.1.toNat = 4294967296 := by
          rw [← Nat.pow_add, show 32 - Y.1.toNat + Y.1.toNat = 32 by omega]
        have d1 : x.toBitVec.toNat / 2 ^ y.toBitVec.toNat < 2 ^ (32 - Y.1.toNat) := by
          rw [Nat.div_lt_iff_lt_mul (Nat.two_pow_pos _)]
          have t1 := tn_lt x
          have t2 := Nat.mul_le_mul_left (2 ^ (32 - Y.1.toNat)) q1
          omega
        have q4 : 2 ^ (32 - Y.1.toNat) ≤ 2 ^ 31 := tv_pow_mono (by omega)
        have e2 := tn_of (x := (x.toUInt32 >>> (y.toUInt32 &&& Int32.toUInt32 31)).toInt32) (by omega)
        have p : ((2 : Int) ^ (32 - Y.1.toNat)) = ((2 ^ (32 - Y.1.toNat) : Nat) : Int) := by simp
        rw [e2, hs, p]
        omega
theorem tv_nw_ok {r : Int × Int} {x : Int32} (h : tv_lo ≤ r.1 → r.2 ≤ tv_hi → r.1 ≤ x.toInt ∧ x.toInt ≤ r.2) : (tv_nw r).1 ≤ x.toInt ∧ x.toInt ≤ (tv_nw r).2 := by
  unfold tv_nw
  cases hb : (tv_le tv_lo r.1 && tv_le r.2 tv_hi) with
  | false => exact tn_rng x
  | true =>
    rw [Bool.and_eq_true, tv_le_iff, tv_le_iff] at hb
    exact h hb.1 hb.2
theorem tv_div_ok {X Y : Int × Int} {x y : Int32} (h1 : X.1 ≤ x.toInt) (h2 : x.toInt ≤ X.2) (h3 : Y.1 ≤ y.toInt) (h4 : y.toInt ≤ Y.2) (hy : 1 ≤ Y.1) : (cond (tv_le 0 X.1) (X.1 / Y.2, X.2 / Y.1) (tv_mn X.1 0, tv_mx X.2 0)).1 ≤ (x / y).toInt ∧ (x / y).toInt ≤ (cond (tv_le 0 X.1) (X.1 / Y.2, X.2 / Y.1) (tv_mn X.1 0, tv_mx X.2 0)).2 := by
  have hne : y ≠ -1 := by
    intro e
    rw [e] at h3
    have : (-1 : Int32).toInt = -1 := by decide
    omega
  rw [Int32.toInt_div_of_ne_right x y hne]
  have hp : 0 < y.toInt := by omega
  cases hb : tv_le 0 X.1 with
  | true =>
    have b0 := (tv_le_iff _ _).mp hb
    simp only [cond_true]
    rw [Int.tdiv_eq_ediv_of_nonneg (by omega)]
    constructor
    · have s1 : X.1 / Y.2 ≤ X.1 / y.toInt := by
        rw [Int.le_ediv_iff_mul_le hp]
        have t1 : 0 ≤ X.1 / Y.2 := Int.ediv_nonneg b0 (by omega)
        have t2 := Int.mul_le_mul_of_nonneg_left h4 t1
        have t3 := Int.ediv_mul_le X.1 (show Y.2 ≠ 0 by omega)
        omega
      have s2 := Int.ediv_le_ediv hp h1
      omega
    · have s1 : X.2 / y.toInt ≤ X.2 / Y.1 := by
        rw [Int.le_ediv_iff_mul_le (by omega)]
        have t1 : 0 ≤ X.2 / y.toInt := Int.ediv_nonneg (by omega) (by omega)
        have t2 := Int.mul_le_mul_of_nonneg_left h3 t1
        have t3 := Int.ediv_mul_le X.2 (show y.toInt ≠ 0 by omega)
        omega
      have s2 := Int.ediv_le_ediv hp h2
      omega
  | false =>
    simp only [cond_false, tv_mn_eq, tv_mx_eq]
    rcases Int.le_total 0 x.toInt with hx | hx
    · rw [Int.tdiv_eq_ediv_of_nonneg hx]
      have t1 := Int.ediv_nonneg hx (show 0 ≤ y.toInt by omega)
      have t2 := Int.ediv_le_self y.toInt hx
      omega
    · have e : x.toInt.tdiv y.toInt = -((-x.toInt) / y.toInt) := by
        rw [← Int.tdiv_eq_ediv_of_nonneg (show 0 ≤ -x.toInt by omega), Int.neg_tdiv, Int.neg_neg]
      rw [e]
      have t1 := Int.ediv_nonneg (show 0 ≤ -x.toInt by omega) (show 0 ≤ y.toInt by omega)
      have t2 := Int.ediv_le_self y.toInt (show 0 ≤ -x.toInt by omega)
      omega
theorem tv_rem_ok {X Y : Int × Int} {x y : Int32} (h1 : X.1 ≤ x.toInt) (h2 : x.toInt ≤ X.2) (h3 : Y.1 ≤ y.toInt) (h4 : y.toInt ≤ Y.2) (hy : 1 ≤ Y.1) : (cond (tv_le 0 X.1) (0, tv_mn X.2 (Y.2 - 1)) (1 - Y.2, Y.2 - 1)).1 ≤ (x - x / y * y).toInt ∧ (x - x / y * y).toInt ≤ (cond (tv_le 0 X.1) (0, tv_mn X.2 (Y.2 - 1)) (1 - Y.2, Y.2 - 1)).2 := by
  have hne : y ≠ -1 := by
    intro e
    rw [e] at h3
    have : (-1 : Int32).toInt = -1 := by decide
    omega
  have hp : 0 < y.toInt := by omega
  have rx := tn_rng x
  have ry := tn_rng y
  have hd := Int32.toInt_div_of_ne_right x y hne
  have hm : x.toInt.tmod y.toInt + y.toInt * x.toInt.tdiv y.toInt = x.toInt := by first | exact Int.tmod_add_mul_tdiv _ _ | (have := Int.mul_tdiv_add_tmod x.toInt y.toInt; omega) | (have := Int.tdiv_add_tmod x.toInt y.toInt; omega)
  have l1 := Int.tmod_lt_of_pos x.toInt hp
  have l2 : -y.toInt < x.toInt.tmod y.toInt := by
    rcases Int.le_total 0 x.toInt with hx | hx
    · have := Int.tmod_nonneg y.toInt hx
      omega
    · have t1 := Int.tmod_lt_of_pos (-x.toInt) hp
      rw [Int.neg_tmod] at t1
      omega
  have l3 : 0 ≤ x.toInt → 0 ≤ x.toInt.tmod y.toInt ∧ x.toInt.tmod y.toInt ≤ x.toInt := fun hx => by
    refine ⟨Int.tmod_nonneg y.toInt hx, ?_⟩
    have t1 : 0 ≤ y.toInt * x.toInt.tdiv y.toInt := Int.mul_nonneg (by omega) (Int.tdiv_nonneg hx (by omega))
    omega
  have l4 : x.toInt ≤ 0 → x.toInt.tmod y.toInt ≤ 0 ∧ x.toInt ≤ x.toInt.tmod y.toInt := fun hx => by
    have t1 := Int.tmod_nonneg y.toInt (show 0 ≤ -x.toInt by omega)
    rw [Int.neg_tmod] at t1
    have t2 : 0 ≤ y.toInt * (-x.toInt).tdiv y.toInt := Int.mul_nonneg (by omega) (Int.tdiv_nonneg (by omega) (by omega))
    rw [Int.neg_tdiv, Int.mul_neg] at t2
    omega
  have l5 : (x / y * y).toInt = x.toInt.tdiv y.toInt * y.toInt := by
    rw [tn_mul, hd]
    · rw [hd, Int.mul_comm]
      rcases Int.le_total 0 x.toInt with hx | hx
      · have := l3 hx; omega
      · have := l4 hx; omega
    · rw [hd, Int.mul_comm]
      rcases Int.le_total 0 x.toInt with hx | hx
      · have := l3 hx; omega
      · have := l4 hx; omega
  have l6 : (x - x / y * y).toInt = x.toInt.tmod y.toInt := by
    rw [tn_sub, l5, Int.mul_comm]
    · omega
    · rw [l5, Int.mul_comm]; omega
    · rw [l5, Int.mul_comm]; omega
  rw [l6]
  cases hb : tv_le 0 X.1 with
  | true =>
    have b0 := (tv_le_iff _ _).mp hb
    have := l3 (by omega)
    simp only [cond_true, tv_mn_eq]
    omega
  | false => simp only [cond_false]; omega
end
section
/-! ===== each handler is right ===== -/
section TVS
variable {T : tv_TT} {c : tv_C} {A0 : List (Nat × Value)} {σ0 : tm_S} {ρ0 : List Int} {Q : Option Value → tm_S → Prop} {rc : tv_rc} {pc n a : Nat} {z : Int} {zz : List (Int × Nat)} {E : tv_E} {L S : List tv_A} {F : tv_F}
theorem ts_ldi (R : ∀ pc E L S F, rc pc E L S F = true → tv_SD T c A0 σ0 ρ0 Q pc E L S F) (h : tt_at c.1 pc = some ((0, a, z, zz), n)) (hk : tv_hld a rc (pc + n) E L S F 1 = true) : tv_SD T c A0 σ0 ρ0 Q pc E L S F := by
  intro ρ ls st σ g
  unfold tv_hld at hk
  split at hk
  · rename_i b hL
    rw [Bool.and_eq_true] at hk
    have hb : b.1 = 1 := tv_beq hk.1
    obtain ⟨x, hx, hg⟩ := g.2.2.1 a b hL (by omega)
    obtain ⟨n0, m, rfl, -⟩ := tv_gi hg hb
    exact wp_ldi h hx (R _ _ _ _ _ hk.2 ρ ls _ σ (tv_push g hg))
  · cases hk
theorem ts_ldl (R : ∀ pc E L S F, rc pc E L S F = true → tv_SD T c A0 σ0 ρ0 Q pc E L S F) (h : tt_at c.1 pc = some ((1, a, z, zz), n)) (hk : tv_hld a rc (pc + n) E L S F 2 = true) : tv_SD T c A0 σ0 ρ0 Q pc E L S F := by
  intro ρ ls st σ g
  unfold tv_hld at hk
  split at hk
  · rename_i b hL
    rw [Bool.and_eq_true] at hk
    have hb : b.1 = 2 := tv_beq hk.1
    obtain ⟨x, hx, hg⟩ := g.2.2.1 a b hL (by omega)
    obtain ⟨n0, rfl⟩ := tv_gl hg hb
    exact wp_ldl h hx (R _ _ _ _ _ hk.2 ρ ls _ σ (tv_push g hg))
  · cases hk
theorem ts_lda (R : ∀ pc E L S F, rc pc E L S F = true → tv_SD T c A0 σ0 ρ0 Q pc E L S F) (h : tt_at c.1 pc = some ((2, a, z, zz), n)) (hk : tv_hld a rc (pc + n) E L S F 3 = true) : tv_SD T c A0 σ0 ρ0 Q pc E L S F := by
  intro ρ ls st σ g
  unfold tv_hld at hk
  split at hk
  · rename_i b hL
    rw [Bool.and_eq_true] at hk
    have hb : b.1 = 3 := tv_beq hk.1
    obtain ⟨x, hx, hg⟩ := g.2.2.1 a b hL (by omega)
    obtain ⟨n0, rfl, -⟩ := tv_gr hg hb
    exact wp_lda h hx (R _ _ _ _ _ hk.2 ρ ls _ σ (tv_push g hg))
  · cases hk
/-- a row of the table is one of the method's: a local that is kept isn't stored -/
theorem ts_kp {j i : Nat} {o : tt_Op} (hk : tv_kp j i = true) (h : tt_at j pc = some (o, n)) : tv_kq i o = true := List.all_eq_true.mp hk _ (tt_find_mem h)
theorem tv_nb {a b : Nat} (h : (!(Nat.beq a b)) = true) : a ≠ b := by
  intro e
  subst e
  rw [Nat.beq_refl] at h
  cases h
theorem ts_in1 {ls : List (Nat × Value)} {q : Nat × Value} {k : Nat} {v : Value} (hq : q ∈ ls) (h1 : k ≠ q.1) (h2 : k ≠ q.1 + 1 ∨ ¬ q.2.category = 2) : q ∈ tm_st1 ls k v := by
  refine List.mem_cons_of_mem _ (List.mem_filter.mpr ⟨hq, ?_⟩)
  simp only [Bool.and_eq_true, Bool.not_eq_true', beq_eq_false_iff_ne, Bool.and_eq_false_iff, ne_eq]
  refine ⟨fun e => h1 e.symm, ?_⟩
  rcases h2 with h | h
  · exact Or.inl (fun e => h e.symm)
  · exact Or.inr h
theorem ts_in2 {ls : List (Nat × Value)} {q : Nat × Value} {k : Nat} {v : Value} (hq : q ∈ ls) (h1 : k ≠ q.1) (h3 : k + 1 ≠ q.1) (h2 : k ≠ q.1 + 1 ∨ ¬ q.2.category = 2) : q ∈ tm_st2 ls k v := by
  refine List.mem_cons_of_mem _ (List.mem_filter.mpr ⟨hq, ?_⟩)
  simp only [Bool.and_eq_true, Bool.not_eq_true', beq_eq_false_iff_ne, Bool.and_eq_false_iff, ne_eq]
  refine ⟨fun e => h1 e.symm, fun e => h3 e.symm, ?_⟩
  rcases h2 with h | h
  · exact Or.inl (fun e => h e.symm)
  · exact Or.inr h
theorem tv_cat1 {ρ : List Int} {b : tv_A} {x : Value} (h : tv_gv ρ b x) (hb : b.1 ≠ 2) : ¬ x.category = 2 := by
  rcases h with ⟨-, n, m, rfl, -⟩ | ⟨e, -⟩ | ⟨-, k, rfl, -⟩
  · simp [Value.category]
  · exact absurd e hb
  · simp [Value.category]
theorem tv_k1_at {L : List tv_A} {k i : Nat} {b : tv_A} (h : (tv_k1 L k)[i]? = some b) (hb : b.1 ≠ 0) : L[i]? = some b ∧ (k = i + 1 → b.1 ≠ 2) := by
  unfold tv_k1 at h
  split at h
  · exact ⟨h, fun e => by omega⟩
  · rename_i k0
    split at h
    · rename_i v o hL
      by_cases hi : k0 = i
      · subst hi
        rw [List.getElem?_set_self (List.getElem?_eq_some_iff.mp hL).1] at h
        cases h
        exact absurd rfl hb
      · rw [List.getElem?_set_ne hi] at h
        exact ⟨h, fun e => by omega⟩
    · rename_i hno
      refine ⟨h, fun e h2 => ?_⟩
      have e2 : k0 = i := by omega
      subst e2
      obtain ⟨b1, b2, b3⟩ := b
      dsimp only at h2
      subst h2
      exact hno b2 b3 h
theorem tv_loc1 {ρ : List Int} {ls : List (Nat × Value)} {k : Nat} {b : tv_A} {v : Value} (hL : ∀ (i : Nat) (a : tv_A), L[i]? = some a → a.1 ≠ 0 → ∃ x, (i, x) ∈ ls ∧ tv_gv ρ a x) (hv : tv_gv ρ b v) : ∀ (i : Nat) (a : tv_A), (tv_s1 L k b)[i]? = some a → a.1 ≠ 0 → ∃ x, (i, x) ∈ tm_st1 ls k v ∧ tv_gv ρ a x := by
  intro i a ha hn
  unfold tv_s1 at ha
  by_cases hi : k = i
  · subst hi
    have hl : k < (tv_k1 L k).length := by
      have := (List.getElem?_eq_some_iff.mp ha).1
      simpa using this
    rw [List.getElem?_set_self hl] at ha
    cases ha
    exact ⟨v, List.mem_cons_self, hv⟩
  · rw [List.getElem?_set_ne hi] at ha
    obtain ⟨h1, h2⟩ := tv_k1_at ha hn
    obtain ⟨x, hx, hg⟩ := hL i a h1 hn
    refine ⟨x, ts_in1 hx hi ?_, hg⟩
    by_cases hk : k = i + 1
    · exact Or.inr (tv_cat1 hg (h2 hk))
    · exact Or.inl hk
theorem tv_loc2 {ρ : List Int} {ls : List (Nat × Value)} {k : Nat} {b : tv_A} {v : Value} (hL : ∀ (i : Nat) (a : tv_A), L[i]? = some a → a.1 ≠ 0 → ∃ x, (i, x) ∈ ls ∧ tv_gv ρ a x) (hv : tv_gv ρ b v) : ∀ (i : Nat) (a : tv_A), (tv_s2 L k b)[i]? = some a → a.1 ≠ 0 → ∃ x, (i, x) ∈ tm_st2 ls k v ∧ tv_gv ρ a x := by
  intro i a ha hn
  unfold tv_s2 at ha
  by_cases hi1 : k + 1 = i
  · subst hi1
    have hl : k + 1 < ((tv_k1 L k).set k b).length := by
      have := (List.getElem?_eq_some_iff.mp ha).1
      simpa using this
    rw [List.getElem?_set_self hl] at ha
    cases ha
    exact absurd rfl hn
  rw [List.getElem?_set_ne hi1] at ha
  by_cases hi : k = i
  · subst hi
    have hl : k < (tv_k1 L k).length := by
      have := (List.getElem?_eq_some_iff.mp ha).1
      simpa using this
    rw [List.getElem?_set_self hl] at ha
    cases ha
    exact ⟨v, List.mem_cons_self, hv⟩
  · rw [List.getElem?_set_ne hi] at ha
    obtain ⟨h1, h2⟩ := tv_k1_at ha hn
    obtain ⟨x, hx, hg⟩ := hL i a h1 hn
    refine ⟨x, ts_in2 hx hi hi1 ?_, hg⟩
    by_cases hk : k = i + 1
    · exact Or.inr (tv_cat1 hg (h2 hk))
    · exact Or.inl hk
theorem ts_fn1 {ls : List (Nat × Value)} {k : Nat} {v : Value} (h : ∀ (i : Nat) (x y : Value), (i, x) ∈ ls → (i, y) ∈ ls → x = y) : ∀ (i : Nat) (x y : Value), (i, x) ∈ tm_st1 ls k v → (i, y) ∈ tm_st1 ls k v → x = y := by
  have key : ∀ (i : Nat) (x : Value), (i, x) ∈ tm_st1 ls k v → (i = k ∧ x = v) ∨ (i ≠ k ∧ (i, x) ∈ ls) := by
    intro i x hx
    rcases List.mem_cons.mp hx with e | e
    · cases e
      exact Or.inl ⟨rfl, rfl⟩
    · obtain ⟨e1, e2⟩ := List.mem_filter.mp e
      simp only [Bool.and_eq_true, Bool.not_eq_true', beq_eq_false_iff_ne, ne_eq] at e2
      exact Or.inr ⟨e2.1, e1⟩
  intro i x y hx hy
  rcases key i x hx with ⟨a1, a2⟩ | ⟨a1, a2⟩ <;> rcases key i y hy with ⟨b1, b2⟩ | ⟨b1, b2⟩
  · rw [a2, b2]
  · exact absurd a1 b1
  · exact absurd b1 a1
  · exact h i x y a2 b2
theorem ts_fn2 {ls : List (Nat × Value)} {k : Nat} {v : Value} (h : ∀ (i : Nat) (x y : Value), (i, x) ∈ ls → (i, y) ∈ ls → x = y) : ∀ (i : Nat) (x y : Value), (i, x) ∈ tm_st2 ls k v → (i, y) ∈ tm_st2 ls k v → x = y := by
  have key : ∀ (i : Nat) (x : Value), (i, x) ∈ tm_st2 ls k v → (i = k ∧ x = v) ∨ (i ≠ k ∧ (i, x) ∈ ls) := by
    intro i x hx
    rcases List.mem_cons.mp hx with e | e
    · cases e
      exact Or.inl ⟨rfl, rfl⟩
    · obtain ⟨e1, e2⟩ := List.mem_filter.mp e
      simp only [Bool.and_eq_true, Bool.not_eq_true', beq_eq_false_iff_ne, ne_eq] at e2
      exact Or.inr ⟨e2.1, e1⟩
  intro i x y hx hy
  rcases key i x hx with ⟨a1, a2⟩ | ⟨a1, a2⟩ <;> rcases key i y hy with ⟨b1, b2⟩ | ⟨b1, b2⟩
  · rw [a2, b2]
  · exact absurd a1 b1
  · exact absurd b1 a1
  · exact h i x y a2 b2
theorem ts_st1 {ρ : List Int} {ls : List (Nat × Value)} {st : List Value} {σ : tm_S} {b : tv_A} {v : Value} (g : tv_g T c A0 σ0 ρ0 ρ E L S F ls st σ) (hv : tv_gv ρ b v) (hA : ∀ q ∈ A0, tv_kp c.1 q.1 = true → a ≠ q.1) : tv_g T c A0 σ0 ρ0 ρ E (tv_s1 L a b) S F (tm_st1 ls a v) st σ :=
  ⟨g.1, g.2.1, tv_loc1 g.2.2.1 hv, g.2.2.2.1, g.2.2.2.2.1, g.2.2.2.2.2.1, fun q hq hk hc => ts_in1 (g.2.2.2.2.2.2.1 q hq hk hc) (hA q hq hk) (Or.inr hc), ts_fn1 g.2.2.2.2.2.2.2⟩
theorem ts_st2 {ρ : List Int} {ls : List (Nat × Value)} {st : List Value} {σ : tm_S} {b : tv_A} {v : Value} (g : tv_g T c A0 σ0 ρ0 ρ E L S F ls st σ) (hv : tv_gv ρ b v) (hA : ∀ q ∈ A0, tv_kp c.1 q.1 = true → a ≠ q.1 ∧ a + 1 ≠ q.1) : tv_g T c A0 σ0 ρ0 ρ E (tv_s2 L a b) S F (tm_st2 ls a v) st σ :=
  ⟨g.1, g.2.1, tv_loc2 g.2.2.1 hv, g.2.2.2.1, g.2.2.2.2.1, g.2.2.2.2.2.1, fun q hq hk hc => ts_in2 (g.2.2.2.2.2.2.1 q hq hk hc) (hA q hq hk).1 (hA q hq hk).2 (Or.inr hc), ts_fn2 g.2.2.2.2.2.2.2⟩
theorem ts_kp3 {t : Nat} (ht : t = 3 ∨ t = 5 ∨ t = 6) (h : tt_at c.1 pc = some ((t, a, z, zz), n)) : ∀ q ∈ A0, tv_kp c.1 q.1 = true → a ≠ q.1 := by
  intro q _ hk
  have h1 := ts_kp hk h
  rcases ht with rfl | rfl | rfl <;> exact tv_nb h1
theorem ts_kp4 (h : tt_at c.1 pc = some ((4, a, z, zz), n)) : ∀ q ∈ A0, tv_kp c.1 q.1 = true → a ≠ q.1 ∧ a + 1 ≠ q.1 := by
  intro q _ hk
  have h1 := ts_kp hk h
  simp only [tv_kq, Bool.and_eq_true] at h1
  exact ⟨tv_nb h1.1, tv_nb h1.2⟩
theorem ts_sti (R : ∀ pc E L S F, rc pc E L S F = true → tv_SD T c A0 σ0 ρ0 Q pc E L S F) (h : tt_at c.1 pc = some ((3, a, z, zz), n)) (hk : tv_hs1 a rc (pc + n) E L S F 1 = true) : tv_SD T c A0 σ0 ρ0 Q pc E L S F := by
  intro ρ ls st σ g
  unfold tv_hs1 at hk
  split at hk
  · rename_i b S1
    rw [Bool.and_eq_true] at hk
    obtain ⟨x, st1, rfl, hg, g1⟩ := tv_pop g
    obtain ⟨n0, m, rfl, -⟩ := tv_gi hg (tv_beq hk.1)
    exact wp_sti h (R _ _ _ _ _ hk.2 ρ _ _ σ (ts_st1 g1 hg (ts_kp3 (Or.inl rfl) h)))
  · cases hk
theorem ts_sta (R : ∀ pc E L S F, rc pc E L S F = true → tv_SD T c A0 σ0 ρ0 Q pc E L S F) (h : tt_at c.1 pc = some ((5, a, z, zz), n)) (hk : tv_hs1 a rc (pc + n) E L S F 3 = true) : tv_SD T c A0 σ0 ρ0 Q pc E L S F := by
  intro ρ ls st σ g
  unfold tv_hs1 at hk
  split at hk
  · rename_i b S1
    rw [Bool.and_eq_true] at hk
    obtain ⟨x, st1, rfl, hg, g1⟩ := tv_pop g
    obtain ⟨n0, rfl, -⟩ := tv_gr hg (tv_beq hk.1)
    exact wp_sta h (R _ _ _ _ _ hk.2 ρ _ _ σ (ts_st1 g1 hg (ts_kp3 (Or.inr (Or.inl rfl)) h)))
  · cases hk
theorem ts_stl (R : ∀ pc E L S F, rc pc E L S F = true → tv_SD T c A0 σ0 ρ0 Q pc E L S F) (h : tt_at c.1 pc = some ((4, a, z, zz), n)) (hk : tv_hs2 a rc (pc + n) E L S F = true) : tv_SD T c A0 σ0 ρ0 Q pc E L S F := by
  intro ρ ls st σ g
  unfold tv_hs2 at hk
  split at hk
  · rename_i b S1
    rw [Bool.and_eq_true] at hk
    obtain ⟨x, st1, rfl, hg, g1⟩ := tv_pop g
    obtain ⟨n0, rfl⟩ := tv_gl hg (tv_beq hk.1)
    exact wp_stl h (R _ _ _ _ _ hk.2 ρ _ _ σ (ts_st2 g1 hg (ts_kp4 h)))
  · cases hk
theorem ts_inc (R : ∀ pc E L S F, rc pc E L S F = true → tv_SD T c A0 σ0 ρ0 Q pc E L S F) (h : tt_at c.1 pc = some ((6, a, z, zz), n)) (hk : tv_hinc a z rc (pc + n) E L S F = true) : tv_SD T c A0 σ0 ρ0 Q pc E L S F := by
  intro ρ ls st σ g
  unfold tv_hinc at hk
  split at hk
  · rename_i b hL
    split at hk
    · rename_i q hq
      simp only [Bool.and_eq_true] at hk
      obtain ⟨⟨z1, z2⟩, hk⟩ := hk
      have hz : -2147483648 ≤ z ∧ z ≤ 2147483647 := ⟨(tv_le_iff _ _).mp z1, (tv_le_iff _ _).mp z2⟩
      have hb : b.1 ≠ 0 := by
        intro e
        unfold tv_iv at hq
        obtain ⟨b1, b2, b3⟩ := b
        dsimp only at e
        subst e
        simp at hq
      obtain ⟨x, hx, hg⟩ := g.2.2.1 a b hL hb
      obtain ⟨hb1, n0, m, rfl, hm, hn, l1, l2⟩ := tv_iv_ok hq g.1 hg
      have ez := tn_ofInt hz.1 hz.2
      cases hc : (tv_le tv_lo (q.1 + z) && tv_le (q.2 + z) tv_hi) with
      | true =>
        rw [hc] at hk
        simp only [cond_true] at hk
        rw [Bool.and_eq_true, tv_le_iff, tv_le_iff] at hc
        have c1 : tv_lo = -2147483648 := rfl
        have c2 : tv_hi = 2147483647 := rfl
        have e := tn_add (x := n0) (y := Int32.ofInt z) (by omega) (by omega)
        exact wp_inc h hx (R _ _ _ _ _ hk ρ _ _ σ (ts_st1 g (Or.inl ⟨rfl, n0 + Int32.ofInt z, m, rfl, hm, by dsimp only; omega⟩) (ts_kp3 (Or.inr (Or.inr rfl)) h)))
      | false =>
        rw [hc] at hk
        simp only [cond_false] at hk
        have g2 := tv_ext g (m := (n0 + Int32.ofInt z).toInt) (r := tv_any) (tv_any_ok _).1 (tv_any_ok _).2
        exact wp_inc h hx (R _ _ _ _ _ hk _ _ _ σ (ts_st1 g2 (tv_gv_new g.1 _) (ts_kp3 (Or.inr (Or.inr rfl)) h)))
    · cases hk
  · cases hk
theorem ts_con (R : ∀ pc E L S F, rc pc E L S F = true → tv_SD T c A0 σ0 ρ0 Q pc E L S F) (h : tt_at c.1 pc = some ((7, a, z, zz), n)) (hk : tv_hcon (tt_n c.1) z rc (pc + n) E L S F = true) : tv_SD T c A0 σ0 ρ0 Q pc E L S F := by
  intro ρ ls st σ g
  unfold tv_hcon at hk
  simp only [Bool.and_eq_true, tv_le_iff] at hk
  obtain ⟨⟨⟨h1, h2⟩, h3⟩, h4⟩ := hk
  exact wp_con h (R _ _ _ _ _ h4 ρ ls _ σ (tv_push g (Or.inl ⟨rfl, Int32.ofInt z, 0, rfl, tv_zero_ok h1 g.1, by rw [tn_ofInt h2 h3]; simp⟩)))
theorem ts_ib (R : ∀ pc E L S F, rc pc E L S F = true → tv_SD T c A0 σ0 ρ0 Q pc E L S F) (h : tt_at c.1 pc = some ((9, a, z, zz), n)) (hk : tv_hib (tt_n c.1) a rc (pc + n) E L S F = true) : tv_SD T c A0 σ0 ρ0 Q pc E L S F := by
  intro ρ ls st σ g
  unfold tv_hib at hk
  split at hk
  · rename_i yb xb S1
    obtain ⟨yv, st1, rfl, hgy, g1⟩ := tv_pop g
    obtain ⟨xv, st2, rfl, hgx, g2⟩ := tv_pop g1
    split at hk
    · rename_i X Y hX hY
      obtain ⟨hx1, x, mx, rfl, hmx, hnx, lx1, lx2⟩ := tv_iv_ok hX g.1 hgx
      obtain ⟨hy1, y, my, rfl, hmy, hny, ly1, ly2⟩ := tv_iv_ok hY g.1 hgy
      rw [Bool.and_eq_true] at hk
      have hz0 := tv_zero_ok hk.1 g.1
      have c1 : tv_lo = -2147483648 := rfl
      have c2 : tv_hi = 2147483647 := rfl
      have hk2 := hk.2
      split at hk2
      · rename_i r hr
        refine wp_ib h (R _ _ _ _ _ hk2 ρ ls _ σ (tv_push g2 ?_))
        unfold tv_ex at hr
        split at hr
        · cases hc : (Nat.beq yb.2.1 (tt_n c.1) && tv_le tv_lo (X.1 + yb.2.2) && tv_le (X.2 + yb.2.2) tv_hi) with
          | true =>
            rw [hc] at hr
            cases hr
            simp only [Bool.and_eq_true, tv_le_iff] at hc
            have e0 := tv_beq hc.1.1
            rw [e0, hz0] at hmy
            cases hmy
            refine Or.inl ⟨rfl, x + y, mx, rfl, hmx, ?_⟩
            rw [tn_add (by omega) (by omega)]
            dsimp only
            omega
          | false =>
            rw [hc] at hr
            simp only [cond_false] at hr
            cases hc2 : (Nat.beq xb.2.1 (tt_n c.1) && tv_le tv_lo (Y.1 + xb.2.2) && tv_le (Y.2 + xb.2.2) tv_hi) with
            | true =>
              rw [hc2] at hr
              cases hr
              simp only [Bool.and_eq_true, tv_le_iff] at hc2
              have e0 := tv_beq hc2.1.1
              rw [e0, hz0] at hmx
              cases hmx
              refine Or.inl ⟨rfl, x + y, my, rfl, hmy, ?_⟩
              rw [tn_add (by omega) (by omega)]
              dsimp only
              omega
            | false => rw [hc2] at hr; cases hr
        · cases hc : (Nat.beq yb.2.1 (tt_n c.1) && tv_le tv_lo (X.1 - yb.2.2) && tv_le (X.2 - yb.2.2) tv_hi) with
          | true =>
            rw [hc] at hr
            cases hr
            simp only [Bool.and_eq_true, tv_le_iff] at hc
            have e0 := tv_beq hc.1.1
            rw [e0, hz0] at hmy
            cases hmy
            refine Or.inl ⟨rfl, x - y, mx, rfl, hmx, ?_⟩
            rw [tn_sub (by omega) (by omega)]
            dsimp only
            omega
          | false => rw [hc] at hr; cases hr
        · cases hr
      · have hr := tv_nw_ok (x := tm_ib a x y) (fun u v => tv_bi_ok a lx1 lx2 ly1 ly2 u v)
        exact wp_ib h (R _ _ _ _ _ hk2 _ ls _ σ (tv_new g2 hr.1 hr.2))
    · cases hk
  · cases hk
theorem ts_div (R : ∀ pc E L S F, rc pc E L S F = true → tv_SD T c A0 σ0 ρ0 Q pc E L S F) (h : tt_at c.1 pc = some ((10, a, z, zz), n)) (hk : tv_hdiv rc (pc + n) E L S F = true) : tv_SD T c A0 σ0 ρ0 Q pc E L S F := by
  intro ρ ls st σ g
  unfold tv_hdiv at hk
  split at hk
  · rename_i yb xb S1
    obtain ⟨yv, st1, rfl, hgy, g1⟩ := tv_pop g
    obtain ⟨xv, st2, rfl, hgx, g2⟩ := tv_pop g1
    split at hk
    · rename_i X Y hX hY
      obtain ⟨hx1, x, mx, rfl, hmx, hnx, lx1, lx2⟩ := tv_iv_ok hX g.1 hgx
      obtain ⟨hy1, y, my, rfl, hmy, hny, ly1, ly2⟩ := tv_iv_ok hY g.1 hgy
      rw [Bool.and_eq_true, tv_le_iff] at hk
      have hr := tv_div_ok lx1 lx2 ly1 ly2 hk.1
      exact wp_div h (fun e => by rw [e] at ly1; have : (0 : Int32).toInt = 0 := rfl; omega) (R _ _ _ _ _ hk.2 _ ls _ σ (tv_new g2 hr.1 hr.2))
    · cases hk
  · cases hk
theorem ts_rem (R : ∀ pc E L S F, rc pc E L S F = true → tv_SD T c A0 σ0 ρ0 Q pc E L S F) (h : tt_at c.1 pc = some ((11, a, z, zz), n)) (hk : tv_hrem rc (pc + n) E L S F = true) : tv_SD T c A0 σ0 ρ0 Q pc E L S F := by
  intro ρ ls st σ g
  unfold tv_hrem at hk
  split at hk
  · rename_i yb xb S1
    obtain ⟨yv, st1, rfl, hgy, g1⟩ := tv_pop g
    obtain ⟨xv, st2, rfl, hgx, g2⟩ := tv_pop g1
    split at hk
    · rename_i X Y hX hY
      obtain ⟨hx1, x, mx, rfl, hmx, hnx, lx1, lx2⟩ := tv_iv_ok hX g.1 hgx
      obtain ⟨hy1, y, my, rfl, hmy, hny, ly1, ly2⟩ := tv_iv_ok hY g.1 hgy
      rw [Bool.and_eq_true, tv_le_iff] at hk
      have hr := tv_rem_ok lx1 lx2 ly1 ly2 hk.1
      exact wp_rem h (fun e => by rw [e] at ly1; have : (0 : Int32).toInt = 0 := rfl; omega) (R _ _ _ _ _ hk.2 _ ls _ σ (tv_new g2 hr.1 hr.2))
    · cases hk
  · cases hk
theorem ts_neg (R : ∀ pc E L S F, rc pc E L S F = true → tv_SD T c A0 σ0 ρ0 Q pc E L S F) (h : tt_at c.1 pc = some ((12, a, z, zz), n)) (hk : tv_hneg rc (pc + n) E L S F = true) : tv_SD T c A0 σ0 ρ0 Q pc E L S F := by
  intro ρ ls st σ g
  unfold tv_hneg at hk
  split at hk
  · rename_i xb S1
    obtain ⟨xv, st2, rfl, hgx, g2⟩ := tv_pop g
    split at hk
    · rename_i X hX
      obtain ⟨hx1, x, mx, rfl, hmx, hnx, lx1, lx2⟩ := tv_iv_ok hX g.1 hgx
      have hr := tv_nw_ok (r := (-X.2, -X.1)) (x := -x) (fun u v => by
        have c1 : tv_lo = -2147483648 := rfl
        have c2 : tv_hi = 2147483647 := rfl
        dsimp only at u v ⊢
        rw [tn_neg (by omega) (by omega)]
        omega)
      exact wp_neg h (R _ _ _ _ _ hk _ ls _ σ (tv_new g2 hr.1 hr.2))
    · cases hk
  · cases hk
theorem ts_lb (R : ∀ pc E L S F, rc pc E L S F = true → tv_SD T c A0 σ0 ρ0 Q pc E L S F) (h : tt_at c.1 pc = some ((13, a, z, zz), n)) (hk : tv_hll 2 2 rc (pc + n) E L S F = true) : tv_SD T c A0 σ0 ρ0 Q pc E L S F := by
  intro ρ ls st σ g
  unfold tv_hll at hk
  split at hk
  · rename_i yb xb S1
    obtain ⟨yv, st1, rfl, hgy, g1⟩ := tv_pop g
    obtain ⟨xv, st2, rfl, hgx, g2⟩ := tv_pop g1
    simp only [Bool.and_eq_true] at hk
    obtain ⟨y, rfl⟩ := tv_gl hgy (tv_beq hk.1.1)
    obtain ⟨x, rfl⟩ := tv_gl hgx (tv_beq hk.1.2)
    exact wp_lb h (R _ _ _ _ _ hk.2 ρ ls _ σ (tv_push g2 (tv_long _)))
  · cases hk
theorem ts_ls (R : ∀ pc E L S F, rc pc E L S F = true → tv_SD T c A0 σ0 ρ0 Q pc E L S F) (h : tt_at c.1 pc = some ((14, a, z, zz), n)) (hk : tv_hll 1 2 rc (pc + n) E L S F = true) : tv_SD T c A0 σ0 ρ0 Q pc E L S F := by
  intro ρ ls st σ g
  unfold tv_hll at hk
  split at hk
  · rename_i yb xb S1
    obtain ⟨yv, st1, rfl, hgy, g1⟩ := tv_pop g
    obtain ⟨xv, st2, rfl, hgx, g2⟩ := tv_pop g1
    simp only [Bool.and_eq_true] at hk
    obtain ⟨y, m, rfl, -⟩ := tv_gi hgy (tv_beq hk.1.1)
    obtain ⟨x, rfl⟩ := tv_gl hgx (tv_beq hk.1.2)
    exact wp_ls h (R _ _ _ _ _ hk.2 ρ ls _ σ (tv_push g2 (tv_long _)))
  · cases hk
theorem ts_cmp (R : ∀ pc E L S F, rc pc E L S F = true → tv_SD T c A0 σ0 ρ0 Q pc E L S F) (h : tt_at c.1 pc = some ((15, a, z, zz), n)) (hk : tv_hcmp rc (pc + n) E L S F = true) : tv_SD T c A0 σ0 ρ0 Q pc E L S F := by
  intro ρ ls st σ g
  unfold tv_hcmp at hk
  split at hk
  · rename_i yb xb S1
    obtain ⟨yv, st1, rfl, hgy, g1⟩ := tv_pop g
    obtain ⟨xv, st2, rfl, hgx, g2⟩ := tv_pop g1
    simp only [Bool.and_eq_true] at hk
    obtain ⟨y, rfl⟩ := tv_gl hgy (tv_beq hk.1.1)
    obtain ⟨x, rfl⟩ := tv_gl hgx (tv_beq hk.1.2)
    have hr : (-1 : Int) ≤ (lg_cmp x y).toInt ∧ (lg_cmp x y).toInt ≤ 1 := by
      have e1 : (1 : Int32).toInt = 1 := by decide
      have e2 : (-1 : Int32).toInt = -1 := by decide
      have e3 : (0 : Int32).toInt = 0 := by decide
      unfold lg_cmp
      split
      · omega
      · split <;> omega
    exact wp_cmp h (R _ _ _ _ _ hk.2 _ ls _ σ (tv_new g2 hr.1 hr.2))
  · cases hk
theorem ts_cv (R : ∀ pc E L S F, rc pc E L S F = true → tv_SD T c A0 σ0 ρ0 Q pc E L S F) (h : tt_at c.1 pc = some ((16, a, z, zz), n)) (hk : tv_hcv a rc (pc + n) E L S F = true) : tv_SD T c A0 σ0 ρ0 Q pc E L S F := by
  intro ρ ls st σ g
  unfold tv_hcv at hk
  split at hk
  · rename_i xb S1
    obtain ⟨xv, st2, rfl, hgx, g2⟩ := tv_pop g
    split at hk
    · rw [Bool.and_eq_true] at hk
      obtain ⟨x, m, rfl, -⟩ := tv_gi hgx (tv_beq hk.1)
      exact wp_i2l h (R _ _ _ _ _ hk.2 ρ ls _ σ (tv_push g2 (tv_long _)))
    · rw [Bool.and_eq_true] at hk
      obtain ⟨x, rfl⟩ := tv_gl hgx (tv_beq hk.1)
      exact wp_l2i h (R _ _ _ _ _ hk.2 _ ls _ σ (tv_new g2 (tv_any_ok _).1 (tv_any_ok _).2))
    · split at hk
      · rename_i X hX
        obtain ⟨hx1, x, mx, rfl, hmx, hnx, lx1, lx2⟩ := tv_iv_ok hX g.1 hgx
        have ec := pk_char x
        have hN : (x.toBitVec.toNat % 65536 : Nat) < 65536 := Nat.mod_lt _ (by decide)
        cases hc : (tv_le 0 X.1 && tv_le X.2 65535) with
        | true =>
          rw [hc] at hk
          rw [Bool.and_eq_true, tv_le_iff, tv_le_iff] at hc
          have g0 := tn_nn (x := x) (by omega)
          have e2 : (x.toUInt32 % 65536).toInt32 = x := by
            rw [ec, Nat.mod_eq_of_lt (by omega)]
            apply Int32.toInt_inj.mp
            rw [nI_toInt (by omega)]
            exact g0.1.symm
          refine wp_i2c h ?_
          rw [e2]
          exact R _ _ _ _ _ hk ρ ls _ σ (tv_push g2 hgx)
        | false =>
          rw [hc] at hk
          have e2 : ((x.toUInt32 % 65536).toInt32).toInt = ((x.toBitVec.toNat % 65536 : Nat) : Int) := by rw [ec, nI_toInt (by omega)]
          refine wp_i2c h (R _ _ _ _ _ hk _ ls _ σ (tv_new (r := (0, 65535)) g2 ?_ ?_))
          · show (0 : Int) ≤ _; omega
          · show _ ≤ (65535 : Int); omega
      · cases hk
    · cases hk
  · cases hk
theorem tv_c1 {ρ : List Int} {b : tv_A} {x : Value} (h : tv_gv ρ b x) (hb : (Nat.beq b.1 1 || Nat.beq b.1 3) = true) : x.category = 1 := by
  rw [Bool.or_eq_true] at hb
  rcases hb with e | e
  · obtain ⟨n, m, rfl, -⟩ := tv_gi h (tv_beq e)
    rfl
  · obtain ⟨k, rfl, -⟩ := tv_gr h (tv_beq e)
    rfl
theorem ts_dup (R : ∀ pc E L S F, rc pc E L S F = true → tv_SD T c A0 σ0 ρ0 Q pc E L S F) (h : tt_at c.1 pc = some ((17, a, z, zz), n)) (hk : tv_hdup rc (pc + n) E L S F = true) : tv_SD T c A0 σ0 ρ0 Q pc E L S F := by
  intro ρ ls st σ g
  unfold tv_hdup at hk
  split at hk
  · rename_i xb S1
    obtain ⟨xv, st2, rfl, hgx, g2⟩ := tv_pop g
    rw [Bool.and_eq_true] at hk
    exact wp_dup h (tv_c1 hgx hk.1) (R _ _ _ _ _ hk.2 ρ ls _ σ (tv_push g hgx))
  · cases hk
theorem ts_pop (R : ∀ pc E L S F, rc pc E L S F = true → tv_SD T c A0 σ0 ρ0 Q pc E L S F) (h : tt_at c.1 pc = some ((18, a, z, zz), n)) (hk : tv_hpop rc (pc + n) E L S F = true) : tv_SD T c A0 σ0 ρ0 Q pc E L S F := by
  intro ρ ls st σ g
  unfold tv_hpop at hk
  split at hk
  · rename_i xb S1
    obtain ⟨xv, st2, rfl, hgx, g2⟩ := tv_pop g
    rw [Bool.and_eq_true] at hk
    exact wp_pop h (tv_c1 hgx hk.1) (R _ _ _ _ _ hk.2 ρ ls _ σ g2)
  · cases hk
end TVS
end
section
/-! ===== handlers: fields, arrays, branches ===== -/
theorem tv_ob_ok {b : tv_A} {ci : Nat} {ks : List Nat} (h : tv_ob b ci = some ks) : b.1 = 3 ∧ (b.2.1 : Int) = b.2.2 ∧ tt_shp[b.2.1]? = some (.inl (ci, ks)) := by
  unfold tv_ob at h
  cases hb : (Nat.beq b.1 3 && tv_eq (b.2.1 : Int) b.2.2) with
  | false => rw [hb] at h; cases h
  | true =>
    rw [hb] at h
    rw [Bool.and_eq_true, tv_eq_iff] at hb
    simp only [cond_true] at h
    split at h
    · rename_i q hq
      cases hc : Nat.beq q.1 ci with
      | false => rw [hc] at h; cases h
      | true =>
        rw [hc] at h
        cases h
        refine ⟨tv_beq hb.1, hb.2, ?_⟩
        rw [hq, ← tv_beq hc]
    · cases h
theorem tv_kd_of {p ci k kd : Nat} {ks : List Nat} (h : tt_shp[p]? = some (.inl (ci, ks))) (hk : ks[k]? = some kd) : tv_kd p k = some kd := by
  unfold tv_kd
  rw [h]
  exact hk
theorem tv_fl_in {p k : Nat} {b : tv_A} : ∀ {F : tv_F}, tv_fl F p k = some b → ((p, k), b) ∈ F
  | [], h => by cases h
  | q :: t, h => by
    unfold tv_fl at h
    cases hc : (Nat.beq q.1.1 p && Nat.beq q.1.2 k) with
    | false => rw [hc] at h; exact List.mem_cons_of_mem _ (tv_fl_in h)
    | true =>
      rw [hc] at h
      cases h
      rw [Bool.and_eq_true] at hc
      have e : q = ((p, k), q.2) := by
        rw [← tv_beq hc.1, ← tv_beq hc.2]
      rw [← e]
      exact List.mem_cons_self
theorem tv_rg_in {p k : Nat} {q : Nat × Nat × Bool} (h : tv_rg p k = some q) : ((p, k), q) ∈ tv_rt := by
  unfold tv_rg at h
  split at h
  · rename_i r hr
    cases h
    have h1 := List.find?_some hr
    have h2 := List.mem_of_find?_eq_some hr
    rw [Bool.and_eq_true] at h1
    have e : r = ((p, k), r.2) := by rw [← tv_beq h1.1, ← tv_beq h1.2]
    rw [← e]
    exact h2
  · cases h
theorem tv_each_ok {rc : tv_rc} {pc : Nat} {E : tv_E} {L S : List tv_A} {F : tv_F} {p k : Nat} : ∀ (n q : Nat), tv_each rc pc E L S F p k q n = true → ∀ r, q ≤ r → r < q + n → rc pc E L ((3, r, (r : Int)) :: S) (((p, k), (3, r, (r : Int))) :: F) = true
  | 0, q, _, r, h1, h2 => by omega
  | n + 1, q, h, r, h1, h2 => by
    unfold tv_each at h
    rw [Bool.and_eq_true] at h
    by_cases e : r = q
    · rw [e]; exact h.1
    · exact tv_each_ok n (q + 1) h.2 r (by omega) (by omega)
theorem tv_rt_fn : ∀ q ∈ tv_rt, ∀ r ∈ tv_rt, q.1.1 = r.1.1 → q.1.2 = r.1.2 → q.2 = r.2 := by decide +kernel
section TVS
variable {T : tv_TT} {c : tv_C} {A0 : List (Nat × Value)} {σ0 : tm_S} {ρ0 : List Int} {Q : Option Value → tm_S → Prop} {rc : tv_rc} {pc n a : Nat} {z : Int} {zz : List (Int × Nat)} {E : tv_E} {L S : List tv_A} {F : tv_F}
theorem tv_addF {ρ : List Int} {ls : List (Nat × Value)} {st : List Value} {σ : tm_S} {q : (Nat × Nat) × tv_A} (g : tv_g T c A0 σ0 ρ0 ρ E L S F ls st σ) (h : tv_gF ρ q σ) : tv_g T c A0 σ0 ρ0 ρ E L S (q :: F) ls st σ :=
  ⟨g.1, g.2.1, g.2.2.1, g.2.2.2.1, fun r hr => (List.mem_cons.mp hr).elim (fun e => e ▸ h) (g.2.2.2.2.1 r), g.2.2.2.2.2⟩
theorem ts_get (R : ∀ pc E L S F, rc pc E L S F = true → tv_SD T c A0 σ0 ρ0 Q pc E L S F) (h : tt_at c.1 pc = some ((19, a, z, zz), n)) (hk : tv_hget T a rc (pc + n) E L S F = true) : tv_SD T c A0 σ0 ρ0 Q pc E L S F := by
  intro ρ ls st σ g
  unfold tv_hget at hk
  split at hk
  · rename_i b S1
    obtain ⟨bv, st2, rfl, hgb, g2⟩ := tv_pop g
    split at hk
    · rename_i ks hob
      obtain ⟨o1, o2, o3⟩ := tv_ob_ok hob
      obtain ⟨p, rfl, q1, q2⟩ := tv_gr hgb o1
      have hp : p = b.2.1 := by omega
      subst hp
      split at hk
      · rename_i kd hkd
        have hK := tv_kd_of o3 hkd
        have gi : ∀ (e : kd = 0 ∨ kd = 1), tv_hgi T b.2.1 (a % 64) rc (pc + n) E L S1 F = true → WP c.2.2.2.2.2 c.1 (pc + n) ls (tm_val σ b.2.1 (a % 64) kd :: st2) σ Q := by
          intro e hk
          have ev : tm_val σ b.2.1 (a % 64) kd = .int (σ.1 b.2.1 (a % 64)) := by rcases e with rfl | rfl <;> rfl
          unfold tv_hgi at hk
          split at hk
          · rename_i b2 hfl
            rw [Bool.and_eq_true] at hk
            exact R _ _ _ _ _ hk.2 ρ ls _ σ (tv_push g2 (g.2.2.2.2.1 _ (tv_fl_in hfl) kd hK))
          · rw [ev]
            have hty := g.2.2.2.2.2.1.1.1 b.2.1 (a % 64)
            have g3 := tv_new (x := σ.1 b.2.1 (a % 64)) (r := tv_ti T b.2.1 (a % 64)) g2 hty.1 hty.2
            refine R _ _ _ _ _ hk _ ls _ σ (tv_addF g3 (fun kd2 hkd2 => ?_))
            have e2 : kd2 = kd := Option.some.inj (hkd2.symm.trans hK)
            rw [e2]
            show tv_gv _ (1, E.length, 0) (tm_val σ b.2.1 (a % 64) kd)
            rw [ev]
            exact tv_gv_new g.1 _
        refine wp_get h o3 hkd ?_
        split at hk
        · exact gi (Or.inl rfl) hk
        · exact gi (Or.inr rfl) hk
        · cases hk
        · unfold tv_hgr at hk
          split at hk
          · rename_i b2 hfl
            rw [Bool.and_eq_true] at hk
            exact R _ _ _ _ _ hk.2 ρ ls _ σ (tv_push g2 (g.2.2.2.2.1 _ (tv_fl_in hfl) 3 hK))
          · split at hk
            · rename_i r hr
              have hty := g.2.2.2.2.2.1.1.2 _ (tv_rg_in hr)
              dsimp only at hty
              show WP _ _ _ _ (.ref (σ.2.2 b.2.1 (a % 64)) :: st2) _ _
              cases hc : r.2.2 with
              | true =>
                rw [hc] at hk
                have h5 := tv_each_ok _ _ hk (σ.2.2 b.2.1 (a % 64)) hty.1 (by omega)
                refine R _ _ _ _ _ h5 ρ ls _ σ (tv_addF (tv_push g2 (tv_ref _)) (fun kd2 hkd2 => ?_))
                have e2 : kd2 = 3 := Option.some.inj (hkd2.symm.trans hK)
                rw [e2]
                exact tv_ref _
              | false =>
                rw [hc] at hk
                exact R _ _ _ _ _ hk ρ ls _ σ (tv_push g2 (Or.inr (Or.inr ⟨rfl, _, rfl, hty.1, by dsimp only; omega⟩)))
            · cases hk
        · exact R _ _ _ _ _ hk ρ ls _ σ (tv_push g2 (tv_ref _))
      · cases hk
    · cases hk
  · cases hk
theorem tv_val_sI {σ : tm_S} {p k p' k' : Nat} {x : Int32} (h : ¬ (p' = p ∧ k' = k)) : ∀ kd : Nat, tm_val (tm_sI σ p k x) p' k' kd = tm_val σ p' k' kd := by
  have e : (tm_sI σ p k x).1 p' k' = σ.1 p' k' := by
    unfold tm_sI
    by_cases hp : p' = p
    · subst hp
      rw [tm_sA_at]
      exact pk_un (fun e => h ⟨rfl, e⟩)
    · rw [tm_sA_ne _ _ hp]
  intro kd
  match kd with
  | 0 => show Value.int _ = Value.int _; rw [e]
  | 1 => show Value.int _ = Value.int _; rw [e]
  | 2 => rfl
  | 3 => rfl
  | _ + 4 => rfl
theorem tv_val_sR {σ : tm_S} {p k p' k' x : Nat} (h : ¬ (p' = p ∧ k' = k)) : ∀ kd : Nat, tm_val (tm_sR σ p k x) p' k' kd = tm_val σ p' k' kd := by
  have e : (tm_sR σ p k x).2.2 p' k' = σ.2.2 p' k' := by
    by_cases hp : p' = p
    · subst hp
      rw [tm_sR_at]
      exact if_neg (fun e => h ⟨rfl, e⟩)
    · rw [tm_sR_ne _ _ hp]
  intro kd
  match kd with
  | 0 => rfl
  | 1 => rfl
  | 2 => rfl
  | 3 => show Value.ref _ = Value.ref _; rw [e]
  | _ + 4 => rfl
theorem tv_mem_iff {w : List (Nat × Nat)} {p k : Nat} : tv_mem w p k = true ↔ (p, k) ∈ w := by
  unfold tv_mem
  rw [List.any_eq_true]
  constructor
  · rintro ⟨q, hq, h⟩
    rw [Bool.and_eq_true] at h
    have e : q = (p, k) := by rw [← tv_beq h.1, ← tv_beq h.2]
    rw [← e]
    exact hq
  · intro h
    exact ⟨(p, k), h, by rw [Bool.and_eq_true]; exact ⟨Nat.beq_refl p, Nat.beq_refl k⟩⟩
/-- a field is set: what the state knows stays -/
theorem tv_setF {ρ : List Int} {ls : List (Nat × Value)} {st : List Value} {σ σ' : tm_S} {p k : Nat} {b : tv_A} (g : tv_g T c A0 σ0 ρ0 ρ E L S F ls st σ) (hw : tv_mem c.2.2.2.2.1 p k = true) (hT : tv_TY T σ') (ho : ∀ p' k' kd, ¬ (p' = p ∧ k' = k) → tm_val σ' p' k' kd = tm_val σ p' k' kd) (hv : tv_gF ρ ((p, k), b) σ') :
    tv_g T c A0 σ0 ρ0 ρ E L S (((p, k), b) :: tv_fd F p k) ls st σ' := by
  refine ⟨g.1, g.2.1, g.2.2.1, g.2.2.2.1, fun q hq => ?_, ⟨hT, fun k1 j1 kd h1 h2 => ?_⟩, g.2.2.2.2.2.2⟩
  · rcases List.mem_cons.mp hq with rfl | hq
    · exact hv
    · obtain ⟨h1, h2⟩ := List.mem_filter.mp hq
      intro kd hkd
      have hne : ¬ (q.1.1 = p ∧ q.1.2 = k) := by
        rintro ⟨e1, e2⟩
        rw [e1, e2, Nat.beq_refl, Nat.beq_refl] at h2
        cases h2
      rw [ho _ _ _ hne]
      exact g.2.2.2.2.1 q h1 kd hkd
  · rw [ho k1 j1 kd]
    · exact g.2.2.2.2.2.1.2 k1 j1 kd h1 h2
    · rintro ⟨rfl, rfl⟩
      rw [hw] at h2
      cases h2
theorem tv_sub_int {ρ : List Int} {b : tv_A} {x : Value} {lo hi : Int} (hE : tv_gE ρ E) (hv : tv_gv ρ b x) (h : tv_sub E b (1, lo, hi) = true) : ∃ m : Int32, x = .int m ∧ lo ≤ m.toInt ∧ m.toInt ≤ hi := by
  change (match tv_iv E b with
    | some q => tv_le lo q.1 && tv_le q.2 hi
    | none => false) = true at h
  split at h
  · rename_i q hq
    rw [Bool.and_eq_true, tv_le_iff, tv_le_iff] at h
    obtain ⟨-, m, k, rfl, -, -, l1, l2⟩ := tv_iv_ok hq hE hv
    exact ⟨m, rfl, by omega, by omega⟩
  · cases h
theorem tv_sub_ref {ρ : List Int} {b : tv_A} {x : Value} {lo hi : Int} (hv : tv_gv ρ b x) (h : tv_sub E b (3, lo, hi) = true) : ∃ m : Nat, x = .ref m ∧ lo ≤ (m : Int) ∧ (m : Int) ≤ hi := by
  change (Nat.beq b.1 3 && tv_le lo (b.2.1 : Int) && tv_le b.2.2 hi) = true at h
  simp only [Bool.and_eq_true, tv_le_iff] at h
  obtain ⟨k, rfl, l1, l2⟩ := tv_gr hv (tv_beq h.1.1)
  exact ⟨k, rfl, by omega, by omega⟩
theorem tv_TY_sI {σ : tm_S} {p k : Nat} {x : Int32} (hT : tv_TY T σ) (h1 : (tv_ti T p k).1 ≤ x.toInt) (h2 : x.toInt ≤ (tv_ti T p k).2) : tv_TY T (tm_sI σ p k x) := by
  refine ⟨fun a j => ?_, hT.2⟩
  unfold tm_sI
  by_cases ha : a = p
  · subst ha
    rw [tm_sA_at]
    by_cases hj : j = k
    · subst hj
      rw [pk_us]
      exact ⟨h1, h2⟩
    · rw [pk_un hj]
      exact hT.1 a j
  · rw [tm_sA_ne _ _ ha]
    exact hT.1 a j
theorem ts_put (R : ∀ pc E L S F, rc pc E L S F = true → tv_SD T c A0 σ0 ρ0 Q pc E L S F) (h : tt_at c.1 pc = some ((20, a, z, zz), n)) (hk : tv_hput T c.2.2.2.2.1 a rc (pc + n) E L S F = true) : tv_SD T c A0 σ0 ρ0 Q pc E L S F := by
  intro ρ ls st σ g
  unfold tv_hput at hk
  split at hk
  · rename_i v b S1
    obtain ⟨vv, st1, rfl, hgv, g1⟩ := tv_pop g
    obtain ⟨bv, st2, rfl, hgb, g2⟩ := tv_pop g1
    split at hk
    · rename_i ks hob
      obtain ⟨o1, o2, o3⟩ := tv_ob_ok hob
      obtain ⟨p, rfl, q1, q2⟩ := tv_gr hgb o1
      have hp : p = b.2.1 := by omega
      subst hp
      rw [Bool.and_eq_true] at hk
      obtain ⟨hw, hk⟩ := hk
      split at hk
      · rename_i kd hkd
        have hK := tv_kd_of o3 hkd
        have hI : ∀ (x : Int32), vv = .int x → (kd = 0 ∨ kd = 1) → (tv_ti T b.2.1 (a % 64)).1 ≤ x.toInt → x.toInt ≤ (tv_ti T b.2.1 (a % 64)).2 → tv_g T c A0 σ0 ρ0 ρ E L S1 (((b.2.1, a % 64), v) :: tv_fd F b.2.1 (a % 64)) ls st2 (tm_sI σ b.2.1 (a % 64) x) := by
          intro x ex ek l1 l2
          refine tv_setF g2 hw (tv_TY_sI g.2.2.2.2.2.1.1 l1 l2) (fun p' k' kd hne => tv_val_sI hne kd) (fun kd2 hkd2 => ?_)
          have e2 : kd2 = kd := Option.some.inj (hkd2.symm.trans hK)
          have e9 : (tm_sI σ b.2.1 (a % 64) x).1 b.2.1 (a % 64) = x := by unfold tm_sI; rw [tm_sA_at]; exact if_pos rfl
          have ev : tm_val (tm_sI σ b.2.1 (a % 64) x) b.2.1 (a % 64) kd2 = .int x := by
            rw [e2]
            rcases ek with rfl | rfl
            · show Value.int _ = _; rw [e9]
            · show Value.int _ = _; rw [e9]
          show tv_gv ρ v _
          rw [ev, ← ex]
          exact hgv
        split at hk
        · rw [Bool.and_eq_true] at hk
          obtain ⟨x, rfl, l1, l2⟩ := tv_sub_int g.1 hgv hk.1
          exact wp_puti h o3 hkd (Or.inl rfl) (R _ _ _ _ _ hk.2 ρ ls _ _ (hI x rfl (Or.inl rfl) l1 l2))
        · rw [Bool.and_eq_true, Bool.and_eq_true] at hk
          obtain ⟨x, rfl, l1, l2⟩ := tv_sub_int g.1 hgv hk.1.1
          obtain ⟨x2, e2, l3, l4⟩ := tv_sub_int g.1 hgv hk.1.2
          cases e2
          have hx : x = 0 ∨ x = 1 := by
            rcases (show x.toInt = 0 ∨ x.toInt = 1 by omega) with e | e
            · exact Or.inl (Int32.toInt_inj.mp e)
            · exact Or.inr (Int32.toInt_inj.mp e)
          exact wp_puti h o3 hkd (Or.inr ⟨rfl, hx⟩) (R _ _ _ _ _ hk.2 ρ ls _ _ (hI x rfl (Or.inr rfl) l1 l2))
        · split at hk
          · rename_i r hr
            rw [Bool.and_eq_true] at hk
            obtain ⟨x, rfl, l1, l2⟩ := tv_sub_ref hgv hk.1
            refine wp_putr h o3 hkd rfl (R _ _ _ _ _ hk.2 ρ ls _ _ (tv_setF g2 hw ⟨g.2.2.2.2.2.1.1.1, fun q hq => ?_⟩ (fun p' k' kd hne => tv_val_sR hne kd) (fun kd2 hkd2 => ?_)))
            · by_cases hq2 : q.1.1 = b.2.1 ∧ q.1.2 = a % 64
              · have e3 : (tm_sR σ b.2.1 (a % 64) x).2.2 q.1.1 q.1.2 = x := by rw [hq2.1, hq2.2, tm_sR_at]; exact if_pos rfl
                rw [e3]
                have hin := tv_rg_in hr
                have huniq : q.2 = r := tv_rt_fn q hq _ hin hq2.1 hq2.2
                rw [huniq]
                omega
              · have e3 := tv_val_sR (σ := σ) (x := x) hq2 3
                have e4 : (tm_sR σ b.2.1 (a % 64) x).2.2 q.1.1 q.1.2 = σ.2.2 q.1.1 q.1.2 := by
                  have := Value.ref.inj e3
                  exact this
                rw [e4]
                exact g.2.2.2.2.2.1.1.2 q hq
            · have e2 : kd2 = 3 := Option.some.inj (hkd2.symm.trans hK)
              rw [e2]
              show tv_gv ρ v (.ref ((tm_sR σ b.2.1 (a % 64) x).2.2 b.2.1 (a % 64)))
              rw [show (tm_sR σ b.2.1 (a % 64) x).2.2 b.2.1 (a % 64) = x by rw [tm_sR_at]; exact if_pos rfl]
              exact hgv
          · cases hk
        · cases hk
      · cases hk
    · cases hk
  · cases hk
end TVS
end
section
/-! ===== handlers: arrays, branches, returns ===== -/
theorem tv_ix_ok {E : tv_E} {i b : tv_A} {q : Nat × Nat} (h : tv_ix E i b = some q) : b.1 = 3 ∧ tt_shp[b.2.1]? = some (.inr q) ∧ ∃ I, tv_iv E i = some I ∧ 0 ≤ I.1 ∧ I.2 + 1 ≤ (q.2 : Int) := by
  unfold tv_ix at h
  cases hb : Nat.beq b.1 3 with
  | false => rw [hb] at h; cases h
  | true =>
    rw [hb] at h
    simp only [cond_true] at h
    split at h
    · rename_i I r hI hr
      cases hc : (tv_le 0 I.1 && tv_le (I.2 + 1) (r.2 : Int)) with
      | false => rw [hc] at h; cases h
      | true =>
        rw [hc] at h
        cases h
        rw [Bool.and_eq_true, tv_le_iff, tv_le_iff] at hc
        exact ⟨tv_beq hb, hr, I, hI, hc.1, hc.2⟩
    · cases h
theorem tv_ar_ok {T : tv_TT} {t N : Nat} {ty : Int × Int} : ∀ (n p : Nat), tv_ar T t N ty p n = true → ∀ r, p ≤ r → r < p + n → tt_shp[r]? = some (.inr (t, N)) ∧ ∀ j, tv_ti T r j = ty
  | 0, p, _, r, h1, h2 => by omega
  | n + 1, p, h, r, h1, h2 => by
    unfold tv_ar at h
    rw [Bool.and_eq_true, Bool.and_eq_true] at h
    obtain ⟨⟨ha, hb⟩, hc⟩ := h
    by_cases e : r = p
    · subst e
      split at ha
      · rename_i q hq
        simp only [Bool.and_eq_true, tv_eq_iff] at ha
        obtain ⟨⟨⟨a1, a2⟩, a3⟩, a4⟩ := ha
        refine ⟨?_, fun j => ?_⟩
        · rw [hq, ← tv_beq a1, ← tv_beq a2]
        · have e1 : tv_ti T r j = tv_ti T r 0 := by
            unfold tv_ti
            split at hb
            · cases hb
            · rename_i hno
              cases hT : T[r]? with
              | none => rfl
              | some x =>
                cases x with
                | inl l => exact absurd hT (hno l)
                | inr y => rfl
          rw [e1]
          exact Prod.ext a3 a4
      · cases ha
    · exact tv_ar_ok n (p + 1) hc r (by omega) (by omega)
theorem tv_all_ok {T : tv_TT} {b : tv_A} {t N r : Nat} (h : tv_all T b t N = true) (h1 : b.2.1 ≤ r) (h2 : (r : Int) ≤ b.2.2) : tt_shp[r]? = some (.inr (t, N)) ∧ ∀ j, tv_ti T r j = tv_ti T b.2.1 0 := tv_ar_ok _ _ h r h1 (by omega)
theorem tv_kd_arr {p k kd : Nat} {q : Nat × Nat} (h : tt_shp[p]? = some (.inr q)) : tv_kd p k ≠ some kd := by
  unfold tv_kd
  rw [h]
  intro e
  cases e
section TVS
variable {T : tv_TT} {c : tv_C} {A0 : List (Nat × Value)} {σ0 : tm_S} {ρ0 : List Int} {Q : Option Value → tm_S → Prop} {rc : tv_rc} {pc n a : Nat} {z : Int} {zz : List (Int × Nat)} {E : tv_E} {L S : List tv_A} {F : tv_F}
theorem ts_ald (R : ∀ pc E L S F, rc pc E L S F = true → tv_SD T c A0 σ0 ρ0 Q pc E L S F) (h : tt_at c.1 pc = some ((21, a, z, zz), n)) (hk : tv_hald T a rc (pc + n) E L S F = true) : tv_SD T c A0 σ0 ρ0 Q pc E L S F := by
  intro ρ ls st σ g
  unfold tv_hald at hk
  split at hk
  · rename_i i b S1
    obtain ⟨iv, st1, rfl, hgi, g1⟩ := tv_pop g
    obtain ⟨bv, st2, rfl, hgb, g2⟩ := tv_pop g1
    split at hk
    · rename_i q hix
      obtain ⟨o1, o3, I, hI, l1, l2⟩ := tv_ix_ok hix
      obtain ⟨p, rfl, q1, q2⟩ := tv_gr hgb o1
      obtain ⟨-, x, m, rfl, -, -, x1, x2⟩ := tv_iv_ok hI g.1 hgi
      have hin : ∀ N : Nat, N = q.2 → vp_in x N := fun N e => tn_in (by omega) (by rw [e]; omega)
      split at hk
      · rw [Bool.and_eq_true] at hk
        obtain ⟨s1, s2⟩ := tv_all_ok hk.1 q1 q2
        have hty := g.2.2.2.2.2.1.1.1 p x.toNatClampNeg
        rw [s2] at hty
        exact wp_iald h s1 (hin _ rfl) (R _ _ _ _ _ hk.2 _ ls _ σ (tv_new g2 hty.1 hty.2))
      · rw [Bool.and_eq_true] at hk
        obtain ⟨s1, s2⟩ := tv_all_ok hk.1 q1 q2
        exact wp_lald h s1 (hin _ rfl) (R _ _ _ _ _ hk.2 ρ ls _ σ (tv_push g2 (tv_long _)))
      · rw [Bool.and_eq_true] at hk
        obtain ⟨s1, s2⟩ := tv_all_ok hk.1 q1 q2
        have hty := g.2.2.2.2.2.1.1.1 p x.toNatClampNeg
        rw [s2] at hty
        exact wp_zald h s1 (hin _ rfl) (R _ _ _ _ _ hk.2 _ ls _ σ (tv_new g2 hty.1 hty.2))
      · rw [Bool.and_eq_true, Bool.and_eq_true, tv_eq_iff] at hk
        have hp : p = b.2.1 := by omega
        subst hp
        have h3 := Nat.le_of_ble_eq_true hk.1.1
        have hs : tt_shp[b.2.1]? = some (.inr (q.1 - 3 + 3, q.2)) := by rw [show q.1 - 3 + 3 = q.1 by omega]; exact o3
        have hcl := tn_cl (x := x) (by omega)
        exact wp_aald h hs (hin _ rfl) (R _ _ _ _ _ hk.2 ρ ls _ σ (tv_push g2 (Or.inr (Or.inr ⟨rfl, _, rfl, by dsimp only; omega, by dsimp only; omega⟩))))
      · cases hk
    · cases hk
  · cases hk
theorem tv_TY_row {σ : tm_S} {p k : Nat} {x : Int32} {ty : Int × Int} (hT : tv_TY T σ) (hu : ∀ j, tv_ti T p j = ty) (h1 : ty.1 ≤ x.toInt) (h2 : x.toInt ≤ ty.2) : tv_TY T (tm_sI σ p k x) := tv_TY_sI hT (by rw [hu]; exact h1) (by rw [hu]; exact h2)
/-- an array is changed: what the state knows stays -/
theorem tv_setA {ρ : List Int} {ls : List (Nat × Value)} {st : List Value} {σ σ' : tm_S} (g : tv_g T c A0 σ0 ρ0 ρ E L S F ls st σ) (hT : tv_TY T σ') (ho : ∀ p' k' kd, tv_kd p' k' = some kd → tm_val σ' p' k' kd = tm_val σ p' k' kd) : tv_g T c A0 σ0 ρ0 ρ E L S F ls st σ' := by
  refine ⟨g.1, g.2.1, g.2.2.1, g.2.2.2.1, fun q hq kd hkd => ?_, ⟨hT, fun k1 j1 kd h1 h2 => ?_⟩, g.2.2.2.2.2.2⟩
  · rw [ho _ _ _ hkd]
    exact g.2.2.2.2.1 q hq kd hkd
  · rw [ho _ _ _ h1]
    exact g.2.2.2.2.2.1.2 k1 j1 kd h1 h2
theorem tv_keepI {σ : tm_S} {p k : Nat} {x : Int32} {q : Nat × Nat} (h : tt_shp[p]? = some (.inr q)) : ∀ p' k' kd, tv_kd p' k' = some kd → tm_val (tm_sI σ p k x) p' k' kd = tm_val σ p' k' kd := by
  intro p' k' kd hkd
  refine tv_val_sI ?_ kd
  rintro ⟨rfl, -⟩
  exact tv_kd_arr h hkd
theorem tv_keepJ {σ : tm_S} {p k : Nat} {x : Int64} {q : Nat × Nat} (h : tt_shp[p]? = some (.inr q)) : ∀ p' k' kd, tv_kd p' k' = some kd → tm_val (tm_sJ σ p k x) p' k' kd = tm_val σ p' k' kd := by
  intro p' k' kd hkd
  have hp : p' ≠ p := by
    rintro rfl
    exact tv_kd_arr h hkd
  match kd with
  | 0 => rfl
  | 1 => rfl
  | 2 => show Value.long _ = Value.long _; rw [tm_sJ_ne _ _ hp]
  | 3 => rfl
  | _ + 4 => rfl
theorem ts_ast (R : ∀ pc E L S F, rc pc E L S F = true → tv_SD T c A0 σ0 ρ0 Q pc E L S F) (h : tt_at c.1 pc = some ((22, a, z, zz), n)) (hk : tv_hast T a rc (pc + n) E L S F = true) : tv_SD T c A0 σ0 ρ0 Q pc E L S F := by
  intro ρ ls st σ g
  unfold tv_hast at hk
  split at hk
  · rename_i v i b S1
    obtain ⟨vv, st0, rfl, hgv, g0⟩ := tv_pop g
    obtain ⟨iv, st1, rfl, hgi, g1⟩ := tv_pop g0
    obtain ⟨bv, st2, rfl, hgb, g2⟩ := tv_pop g1
    split at hk
    · rename_i q hix
      obtain ⟨o1, o3, I, hI, l1, l2⟩ := tv_ix_ok hix
      obtain ⟨p, rfl, q1, q2⟩ := tv_gr hgb o1
      obtain ⟨-, x, m, rfl, -, -, x1, x2⟩ := tv_iv_ok hI g.1 hgi
      have hin : ∀ N : Nat, N = q.2 → vp_in x N := fun N e => tn_in (by omega) (by rw [e]; omega)
      split at hk
      · rw [Bool.and_eq_true, Bool.and_eq_true] at hk
        obtain ⟨s1, s2⟩ := tv_all_ok hk.1.1 q1 q2
        obtain ⟨y, rfl, y1, y2⟩ := tv_sub_int g.1 hgv hk.1.2
        exact wp_iast h s1 (hin _ rfl) (R _ _ _ _ _ hk.2 ρ ls _ _ (tv_setA g2 (tv_TY_row g.2.2.2.2.2.1.1 s2 y1 y2) (tv_keepI s1)))
      · rw [Bool.and_eq_true, Bool.and_eq_true] at hk
        obtain ⟨s1, s2⟩ := tv_all_ok hk.1.1 q1 q2
        obtain ⟨y, rfl⟩ := tv_gl hgv (tv_beq hk.1.2)
        exact wp_last h s1 (hin _ rfl) (R _ _ _ _ _ hk.2 ρ ls _ _ (tv_setA g2 ⟨g.2.2.2.2.2.1.1.1, g.2.2.2.2.2.1.1.2⟩ (tv_keepJ s1)))
      · simp only [Bool.and_eq_true] at hk
        obtain ⟨⟨⟨k1, k2⟩, k3⟩, k4⟩ := hk
        obtain ⟨s1, s2⟩ := tv_all_ok k1 q1 q2
        obtain ⟨y, rfl, y1, y2⟩ := tv_sub_int g.1 hgv k2
        obtain ⟨y', e2, y3, y4⟩ := tv_sub_int g.1 hgv k3
        cases e2
        have hy : y = 0 ∨ y = 1 := by
          rcases (show y.toInt = 0 ∨ y.toInt = 1 by omega) with e | e
          · exact Or.inl (Int32.toInt_inj.mp e)
          · exact Or.inr (Int32.toInt_inj.mp e)
        exact wp_zast h s1 (hin _ rfl) hy (R _ _ _ _ _ k4 ρ ls _ _ (tv_setA g2 (tv_TY_row g.2.2.2.2.2.1.1 s2 y1 y2) (tv_keepI s1)))
      · cases hk
    · cases hk
  · cases hk
theorem ts_len (R : ∀ pc E L S F, rc pc E L S F = true → tv_SD T c A0 σ0 ρ0 Q pc E L S F) (h : tt_at c.1 pc = some ((23, a, z, zz), n)) (hk : tv_hlen T (tt_n c.1) rc (pc + n) E L S F = true) : tv_SD T c A0 σ0 ρ0 Q pc E L S F := by
  intro ρ ls st σ g
  unfold tv_hlen at hk
  split at hk
  · rename_i b S1
    obtain ⟨bv, st2, rfl, hgb, g2⟩ := tv_pop g
    simp only [Bool.and_eq_true] at hk
    obtain ⟨⟨k1, k3⟩, k4⟩ := hk
    obtain ⟨p, rfl, q1, q2⟩ := tv_gr hgb (tv_beq k1)
    split at k4
    · rename_i q hq
      rw [Bool.and_eq_true, Bool.and_eq_true, tv_le_iff] at k4
      have c2 : tv_hi = 2147483647 := rfl
      have hs := (tv_all_ok k4.1.1 q1 q2).1
      have k5 := k4.1.2
      exact wp_len (t := q.1) (L := q.2) h hs (R _ _ _ _ _ k4.2 ρ ls _ σ (tv_push g2 (Or.inl ⟨rfl, Int32.ofNat q.2, 0, rfl, tv_zero_ok k3 g.1, by rw [tn_ofNat (by omega)]; simp⟩)))
    · cases k4
  · cases hk
/-- conditions, over the integers -/
def tv_cn (k : Nat) (x y : Int) : Prop := match k with
  | 0 => x = y
  | 1 => x ≠ y
  | 2 => x < y
  | 3 => y ≤ x
  | 4 => y < x
  | _ => x ≤ y
theorem tv_cn_of {z : Int} (h0 : 0 ≤ z) (h5 : z ≤ 5) {x y : Int32} : (tm_cd z x y → tv_cn z.toNat x.toInt y.toInt) ∧ (¬ tm_cd z x y → tv_cn (tv_ng z.toNat) x.toInt y.toInt) := by
  have e : z = 0 ∨ z = 1 ∨ z = 2 ∨ z = 3 ∨ z = 4 ∨ z = 5 := by omega
  rcases e with rfl | rfl | rfl | rfl | rfl | rfl
  · exact ⟨fun h => congrArg Int32.toInt h, fun h w => h (Int32.toInt_inj.mp w)⟩
  · exact ⟨fun h w => h (Int32.toInt_inj.mp w), fun h => congrArg Int32.toInt (Classical.byContradiction h)⟩
  · exact ⟨fun h => Int32.lt_iff_toInt_lt.mp h, fun h => Int.not_lt.mp (fun w => h (Int32.lt_iff_toInt_lt.mpr w))⟩
  · exact ⟨fun h => Int32.le_iff_toInt_le.mp h, fun h => Int.not_le.mp (fun w => h (Int32.le_iff_toInt_le.mpr w))⟩
  · exact ⟨fun h => Int32.lt_iff_toInt_lt.mp h, fun h => Int.not_lt.mp (fun w => h (Int32.lt_iff_toInt_lt.mpr w))⟩
  · exact ⟨fun h => Int32.le_iff_toInt_le.mp h, fun h => Int.not_le.mp (fun w => h (Int32.le_iff_toInt_le.mpr w))⟩
theorem tv_cut2_ok {ρ : List Int} {x y : tv_A} {xn yn : Int32} {mx my a1 b1 c1 d1 : Int} (hE : tv_gE ρ E) (hmx : ρ[x.2.1]? = some mx) (hnx : xn.toInt = mx + x.2.2) (hmy : ρ[y.2.1]? = some my) (hny : yn.toInt = my + y.2.2) (h1 : a1 ≤ xn.toInt) (h2 : xn.toInt ≤ b1) (h3 : c1 ≤ yn.toInt) (h4 : yn.toInt ≤ d1) : ∃ E1, tv_cut2 E x a1 b1 y c1 d1 = some E1 ∧ tv_gE ρ E1 := by
  obtain ⟨E1, e1, g1⟩ := tv_cut_ok hE hmx hnx h1 h2
  obtain ⟨E2, e2, g2⟩ := tv_cut_ok g1 hmy hny h3 h4
  refine ⟨E2, ?_, g2⟩
  unfold tv_cut2
  rw [e1]
  exact e2
theorem tv_rf_ok {ρ : List Int} {x y : tv_A} {xn yn : Int32} {mx my : Int} {X Y : Int × Int} {k : Nat} (hE : tv_gE ρ E) (hmx : ρ[x.2.1]? = some mx) (hnx : xn.toInt = mx + x.2.2) (hmy : ρ[y.2.1]? = some my) (hny : yn.toInt = my + y.2.2) (x1 : X.1 ≤ xn.toInt) (x2 : xn.toInt ≤ X.2) (y1 : Y.1 ≤ yn.toInt) (y2 : yn.toInt ≤ Y.2) (hc : tv_cn k xn.toInt yn.toInt) : ∃ E1, tv_rf E k x y X Y = some E1 ∧ tv_gE ρ E1 := by
  match k, hc with
  | 0, hc =>
    have hc : xn.toInt = yn.toInt := hc
    exact tv_cut2_ok hE hmx hnx hmy hny (by omega) (by omega) (by omega) (by omega)
  | 1, hc =>
    have hc : xn.toInt ≠ yn.toInt := hc
    simp only [tv_rf]
    cases h1 : tv_eq Y.1 Y.2 with
    | true =>
      rw [tv_eq_iff] at h1
      simp only [cond_true]
      cases h2 : tv_eq X.1 Y.1 with
      | true => rw [tv_eq_iff] at h2; exact tv_cut_ok hE hmx hnx (by omega) (by omega)
      | false =>
        simp only [cond_false]
        cases h3 : tv_eq X.2 Y.1 with
        | true => rw [tv_eq_iff] at h3; exact tv_cut_ok hE hmx hnx (by omega) (by omega)
        | false => exact ⟨E, rfl, hE⟩
    | false =>
      simp only [cond_false]
      cases h2 : tv_eq X.1 X.2 with
      | true =>
        rw [tv_eq_iff] at h2
        simp only [cond_true]
        cases h3 : tv_eq Y.1 X.1 with
        | true => rw [tv_eq_iff] at h3; exact tv_cut_ok hE hmy hny (by omega) (by omega)
        | false =>
          simp only [cond_false]
          cases h4 : tv_eq Y.2 X.1 with
          | true => rw [tv_eq_iff] at h4; exact tv_cut_ok hE hmy hny (by omega) (by omega)
          | false => exact ⟨E, rfl, hE⟩
      | false => exact ⟨E, rfl, hE⟩
  | 2, hc =>
    have hc : xn.toInt < yn.toInt := hc
    exact tv_cut2_ok hE hmx hnx hmy hny (by omega) (by omega) (by omega) (by omega)
  | 3, hc =>
    have hc : yn.toInt ≤ xn.toInt := hc
    exact tv_cut2_ok hE hmy hny hmx hnx (by omega) (by omega) (by omega) (by omega)
  | 4, hc =>
    have hc : yn.toInt < xn.toInt := hc
    exact tv_cut2_ok hE hmy hny hmx hnx (by omega) (by omega) (by omega) (by omega)
  | k + 5, hc =>
    have hc : xn.toInt ≤ yn.toInt := hc
    exact tv_cut2_ok hE hmx hnx hmy hny (by omega) (by omega) (by omega) (by omega)
theorem tv_opt_ok {r : Option tv_E} {f : tv_E → Bool} {E1 : tv_E} (h : tv_opt r f = true) (e : r = some E1) : f E1 = true := by
  rw [e] at h
  exact h
theorem tv_newE {ρ : List Int} {E1 : tv_E} {ls : List (Nat × Value)} {st : List Value} {σ : tm_S} (g : tv_g T c A0 σ0 ρ0 ρ E L S F ls st σ) (h : tv_gE ρ E1) : tv_g T c A0 σ0 ρ0 ρ E1 L S F ls st σ := ⟨h, g.2⟩
theorem ts_if (R : ∀ pc E L S F, rc pc E L S F = true → tv_SD T c A0 σ0 ρ0 Q pc E L S F) (h : tt_at c.1 pc = some ((25, a, z, zz), n)) (hk : tv_hif (tt_n c.1) z rc a (pc + n) E L S F = true) : tv_SD T c A0 σ0 ρ0 Q pc E L S F := by
  intro ρ ls st σ g
  unfold tv_hif at hk
  split at hk
  · rename_i xb S1
    obtain ⟨xv, st2, rfl, hgx, g2⟩ := tv_pop g
    split at hk
    · rename_i X hX
      obtain ⟨hx1, x, mx, rfl, hmx, hnx, lx1, lx2⟩ := tv_iv_ok hX g.1 hgx
      simp only [Bool.and_eq_true, tv_le_iff] at hk
      obtain ⟨⟨⟨⟨k1, k2⟩, k3⟩, k4⟩, k5⟩ := hk
      have hz := tv_zero_ok k1 g.1
      have cn := tv_cn_of (x := x) (y := 0) k2 k3
      have e0 : (0 : Int32).toInt = 0 := rfl
      refine wp_if h (fun q => ?_) (fun q => ?_)
      · obtain ⟨E1, e1, g1⟩ := tv_rf_ok (y := (1, tt_n c.1, 0)) (yn := 0) (my := 0) (X := X) (Y := (0, 0)) g.1 hmx hnx hz rfl lx1 lx2 (Int.le_refl _) (Int.le_refl _) (cn.1 q)
        exact R _ _ _ _ _ (tv_opt_ok k4 e1) ρ ls _ σ (tv_newE g2 g1)
      · obtain ⟨E1, e1, g1⟩ := tv_rf_ok (y := (1, tt_n c.1, 0)) (yn := 0) (my := 0) (X := X) (Y := (0, 0)) g.1 hmx hnx hz rfl lx1 lx2 (Int.le_refl _) (Int.le_refl _) (cn.2 q)
        exact R _ _ _ _ _ (tv_opt_ok k5 e1) ρ ls _ σ (tv_newE g2 g1)
    · cases hk
  · cases hk
theorem ts_ic (R : ∀ pc E L S F, rc pc E L S F = true → tv_SD T c A0 σ0 ρ0 Q pc E L S F) (h : tt_at c.1 pc = some ((26, a, z, zz), n)) (hk : tv_hic z rc a (pc + n) E L S F = true) : tv_SD T c A0 σ0 ρ0 Q pc E L S F := by
  intro ρ ls st σ g
  unfold tv_hic at hk
  split at hk
  · rename_i yb xb S1
    obtain ⟨yv, st1, rfl, hgy, g1⟩ := tv_pop g
    obtain ⟨xv, st2, rfl, hgx, g2⟩ := tv_pop g1
    split at hk
    · rename_i X Y hX hY
      obtain ⟨hx1, x, mx, rfl, hmx, hnx, lx1, lx2⟩ := tv_iv_ok hX g.1 hgx
      obtain ⟨hy1, y, my, rfl, hmy, hny, ly1, ly2⟩ := tv_iv_ok hY g.1 hgy
      simp only [Bool.and_eq_true, tv_le_iff] at hk
      obtain ⟨⟨⟨k2, k3⟩, k4⟩, k5⟩ := hk
      have cn := tv_cn_of (x := x) (y := y) k2 k3
      refine wp_ic h (fun q => ?_) (fun q => ?_)
      · obtain ⟨E1, e1, g3⟩ := tv_rf_ok g.1 hmx hnx hmy hny lx1 lx2 ly1 ly2 (cn.1 q)
        exact R _ _ _ _ _ (tv_opt_ok k4 e1) ρ ls _ σ (tv_newE g2 g3)
      · obtain ⟨E1, e1, g3⟩ := tv_rf_ok g.1 hmx hnx hmy hny lx1 lx2 ly1 ly2 (cn.2 q)
        exact R _ _ _ _ _ (tv_opt_ok k5 e1) ρ ls _ σ (tv_newE g2 g3)
    · cases hk
  · cases hk
theorem ts_ac (R : ∀ pc E L S F, rc pc E L S F = true → tv_SD T c A0 σ0 ρ0 Q pc E L S F) (h : tt_at c.1 pc = some ((27, a, z, zz), n)) (hk : tv_hac z rc a (pc + n) E L S F = true) : tv_SD T c A0 σ0 ρ0 Q pc E L S F := by
  intro ρ ls st σ g
  unfold tv_hac at hk
  split at hk
  · rename_i yb xb S1
    obtain ⟨yv, st1, rfl, hgy, g1⟩ := tv_pop g
    obtain ⟨xv, st2, rfl, hgx, g2⟩ := tv_pop g1
    simp only [Bool.and_eq_true, tv_le_iff] at hk
    obtain ⟨⟨⟨⟨k1, k2⟩, k3⟩, k4⟩, k5⟩ := hk
    obtain ⟨y, rfl, y1, y2⟩ := tv_gr hgy (tv_beq k1)
    obtain ⟨x, rfl, x1, x2⟩ := tv_gr hgx (tv_beq k2)
    have dj : x = y → tv_dj xb yb = true → False := by
      intro e w
      unfold tv_dj at w
      rw [Bool.or_eq_true, tv_le_iff, tv_le_iff] at w
      omega
    have sm : ¬ x = y → tv_sm xb yb = true → False := by
      intro e w
      unfold tv_sm at w
      simp only [Bool.and_eq_true, tv_eq_iff] at w
      have := tv_beq w.2
      omega
    refine wp_ac h (by omega) (by omega) (fun q => ?_) (fun q => ?_)
    · cases hz : tv_eq z 0 with
      | true =>
        rw [hz] at k5
        rw [tv_eq_iff] at hz
        simp only [cond_true, Bool.and_eq_true, Bool.or_eq_true] at k5
        rcases k5.1 with w | w
        · exact (dj (q.mp hz) w).elim
        · exact R _ _ _ _ _ w ρ ls _ σ g2
      | false =>
        rw [hz] at k5
        have hz' : ¬ z = 0 := fun e => by rw [(tv_eq_iff z 0).mpr e] at hz; cases hz
        simp only [cond_false, Bool.and_eq_true, Bool.or_eq_true] at k5
        rcases k5.1 with w | w
        · exact (sm (fun e => hz' (q.mpr e)) w).elim
        · exact R _ _ _ _ _ w ρ ls _ σ g2
    · cases hz : tv_eq z 0 with
      | true =>
        rw [hz] at k5
        rw [tv_eq_iff] at hz
        simp only [cond_true, Bool.and_eq_true, Bool.or_eq_true] at k5
        rcases k5.2 with w | w
        · exact (sm (fun e => q ⟨fun _ => e, fun _ => hz⟩) w).elim
        · exact R _ _ _ _ _ w ρ ls _ σ g2
      | false =>
        rw [hz] at k5
        have hz' : ¬ z = 0 := fun e => by rw [(tv_eq_iff z 0).mpr e] at hz; cases hz
        simp only [cond_false, Bool.and_eq_true, Bool.or_eq_true] at k5
        rcases k5.2 with w | w
        · by_cases e : x = y
          · exact (dj e w).elim
          · exact (q ⟨fun u => absurd u hz', fun u => absurd u e⟩).elim
        · exact R _ _ _ _ _ w ρ ls _ σ g2
  · cases hk
theorem tb_sw_or : ∀ (l : List (Int × Nat)) (k : Nat) (x : Int), tb_sw l k x = k ∨ ∃ q ∈ l, q.1 = x ∧ tb_sw l k x = q.2
  | [], k, x => Or.inl rfl
  | q :: t, k, x => by
    rw [tb_sw]
    by_cases e : q.1 = x
    · rw [if_pos e]
      exact Or.inr ⟨q, List.mem_cons_self, e, rfl⟩
    · rw [if_neg e]
      rcases tb_sw_or t k x with h | ⟨r, h1, h2⟩
      · exact Or.inl h
      · exact Or.inr ⟨r, List.mem_cons_of_mem _ h1, h2⟩
theorem ts_sw (R : ∀ pc E L S F, rc pc E L S F = true → tv_SD T c A0 σ0 ρ0 Q pc E L S F) (h : tt_at c.1 pc = some ((28, a, z, zz), n)) (hk : tv_hsw zz rc a E L S F = true) : tv_SD T c A0 σ0 ρ0 Q pc E L S F := by
  intro ρ ls st σ g
  unfold tv_hsw at hk
  split at hk
  · rename_i xb S1
    obtain ⟨xv, st2, rfl, hgx, g2⟩ := tv_pop g
    simp only [Bool.and_eq_true, List.all_eq_true] at hk
    obtain ⟨⟨k1, k2⟩, k3⟩ := hk
    obtain ⟨x, m, rfl, hm, hn⟩ := tv_gi hgx (tv_beq k1)
    refine wp_sw h ?_
    rcases tb_sw_or zz a x.toInt with e | ⟨q, q1, q2, e⟩
    · rw [e]
      exact R _ _ _ _ _ k3 ρ ls _ σ g2
    · rw [e]
      obtain ⟨E1, e1, g1⟩ := tv_cut_ok (a := xb) (lo := q.1) (hi := q.1) g.1 hm hn (by omega) (by omega)
      exact R _ _ _ _ _ (tv_opt_ok (k2 q q1) e1) ρ ls _ σ (tv_newE g2 g1)
  · cases hk
end TVS
end
section
/-! ===== handlers: returns and calls ===== -/
def tv_vt (t : tv_T) (x : Value) : Prop := match t with
  | (1, lo, hi) => ∃ n : Int32, x = .int n ∧ lo ≤ n.toInt ∧ n.toInt ≤ hi
  | (2, _, _) => ∃ n : Int64, x = .long n
  | (3, lo, hi) => ∃ k : Nat, x = .ref k ∧ lo ≤ (k : Int) ∧ (k : Int) ≤ hi
  | _ => False
def tv_va : List tv_T → List Value → Prop
  | [], [] => True
  | t :: ts, x :: xs => tv_vt t x ∧ tv_va ts xs
  | _, _ => False
def tv_rv (r : Option Value) (t : tv_T) : Prop := (t.1 = 0 ∧ r = none) ∨ ∃ x, r = some x ∧ tv_vt t x
def tv_Qc (T : tv_TT) (c : tv_C) (As : List Value) (σ0 : tm_S) (r : Option Value) (σ' : tm_S) : Prop := tv_TY T σ' ∧ tv_un σ0 σ' c.2.2.2.2.1 ∧ ∃ q ∈ c.2.2.2.1, tv_rv r q.1 ∧ ∀ w ∈ q.2, ∃ x : Int32, As[w.1]? = some (.int x) ∧ w.2.1 ≤ x.toInt ∧ x.toInt ≤ w.2.2
/-- a context is sound -/
def tv_Snd (T : tv_TT) (c : tv_C) : Prop := ∀ (As : List Value) (σ : tm_S), tv_va c.2.1 As → tv_TY T σ → WM c.2.2.2.2.2 c.1 As σ (tv_Qc T c As σ)
theorem tv_sub_vt {ρ : List Int} {E : tv_E} {b : tv_A} {x : Value} {t : tv_T} (hE : tv_gE ρ E) (hv : tv_gv ρ b x) (h : tv_sub E b t = true) (ht : t.1 ≠ 0) : tv_vt t x := by
  obtain ⟨t1, lo, hi⟩ := t
  match t1, h, ht with
  | 0, _, ht => exact absurd rfl ht
  | 1, h, _ => exact tv_sub_int hE hv h
  | 2, h, _ => exact tv_gl hv (tv_beq h)
  | 3, h, _ => exact tv_sub_ref hv h
  | k + 4, h, _ => cases h
theorem tv_gA_va {ρ : List Int} {E : tv_E} (hE : tv_gE ρ E) : ∀ {ts : List tv_T} {S : List tv_A} {st : List Value}, tv_gA ts S E = true → tv_gs ρ S st → tv_va ts st
  | [], [], [], _, _ => trivial
  | [], [], _ :: _, _, h => h.elim
  | t :: ts, a :: S, x :: st, h, hs => by
    unfold tv_gA at h
    rw [Bool.and_eq_true, Bool.and_eq_true] at h
    exact ⟨tv_sub_vt hE hs.1 h.1.2 (by have := Nat.blt_eq.mp h.1.1; omega), tv_gA_va hE h.2 hs.2⟩
  | _ :: _, _ :: _, [], _, h => h.elim
  | [], _ :: _, _, h, _ => by cases h
  | _ :: _, [], _, h, _ => by cases h
theorem tv_vt_cat {t : tv_T} {x : Value} (h : tv_vt t x) : (Nat.beq t.1 2 = true ∧ x.category = 2) ∨ (Nat.beq t.1 2 = false ∧ x.category = 1) := by
  obtain ⟨t1, lo, hi⟩ := t
  match t1, h with
  | 1, h => obtain ⟨n, rfl, -⟩ := h; exact Or.inr ⟨rfl, rfl⟩
  | 2, h => obtain ⟨n, rfl⟩ := h; exact Or.inl ⟨rfl, rfl⟩
  | 3, h => obtain ⟨n, rfl, -⟩ := h; exact Or.inr ⟨rfl, rfl⟩
  | 0, h => exact h.elim
  | k + 4, h => exact h.elim
theorem tv_po_ok : ∀ {ts : List tv_T} {As : List Value} (i0 : Nat) {w i : Nat}, tv_va ts As → (tv_po ts i0)[w]? = some i → ∃ x, As[w]? = some x ∧ (i, x) ∈ lv_args i0 As
  | [], [], i0, w, i, _, h => by simp [tv_po] at h
  | t :: ts, x :: As, i0, 0, i, _, h => by
    have e : i0 = i := by simpa [tv_po] using h
    subst e
    exact ⟨x, rfl, List.mem_cons_self⟩
  | t :: ts, x :: As, i0, w + 1, i, hv, h => by
    have h1 : (tv_po ts (cond (Nat.beq t.1 2) (i0 + 2) (i0 + 1)))[w]? = some i := by simpa [tv_po] using h
    obtain ⟨y, h2, h3⟩ := tv_po_ok _ hv.2 h1
    refine ⟨y, h2, ?_⟩
    show (i, y) ∈ (i0, x) :: lv_args (if x.category = 2 then i0 + 2 else i0 + 1) As
    refine List.mem_cons_of_mem _ ?_
    rcases tv_vt_cat hv.1 with ⟨e1, e2⟩ | ⟨e1, e2⟩
    · rw [e1] at h3; rw [if_pos e2]; exact h3
    · rw [e1] at h3; rw [if_neg (by omega)]; exact h3
  | [], _ :: _, _, _, _, hv, _ => hv.elim
  | _ :: _, [], _, _, _, hv, _ => hv.elim
theorem tv_retv_ok {E : tv_E} {L : List tv_A} {po : List Nat} {b : tv_A} : ∀ {cs : List (tv_T × List (Nat × Int × Int))}, tv_retv E L po b cs = true → ∃ q ∈ cs, tv_sub E b q.1 = true ∧ ∀ w ∈ q.2, ∃ (i : Nat) (d : tv_A) (I : Int × Int), po[w.1]? = some i ∧ L[i]? = some d ∧ tv_iv E d = some I ∧ w.2.1 ≤ I.1 ∧ I.2 ≤ w.2.2
  | [], h => by cases h
  | q :: t, h => by
    unfold tv_retv at h
    rw [Bool.or_eq_true] at h
    rcases h with h | h
    · rw [Bool.and_eq_true, List.all_eq_true] at h
      refine ⟨q, List.mem_cons_self, h.1, fun w hw => ?_⟩
      have h1 := h.2 w hw
      split at h1
      · rename_i i hi
        split at h1
        · rename_i d hd
          split at h1
          · rename_i I hI
            rw [Bool.and_eq_true, tv_le_iff, tv_le_iff] at h1
            exact ⟨i, d, I, hi, hd, hI, h1.1, h1.2⟩
          · cases h1
        · cases h1
      · cases h1
    · obtain ⟨r, h1, h2⟩ := tv_retv_ok h
      exact ⟨r, List.mem_cons_of_mem _ h1, h2⟩
theorem tv_iv_tag {E : tv_E} {b : tv_A} {q : Int × Int} (h : tv_iv E b = some q) : b.1 = 1 := by
  unfold tv_iv at h
  split at h
  · rfl
  · cases h
section TVS
variable {T : tv_TT} {c : tv_C} {As : List Value} {σ0 : tm_S} {ρ0 : List Int} {rc : tv_rc} {pc n a : Nat} {z : Int} {zz : List (Int × Nat)} {E : tv_E} {L S : List tv_A} {F : tv_F}
/-- the conditions on the arguments, at a return -/
theorem tv_va_at : ∀ {ts : List tv_T} {As : List Value} {k : Nat} {y : Value}, tv_va ts As → As[k]? = some y → ∃ t, ts[k]? = some t ∧ tv_vt t y
  | [], [], _, _, _, h => by simp at h
  | t :: ts, x :: xs, 0, y, hv, h => ⟨t, rfl, by simp at h; subst h; exact hv.1⟩
  | t :: ts, x :: xs, k + 1, y, hv, h => tv_va_at (ts := ts) (As := xs) (k := k) hv.2 (by simpa using h)
  | [], _ :: _, _, _, hv, _ => hv.elim
  | _ :: _, [], _, _, hv, _ => hv.elim
theorem tv_ret_args {ρ : List Int} {ls : List (Nat × Value)} {st : List Value} {σ : tm_S} {q : tv_T × List (Nat × Int × Int)} (hva : tv_va c.2.1 As) (hkp : ∀ w ∈ q.2, (∀ i, (tv_po c.2.1 0)[w.1]? = some i → tv_kp c.1 i = true) ∧ ∀ t, c.2.1[w.1]? = some t → t.1 = 1) (g : tv_g T c (lv_args 0 As) σ0 ρ0 ρ E L S F ls st σ)
    (h : ∀ w ∈ q.2, ∃ (i : Nat) (d : tv_A) (I : Int × Int), (tv_po c.2.1 0)[w.1]? = some i ∧ L[i]? = some d ∧ tv_iv E d = some I ∧ w.2.1 ≤ I.1 ∧ I.2 ≤ w.2.2) : ∀ w ∈ q.2, ∃ x : Int32, As[w.1]? = some (.int x) ∧ w.2.1 ≤ x.toInt ∧ x.toInt ≤ w.2.2 := by
  intro w hw
  obtain ⟨i, d, I, h1, h2, h3, h4, h5⟩ := h w hw
  obtain ⟨y, y1, y2⟩ := tv_po_ok 0 hva h1
  have y3 := g.2.2.2.2.2.2.1 _ y2 ((hkp w hw).1 i h1) (by
    obtain ⟨t, t1, t2⟩ := tv_va_at hva y1
    have t3 := (hkp w hw).2 t t1
    rcases tv_vt_cat t2 with ⟨e, -⟩ | ⟨-, e⟩
    · rw [t3] at e; cases e
    · show ¬ y.category = 2
      omega)
  obtain ⟨x, x1, x2⟩ := g.2.2.1 i d h2 (by rw [tv_iv_tag h3]; decide)
  have e := g.2.2.2.2.2.2.2 i x y x1 y3
  subst e
  obtain ⟨-, n0, m, rfl, -, -, l1, l2⟩ := tv_iv_ok h3 g.1 x2
  exact ⟨n0, y1, by omega, by omega⟩
theorem ts_ret (hva : tv_va c.2.1 As) (hck : ∀ q ∈ c.2.2.2.1, tv_rk (tt_r c.1) q.1 = true ∧ ∀ w ∈ q.2, (∀ i, (tv_po c.2.1 0)[w.1]? = some i → tv_kp c.1 i = true) ∧ ∀ t, c.2.1[w.1]? = some t → t.1 = 1) (h : tt_at c.1 pc = some ((29, a, z, zz), n)) (hk : tv_hret c a E L S = true) : tv_SD T c (lv_args 0 As) σ0 ρ0 (tv_Qc T c As σ0) pc E L S F := by
  intro ρ ls st σ g
  unfold tv_hret at hk
  split at hk
  · rw [Bool.and_eq_true] at hk
    obtain ⟨k1, k2⟩ := hk
    have e := tv_beq k1
    subst e
    obtain ⟨q, hq, h1, h2⟩ := tv_retv_ok k2
    have ht : q.1.1 = 0 := by
      unfold tv_sub at h1
      split at h1
      · rename_i e; rw [e]
      · cases h1
      · cases h1
      · cases h1
      · cases h1
    cases st with
    | nil => exact wp_retv h ⟨g.2.2.2.2.2.1.1, g.2.2.2.2.2.1.2, q, hq, Or.inl ⟨ht, rfl⟩, tv_ret_args hva (hck q hq).2 g h2⟩
    | cons x t => exact g.2.2.2.1.elim
  · rename_i b
    obtain ⟨x, st2, rfl, hg, g2⟩ := tv_pop g
    cases st2 with
    | cons x t => exact g2.2.2.2.1.elim
    | nil =>
    have fin : tv_retv E L (tv_po c.2.1 0) b c.2.2.2.1 = true → (∀ q ∈ c.2.2.2.1, q.1.1 ≠ 0) → tv_Qc T c As σ0 (some x) σ := by
      intro k2 hne
      obtain ⟨q, hq, h1, h2⟩ := tv_retv_ok k2
      exact ⟨g.2.2.2.2.2.1.1, g.2.2.2.2.2.1.2, q, hq, Or.inr ⟨x, rfl, tv_sub_vt g.1 hg h1 (hne q hq)⟩, tv_ret_args hva (hck q hq).2 g h2⟩
    have hne : ∀ ty, tt_r c.1 = some ty → ∀ q ∈ c.2.2.2.1, q.1.1 ≠ 0 := by
      intro ty hty q hq e
      have h1 := (hck q hq).1
      rw [hty] at h1
      unfold tv_rk at h1
      rw [e] at h1
      cases ty <;> cases h1
    split at hk
    · rw [Bool.and_eq_true] at hk
      obtain ⟨k1, k2⟩ := hk
      split at k1
      · rename_i hty
        obtain ⟨n0, m, rfl, -⟩ := tv_gi hg (tv_beq k1)
        refine wp_reti h (fun ty e => ?_) (fin k2 (hne _ hty))
        rw [hty] at e
        cases e
        rfl
      · rename_i hty
        obtain ⟨n0, rfl, l1, l2⟩ := tv_sub_int g.1 hg k1
        refine wp_reti h (fun ty e => ?_) (fin k2 (hne _ hty))
        rw [hty] at e
        cases e
        rcases (show n0.toInt = 0 ∨ n0.toInt = 1 by omega) with e | e
        · rw [Int32.toInt_inj.mp (e.trans (show (0 : Int) = (0 : Int32).toInt from rfl))]; rfl
        · rw [Int32.toInt_inj.mp (e.trans (show (1 : Int) = (1 : Int32).toInt from rfl))]; rfl
      · cases k1
    · rw [Bool.and_eq_true] at hk
      obtain ⟨n0, rfl⟩ := tv_gl hg (tv_beq hk.1)
      cases hty : tt_r c.1 with
      | none =>
        obtain ⟨i, hd, hi⟩ := tb_ok h
        change tb_ret (tt_r c.1) 2 n i = true at hi
        rw [hty] at hi
        cases i <;> first | (cases hi; done) | (simp [tb_ret] at hi; done)
      | some ty => exact wp_retl h (fin hk.2 (hne ty hty))
    · rw [Bool.and_eq_true] at hk
      obtain ⟨n0, rfl, -⟩ := tv_gr hg (tv_beq hk.1)
      cases hty : tt_r c.1 with
      | none =>
        obtain ⟨i, hd, hi⟩ := tb_ok h
        change tb_ret (tt_r c.1) 3 n i = true at hi
        rw [hty] at hi
        cases i <;> first | (cases hi; done) | (simp [tb_ret, tb_isO] at hi; done)
      | some ty => exact wp_retr h (fin hk.2 (hne ty hty))
    · cases hk
  · cases hk
theorem tv_pick_ok {j : Nat} {ar : List tv_A} {rk : Nat} {c2 : tv_C} : ∀ {cs : List tv_C}, tv_pick j cs E ar rk = some c2 → c2 ∈ cs ∧ c2.1 = j ∧ tv_gA c2.2.1 ar E = true ∧ c2.2.2.2.2.2 < rk
  | [], h => by cases h
  | c :: t, h => by
    unfold tv_pick at h
    cases hc : (Nat.beq c.1 j && tv_gA c.2.1 ar E && Nat.blt c.2.2.2.2.2 rk) with
    | false =>
      rw [hc] at h
      obtain ⟨h1, h2⟩ := tv_pick_ok h
      exact ⟨List.mem_cons_of_mem _ h1, h2⟩
    | true =>
      rw [hc] at h
      cases h
      simp only [Bool.and_eq_true] at hc
      exact ⟨List.mem_cons_self, tv_beq hc.1.1, hc.1.2, Nat.blt_eq.mp hc.2⟩
theorem tv_gs_split {ρ : List Int} : ∀ {S1 S2 : List tv_A} {st : List Value}, tv_gs ρ (S1 ++ S2) st → ∃ s1 s2, st = s1 ++ s2 ∧ tv_gs ρ S1 s1 ∧ tv_gs ρ S2 s2
  | [], S2, st, h => ⟨[], st, rfl, trivial, h⟩
  | a :: S1, S2, [], h => h.elim
  | a :: S1, S2, x :: st, h => by
    obtain ⟨s1, s2, e, h1, h2⟩ := tv_gs_split h.2
    exact ⟨x :: s1, s2, by rw [e]; rfl, ⟨h.1, h1⟩, h2⟩
theorem tv_gs_app {ρ : List Int} : ∀ {S1 S2 : List tv_A} {s1 s2 : List Value}, tv_gs ρ S1 s1 → tv_gs ρ S2 s2 → tv_gs ρ (S1 ++ S2) (s1 ++ s2)
  | [], _, [], _, _, h => h
  | _ :: _, _, _ :: _, _, h1, h2 => ⟨h1.1, tv_gs_app h1.2 h2⟩
  | [], _, _ :: _, _, h, _ => h.elim
  | _ :: _, _, [], _, h, _ => h.elim
theorem tv_gs_rev {ρ : List Int} : ∀ {S1 : List tv_A} {s1 : List Value}, tv_gs ρ S1 s1 → tv_gs ρ S1.reverse s1.reverse
  | [], [], _ => trivial
  | a :: S, x :: s, h => by
    rw [List.reverse_cons, List.reverse_cons]
    exact tv_gs_app (tv_gs_rev h.2) ⟨h.1, trivial⟩
  | [], _ :: _, h => h.elim
  | _ :: _, [], h => h.elim
theorem tv_gs_len {ρ : List Int} : ∀ {S1 : List tv_A} {s1 : List Value}, tv_gs ρ S1 s1 → s1.length = S1.length
  | [], [], _ => rfl
  | a :: S, x :: s, h => by rw [List.length_cons, List.length_cons, tv_gs_len h.2]
  | [], _ :: _, h => h.elim
  | _ :: _, [], h => h.elim
theorem tv_gv_cat {ρ : List Int} {b : tv_A} {x : Value} (h : tv_gv ρ b x) : x.category = cond (Nat.beq b.1 2) 2 1 := by
  rcases h with ⟨e, n, m, rfl, -⟩ | ⟨e, n, rfl⟩ | ⟨e, k, rfl, -⟩ <;> (rw [e]; rfl)
theorem tv_cat_sum {ρ : List Int} : ∀ {S1 : List tv_A} {s1 : List Value}, tv_gs ρ S1 s1 → (s1.map fun v => v.category).sum = tv_cat S1
  | [], [], _ => rfl
  | a :: S, x :: s, h => by
    rw [List.map_cons, List.sum_cons, tv_cat_sum h.2, tv_gv_cat h.1]
    rfl
  | [], _ :: _, h => h.elim
  | _ :: _, [], h => h.elim
theorem tv_cat_sl {ρ : List Int} : ∀ {S1 : List tv_A} {s1 : List Value}, tv_gs ρ S1 s1 → (lg_sl s1).length = tv_cat S1
  | [], [], _ => rfl
  | a :: S, x :: s, h => by
    have h1 := tv_cat_sl h.2
    unfold lg_sl at h1 ⊢
    rw [List.flatMap_cons, List.length_append, h1]
    show _ = cond (Nat.beq a.1 2) 2 1 + tv_cat S
    rcases tv_gv_cat h.1 ▸ (show (cond (Nat.beq a.1 2) 2 1 = 2 ∨ cond (Nat.beq a.1 2) 2 1 = 1) by cases Nat.beq a.1 2 <;> simp) with e | e
    · rw [if_pos e, ← tv_gv_cat h.1, e]; rfl
    · rw [if_neg (by omega), ← tv_gv_cat h.1, e]; rfl
  | [], _ :: _, h => h.elim
  | _ :: _, [], h => h.elim
theorem tv_isA_ok {b : tv_A} {k : Nat} {cls : String} (h : tv_isA b cls = true) (h1 : b.2.1 ≤ k) (h2 : (k : Int) ≤ b.2.2) : tm_isA k cls := by
  unfold tv_isA at h
  simp only [Bool.and_eq_true, tv_eq_iff] at h
  obtain ⟨⟨k1, k2⟩, k3⟩ := h
  have e : k = b.2.1 := by omega
  subst e
  split at k3
  · rename_i q hq
    split at k3
    · rename_i r hr
      exact Or.inl ⟨q.1, q.2, r, hq, hr, of_decide_eq_true k3⟩
    · cases k3
  · cases k3
  · simp only [Bool.and_eq_true, decide_eq_true_eq] at k3
    have g1 := Nat.le_of_ble_eq_true k3.1.2
    have g2 := Nat.blt_eq.mp k3.2
    exact Or.inr ⟨k3.1.1, b.2.1 - tt_ST, by omega, by omega⟩
theorem tv_nr_ok {ρ : List Int} {ar : List tv_A} {s1 : List Value} (hs : ∀ (i : Nat) (b : tv_A), ar[i]? = some b → ∃ x, s1[i]? = some x ∧ tv_gv ρ b x) : ∀ {l : List (Nat × Int × Int)} {E : tv_E}, tv_gE ρ E → (∀ w ∈ l, ∃ x : Int32, s1[w.1]? = some (.int x) ∧ w.2.1 ≤ x.toInt ∧ x.toInt ≤ w.2.2) → ∃ E1, tv_nr E ar l = some E1 ∧ tv_gE ρ E1
  | [], E, hE, _ => ⟨E, rfl, hE⟩
  | w :: t, E, hE, h => by
    obtain ⟨x, x1, x2, x3⟩ := h w List.mem_cons_self
    have ht := fun u hu => h u (List.mem_cons_of_mem _ hu)
    unfold tv_nr
    cases ha : ar[w.1]? with
    | none => exact tv_nr_ok hs hE ht
    | some b =>
      simp only
      cases hb : Nat.beq b.1 1 with
      | false => exact tv_nr_ok hs hE ht
      | true =>
        obtain ⟨y, y1, y2⟩ := hs _ b ha
        obtain ⟨n0, m, rfl, hm, hn⟩ := tv_gi y2 (tv_beq hb)
        rw [x1] at y1
        cases y1
        obtain ⟨E1, e1, g1⟩ := tv_cut_ok hE hm hn x2 x3
        simp only [cond_true, e1]
        exact tv_nr_ok hs g1 ht
theorem tv_gs_at {ρ : List Int} : ∀ {S1 : List tv_A} {s1 : List Value}, tv_gs ρ S1 s1 → ∀ (i : Nat) (b : tv_A), S1[i]? = some b → ∃ x, s1[i]? = some x ∧ tv_gv ρ b x
  | [], [], _, i, b, h => by simp at h
  | a :: S, x :: s, h, 0, b, hb => by
    have e : a = b := by simpa using hb
    subst e
    exact ⟨x, rfl, h.1⟩
  | a :: S, x :: s, h, i + 1, b, hb => tv_gs_at h.2 i b (by simpa using hb)
  | [], _ :: _, h, _, _, _ => h.elim
  | _ :: _, [], h, _, _, _ => h.elim
end TVS
section TVC
variable {T : tv_TT} {c : tv_C} {A0 : List (Nat × Value)} {σ0 : tm_S} {ρ0 : List Int} {Q : Option Value → tm_S → Prop} {rc : tv_rc} {pc n a : Nat} {z : Int} {zz : List (Int × Nat)} {E : tv_E} {L S : List tv_A} {F : tv_F}
theorem tv_cs_ok (R : ∀ pc E L S F, rc pc E L S F = true → tv_SD T c A0 σ0 ρ0 Q pc E L S F) {ρ : List Int} {ls : List (Nat × Value)} {st s1 : List Value} {σ : tm_S} {ar : List tv_A} {r : Option Value} {q : tv_T × List (Nat × Int × Int)} (g : tv_g T c A0 σ0 ρ0 ρ E L S F ls st σ) (hs : tv_gs ρ ar s1) (htok : tv_tok q.1 = true)
    (hr : tv_rv r q.1) (hw : ∀ w ∈ q.2, ∃ x : Int32, s1[w.1]? = some (.int x) ∧ w.2.1 ≤ x.toInt ∧ x.toInt ≤ w.2.2) : ∀ {cs : List (tv_T × List (Nat × Int × Int))}, tv_cs rc pc E L ar S F cs = true → q ∈ cs → WP c.2.2.2.2.2 c.1 pc ls (r.toList ++ st) σ Q
  | [], _, hq => by cases hq
  | p :: t, h, hq => by
    unfold tv_cs at h
    rw [Bool.and_eq_true] at h
    rcases List.mem_cons.mp hq with e | e
    · subst e
      obtain ⟨E1, e1, g1⟩ := tv_nr_ok (tv_gs_at hs) g.1 hw
      have h1 := tv_opt_ok h.1 e1
      have g2 := tv_newE g g1
      obtain ⟨⟨t1, lo, hi⟩, nr⟩ := q
      rcases hr with ⟨e, rfl⟩ | ⟨x, rfl, hx⟩
      · dsimp only at e
        subst e
        exact R _ _ _ _ _ h1 ρ ls _ σ g2
      · match t1, hx, h1, htok with
        | 0, hx, _, _ => exact hx.elim
        | 1, hx, h1, _ =>
          obtain ⟨y, rfl, y1, y2⟩ := hx
          exact R _ _ _ _ _ h1 _ ls _ σ (tv_new (r := (lo, hi)) g2 y1 y2)
        | 2, hx, h1, _ =>
          obtain ⟨y, rfl⟩ := hx
          exact R _ _ _ _ _ h1 ρ ls _ σ (tv_push g2 (tv_long _))
        | 3, hx, h1, htok =>
          obtain ⟨y, rfl, y1, y2⟩ := hx
          have h0 := (tv_le_iff 0 lo).mp htok
          exact R _ _ _ _ _ h1 ρ ls _ σ (tv_push g2 (Or.inr (Or.inr ⟨rfl, y, rfl, by dsimp only; omega, y2⟩)))
        | k + 4, hx, _, _ => exact hx.elim
    · exact tv_cs_ok R g hs htok hr hw h.2 e
theorem ts_call {cx : Nat → List tv_C} (R : ∀ pc E L S F, rc pc E L S F = true → tv_SD T c A0 σ0 ρ0 Q pc E L S F) (HC : ∀ c2 ∈ cx a, c2.2.2.2.2.2 < c.2.2.2.2.2 → tv_Snd T c2 ∧ ∀ q ∈ c2.2.2.2.1, tv_tok q.1 = true) (h : tt_at c.1 pc = some ((30, a, z, zz), n))
    (hk : tv_hcal cx c a rc (pc + n) E L (S.take (tt_p a + cond (tt_s a) 0 1)).reverse (S.drop (tt_p a + cond (tt_s a) 0 1)) F = true) : tv_SD T c A0 σ0 ρ0 Q pc E L S F := by
  intro ρ ls st σ g
  generalize hkk : tt_p a + cond (tt_s a) 0 1 = k at hk
  have hS : S.take k ++ S.drop k = S := List.take_append_drop k S
  have gs := g.2.2.2.1
  rw [← hS] at gs
  obtain ⟨s1, s2, rfl, gs1, gs2⟩ := tv_gs_split gs
  unfold tv_hcal at hk
  rw [hkk] at hk
  simp only [Bool.and_eq_true] at hk
  obtain ⟨⟨⟨⟨k1, k2⟩, k3⟩, k4⟩, k5⟩ := hk
  split at k5
  · rename_i c2 hp
    obtain ⟨p1, p2, p3, p4⟩ := tv_pick_ok hp
    obtain ⟨HS, HT⟩ := HC c2 p1 p4
    rw [Bool.and_eq_true, List.all_eq_true] at k5
    have gr := tv_gs_rev gs1
    have hva := tv_gA_va g.1 p3 gr
    obtain ⟨d, hd⟩ : ∃ d, c.2.2.2.2.2 = d + 1 := ⟨c.2.2.2.2.2 - 1, by omega⟩
    have hM := HS s1.reverse σ hva g.2.2.2.2.2.1.1
    rw [p2] at hM
    have hM2 : WM d a s1.reverse σ (tv_Qc T c2 s1.reverse σ) := hM.deep (by omega)
    rw [hd]
    refine wp_call (As := s1.reverse) (st := s2) h (by rw [List.reverse_reverse]) ?_ ?_ ?_ ?_ hM2 (fun r σ' hq => ?_)
    · rw [tv_gs_len gr, tv_beq k1, hkk]
    · rw [tv_cat_sl gr]
      exact Nat.le_of_ble_eq_true k3
    · intro e
      rw [e] at k4
      simp only [Bool.false_or] at k4
      cases har : (S.take k).reverse with
      | nil => rw [har] at k4; cases k4
      | cons b t =>
        rw [har] at k4 gr
        cases hs : s1.reverse with
        | nil => rw [hs] at gr; exact gr.elim
        | cons x t2 =>
          rw [hs] at gr
          simp only at k4
          have hb : b.1 = 3 := by
            unfold tv_isA at k4
            simp only [Bool.and_eq_true] at k4
            exact tv_beq k4.1.1
          obtain ⟨q, rfl, q1, q2⟩ := tv_gr gr.1 hb
          exact ⟨q, t2, rfl, tv_isA_ok k4 q1 q2⟩
    · rw [tv_cat_sum gs2]
      exact Nat.le_of_ble_eq_true k2
    · obtain ⟨hT, hU, q, q1, q2, q3⟩ := hq
      rw [← hd]
      have g3 : tv_g T c A0 σ0 ρ0 ρ E L (S.drop k) (F.filter (fun q => !(tv_mem c2.2.2.2.2.1 q.1.1 q.1.2))) ls s2 σ' := by
        refine ⟨g.1, g.2.1, g.2.2.1, gs2, fun u hu kd hkd => ?_, ⟨hT, fun k9 j9 kd h1 h2 => ?_⟩, g.2.2.2.2.2.2⟩
        · obtain ⟨u1, u2⟩ := List.mem_filter.mp hu
          rw [hU _ _ _ hkd (by simpa using u2)]
          exact g.2.2.2.2.1 u u1 kd hkd
        · have h3 : tv_mem c2.2.2.2.2.1 k9 j9 = false := by
            cases hm : tv_mem c2.2.2.2.2.1 k9 j9 with
            | false => rfl
            | true =>
              have := k5.1 _ (tv_mem_iff.mp hm)
              dsimp only at this
              rw [this] at h2
              cases h2
          rw [hU _ _ _ h1 h3]
          exact g.2.2.2.2.2.1.2 k9 j9 kd h1 h2
      exact tv_cs_ok R g3 gr (HT q q1) q2 q3 k5.2 q1
  · cases k5
end TVC
/-! Math.abs, min, max -/
theorem tv_mabs_ok {X Y : Int × Int} {x : Int32} (h1 : X.1 ≤ x.toInt) (h2 : x.toInt ≤ X.2) : (tv_mi 0 X Y).1 ≤ (if 0 ≤ x then x else 0 - x : Int32).toInt ∧ (if 0 ≤ x then x else 0 - x : Int32).toInt ≤ (tv_mi 0 X Y).2 := by
  show (cond (tv_le 0 X.1) X (cond (tv_le (tv_lo + 1) X.1) (0, tv_mx (-X.1) X.2) tv_any)).1 ≤ _ ∧ _ ≤ (cond (tv_le 0 X.1) X (cond (tv_le (tv_lo + 1) X.1) (0, tv_mx (-X.1) X.2) tv_any)).2
  have c1 : tv_lo = -2147483648 := rfl
  have c0 : (0 : Int32).toInt = 0 := rfl
  cases e1 : tv_le 0 X.1 with
  | true =>
    have e2 := (tv_le_iff _ _).mp e1
    rw [if_pos (Int32.le_iff_toInt_le.mpr (by rw [c0]; omega))]
    exact ⟨h1, h2⟩
  | false =>
    cases e3 : tv_le (tv_lo + 1) X.1 with
    | false => exact tv_any_ok _
    | true =>
      have e4 := (tv_le_iff _ _).mp e3
      simp only [cond_false, cond_true, tv_mx_eq]
      by_cases hx : 0 ≤ x
      · rw [if_pos hx]
        have e5 := Int32.le_iff_toInt_le.mp hx
        rw [c0] at e5
        omega
      · rw [if_neg hx]
        have e5 : ¬ (0 : Int32).toInt ≤ x.toInt := fun h => hx (Int32.le_iff_toInt_le.mpr h)
        rw [c0] at e5
        rw [tn_sub (by rw [c0]; omega) (by rw [c0]; omega), c0]
        omega
theorem tv_mmin_ok {X Y : Int × Int} {x y : Int32} (h1 : X.1 ≤ x.toInt) (h2 : x.toInt ≤ X.2) (h3 : Y.1 ≤ y.toInt) (h4 : y.toInt ≤ Y.2) : (tv_mi 1 X Y).1 ≤ (if y < x then y else x : Int32).toInt ∧ (if y < x then y else x : Int32).toInt ≤ (tv_mi 1 X Y).2 := by
  show tv_mn X.1 Y.1 ≤ _ ∧ _ ≤ tv_mn X.2 Y.2
  rw [tv_mn_eq, tv_mn_eq]
  by_cases h : y < x
  · rw [if_pos h]
    have e := Int32.lt_iff_toInt_lt.mp h
    omega
  · rw [if_neg h]
    have e : ¬ y.toInt < x.toInt := fun g => h (Int32.lt_iff_toInt_lt.mpr g)
    omega
theorem tv_mmax_ok {X Y : Int × Int} {x y : Int32} (h1 : X.1 ≤ x.toInt) (h2 : x.toInt ≤ X.2) (h3 : Y.1 ≤ y.toInt) (h4 : y.toInt ≤ Y.2) : (tv_mi 2 X Y).1 ≤ (if x < y then y else x : Int32).toInt ∧ (if x < y then y else x : Int32).toInt ≤ (tv_mi 2 X Y).2 := by
  show tv_mx X.1 Y.1 ≤ _ ∧ _ ≤ tv_mx X.2 Y.2
  rw [tv_mx_eq, tv_mx_eq]
  by_cases h : x < y
  · rw [if_pos h]
    have e := Int32.lt_iff_toInt_lt.mp h
    omega
  · rw [if_neg h]
    have e : ¬ x.toInt < y.toInt := fun g => h (Int32.lt_iff_toInt_lt.mpr g)
    omega
section TVM
variable {T : tv_TT} {c : tv_C} {A0 : List (Nat × Value)} {σ0 : tm_S} {ρ0 : List Int} {Q : Option Value → tm_S → Prop} {rc : tv_rc} {pc n a : Nat} {z : Int} {zz : List (Int × Nat)} {E : tv_E} {L S : List tv_A} {F : tv_F}
theorem ts_mth (R : ∀ pc E L S F, rc pc E L S F = true → tv_SD T c A0 σ0 ρ0 Q pc E L S F) (h : tt_at c.1 pc = some ((36, a, z, zz), n)) (hk : tv_hmth c.2.2.2.2.2 a rc (pc + n) E L S F = true) : tv_SD T c A0 σ0 ρ0 Q pc E L S F := by
  intro ρ ls st σ g
  unfold tv_hmth at hk
  rw [Bool.and_eq_true] at hk
  obtain ⟨hr0, hk⟩ := hk
  have hrk : 1 ≤ c.2.2.2.2.2 := Nat.blt_eq.mp hr0
  split at hk
  · split at hk
    · rename_i xb S1
      obtain ⟨xv, st2, rfl, hgx, g2⟩ := tv_pop g
      split at hk
      · rename_i X hX
        obtain ⟨hx1, x, mx, rfl, hmx, hnx, lx1, lx2⟩ := tv_iv_ok hX g.1 hgx
        rw [Bool.and_eq_true] at hk
        have hr := tv_mabs_ok (Y := X) lx1 lx2
        exact wp_mabs h hrk (by rw [tv_cat_sum g2.2.2.2.1]; exact Nat.le_of_ble_eq_true hk.1) (R _ _ _ _ _ hk.2 _ ls _ σ (tv_new g2 hr.1 hr.2))
      · cases hk
    · cases hk
  · split at hk
    · rename_i yb xb S1
      obtain ⟨yv, st1, rfl, hgy, g1⟩ := tv_pop g
      obtain ⟨xv, st2, rfl, hgx, g2⟩ := tv_pop g1
      split at hk
      · rename_i X Y hX hY
        obtain ⟨hx1, x, mx, rfl, hmx, hnx, lx1, lx2⟩ := tv_iv_ok hX g.1 hgx
        obtain ⟨hy1, y, my, rfl, hmy, hny, ly1, ly2⟩ := tv_iv_ok hY g.1 hgy
        rw [Bool.and_eq_true] at hk
        have hr := tv_mmin_ok lx1 lx2 ly1 ly2
        exact wp_mmin h hrk (by rw [tv_cat_sum g2.2.2.2.1]; exact Nat.le_of_ble_eq_true hk.1) (R _ _ _ _ _ hk.2 _ ls _ σ (tv_new g2 hr.1 hr.2))
      · cases hk
    · cases hk
  · split at hk
    · rename_i yb xb S1
      obtain ⟨yv, st1, rfl, hgy, g1⟩ := tv_pop g
      obtain ⟨xv, st2, rfl, hgx, g2⟩ := tv_pop g1
      split at hk
      · rename_i X Y hX hY
        obtain ⟨hx1, x, mx, rfl, hmx, hnx, lx1, lx2⟩ := tv_iv_ok hX g.1 hgx
        obtain ⟨hy1, y, my, rfl, hmy, hny, ly1, ly2⟩ := tv_iv_ok hY g.1 hgy
        rw [Bool.and_eq_true] at hk
        have hr := tv_mmax_ok lx1 lx2 ly1 ly2
        exact wp_mmax h hrk (by rw [tv_cat_sum g2.2.2.2.1]; exact Nat.le_of_ble_eq_true hk.1) (R _ _ _ _ _ hk.2 _ ls _ σ (tv_new g2 hr.1 hr.2))
      · cases hk
    · cases hk
  · cases hk
end TVM
end
section
/-! ===== the checker is right: a context ===== -/
section TVX
variable {T : tv_TT} {cx : Nat → List tv_C} {c : tv_C} {As : List Value} {σ0 : tm_S} {ρ0 : List Int} {rc : tv_rc} {pc : Nat} {E : tv_E} {L S : List tv_A} {F : tv_F}
set_option maxHeartbeats 4000000 in
theorem tv_step_ok (hva : tv_va c.2.1 As) (hck : ∀ q ∈ c.2.2.2.1, tv_rk (tt_r c.1) q.1 = true ∧ ∀ w ∈ q.2, (∀ i, (tv_po c.2.1 0)[w.1]? = some i → tv_kp c.1 i = true) ∧ ∀ t, c.2.1[w.1]? = some t → t.1 = 1) (HC : ∀ a, ∀ c2 ∈ cx a, c2.2.2.2.2.2 < c.2.2.2.2.2 → tv_Snd T c2 ∧ ∀ q ∈ c2.2.2.2.1, tv_tok q.1 = true)
    (R : ∀ pc E L S F, rc pc E L S F = true → tv_SD T c (lv_args 0 As) σ0 ρ0 (tv_Qc T c As σ0) pc E L S F) (h : tv_step T cx c rc pc E L S F = true) : tv_SD T c (lv_args 0 As) σ0 ρ0 (tv_Qc T c As σ0) pc E L S F := by
  unfold tv_step at h
  cases hat : tt_at c.1 pc with
  | none => rw [hat] at h; cases h
  | some x =>
    obtain ⟨⟨t, a, z, zz⟩, n⟩ := x
    rw [hat] at h
    dsimp only at h
    split at h
    · exact ts_ldi R hat h
    · exact ts_ldl R hat h
    · exact ts_lda R hat h
    · exact ts_sti R hat h
    · exact ts_stl R hat h
    · exact ts_sta R hat h
    · exact ts_inc R hat h
    · exact ts_con R hat h
    · exact fun ρ ls st σ g => wp_lco hat (R _ _ _ _ _ h ρ ls _ σ (tv_push g (tv_long _)))
    · exact ts_ib R hat h
    · exact ts_div R hat h
    · exact ts_rem R hat h
    · exact ts_neg R hat h
    · exact ts_lb R hat h
    · exact ts_ls R hat h
    · exact ts_cmp R hat h
    · exact ts_cv R hat h
    · exact ts_dup R hat h
    · exact ts_pop R hat h
    · exact ts_get R hat h
    · exact ts_put R hat h
    · exact ts_ald R hat h
    · exact ts_ast R hat h
    · exact ts_len R hat h
    · exact fun ρ ls st σ g => wp_go hat (R _ _ _ _ _ h ρ ls _ σ g)
    · exact ts_if R hat h
    · exact ts_ic R hat h
    · exact ts_ac R hat h
    · exact ts_sw R hat h
    · exact ts_ret hva hck hat h
    · exact ts_call R (HC a) hat h
    · exact fun ρ ls st σ g => wp_gsE hat (R _ _ _ _ _ h ρ ls _ σ (tv_push g (tv_ref _)))
    · exact fun ρ ls st σ g => wp_str hat (R _ _ _ _ _ h ρ ls _ σ (tv_push g (tv_ref _)))
    · exact ts_mth R hat h
    · cases h
theorem tv_run_ok {src : Option tv_M} (hva : tv_va c.2.1 As) (hck : ∀ q ∈ c.2.2.2.1, tv_rk (tt_r c.1) q.1 = true ∧ ∀ w ∈ q.2, (∀ i, (tv_po c.2.1 0)[w.1]? = some i → tv_kp c.1 i = true) ∧ ∀ t, c.2.1[w.1]? = some t → t.1 = 1) (HC : ∀ a, ∀ c2 ∈ cx a, c2.2.2.2.2.2 < c.2.2.2.2.2 → tv_Snd T c2 ∧ ∀ q ∈ c2.2.2.2.1, tv_tok q.1 = true)
    (HH : ∀ h ∈ c.2.2.1, ∀ (E : tv_E) (L : List tv_A) (F : tv_F) (ρ : List Int) (ls : List (Nat × Value)) (σ : tm_S), tv_edge src E L h = true → tv_g T c (lv_args 0 As) σ0 ρ0 ρ E L [] F ls [] σ → WP c.2.2.2.2.2 c.1 h.1 ls [] σ (tv_Qc T c As σ0)) :
    ∀ (f pc : Nat) (E : tv_E) (L S : List tv_A) (F : tv_F), tv_run T cx c src f pc E L S F = true → tv_SD T c (lv_args 0 As) σ0 ρ0 (tv_Qc T c As σ0) pc E L S F := by
  intro f
  induction f with
  | zero => intro pc E L S F h; cases h
  | succ f ih =>
    intro pc E L S F h
    refine tv_step_ok hva hck HC ?_ h
    intro pc E L S F h
    split at h
    · rename_i hd hh
      have m1 := List.mem_of_find?_eq_some hh
      have m2 : hd.1 = pc := tv_beq (List.find?_some (p := fun h : tv_H => Nat.beq h.1 pc) hh)
      split at h
      · intro ρ ls st σ g
        cases st with
        | cons x t => exact g.2.2.2.1.elim
        | nil =>
          rw [← m2]
          exact HH hd m1 E L F ρ ls σ h g
      · cases h
    · exact ih pc E L S F h
end TVX
theorem tv_L0_at : ∀ {ts : List tv_T} (i0 : Nat) {k : Nat} {a : tv_A}, (tv_L0 ts i0)[k]? = some a → ∃ t, ts[k]? = some t ∧ a = tv_L1 t (i0 + k)
  | [], _, _, _, h => by simp [tv_L0] at h
  | t :: ts, i0, 0, a, h => ⟨t, rfl, by simpa [tv_L0] using h.symm⟩
  | t :: ts, i0, k + 1, a, h => by
    obtain ⟨u, h1, h2⟩ := tv_L0_at (ts := ts) (i0 + 1) (k := k) (a := a) (by simpa [tv_L0] using h)
    exact ⟨u, by simpa using h1, by rw [h2, show i0 + 1 + k = i0 + (k + 1) by omega]⟩
theorem tv_E0_at : ∀ {ts : List tv_T} {k : Nat} {q : Int × Int}, (tv_E0 ts)[k]? = some q → (∃ t, ts[k]? = some t ∧ q = cond (Nat.beq t.1 1) (t.2.1, t.2.2) (0, 0)) ∨ (k = ts.length ∧ q = (0, 0))
  | [], 0, q, h => Or.inr ⟨rfl, by simpa [tv_E0] using h.symm⟩
  | [], k + 1, q, h => by simp [tv_E0] at h
  | t :: ts, 0, q, h => Or.inl ⟨t, rfl, by simpa [tv_E0] using h.symm⟩
  | t :: ts, k + 1, q, h => by
    rcases tv_E0_at (ts := ts) (k := k) (q := q) (by simpa [tv_E0] using h) with ⟨u, h1, h2⟩ | ⟨h1, h2⟩
    · exact Or.inl ⟨u, by simpa using h1, h2⟩
    · exact Or.inr ⟨by simp [h1], h2⟩
theorem tv_E0_len : ∀ ts : List tv_T, (tv_E0 ts).length = ts.length + 1
  | [] => rfl
  | t :: ts => by simp [tv_E0, tv_E0_len ts]
def tv_r0 (V : Nat → Int) : List tv_T → Nat → List Int
  | [], _ => [0]
  | t :: ts, i => cond (Nat.beq t.1 1) (V i) 0 :: tv_r0 V ts (i + 1)
theorem tv_r0_len (V : Nat → Int) : ∀ (ts : List tv_T) (i : Nat), (tv_r0 V ts i).length = ts.length + 1
  | [], _ => rfl
  | t :: ts, i => by simp [tv_r0, tv_r0_len V ts]
theorem tv_r0_at (V : Nat → Int) : ∀ {ts : List tv_T} (i0 : Nat) {k : Nat} {t : tv_T}, ts[k]? = some t → (tv_r0 V ts i0)[k]? = some (cond (Nat.beq t.1 1) (V (i0 + k)) 0)
  | [], _, _, _, h => by simp at h
  | t :: ts, i0, 0, u, h => by
    have e : t = u := by simpa using h
    subst e
    rfl
  | t :: ts, i0, k + 1, u, h => by
    have h1 := tv_r0_at V (ts := ts) (i0 + 1) (k := k) (t := u) (by simpa using h)
    show (tv_r0 V ts (i0 + 1))[k]? = _
    rw [h1, show i0 + 1 + k = i0 + (k + 1) by omega]
theorem tv_r0_end (V : Nat → Int) : ∀ (ts : List tv_T) (i0 : Nat), (tv_r0 V ts i0)[ts.length]? = some 0
  | [], _ => rfl
  | t :: ts, i0 => by
    show (tv_r0 V ts (i0 + 1))[ts.length]? = some 0
    exact tv_r0_end V ts (i0 + 1)
/-- what holds at a head, or at the entry: locals of these types -/
def tv_inv (T : tv_TT) (c : tv_C) (A0 : List (Nat × Value)) (σ0 : tm_S) (ts : List tv_T) (ls : List (Nat × Value)) (σ : tm_S) : Prop :=
  (∀ (i : Nat) (t : tv_T), ts[i]? = some t → t.1 ≠ 0 → ∃ x, (i, x) ∈ ls ∧ tv_vt t x) ∧ (tv_TY T σ ∧ tv_un σ0 σ c.2.2.2.2.1) ∧ (∀ q ∈ A0, tv_kp c.1 q.1 = true → ¬ q.2.category = 2 → q ∈ ls) ∧ (∀ (i : Nat) (x y : Value), (i, x) ∈ ls → (i, y) ∈ ls → x = y)
def tv_mt (V : Nat → Int) (ls : List (Nat × Value)) : Prop := ∀ (i : Nat) (x : Int32), (i, Value.int x) ∈ ls → V i = x.toInt
theorem tv_mt_ex {ls : List (Nat × Value)} (h : ∀ (i : Nat) (x y : Value), (i, x) ∈ ls → (i, y) ∈ ls → x = y) : ∃ V, tv_mt V ls := by
  have key : ∀ i : Nat, ∃ m : Int, ∀ x : Int32, (i, Value.int x) ∈ ls → m = x.toInt := by
    intro i
    by_cases hx : ∃ x : Int32, (i, Value.int x) ∈ ls
    · obtain ⟨x, hx⟩ := hx
      refine ⟨x.toInt, fun y hy => ?_⟩
      have e := h i _ _ hx hy
      cases e
      rfl
    · exact ⟨0, fun x hy => absurd ⟨x, hy⟩ hx⟩
  obtain ⟨V, hV⟩ := Classical.axiomOfChoice key
  exact ⟨V, hV⟩
theorem tv_start {T : tv_TT} {c : tv_C} {A0 : List (Nat × Value)} {σ0 : tm_S} {ts : List tv_T} {ls : List (Nat × Value)} {σ : tm_S} {V : Nat → Int} (hI : tv_inv T c A0 σ0 ts ls σ) (hV : tv_mt V ls) (htok : ∀ t ∈ ts, tv_tok t = true) : tv_g T c A0 σ0 (tv_r0 V ts 0) (tv_r0 V ts 0) (tv_E0 ts) (tv_L0 ts 0) [] [] ls [] σ := by
  refine ⟨⟨by rw [tv_r0_len, tv_E0_len], fun v m q hm hq => ?_⟩, fun i m h => h, fun i a ha hn => ?_, trivial, (fun q hq => nomatch hq), hI.2.1, hI.2.2⟩
  · rcases tv_E0_at hq with ⟨t, h1, h2⟩ | ⟨h1, h2⟩
    · rw [tv_r0_at V 0 h1] at hm
      cases hb : Nat.beq t.1 1 with
      | false =>
        rw [hb] at hm h2
        cases hm
        rw [h2]
        exact ⟨Int.le_refl _, Int.le_refl _⟩
      | true =>
        rw [hb] at hm h2
        cases hm
        rw [h2, Nat.zero_add]
        have ht : t.1 = 1 := tv_beq hb
        obtain ⟨x, x1, x2⟩ := hI.1 v t h1 (by omega)
        obtain ⟨t1, lo, hi⟩ := t
        dsimp only at ht
        subst ht
        obtain ⟨n, rfl, l1, l2⟩ := x2
        rw [hV v n x1]
        exact ⟨l1, l2⟩
    · rw [h1, tv_r0_end] at hm
      cases hm
      rw [h2]
      exact ⟨Int.le_refl _, Int.le_refl _⟩
  · obtain ⟨t, h1, h2⟩ := tv_L0_at 0 ha
    rw [Nat.zero_add] at h2
    have htk := htok t (List.mem_of_getElem? h1)
    obtain ⟨t1, lo, hi⟩ := t
    match t1, h1, h2, htk with
    | 0, h1, h2, _ => rw [h2] at hn; exact absurd rfl hn
    | 1, h1, h2, _ =>
      obtain ⟨x, x1, n, rfl, l1, l2⟩ := hI.1 i _ h1 (by intro e; cases e)
      refine ⟨_, x1, ?_⟩
      rw [h2]
      refine Or.inl ⟨rfl, n, V i, rfl, ?_, ?_⟩
      · have := tv_r0_at V 0 h1
        rw [Nat.zero_add] at this
        exact this
      · show n.toInt = V i + 0
        rw [hV i n x1]
        omega
    | 2, h1, h2, _ =>
      obtain ⟨x, x1, n, rfl⟩ := hI.1 i _ h1 (by intro e; cases e)
      refine ⟨_, x1, ?_⟩
      rw [h2]
      exact tv_long n
    | 3, h1, h2, htk =>
      obtain ⟨x, x1, n, rfl, l1, l2⟩ := hI.1 i _ h1 (by intro e; cases e)
      refine ⟨_, x1, ?_⟩
      rw [h2]
      have h0 := (tv_le_iff 0 lo).mp htk
      exact Or.inr (Or.inr ⟨rfl, n, rfl, by show lo.toNat ≤ n; omega, l2⟩)
    | k + 4, h1, h2, _ => rw [h2] at hn; exact absurd rfl hn
theorem tv_gT_at {E : tv_E} : ∀ {ts : List tv_T} {L : List tv_A}, tv_gT ts L E = true → ∀ (i : Nat) (t : tv_T), ts[i]? = some t → ∃ a, L[i]? = some a ∧ tv_sub E a t = true
  | [], _, _, i, t, h => by simp at h
  | u :: ts, [], h, _, _, _ => by cases h
  | u :: ts, a :: L, h, 0, t, ht => by
    unfold tv_gT at h
    rw [Bool.and_eq_true] at h
    have e : u = t := by simpa using ht
    subst e
    exact ⟨a, rfl, h.1⟩
  | u :: ts, a :: L, h, i + 1, t, ht => by
    unfold tv_gT at h
    rw [Bool.and_eq_true] at h
    obtain ⟨b, h1, h2⟩ := tv_gT_at h.2 i t (by simpa using ht)
    exact ⟨b, by simpa using h1, h2⟩
theorem tv_sub_tag {E : tv_E} {a : tv_A} {t : tv_T} (h : tv_sub E a t = true) (ht : t.1 ≠ 0) : a.1 ≠ 0 := by
  obtain ⟨t1, lo, hi⟩ := t
  match t1, h, ht with
  | 0, _, ht => exact absurd rfl ht
  | 1, h, _ =>
    change (match tv_iv E a with
      | some q => tv_le lo q.1 && tv_le q.2 hi
      | none => false) = true at h
    split at h
    · rename_i q hq
      rw [tv_iv_tag hq]
      decide
    · cases h
  | 2, h, _ => have e : a.1 = 2 := tv_beq h; omega
  | 3, h, _ =>
    change (Nat.beq a.1 3 && tv_le lo (a.2.1 : Int) && tv_le a.2.2 hi) = true at h
    simp only [Bool.and_eq_true] at h
    have e : a.1 = 3 := tv_beq h.1.1
    omega
  | k + 4, h, _ => cases h
theorem tv_inv_of {T : tv_TT} {c : tv_C} {A0 : List (Nat × Value)} {σ0 : tm_S} {ρ0 ρ : List Int} {E : tv_E} {L : List tv_A} {F : tv_F} {ls : List (Nat × Value)} {st : List Value} {S : List tv_A} {σ : tm_S} {ts : List tv_T} (g : tv_g T c A0 σ0 ρ0 ρ E L S F ls st σ) (h : tv_gT ts L E = true) : tv_inv T c A0 σ0 ts ls σ := by
  refine ⟨fun i t h1 h2 => ?_, g.2.2.2.2.2⟩
  obtain ⟨a, a1, a2⟩ := tv_gT_at h i t h1
  obtain ⟨x, x1, x2⟩ := g.2.2.1 i a a1 (tv_sub_tag a2 h2)
  exact ⟨x, x1, tv_sub_vt g.1 x2 a2 h2⟩
/-! measures -/
def tv_tv (V : Nat → Int) (t : Int × Nat × Int) : Int := if t.1 = 0 then t.2.2 else if t.1 = 1 then V t.2.1 + t.2.2 else t.2.2 - V t.2.1
def tv_B : Int := 4398046511104
def tv_me (V : Nat → Int) : tv_M → Int
  | [] => 0
  | t :: ts => tv_tv V t * tv_B ^ ts.length + tv_me V ts
theorem tv_Bp (n : Nat) : 0 < tv_B ^ n := Int.pow_pos (by decide)
theorem tv_me_rng {V : Nat → Int} : ∀ {m : tv_M}, (∀ t ∈ m, 0 ≤ tv_tv V t ∧ tv_tv V t < tv_B) → 0 ≤ tv_me V m ∧ tv_me V m < tv_B ^ m.length
  | [], _ => ⟨Int.le_refl _, by show (0 : Int) < tv_B ^ 0; decide⟩
  | t :: ts, h => by
    obtain ⟨h1, h2⟩ := tv_me_rng (m := ts) (fun u hu => h u (List.mem_cons_of_mem _ hu))
    obtain ⟨h3, h4⟩ := h t List.mem_cons_self
    have hp := tv_Bp ts.length
    show 0 ≤ tv_tv V t * tv_B ^ ts.length + tv_me V ts ∧ tv_tv V t * tv_B ^ ts.length + tv_me V ts < tv_B ^ (ts.length + 1)
    have m1 : 0 ≤ tv_tv V t * tv_B ^ ts.length := Int.mul_nonneg h3 (Int.le_of_lt hp)
    have m2 : (tv_tv V t + 1) * tv_B ^ ts.length ≤ tv_B * tv_B ^ ts.length := Int.mul_le_mul_of_nonneg_right (by omega) (Int.le_of_lt hp)
    rw [Int.add_mul, Int.one_mul] at m2
    rw [Int.pow_succ, Int.mul_comm (tv_B ^ ts.length) tv_B]
    omega
theorem tv_lex_ok {ρ : List Int} {E : tv_E} {L : List tv_A} {ls : List (Nat × Value)} {V V2 : Nat → Int} (hE : tv_gE ρ E) (hL : ∀ (i : Nat) (a : tv_A), L[i]? = some a → a.1 ≠ 0 → ∃ x, (i, x) ∈ ls ∧ tv_gv ρ a x) (hV2 : tv_mt V2 ls) :
    ∀ {m m2 : tv_M}, tv_lex E L m m2 = true → m.length = m2.length → (∀ s ∈ m, s.1 ≠ 0 → (s.1 = 1 ∨ s.1 = -1) ∧ ρ[s.2.1]? = some (V s.2.1)) → (∀ t ∈ m2, t.1 = 0 ∨ t.1 = 1 ∨ t.1 = -1) → (∀ t ∈ m, 0 ≤ tv_tv V t ∧ tv_tv V t < tv_B) → (∀ t ∈ m2, 0 ≤ tv_tv V2 t ∧ tv_tv V2 t < tv_B) → tv_me V2 m2 < tv_me V m
  | [], [], h, _, _, _, _, _ => by cases h
  | [], _ :: _, h, _, _, _, _, _ => by cases h
  | _ :: _, [], h, _, _, _, _, _ => by cases h
  | s :: ss, t :: ts, h, hl, hs, ht, b1, b2 => by
    unfold tv_lex at h
    split at h
    · rename_i b hb
      have hs0 := hs s List.mem_cons_self
      have ht0 := ht t List.mem_cons_self
      -- the target's local, where it is an int
      have hloc : b.1 = 1 → ∃ mb, ρ[b.2.1]? = some mb ∧ V2 t.2.1 = mb + b.2.2 := by
        intro e
        obtain ⟨x, x1, x2⟩ := hL _ b hb (by omega)
        obtain ⟨n, mb, rfl, h1, h2⟩ := tv_gi x2 e
        exact ⟨mb, h1, by rw [hV2 _ n x1]; exact h2⟩
      have hD : ∀ D : Int × Int, (cond (tv_eq s.1 t.1 && !(tv_eq s.1 0) && Nat.beq b.1 1 && Nat.beq b.2.1 s.2.1 && (tv_eq s.1 1 || tv_eq s.1 (-1)))
          (some (s.1 * b.2.2 + t.2.2 - s.2.2, s.1 * b.2.2 + t.2.2 - s.2.2))
          (match tv_tm E (1, s.2.1, 0) s.1 s.2.2, tv_tm E b t.1 t.2.2 with
            | some S1, some T1 => some (T1.1 - S1.2, T1.2 - S1.1)
            | _, _ => none)) = some D → D.1 ≤ tv_tv V2 t - tv_tv V s ∧ tv_tv V2 t - tv_tv V s ≤ D.2 := by
        intro D hD
        cases hc : (tv_eq s.1 t.1 && !(tv_eq s.1 0) && Nat.beq b.1 1 && Nat.beq b.2.1 s.2.1 && (tv_eq s.1 1 || tv_eq s.1 (-1))) with
        | true =>
          rw [hc] at hD
          cases hD
          simp only [Bool.and_eq_true, Bool.or_eq_true, tv_eq_iff] at hc
          obtain ⟨⟨⟨⟨c1, c2⟩, c3⟩, c4⟩, c5⟩ := hc
          obtain ⟨mb, g1, g2⟩ := hloc (tv_beq c3)
          have hs1 : s.1 ≠ 0 := by omega
          have g3 := (hs0 hs1).2
          rw [tv_beq c4, g3] at g1
          cases g1
          unfold tv_tv
          rw [← c1]
          rcases c5 with c5 | c5
          · rw [c5, if_neg (by decide), if_pos rfl, if_neg (by decide), if_pos rfl]
            dsimp only
            omega
          · rw [c5, if_neg (by decide), if_neg (by decide), if_neg (by decide), if_neg (by decide)]
            dsimp only
            omega
        | false =>
          rw [hc] at hD
          simp only [cond_false] at hD
          split at hD
          · rename_i S1 T1 hS1 hT1
            cases hD
            have hSv : S1.1 ≤ tv_tv V s ∧ tv_tv V s ≤ S1.2 := by
              unfold tv_tm at hS1
              cases h0 : tv_eq s.1 0 with
              | true =>
                rw [h0] at hS1
                cases hS1
                rw [tv_eq_iff] at h0
                unfold tv_tv
                rw [if_pos h0]
                exact ⟨Int.le_refl _, Int.le_refl _⟩
              | false =>
                rw [h0] at hS1
                simp only [cond_false] at hS1
                have hs1 : s.1 ≠ 0 := fun e => by rw [(tv_eq_iff _ _).mpr e] at h0; cases h0
                obtain ⟨g1, g2⟩ := hs0 hs1
                split at hS1
                · rename_i q hq
                  have hq2 : ∃ r, E[s.2.1]? = some r ∧ q = (r.1 + 0, r.2 + 0) := by
                    change (match E[s.2.1]? with
                      | some q => some (q.1 + 0, q.2 + 0)
                      | none => none) = some q at hq
                    split at hq
                    · rename_i r hr
                      exact ⟨r, hr, (Option.some.inj hq).symm⟩
                    · cases hq
                  obtain ⟨r, hr, rfl⟩ := hq2
                  have g3 := hE.2 _ _ _ g2 hr
                  unfold tv_tv
                  rcases g1 with g1 | g1
                  · rw [(tv_eq_iff s.1 1).mpr g1] at hS1
                    cases hS1
                    rw [if_neg hs1, if_pos g1]
                    dsimp only
                    omega
                  · have e1 : tv_eq s.1 1 = false := by
                      cases e : tv_eq s.1 1 with
                      | false => rfl
                      | true => rw [tv_eq_iff] at e; omega
                    rw [e1, (tv_eq_iff s.1 (-1)).mpr g1] at hS1
                    cases hS1
                    rw [if_neg hs1, if_neg (by omega)]
                    dsimp only
                    omega
                · cases hS1
            have hTv : T1.1 ≤ tv_tv V2 t ∧ tv_tv V2 t ≤ T1.2 := by
              unfold tv_tm at hT1
              cases h0 : tv_eq t.1 0 with
              | true =>
                rw [h0] at hT1
                cases hT1
                rw [tv_eq_iff] at h0
                unfold tv_tv
                rw [if_pos h0]
                exact ⟨Int.le_refl _, Int.le_refl _⟩
              | false =>
                rw [h0] at hT1
                simp only [cond_false] at hT1
                have ht1 : t.1 ≠ 0 := fun e => by rw [(tv_eq_iff _ _).mpr e] at h0; cases h0
                split at hT1
                · rename_i q hq
                  have hb1 := tv_iv_tag hq
                  obtain ⟨mb, g1, g2⟩ := hloc hb1
                  have hq2 : ∃ r, E[b.2.1]? = some r ∧ q = (r.1 + b.2.2, r.2 + b.2.2) := by
                    unfold tv_iv at hq
                    split at hq
                    · rename_i v o
                      split at hq
                      · rename_i r hr
                        exact ⟨r, hr, (Option.some.inj hq).symm⟩
                      · cases hq
                    · cases hq
                  obtain ⟨r, hr, rfl⟩ := hq2
                  have g3 := hE.2 _ _ _ g1 hr
                  unfold tv_tv
                  rcases ht0 with e | e | e
                  · exact absurd e ht1
                  · rw [(tv_eq_iff t.1 1).mpr e] at hT1
                    cases hT1
                    rw [if_neg ht1, if_pos e]
                    dsimp only
                    omega
                  · have e1 : tv_eq t.1 1 = false := by
                      cases e2 : tv_eq t.1 1 with
                      | false => rfl
                      | true => rw [tv_eq_iff] at e2; omega
                    rw [e1, (tv_eq_iff t.1 (-1)).mpr e] at hT1
                    cases hT1
                    rw [if_neg ht1, if_neg (by omega)]
                    dsimp only
                    omega
                · cases hT1
            dsimp only
            omega
          · cases hD
      split at h
      · rename_i D hDe
        have hd := hD D hDe
        have hl2 : ss.length = ts.length := by simpa using hl
        have r1 := tv_me_rng (V := V) (m := ss) (fun u hu => b1 u (List.mem_cons_of_mem _ hu))
        have r2 := tv_me_rng (V := V2) (m := ts) (fun u hu => b2 u (List.mem_cons_of_mem _ hu))
        have hp := tv_Bp ss.length
        show tv_tv V2 t * tv_B ^ ts.length + tv_me V2 ts < tv_tv V s * tv_B ^ ss.length + tv_me V ss
        rw [← hl2] at r2 ⊢
        cases hc : tv_le (D.2 + 1) 0 with
        | true =>
          rw [tv_le_iff] at hc
          have m2 : (tv_tv V2 t + 1) * tv_B ^ ss.length ≤ tv_tv V s * tv_B ^ ss.length := Int.mul_le_mul_of_nonneg_right (by omega) (Int.le_of_lt hp)
          rw [Int.add_mul, Int.one_mul] at m2
          omega
        | false =>
          rw [hc] at h
          simp only [cond_false, Bool.and_eq_true, tv_eq_iff] at h
          have e : tv_tv V2 t = tv_tv V s := by omega
          have ih := tv_lex_ok hE hL hV2 (V := V) (m := ss) (m2 := ts) h.2 hl2 (fun u hu => hs u (List.mem_cons_of_mem _ hu)) (fun u hu => ht u (List.mem_cons_of_mem _ hu)) (fun u hu => b1 u (List.mem_cons_of_mem _ hu)) (fun u hu => b2 u (List.mem_cons_of_mem _ hu))
          rw [e]
          omega
      · cases h
    · cases h
theorem tv_mok_ok {h : tv_H} (hm : tv_mok h = true) : h.2.2.length = 5 ∧ (∀ t ∈ h.2.2, t.1 = 0 ∨ t.1 = 1 ∨ t.1 = -1) ∧ (∀ t ∈ h.2.2, t.1 ≠ 0 → ∃ lo hi, h.2.1[t.2.1]? = some (1, lo, hi)) ∧
    ∀ V : Nat → Int, (∀ i lo hi, h.2.1[i]? = some (1, lo, hi) → lo ≤ V i ∧ V i ≤ hi ∧ -2147483648 ≤ V i ∧ V i ≤ 2147483647) → ∀ t ∈ h.2.2, 0 ≤ tv_tv V t ∧ tv_tv V t < tv_B := by
  unfold tv_mok at hm
  rw [Bool.and_eq_true, List.all_eq_true] at hm
  have hB : tv_B = 4398046511104 := rfl
  have key : ∀ t ∈ h.2.2, (t.1 = 0 ∧ 0 ≤ t.2.2 ∧ t.2.2 ≤ 1099511627775) ∨ ((t.1 = 1 ∨ t.1 = -1) ∧ t.2.2 ≤ 1099511627775 ∧ ∃ lo hi, h.2.1[t.2.1]? = some (1, lo, hi) ∧ (t.1 = 1 → 0 ≤ lo + t.2.2) ∧ (t.1 = -1 → 0 ≤ t.2.2 - hi)) := by
    intro t ht
    have h1 := hm.1 t ht
    rw [Bool.and_eq_true, tv_le_iff] at h1
    obtain ⟨h1, h2⟩ := h1
    cases h0 : tv_eq t.1 0 with
    | true =>
      rw [h0] at h1
      rw [tv_eq_iff] at h0
      simp only [cond_true, tv_le_iff] at h1
      exact Or.inl ⟨h0, h1, h2⟩
    | false =>
      rw [h0] at h1
      simp only [cond_false] at h1
      split at h1
      · rename_i lo hi hlh
        cases e1 : tv_eq t.1 1 with
        | true =>
          rw [e1] at h1
          rw [tv_eq_iff] at e1
          simp only [cond_true, tv_le_iff] at h1
          exact Or.inr ⟨Or.inl e1, h2, lo, hi, hlh, fun _ => h1, fun e => by omega⟩
        | false =>
          rw [e1] at h1
          simp only [cond_false] at h1
          cases e2 : tv_eq t.1 (-1) with
          | true =>
            rw [e2] at h1
            rw [tv_eq_iff] at e2
            simp only [cond_true, tv_le_iff] at h1
            exact Or.inr ⟨Or.inr e2, h2, lo, hi, hlh, fun e => by omega, fun _ => h1⟩
          | false => rw [e2] at h1; cases h1
      · cases h1
  refine ⟨tv_beq hm.2, fun t ht => ?_, fun t ht hne => ?_, fun V hV t ht => ?_⟩
  · rcases key t ht with ⟨e, -⟩ | ⟨e, -⟩
    · exact Or.inl e
    · exact Or.inr e
  · rcases key t ht with ⟨e, -⟩ | ⟨-, -, lo, hi, e, -⟩
    · exact absurd e hne
    · exact ⟨lo, hi, e⟩
  · unfold tv_tv
    rcases key t ht with ⟨e, e1, e2⟩ | ⟨e, e1, lo, hi, e2, e3, e4⟩
    · rw [if_pos e]
      omega
    · have hv := hV _ _ _ e2
      rcases e with e | e
      · rw [if_neg (by omega), if_pos e]
        have := e3 e
        omega
      · rw [if_neg (by omega), if_neg (by omega)]
        have := e4 e
        omega
theorem tv_inv_V {T : tv_TT} {c : tv_C} {A0 : List (Nat × Value)} {σ0 : tm_S} {ts : List tv_T} {ls : List (Nat × Value)} {σ : tm_S} {V : Nat → Int} (hI : tv_inv T c A0 σ0 ts ls σ) (hV : tv_mt V ls) : ∀ i lo hi, ts[i]? = some (1, lo, hi) → lo ≤ V i ∧ V i ≤ hi ∧ -2147483648 ≤ V i ∧ V i ≤ 2147483647 := by
  intro i lo hi h
  obtain ⟨x, x1, n, rfl, l1, l2⟩ := hI.1 i _ h (by intro e; cases e)
  have r := tn_rng n
  rw [hV i n x1]
  omega
theorem tv_en_at : ∀ {ts : List tv_T} {As : List Value} {n i0 : Nat}, tv_va ts As → ∀ (i : Nat) (t : tv_T), (tv_en n ts)[i]? = some t → t.1 ≠ 0 → ∃ x, (i0 + i, x) ∈ lv_args i0 As ∧ tv_vt t x
  | [], [], n, i0, _, i, t, h, hn => by
    have h1 := List.mem_of_getElem? h
    rw [List.eq_of_mem_replicate h1] at hn
    exact absurd rfl hn
  | u :: ts, x :: As, n, i0, hv, i, t, h, hn => by
    unfold tv_en at h
    show ∃ y, (i0 + i, y) ∈ (i0, x) :: lv_args (if x.category = 2 then i0 + 2 else i0 + 1) As ∧ tv_vt t y
    rcases tv_vt_cat hv.1 with ⟨e1, e2⟩ | ⟨e1, e2⟩
    · rw [e1] at h
      simp only [cond_true] at h
      rw [if_pos e2]
      match i, h with
      | 0, h =>
        cases h
        refine ⟨x, List.mem_cons_self, ?_⟩
        obtain ⟨u1, lo, hi⟩ := u
        have e : u1 = 2 := tv_beq e1
        subst e
        exact hv.1
      | 1, h => cases h; exact absurd rfl hn
      | i + 2, h =>
        obtain ⟨y, y1, y2⟩ := tv_en_at (i0 := i0 + 2) hv.2 i t (by simpa using h) hn
        exact ⟨y, List.mem_cons_of_mem _ (by rw [show i0 + (i + 2) = i0 + 2 + i by omega]; exact y1), y2⟩
    · rw [e1] at h
      simp only [cond_false] at h
      rw [if_neg (by omega)]
      match i, h with
      | 0, h =>
        cases h
        exact ⟨x, List.mem_cons_self, hv.1⟩
      | i + 1, h =>
        obtain ⟨y, y1, y2⟩ := tv_en_at (i0 := i0 + 1) hv.2 i t (by simpa using h) hn
        exact ⟨y, List.mem_cons_of_mem _ (by rw [show i0 + (i + 1) = i0 + 1 + i by omega]; exact y1), y2⟩
  | [], _ :: _, _, _, hv, _, _, _, _ => hv.elim
  | _ :: _, [], _, _, hv, _, _, _, _ => hv.elim
theorem tv_args_ge : ∀ {As : List Value} {i0 i : Nat} {x : Value}, (i, x) ∈ lv_args i0 As → i0 ≤ i
  | [], _, _, _, h => by cases h
  | v :: vs, i0, i, x, h => by
    rcases List.mem_cons.mp h with e | e
    · cases e; exact Nat.le_refl _
    · have := tv_args_ge e
      split at this <;> omega
theorem tv_args_fn : ∀ {As : List Value} {i0 : Nat} (i : Nat) (x y : Value), (i, x) ∈ lv_args i0 As → (i, y) ∈ lv_args i0 As → x = y
  | [], _, _, _, _, h, _ => by cases h
  | v :: vs, i0, i, x, y, hx, hy => by
    have step : ∀ w, (i, w) ∈ lv_args i0 (v :: vs) → (i = i0 ∧ w = v) ∨ (i0 < i ∧ (i, w) ∈ lv_args (if v.category = 2 then i0 + 2 else i0 + 1) vs) := by
      intro w hw
      rcases List.mem_cons.mp hw with e | e
      · cases e; exact Or.inl ⟨rfl, rfl⟩
      · refine Or.inr ⟨?_, e⟩
        have := tv_args_ge e
        split at this <;> omega
    rcases step x hx with ⟨a1, a2⟩ | ⟨a1, a2⟩ <;> rcases step y hy with ⟨b1, b2⟩ | ⟨b1, b2⟩
    · rw [a2, b2]
    · omega
    · omega
    · exact tv_args_fn i x y a2 b2
set_option maxHeartbeats 4000000 in
/-- A CHECKED CONTEXT IS SOUND -/
theorem tv_ctx {T : tv_TT} {cx : Nat → List tv_C} {f : Nat} {c : tv_C} (hc : tv_ck T cx f c = true) (HC : ∀ a, ∀ c2 ∈ cx a, c2.2.2.2.2.2 < c.2.2.2.2.2 → tv_Snd T c2 ∧ ∀ q ∈ c2.2.2.2.1, tv_tok q.1 = true) : tv_Snd T c ∧ ∀ q ∈ c.2.2.2.1, tv_tok q.1 = true := by
  unfold tv_ck at hc
  simp only [Bool.and_eq_true, List.all_eq_true] at hc
  obtain ⟨⟨⟨⟨⟨c1, c2⟩, c3⟩, c4⟩, c5⟩, c6⟩ := hc
  have hck : ∀ q ∈ c.2.2.2.1, tv_rk (tt_r c.1) q.1 = true ∧ ∀ w ∈ q.2, (∀ i, (tv_po c.2.1 0)[w.1]? = some i → tv_kp c.1 i = true) ∧ ∀ t, c.2.1[w.1]? = some t → t.1 = 1 := by
    intro q hq
    refine ⟨(c3 q hq).1.1, fun w hw => ?_⟩
    obtain ⟨e1, e2⟩ := (c3 q hq).2 w hw
    refine ⟨fun i hi => ?_, fun t ht => ?_⟩
    · rw [hi] at e1
      exact e1
    · rw [ht] at e2
      exact tv_beq e2
  refine ⟨fun As σ0 hva hT => ?_, fun q hq => (c3 q hq).1.2⟩
  have head : ∀ (μ : Nat), ∀ h ∈ c.2.2.1, ∀ (ls : List (Nat × Value)) (σ : tm_S) (V : Nat → Int), tv_inv T c (lv_args 0 As) σ0 h.2.1 ls σ → tv_mt V ls → (tv_me V h.2.2).toNat < μ → WP c.2.2.2.2.2 c.1 h.1 ls [] σ (tv_Qc T c As σ0) := by
    intro μ
    induction μ with
    | zero => intro h _ ls σ V _ _ hm; omega
    | succ μ ih =>
      intro h hh ls σ V hI hV hm
      obtain ⟨⟨d1, d2⟩, d3⟩ := c2 h hh
      obtain ⟨k1, k2, k3, k4⟩ := tv_mok_ok d2
      have g := tv_start hI hV d1
      have b1 := k4 V (tv_inv_V hI hV)
      refine tv_run_ok (ρ0 := tv_r0 V h.2.1 0) (src := some h.2.2) hva hck HC ?_ f h.1 _ _ _ _ (c6 h hh) _ ls [] σ g
      intro h2 hh2 E L F ρ ls2 σ2 he g2
      unfold tv_edge at he
      rw [Bool.and_eq_true] at he
      obtain ⟨⟨f1, f2⟩, f3⟩ := c2 h2 hh2
      obtain ⟨j1, j2, j3, j4⟩ := tv_mok_ok f2
      have hI2 := tv_inv_of g2 he.1
      obtain ⟨V2, hV2⟩ := tv_mt_ex hI2.2.2.2
      have b2 := j4 V2 (tv_inv_V hI2 hV2)
      have hlt := tv_lex_ok (V := V) g2.1 g2.2.2.1 hV2 he.2 (k1.trans j1.symm) (fun s hs hne => by
        refine ⟨(k2 s hs).resolve_left hne, ?_⟩
        obtain ⟨lo, hi, e⟩ := k3 s hs hne
        refine g2.2.1 _ _ ?_
        have := tv_r0_at V 0 e
        rw [Nat.zero_add] at this
        exact this) j2 b1 b2
      have r1 := tv_me_rng b1
      have r2 := tv_me_rng b2
      exact ih h2 hh2 ls2 σ2 V2 hI2 hV2 (by omega)
  have hI : tv_inv T c (lv_args 0 As) σ0 (tv_en (tt_n c.1) c.2.1) (lv_args 0 As) σ0 := by
    refine ⟨fun i t h1 h2 => ?_, ⟨hT, fun _ _ _ _ _ => rfl⟩, fun q hq _ _ => hq, tv_args_fn⟩
    have := tv_en_at (i0 := 0) hva i t h1 h2
    rw [Nat.zero_add] at this
    exact this
  obtain ⟨V, hV⟩ := tv_mt_ex hI.2.2.2
  have htok : ∀ t ∈ tv_en (tt_n c.1) c.2.1, tv_tok t = true := by
    have key : ∀ (ts : List tv_T) (n : Nat), (∀ t ∈ ts, tv_tok t = true) → ∀ t ∈ tv_en n ts, tv_tok t = true := by
      intro ts
      induction ts with
      | nil => intro n _ t ht; rw [List.eq_of_mem_replicate ht]; rfl
      | cons u us ih =>
        intro n h t ht
        unfold tv_en at ht
        cases hb : Nat.beq u.1 2 with
        | true =>
          rw [hb] at ht
          simp only [cond_true] at ht
          rcases List.mem_cons.mp ht with rfl | ht
          · rfl
          rcases List.mem_cons.mp ht with rfl | ht
          · rfl
          · exact ih _ (fun w hw => h w (List.mem_cons_of_mem _ hw)) t ht
        | false =>
          rw [hb] at ht
          simp only [cond_false] at ht
          rcases List.mem_cons.mp ht with rfl | ht
          · exact h t List.mem_cons_self
          · exact ih _ (fun w hw => h w (List.mem_cons_of_mem _ hw)) t ht
    exact key _ _ c1
  have g := tv_start hI hV htok
  refine tv_run_ok (src := none) hva hck HC ?_ f 0 _ _ _ _ c5 _ _ [] σ0 g
  intro h2 hh2 E L F ρ ls2 σ2 he g2
  unfold tv_edge at he
  rw [Bool.and_eq_true] at he
  have hI2 := tv_inv_of g2 he.1
  obtain ⟨V2, hV2⟩ := tv_mt_ex hI2.2.2.2
  exact head ((tv_me V2 h2.2.2).toNat + 1) h2 hh2 ls2 σ2 V2 hI2 hV2 (Nat.lt_succ_self _)
end
section
/-! ===== the rules once more, as a walk by hand takes them ===== -/
theorem wq_iadd {d j pc : Nat} {ls : List (Nat × Value)} {st : List Value} {σ : tm_S} {Q : Option Value → tm_S → Prop} {n : Nat} {zz : List (Int × Nat)} {z : Int} {x y : Int32} (h : tt_at j pc = some ((9, 0, z, zz), n)) (kk : WP d j (pc + n) ls (.int (x + y) :: st) σ Q) : WP d j pc ls (.int y :: .int x :: st) σ Q := wp_ib h kk
theorem wq_isub {d j pc : Nat} {ls : List (Nat × Value)} {st : List Value} {σ : tm_S} {Q : Option Value → tm_S → Prop} {n : Nat} {zz : List (Int × Nat)} {z : Int} {x y : Int32} (h : tt_at j pc = some ((9, 1, z, zz), n)) (kk : WP d j (pc + n) ls (.int (x - y) :: st) σ Q) : WP d j pc ls (.int y :: .int x :: st) σ Q := wp_ib h kk
theorem wq_imul {d j pc : Nat} {ls : List (Nat × Value)} {st : List Value} {σ : tm_S} {Q : Option Value → tm_S → Prop} {n : Nat} {zz : List (Int × Nat)} {z : Int} {x y : Int32} (h : tt_at j pc = some ((9, 2, z, zz), n)) (kk : WP d j (pc + n) ls (.int (x * y) :: st) σ Q) : WP d j pc ls (.int y :: .int x :: st) σ Q := wp_ib h kk
theorem wq_iand {d j pc : Nat} {ls : List (Nat × Value)} {st : List Value} {σ : tm_S} {Q : Option Value → tm_S → Prop} {n : Nat} {zz : List (Int × Nat)} {z : Int} {x y : Int32} (h : tt_at j pc = some ((9, 3, z, zz), n)) (kk : WP d j (pc + n) ls (.int (x &&& y) :: st) σ Q) : WP d j pc ls (.int y :: .int x :: st) σ Q := wp_ib h kk
theorem wq_ior {d j pc : Nat} {ls : List (Nat × Value)} {st : List Value} {σ : tm_S} {Q : Option Value → tm_S → Prop} {n : Nat} {zz : List (Int × Nat)} {z : Int} {x y : Int32} (h : tt_at j pc = some ((9, 4, z, zz), n)) (kk : WP d j (pc + n) ls (.int (x ||| y) :: st) σ Q) : WP d j pc ls (.int y :: .int x :: st) σ Q := wp_ib h kk
theorem wq_ixor {d j pc : Nat} {ls : List (Nat × Value)} {st : List Value} {σ : tm_S} {Q : Option Value → tm_S → Prop} {n : Nat} {zz : List (Int × Nat)} {z : Int} {x y : Int32} (h : tt_at j pc = some ((9, 5, z, zz), n)) (kk : WP d j (pc + n) ls (.int (x ^^^ y) :: st) σ Q) : WP d j pc ls (.int y :: .int x :: st) σ Q := wp_ib h kk
theorem wq_ishl {d j pc : Nat} {ls : List (Nat × Value)} {st : List Value} {σ : tm_S} {Q : Option Value → tm_S → Prop} {n : Nat} {zz : List (Int × Nat)} {z : Int} {x y : Int32} (h : tt_at j pc = some ((9, 6, z, zz), n)) (kk : WP d j (pc + n) ls (.int (x <<< (y &&& 31)) :: st) σ Q) : WP d j pc ls (.int y :: .int x :: st) σ Q := wp_ib h kk
theorem wq_ishr {d j pc : Nat} {ls : List (Nat × Value)} {st : List Value} {σ : tm_S} {Q : Option Value → tm_S → Prop} {n : Nat} {zz : List (Int × Nat)} {z : Int} {x y : Int32} (h : tt_at j pc = some ((9, 7, z, zz), n)) (kk : WP d j (pc + n) ls (.int (x >>> (y &&& 31)) :: st) σ Q) : WP d j pc ls (.int y :: .int x :: st) σ Q := wp_ib h kk
theorem wq_iushr {d j pc : Nat} {ls : List (Nat × Value)} {st : List Value} {σ : tm_S} {Q : Option Value → tm_S → Prop} {n : Nat} {zz : List (Int × Nat)} {z : Int} {x y : Int32} (h : tt_at j pc = some ((9, 8, z, zz), n)) (kk : WP d j (pc + n) ls (.int ((x.toUInt32 >>> (y.toUInt32 &&& Int32.toUInt32 31)).toInt32) :: st) σ Q) : WP d j pc ls (.int y :: .int x :: st) σ Q := wp_ib h kk
theorem wq_ladd {d j pc : Nat} {ls : List (Nat × Value)} {st : List Value} {σ : tm_S} {Q : Option Value → tm_S → Prop} {n : Nat} {zz : List (Int × Nat)} {z : Int} {x y : Int64} (h : tt_at j pc = some ((13, 0, z, zz), n)) (kk : WP d j (pc + n) ls (.long (x + y) :: st) σ Q) : WP d j pc ls (.long y :: .long x :: st) σ Q := wp_lb h kk
theorem wq_lsub {d j pc : Nat} {ls : List (Nat × Value)} {st : List Value} {σ : tm_S} {Q : Option Value → tm_S → Prop} {n : Nat} {zz : List (Int × Nat)} {z : Int} {x y : Int64} (h : tt_at j pc = some ((13, 1, z, zz), n)) (kk : WP d j (pc + n) ls (.long (x - y) :: st) σ Q) : WP d j pc ls (.long y :: .long x :: st) σ Q := wp_lb h kk
theorem wq_lmul {d j pc : Nat} {ls : List (Nat × Value)} {st : List Value} {σ : tm_S} {Q : Option Value → tm_S → Prop} {n : Nat} {zz : List (Int × Nat)} {z : Int} {x y : Int64} (h : tt_at j pc = some ((13, 2, z, zz), n)) (kk : WP d j (pc + n) ls (.long (x * y) :: st) σ Q) : WP d j pc ls (.long y :: .long x :: st) σ Q := wp_lb h kk
theorem wq_land {d j pc : Nat} {ls : List (Nat × Value)} {st : List Value} {σ : tm_S} {Q : Option Value → tm_S → Prop} {n : Nat} {zz : List (Int × Nat)} {z : Int} {x y : Int64} (h : tt_at j pc = some ((13, 3, z, zz), n)) (kk : WP d j (pc + n) ls (.long (x &&& y) :: st) σ Q) : WP d j pc ls (.long y :: .long x :: st) σ Q := wp_lb h kk
theorem wq_lor {d j pc : Nat} {ls : List (Nat × Value)} {st : List Value} {σ : tm_S} {Q : Option Value → tm_S → Prop} {n : Nat} {zz : List (Int × Nat)} {z : Int} {x y : Int64} (h : tt_at j pc = some ((13, 4, z, zz), n)) (kk : WP d j (pc + n) ls (.long (x ||| y) :: st) σ Q) : WP d j pc ls (.long y :: .long x :: st) σ Q := wp_lb h kk
theorem wq_lxor {d j pc : Nat} {ls : List (Nat × Value)} {st : List Value} {σ : tm_S} {Q : Option Value → tm_S → Prop} {n : Nat} {zz : List (Int × Nat)} {z : Int} {x y : Int64} (h : tt_at j pc = some ((13, 5, z, zz), n)) (kk : WP d j (pc + n) ls (.long (x ^^^ y) :: st) σ Q) : WP d j pc ls (.long y :: .long x :: st) σ Q := wp_lb h kk
theorem wq_lshl {d j pc : Nat} {ls : List (Nat × Value)} {st : List Value} {σ : tm_S} {Q : Option Value → tm_S → Prop} {n : Nat} {zz : List (Int × Nat)} {z : Int} {x : Int64} {y : Int32} (h : tt_at j pc = some ((14, 0, z, zz), n)) (kk : WP d j (pc + n) ls (.long (x <<< (y.toInt64 &&& 63)) :: st) σ Q) : WP d j pc ls (.int y :: .long x :: st) σ Q := wp_ls h kk
theorem wq_lshr {d j pc : Nat} {ls : List (Nat × Value)} {st : List Value} {σ : tm_S} {Q : Option Value → tm_S → Prop} {n : Nat} {zz : List (Int × Nat)} {z : Int} {x : Int64} {y : Int32} (h : tt_at j pc = some ((14, 1, z, zz), n)) (kk : WP d j (pc + n) ls (.long (x >>> (y.toInt64 &&& 63)) :: st) σ Q) : WP d j pc ls (.int y :: .long x :: st) σ Q := wp_ls h kk
theorem wq_lushr {d j pc : Nat} {ls : List (Nat × Value)} {st : List Value} {σ : tm_S} {Q : Option Value → tm_S → Prop} {n : Nat} {zz : List (Int × Nat)} {z : Int} {x : Int64} {y : Int32} (h : tt_at j pc = some ((14, 2, z, zz), n)) (kk : WP d j (pc + n) ls (.long ((x.toUInt64 >>> (y.toInt64.toUInt64 &&& Int64.toUInt64 63)).toInt64) :: st) σ Q) : WP d j pc ls (.int y :: .long x :: st) σ Q := wp_ls h kk
theorem wq_ifeq {d j pc : Nat} {ls : List (Nat × Value)} {st : List Value} {σ : tm_S} {Q : Option Value → tm_S → Prop} {n : Nat} {zz : List (Int × Nat)} {k : Nat} {x : Int32} (h : tt_at j pc = some ((25, k, 0, zz), n)) (kt : x = 0 → WP d j k ls st σ Q) (kf : ¬ (x = 0) → WP d j (pc + n) ls st σ Q) : WP d j pc ls (.int x :: st) σ Q := wp_if h kt kf
theorem wq_iceq {d j pc : Nat} {ls : List (Nat × Value)} {st : List Value} {σ : tm_S} {Q : Option Value → tm_S → Prop} {n : Nat} {zz : List (Int × Nat)} {k : Nat} {x y : Int32} (h : tt_at j pc = some ((26, k, 0, zz), n)) (kt : x = y → WP d j k ls st σ Q) (kf : ¬ (x = y) → WP d j (pc + n) ls st σ Q) : WP d j pc ls (.int y :: .int x :: st) σ Q := wp_ic h kt kf
theorem wq_ifne {d j pc : Nat} {ls : List (Nat × Value)} {st : List Value} {σ : tm_S} {Q : Option Value → tm_S → Prop} {n : Nat} {zz : List (Int × Nat)} {k : Nat} {x : Int32} (h : tt_at j pc = some ((25, k, 1, zz), n)) (kt : ¬ x = 0 → WP d j k ls st σ Q) (kf : ¬ (¬ x = 0) → WP d j (pc + n) ls st σ Q) : WP d j pc ls (.int x :: st) σ Q := wp_if h kt kf
theorem wq_icne {d j pc : Nat} {ls : List (Nat × Value)} {st : List Value} {σ : tm_S} {Q : Option Value → tm_S → Prop} {n : Nat} {zz : List (Int × Nat)} {k : Nat} {x y : Int32} (h : tt_at j pc = some ((26, k, 1, zz), n)) (kt : ¬ x = y → WP d j k ls st σ Q) (kf : ¬ (¬ x = y) → WP d j (pc + n) ls st σ Q) : WP d j pc ls (.int y :: .int x :: st) σ Q := wp_ic h kt kf
theorem wq_iflt {d j pc : Nat} {ls : List (Nat × Value)} {st : List Value} {σ : tm_S} {Q : Option Value → tm_S → Prop} {n : Nat} {zz : List (Int × Nat)} {k : Nat} {x : Int32} (h : tt_at j pc = some ((25, k, 2, zz), n)) (kt : x < 0 → WP d j k ls st σ Q) (kf : ¬ (x < 0) → WP d j (pc + n) ls st σ Q) : WP d j pc ls (.int x :: st) σ Q := wp_if h kt kf
theorem wq_iclt {d j pc : Nat} {ls : List (Nat × Value)} {st : List Value} {σ : tm_S} {Q : Option Value → tm_S → Prop} {n : Nat} {zz : List (Int × Nat)} {k : Nat} {x y : Int32} (h : tt_at j pc = some ((26, k, 2, zz), n)) (kt : x < y → WP d j k ls st σ Q) (kf : ¬ (x < y) → WP d j (pc + n) ls st σ Q) : WP d j pc ls (.int y :: .int x :: st) σ Q := wp_ic h kt kf
theorem wq_ifge {d j pc : Nat} {ls : List (Nat × Value)} {st : List Value} {σ : tm_S} {Q : Option Value → tm_S → Prop} {n : Nat} {zz : List (Int × Nat)} {k : Nat} {x : Int32} (h : tt_at j pc = some ((25, k, 3, zz), n)) (kt : 0 ≤ x → WP d j k ls st σ Q) (kf : ¬ (0 ≤ x) → WP d j (pc + n) ls st σ Q) : WP d j pc ls (.int x :: st) σ Q := wp_if h kt kf
theorem wq_icge {d j pc : Nat} {ls : List (Nat × Value)} {st : List Value} {σ : tm_S} {Q : Option Value → tm_S → Prop} {n : Nat} {zz : List (Int × Nat)} {k : Nat} {x y : Int32} (h : tt_at j pc = some ((26, k, 3, zz), n)) (kt : y ≤ x → WP d j k ls st σ Q) (kf : ¬ (y ≤ x) → WP d j (pc + n) ls st σ Q) : WP d j pc ls (.int y :: .int x :: st) σ Q := wp_ic h kt kf
theorem wq_ifgt {d j pc : Nat} {ls : List (Nat × Value)} {st : List Value} {σ : tm_S} {Q : Option Value → tm_S → Prop} {n : Nat} {zz : List (Int × Nat)} {k : Nat} {x : Int32} (h : tt_at j pc = some ((25, k, 4, zz), n)) (kt : 0 < x → WP d j k ls st σ Q) (kf : ¬ (0 < x) → WP d j (pc + n) ls st σ Q) : WP d j pc ls (.int x :: st) σ Q := wp_if h kt kf
theorem wq_icgt {d j pc : Nat} {ls : List (Nat × Value)} {st : List Value} {σ : tm_S} {Q : Option Value → tm_S → Prop} {n : Nat} {zz : List (Int × Nat)} {k : Nat} {x y : Int32} (h : tt_at j pc = some ((26, k, 4, zz), n)) (kt : y < x → WP d j k ls st σ Q) (kf : ¬ (y < x) → WP d j (pc + n) ls st σ Q) : WP d j pc ls (.int y :: .int x :: st) σ Q := wp_ic h kt kf
theorem wq_ifle {d j pc : Nat} {ls : List (Nat × Value)} {st : List Value} {σ : tm_S} {Q : Option Value → tm_S → Prop} {n : Nat} {zz : List (Int × Nat)} {k : Nat} {x : Int32} (h : tt_at j pc = some ((25, k, 5, zz), n)) (kt : x ≤ 0 → WP d j k ls st σ Q) (kf : ¬ (x ≤ 0) → WP d j (pc + n) ls st σ Q) : WP d j pc ls (.int x :: st) σ Q := wp_if h kt kf
theorem wq_icle {d j pc : Nat} {ls : List (Nat × Value)} {st : List Value} {σ : tm_S} {Q : Option Value → tm_S → Prop} {n : Nat} {zz : List (Int × Nat)} {k : Nat} {x y : Int32} (h : tt_at j pc = some ((26, k, 5, zz), n)) (kt : x ≤ y → WP d j k ls st σ Q) (kf : ¬ (x ≤ y) → WP d j (pc + n) ls st σ Q) : WP d j pc ls (.int y :: .int x :: st) σ Q := wp_ic h kt kf
theorem wq_con {d j pc : Nat} {ls : List (Nat × Value)} {st : List Value} {σ : tm_S} {Q : Option Value → tm_S → Prop} {n : Nat} {zz : List (Int × Nat)} {k : Nat} {z : Int} {x : Int32} (h : tt_at j pc = some ((7, k, z, zz), n)) (e : Int32.ofInt z = x) (kk : WP d j (pc + n) ls (.int x :: st) σ Q) : WP d j pc ls st σ Q := wp_con h (by rw [e]; exact kk)
theorem wq_lco {d j pc : Nat} {ls : List (Nat × Value)} {st : List Value} {σ : tm_S} {Q : Option Value → tm_S → Prop} {n : Nat} {zz : List (Int × Nat)} {k : Nat} {z : Int} {x : Int64} (h : tt_at j pc = some ((8, k, z, zz), n)) (e : Int64.ofInt z = x) (kk : WP d j (pc + n) ls (.long x :: st) σ Q) : WP d j pc ls st σ Q := wp_lco h (by rw [e]; exact kk)
theorem wq_sti {d j pc : Nat} {ls : List (Nat × Value)} {st : List Value} {σ : tm_S} {Q : Option Value → tm_S → Prop} {n : Nat} {zz : List (Int × Nat)} {k : Nat} {z : Int} {x : Int32} (ls' : List (Nat × Value)) (h : tt_at j pc = some ((3, k, z, zz), n)) (e : tm_st1 ls k (.int x) = ls') (kk : WP d j (pc + n) ls' st σ Q) : WP d j pc ls (.int x :: st) σ Q := wp_sti h (e ▸ kk)
theorem wq_stl {d j pc : Nat} {ls : List (Nat × Value)} {st : List Value} {σ : tm_S} {Q : Option Value → tm_S → Prop} {n : Nat} {zz : List (Int × Nat)} {k : Nat} {z : Int} {x : Int64} (ls' : List (Nat × Value)) (h : tt_at j pc = some ((4, k, z, zz), n)) (e : tm_st2 ls k (.long x) = ls') (kk : WP d j (pc + n) ls' st σ Q) : WP d j pc ls (.long x :: st) σ Q := wp_stl h (e ▸ kk)
theorem wq_sta {d j pc : Nat} {ls : List (Nat × Value)} {st : List Value} {σ : tm_S} {Q : Option Value → tm_S → Prop} {n : Nat} {zz : List (Int × Nat)} {k : Nat} {z : Int} {x : Nat} (ls' : List (Nat × Value)) (h : tt_at j pc = some ((5, k, z, zz), n)) (e : tm_st1 ls k (.ref x) = ls') (kk : WP d j (pc + n) ls' st σ Q) : WP d j pc ls (.ref x :: st) σ Q := wp_sta h (e ▸ kk)
theorem wq_inc {d j pc : Nat} {ls : List (Nat × Value)} {st : List Value} {σ : tm_S} {Q : Option Value → tm_S → Prop} {n : Nat} {zz : List (Int × Nat)} {k : Nat} {z : Int} {x c : Int32} (ls' : List (Nat × Value)) (h : tt_at j pc = some ((6, k, z, zz), n)) (hv : (k, Value.int x) ∈ ls) (ec : Int32.ofInt z = c) (e : tm_st1 ls k (.int (x + c)) = ls') (kk : WP d j (pc + n) ls' st σ Q) : WP d j pc ls st σ Q := wp_inc h hv (by rw [ec, e]; exact kk)
theorem wq_geti {d j pc : Nat} {ls : List (Nat × Value)} {st : List Value} {σ : tm_S} {Q : Option Value → tm_S → Prop} {n : Nat} {zz : List (Int × Nat)} {k q f kd : Nat} {z : Int} {ks : List Nat} (h : tt_at j pc = some ((19, k, z, zz), n)) (hs : tt_shp[q]? = some (.inl (k / 64, ks))) (hf : k % 64 = f) (hk : ks[f]? = some kd) (hkd : kd = 0 ∨ kd = 1) (kk : WP d j (pc + n) ls (.int (σ.1 q f) :: st) σ Q) : WP d j pc ls (.ref q :: st) σ Q := by
  subst hf
  refine wp_get h hs hk ?_
  rcases hkd with rfl | rfl
  · exact kk
  · exact kk
theorem wq_getr {d j pc : Nat} {ls : List (Nat × Value)} {st : List Value} {σ : tm_S} {Q : Option Value → tm_S → Prop} {n : Nat} {zz : List (Int × Nat)} {k q f p : Nat} {z : Int} {ks : List Nat} (h : tt_at j pc = some ((19, k, z, zz), n)) (hs : tt_shp[q]? = some (.inl (k / 64, ks))) (hf : k % 64 = f) (hk : ks[f]? = some (p + 4)) (kk : WP d j (pc + n) ls (.ref p :: st) σ Q) : WP d j pc ls (.ref q :: st) σ Q := by
  subst hf
  exact wp_get h hs hk kk
theorem wq_getv {d j pc : Nat} {ls : List (Nat × Value)} {st : List Value} {σ : tm_S} {Q : Option Value → tm_S → Prop} {n : Nat} {zz : List (Int × Nat)} {k q f : Nat} {z : Int} {ks : List Nat} (h : tt_at j pc = some ((19, k, z, zz), n)) (hs : tt_shp[q]? = some (.inl (k / 64, ks))) (hf : k % 64 = f) (hk : ks[f]? = some 3) (kk : WP d j (pc + n) ls (.ref (σ.2.2 q f) :: st) σ Q) : WP d j pc ls (.ref q :: st) σ Q := by
  subst hf
  exact wp_get h hs hk kk
theorem wq_puti {d j pc : Nat} {ls : List (Nat × Value)} {st : List Value} {σ : tm_S} {Q : Option Value → tm_S → Prop} {n : Nat} {zz : List (Int × Nat)} {k q f : Nat} {z : Int} {x : Int32} {ks : List Nat} (h : tt_at j pc = some ((20, k, z, zz), n)) (hs : tt_shp[q]? = some (.inl (k / 64, ks))) (hf : k % 64 = f) (hk : ks[f]? = some 0) (kk : WP d j (pc + n) ls st (tm_sI σ q f x) Q) : WP d j pc ls (.int x :: .ref q :: st) σ Q := by
  subst hf
  exact wp_puti h hs hk (Or.inl rfl) kk
theorem wq_putz {d j pc : Nat} {ls : List (Nat × Value)} {st : List Value} {σ : tm_S} {Q : Option Value → tm_S → Prop} {n : Nat} {zz : List (Int × Nat)} {k q f : Nat} {z : Int} {x : Int32} {ks : List Nat} (h : tt_at j pc = some ((20, k, z, zz), n)) (hs : tt_shp[q]? = some (.inl (k / 64, ks))) (hf : k % 64 = f) (hk : ks[f]? = some 1) (hx : x = 0 ∨ x = 1) (kk : WP d j (pc + n) ls st (tm_sI σ q f x) Q) : WP d j pc ls (.int x :: .ref q :: st) σ Q := by
  subst hf
  exact wp_puti h hs hk (Or.inr ⟨rfl, hx⟩) kk
theorem wq_putr {d j pc : Nat} {ls : List (Nat × Value)} {st : List Value} {σ : tm_S} {Q : Option Value → tm_S → Prop} {n : Nat} {zz : List (Int × Nat)} {k q f x : Nat} {z : Int} {ks : List Nat} (h : tt_at j pc = some ((20, k, z, zz), n)) (hs : tt_shp[q]? = some (.inl (k / 64, ks))) (hf : k % 64 = f) (hk : ks[f]? = some 3) (kk : WP d j (pc + n) ls st (tm_sR σ q f x) Q) : WP d j pc ls (.ref x :: .ref q :: st) σ Q := by
  subst hf
  exact wp_putr h hs hk rfl kk
theorem wq_len {d j pc : Nat} {ls : List (Nat × Value)} {st : List Value} {σ : tm_S} {Q : Option Value → tm_S → Prop} {n : Nat} {zz : List (Int × Nat)} {k : Nat} {z : Int} {q t L : Nat} {x : Int32} (h : tt_at j pc = some ((23, k, z, zz), n)) (hs : tt_shp[q]? = some (.inr (t, L))) (e : Int32.ofNat L = x) (kk : WP d j (pc + n) ls (.int x :: st) σ Q) : WP d j pc ls (.ref q :: st) σ Q := wp_len h hs (by rw [e]; exact kk)
/-- a call of a static method; of an object's -/
theorem wq_cals {d j pc : Nat} {ls : List (Nat × Value)} {st : List Value} {σ : tm_S} {Q : Option Value → tm_S → Prop} {n : Nat} {zz : List (Int × Nat)} {a : Nat} {z : Int} {st0 : List Value} {Q' : Option Value → tm_S → Prop} (As : List Value) (h : tt_at j pc = some ((30, a, z, zz), n)) (hst : st0 = As.reverse ++ st) (hs : tt_s a = true) (hlen : As.length = tt_p a) (hsl : Nat.ble (lg_sl As).length (tt_n a) = true) (hW : Nat.ble (st.map fun v => v.category).sum 8 = true)
    (hM : WM d a As σ Q') (kk : ∀ r σ', Q' r σ' → WP (d + 1) j (pc + n) ls (r.toList ++ st) σ' Q) : WP (d + 1) j pc ls st0 σ Q :=
  wp_call h hst (by rw [hs, hlen]; rfl) (Nat.le_of_ble_eq_true hsl) (fun e => by rw [hs] at e; cases e) (Nat.le_of_ble_eq_true hW) hM kk
theorem wq_calv {d j pc : Nat} {ls : List (Nat × Value)} {st : List Value} {σ : tm_S} {Q : Option Value → tm_S → Prop} {n : Nat} {zz : List (Int × Nat)} {a q ci : Nat} {z : Int} {st0 : List Value} {Q' : Option Value → tm_S → Prop} {ks : List Nat} {r : vw_C} (B : List Value) (h : tt_at j pc = some ((30, a, z, zz), n)) (hst : st0 = (Value.ref q :: B).reverse ++ st) (hs : tt_s a = false) (hlen : B.length = tt_p a) (hsl : Nat.ble (lg_sl (Value.ref q :: B)).length (tt_n a) = true) (hW : Nat.ble (st.map fun v => v.category).sum 8 = true)
    (g1 : tt_shp[q]? = some (.inl (ci, ks))) (g2 : tt_cl[ci]? = some r) (g3 : r.1 = (tt_y a).cls) (hM : WM d a (.ref q :: B) σ Q') (kk : ∀ r σ', Q' r σ' → WP (d + 1) j (pc + n) ls (r.toList ++ st) σ' Q) : WP (d + 1) j pc ls st0 σ Q :=
  wp_call h hst (by rw [hs, List.length_cons, hlen]; rfl) (Nat.le_of_ble_eq_true hsl) (fun _ => ⟨q, B, rfl, Or.inl ⟨ci, ks, r, g1, g2, g3⟩⟩) (Nat.le_of_ble_eq_true hW) hM kk
theorem wq_calS {d j pc : Nat} {ls : List (Nat × Value)} {st : List Value} {σ : tm_S} {Q : Option Value → tm_S → Prop} {n : Nat} {zz : List (Int × Nat)} {a i : Nat} {z : Int} {st0 : List Value} {Q' : Option Value → tm_S → Prop} (B : List Value) (h : tt_at j pc = some ((30, a, z, zz), n)) (hst : st0 = (Value.ref (tt_ST + i) :: B).reverse ++ st) (hs : tt_s a = false) (hlen : B.length = tt_p a) (hsl : Nat.ble (lg_sl (Value.ref (tt_ST + i) :: B)).length (tt_n a) = true) (hW : Nat.ble (st.map fun v => v.category).sum 8 = true)
    (g1 : (tt_y a).cls = "java/lang/String") (g2 : i < tt_NS) (hM : WM d a (.ref (tt_ST + i) :: B) σ Q') (kk : ∀ r σ', Q' r σ' → WP (d + 1) j (pc + n) ls (r.toList ++ st) σ' Q) : WP (d + 1) j pc ls st0 σ Q :=
  wp_call h hst (by rw [hs, List.length_cons, hlen]; rfl) (Nat.le_of_ble_eq_true hsl) (fun _ => ⟨tt_ST + i, B, rfl, Or.inr ⟨g1, i, g2, rfl⟩⟩) (Nat.le_of_ble_eq_true hW) hM kk
theorem tm_gI (σ : tm_S) (k j : Nat) (v : Int32) (a b : Nat) : (tm_sI σ k j v).1 a b = if a = k ∧ b = j then v else σ.1 a b := by
  unfold tm_sI
  by_cases ha : a = k
  · subst ha
    rw [tm_sA_at]
    by_cases hb : b = j
    · subst hb; rw [pk_us, if_pos ⟨rfl, rfl⟩]
    · rw [pk_un hb, if_neg (fun e => hb e.2)]
  · rw [tm_sA_ne _ _ ha, if_neg (fun e => ha e.1)]
theorem tm_gJ (σ : tm_S) (k j : Nat) (v : Int64) (a b : Nat) : (tm_sJ σ k j v).2.1 a b = if a = k ∧ b = j then v else σ.2.1 a b := by
  by_cases ha : a = k
  · subst ha
    rw [tm_sJ_at]
    by_cases hb : b = j
    · subst hb; rw [pk_uLs, if_pos ⟨rfl, rfl⟩]
    · rw [pk_uLn hb, if_neg (fun e => hb e.2)]
  · rw [tm_sJ_ne _ _ ha, if_neg (fun e => ha e.1)]
theorem tm_gIJ (σ : tm_S) (k j : Nat) (v : Int64) : (tm_sJ σ k j v).1 = σ.1 := rfl
theorem tm_gJI (σ : tm_S) (k j : Nat) (v : Int32) : (tm_sI σ k j v).2.1 = σ.2.1 := rfl
end
section
/-! ===== types of the store, contexts by hand ===== -/
def tc_T (v : Int) : tv_TT := [.inl [((-2147483648), 2147483647), ((-2147483648), 2147483647), ((-2147483648), 2147483647), ((-2147483648), 2147483647), ((-2147483648), 2147483647), ((-2147483648), 2147483647), ((-2147483648), 2147483647), ((-2147483648), 2147483647), ((-2147483648), 2147483647)], .inl [(v, v), ((-2147483648), 2147483647), ((-2147483648), 2147483647)], .inl [((-2147483648), 2147483647), ((-2147483648), 2147483647), ((-2147483648), 2147483647), ((-2147483648), 2147483647), (0, 12), (0, 12)], .inl [((-2147483648), 2147483647), ((-2147483648), 2147483647), (0, 4096)], .inl [((-2147483648), 2147483647), ((-2147483648), 2147483647), ((-2147483648), 2147483647), ((-2147483648), 2147483647), (0, 4174)], .inl [((-2147483648), 2147483647), (0, 6561), (0, 1), (0, 24), (0, 16777215)], .inl [((-2147483648), 2147483647), ((-2147483648), 2147483647), (0, 12), ((-2147483648), 2147483647), ((-2147483648), 2147483647), (0, 800), (0, 800), ((-2147483648), 2147483647), ((-2147483648), 2147483647)], .inl [((-2147483648), 2147483647), (0, 800)], .inl [((-2147483648), 2147483647), (0, 800)], .inl [((-2147483648), 2147483647), ((-2147483648), 2147483647), (0, 6), ((-2147483648), 2147483647), ((-2147483648), 2147483647), ((-2147483648), 2147483647), ((-2147483648), 2147483647), (0, 8)], .inl [((-2147483648), 2147483647), ((-2147483648), 2147483647), (0, 6), ((-2147483648), 2147483647), ((-2147483648), 2147483647), ((-2147483648), 2147483647), ((-2147483648), 2147483647), (0, 8)], .inl [((-2147483648), 2147483647), (v, v), ((-2147483648), 2147483647), ((-2147483648), 2147483647), ((-2147483648), 2147483647), ((-2147483648), 2147483647), ((-2147483648), 2147483647), ((-2147483648), 2147483647), ((-2147483648), 2147483647), ((-2147483648), 2147483647), ((-2147483648), 2147483647), ((-2147483648), 2147483647), (0, 4000), ((-2147483648), 2147483647), ((-2147483648), 2147483647), ((-2147483648), 2147483647), ((-2147483648), 2147483647), (0, 8192), ((-2147483648), 2147483647), ((-2147483648), 2147483647), ((-2147483648), 2147483647), ((-2147483648), 2147483647), ((-2147483648), 2147483647), (0, 6), ((-2147483648), 2147483647), ((-2147483648), 2147483647), (0, 8), ((-2147483648), 2147483647), ((-2147483648), 2147483647), ((-2147483648), 2147483647), ((-2147483648), 2147483647), ((-2147483648), 2147483647), (0, 800), ((-2147483648), 2147483647), (0, 1000), (0, 800), (0, 800), ((-2147483648), 2147483647), ((-2147483648), 2147483647), ((-2147483648), 2147483647), ((-2147483648), 2147483647), (0, 6), (0, 8), ((-2147483648), 2147483647), ((-2147483648), 2147483647), ((-2147483648), 2147483647), ((-2147483648), 2147483647), ((-2147483648), 2147483647), ((-2147483648), 2147483647)], .inr ((-2147483648), 2147483647), .inr ((-2147483648), 2147483647), .inr ((-1), 4095), .inr ((-1), 4095), .inr ((-1), 4095), .inr (0, 1), .inr ((-2147483648), 2147483647), .inr ((-2147483648), 2147483647), .inr (0, 32), .inr (0, 32), .inr ((-2147483648), 2147483647), .inr (0, 4095), .inr ((-2147483648), 2147483647), .inr (0, 4174), .inr (0, 4174), .inr (0, 1), .inr ((-2147483648), 2147483647), .inr (0, 255), .inr (0, 255), .inr ((-2147483648), 2147483647), .inr ((-2147483648), 2147483647), .inr (0, 5), .inr (0, 3), .inr ((-2147483648), 2147483647), .inr ((-2147483648), 2147483647), .inr ((-2147483648), 2147483647), .inr ((-2147483648), 2147483647), .inr (0, 5), .inr (0, 3), .inr ((-2147483648), 2147483647), .inr ((-2147483648), 2147483647), .inr (0, 1), .inr (0, 11), .inr (0, 11), .inr (0, 20000), .inr ((-2147483648), 2147483647), .inr ((-1), 4096), .inr (0, 4095), .inr (0, 1), .inr ((-2147483648), 2147483647), .inr ((-2147483648), 2147483647), .inr ((-1), 12), .inr (1, 16777215), .inr ((-2147483648), 2147483647), .inr (0, 25), .inr (0, 16777215), .inr (0, 16777215), .inr ((-2147483648), 2147483647), .inr ((-2147483648), 2147483647), .inr (0, 5), .inr (0, 3), .inr ((-2147483648), 2147483647), .inr (0, 40), .inr ((-2147483648), 2147483647), .inr ((-2147483648), 2147483647), .inr ((-2147483648), 2147483647), .inr ((-2147483648), 2147483647), .inr (0, 5), .inr (0, 3), .inr ((-2147483648), 2147483647), .inr (0, 40)]
def tc_h (j : Nat) : List tv_C := match j with
  | 21 => [(21, [(3, 1, 1), (1, (-2147483648), 2147483647), (1, (-2147483648), 2147483647), (1, (-2147483648), 2147483647)], [], [((1, (-2147483648), 2147483647), [])], [], 40)]
  | 25 => [(25, [(1, 0, 4094)], [], [((1, 0, 11), [])], [], 40), (25, [(1, 0, 4095)], [], [((1, 0, 12), [])], [], 40), (25, [(1, (-2147483648), 2147483647)], [], [((1, 0, 63), [])], [], 40)]
  | 85 => [(85, [(3, 5, 5), (1, 0, 6560), (1, 0, 6561)], [], [((0, 0, 0), [])], [], 40)]
  | 99 => [(99, [(3, 6, 6)], [], [((0, 0, 0), [])], [(6, 3), (6, 4), (6, 5), (6, 6)], 50)]
  | 104 => [(104, [(3, 7, 7), (3, 82, 82), (1, 0, 800), (1, 0, 800)], [], [((1, 0, 1), [])], [], 40), (104, [(3, 7, 7), (3, 83, 83), (1, 0, 800), (1, 0, 800)], [], [((1, 0, 1), [])], [], 40), (104, [(3, 7, 7), (3, 84, 84), (1, 0, 800), (1, 0, 800)], [], [((1, 0, 1), [])], [], 40)]
  | 105 => [(105, [(3, 86, 86)], [], [((1, 4, 4), [])], [], 40), (105, [(3, 87, 87)], [], [((1, 3, 3), [])], [], 40), (105, [(3, 88, 88)], [], [((1, 2, 2), [])], [], 40), (105, [(3, 89, 89)], [], [((1, 6, 6), [])], [], 40), (105, [(3, 90, 90)], [], [((1, 4, 4), [])], [], 40), (105, [(3, 91, 91)], [], [((1, 3, 3), [])], [], 40)]
  | 107 => [(107, [(3, 88, 88), (1, 0, 1)], [], [((1, 0, 255), [])], [], 40), (107, [(3, 87, 87), (1, 0, 2)], [], [((1, 0, 255), [])], [], 40), (107, [(3, 91, 91), (1, 0, 2)], [], [((1, 0, 255), [])], [], 40), (107, [(3, 85, 85), (1, 0, 3)], [], [((1, 0, 255), [])], [], 40), (107, [(3, 86, 86), (1, 0, 3)], [], [((1, 0, 255), [])], [], 40), (107, [(3, 90, 90), (1, 0, 3)], [], [((1, 0, 255), [])], [], 40), (107, [(3, 89, 89), (1, 0, 5)], [], [((1, 0, 255), [])], [], 40)]
  | 123 => [(123, [(3, 85, 85), (1, 0, 65535)], [], [((1, (-1), 3), [])], [], 40)]
  | 159 => [(159, [(3, 7, 7), (3, 8, 8)], [], [((0, 0, 0), [])], [(7, 1)], 40)]
  | 174 => [(174, [(3, 11, 11), (1, (-2147483648), 2147483647)], [], [((1, (-2147483648), 2147483647), [])], [], 40)]
  | 198 => [(198, [(3, 11, 11)], [], [((0, 0, 0), [])], [(11, 11), (11, 12)], 40)]
  | 213 => [(213, [(3, 11, 11), (1, 0, 7), (1, (-2147483648), 2147483647)], [], [((1, (-2147483648), 2147483647), [])], [], 40)]
  | 233 => [(233, [(3, 11, 11)], [], [((1, 0, 1), [])], [(11, 35), (11, 36), (11, 37), (11, 38), (11, 39), (11, 40), (11, 41), (11, 42)], 40)]
  | _ => []
theorem tc_sys {T : tv_TT} {cx : Nat → List tv_C} (H : ∀ a, ∀ c ∈ cx a, (∃ f, tv_ck T cx f c = true) ∨ ((∀ a, ∀ c2 ∈ cx a, c2.2.2.2.2.2 < c.2.2.2.2.2 → tv_Snd T c2 ∧ ∀ q ∈ c2.2.2.2.1, tv_tok q.1 = true) → tv_Snd T c ∧ ∀ q ∈ c.2.2.2.1, tv_tok q.1 = true)) : ∀ a, ∀ c ∈ cx a, tv_Snd T c := by
  have key : ∀ (r : Nat), ∀ a, ∀ c ∈ cx a, c.2.2.2.2.2 < r → tv_Snd T c ∧ ∀ q ∈ c.2.2.2.1, tv_tok q.1 = true := by
    intro r
    induction r with
    | zero => intro a c _ h; omega
    | succ r ih =>
      intro a c hc h
      have HC : ∀ a, ∀ c2 ∈ cx a, c2.2.2.2.2.2 < c.2.2.2.2.2 → tv_Snd T c2 ∧ ∀ q ∈ c2.2.2.2.1, tv_tok q.1 = true := fun a c2 h2 h3 => ih a c2 h2 (by omega)
      rcases H a c hc with ⟨f, h1⟩ | h1
      · exact tv_ctx h1 HC
      · exact h1 HC
  exact fun a c hc => (key (c.2.2.2.2.2 + 1) a c hc (Nat.lt_succ_self _)).1
/-- a list by number -/
def tc_lk (j : Nat) : List (Nat × List tv_C) → List tv_C
  | [] => []
  | q :: t => cond (Nat.beq q.1 j) q.2 (tc_lk j t)
theorem tc_lk_mem {j : Nat} {c : tv_C} : ∀ {l : List (Nat × List tv_C)}, c ∈ tc_lk j l → ∃ q ∈ l, c ∈ q.2
  | [], h => nomatch h
  | q :: t, h => by
    unfold tc_lk at h
    cases hb : Nat.beq q.1 j with
    | true => rw [hb] at h; exact ⟨q, List.mem_cons_self, h⟩
    | false =>
      rw [hb] at h
      obtain ⟨r, h1, h2⟩ := tc_lk_mem (l := t) h
      exact ⟨r, List.mem_cons_of_mem _ h1, h2⟩
theorem tc_spl {α : Type} {l : List α} {p : α → Bool} (k : Nat) (h1 : (l.take k).all p = true) (h2 : (l.drop k).all p = true) : l.all p = true := by
  rw [← List.take_append_drop k l, List.all_append, h1, h2]
  rfl
/-- what the kernel has checked of a list -/
def tc_ok (T : tv_TT) (cx : Nat → List tv_C) (l : List (Nat × List tv_C)) : Bool := l.all (fun q => q.2.all (tv_ck T cx 400))
theorem tc_ok_mem {T : tv_TT} {cx : Nat → List tv_C} {l : List (Nat × List tv_C)} (h : tc_ok T cx l = true) {j : Nat} {c : tv_C} (hc : c ∈ tc_lk j l) : tv_ck T cx 400 c = true := by
  obtain ⟨q, h1, h2⟩ := tc_lk_mem hc
  exact List.all_eq_true.mp (List.all_eq_true.mp h q h1) c h2
end
section
/-! ===== contexts for N = 12 ===== -/
def tc_12_2 : List tv_C := [(2, [(3, 1, 1)], [], [((1, 12, 12), [])], [], 1)]
def tc_12_4 : List tv_C := [(4, [(3, 9, 9)], [], [((0, 0, 0), [])], [(9, 2), (9, 7)], 1), (4, [(3, 10, 10)], [], [((0, 0, 0), [])], [(10, 2), (10, 7)], 1)]
def tc_12_5 : List tv_C := [(5, [(3, 0, 0), (1, (-2147483648), 2147483647), (1, (-2147483648), 2147483647), (1, (-2147483648), 2147483647)], [], [((1, (-1), 4095), [])], [], 3)]
def tc_12_6 : List tv_C := [(6, [(3, 1, 1), (1, (-2147483648), 2147483647)], [], [((1, 0, 0), []), ((1, 1, 1), [(1, 0, 4095)])], [], 1)]
def tc_12_7 : List tv_C := [(7, [(3, 1, 1), (1, (-2147483648), 2147483647), (1, (-2147483648), 2147483647)], [], [((1, 0, 0), []), ((1, 1, 1), [(2, 1, 11)])], [], 2)]
def tc_12_8 : List tv_C := [(8, [(3, 1, 1), (1, 1, 11)], [(2, [(3, 1, 1), (1, 1, 11), (1, 2, 12)], [(0, 0, 0), ((-1), 2, 12), (0, 0, 1000000), (0, 0, 0), (0, 0, 0)])], [((1, 1, 1), []), ((1, 0, 0), [(1, 2, 11)])], [], 1)]
def tc_12_9 : List tv_C := [(9, [(3, 1, 1), (1, (-2147483648), 2147483647)], [], [((1, 0, 0), []), ((1, 1, 1), [(1, 0, 11)])], [], 1)]
def tc_12_10 : List tv_C := [(10, [(3, 1, 1), (1, (-2147483648), 2147483647), (1, 1, 11)], [(8, [(3, 1, 1), (1, (-2147483648), 2147483647), (1, 1, 11), (1, 0, 4095), (1, 0, 11), (1, 0, 12)], [(0, 0, 0), ((-1), 5, 12), (0, 0, 1000000), (0, 0, 0), (0, 0, 0)])], [((1, 0, 4095), [])], [], 1)]
def tc_12_11 : List tv_C := [(11, [(1, (-2147483648), 2147483647), (1, (-2147483648), 2147483647), (1, 12, 12)], [], [((1, 0, 4095), [])], [], 1), (11, [(1, (-2147483648), 2147483647), (1, (-2147483648), 2147483647), (1, 11, 12)], [], [((1, 0, 4095), [])], [], 1), (11, [(1, (-2147483648), 2147483647), (1, (-2147483648), 2147483647), (1, 10, 12)], [], [((1, 0, 4095), [])], [], 1), (11, [(1, (-2147483648), 2147483647), (1, (-2147483648), 2147483647), (1, 9, 12)], [], [((1, 0, 4095), [])], [], 1), (11, [(1, (-2147483648), 2147483647), (1, (-2147483648), 2147483647), (1, 8, 12)], [], [((1, 0, 4095), [])], [], 1), (11, [(1, (-2147483648), 2147483647), (1, (-2147483648), 2147483647), (1, 7, 12)], [], [((1, 0, 4095), [])], [], 1), (11, [(1, (-2147483648), 2147483647), (1, (-2147483648), 2147483647), (1, 6, 12)], [], [((1, 0, 4095), [])], [], 1), (11, [(1, (-2147483648), 2147483647), (1, (-2147483648), 2147483647), (1, 5, 12)], [], [((1, 0, 4095), [])], [], 1), (11, [(1, (-2147483648), 2147483647), (1, (-2147483648), 2147483647), (1, 4, 12)], [], [((1, 0, 4095), [])], [], 1), (11, [(1, (-2147483648), 2147483647), (1, (-2147483648), 2147483647), (1, 3, 12)], [], [((1, 0, 4095), [])], [], 1), (11, [(1, (-2147483648), 2147483647), (1, (-2147483648), 2147483647), (1, 2, 24)], [], [((1, 0, 16777215), [])], [], 1), (11, [(1, (-2147483648), 2147483647), (1, (-2147483648), 2147483647), (1, 0, 24)], [], [((1, 0, 16777215), [])], [], 1)]
def tc_12_12 : List tv_C := [(12, [(3, 0, 0), (1, (-2147483648), 2147483647), (1, (-2147483648), 2147483647)], [], [((1, (-1), 4095), [])], [], 6)]
def tc_12_13 : List tv_C := [(13, [(1, (-2147483648), 2147483647)], [], [((1, 0, 0), []), ((1, 1, 1), [(0, 0, 2)])], [], 1)]
def tc_12_14 : List tv_C := [(14, [(3, 1, 1), (1, 0, 2), (1, 0, 4095)], [], [((1, (-1), 4095), [])], [], 5)]
def tc_12_15 : List tv_C := [(15, [(3, 1, 1), (1, 0, 2)], [(22, [(3, 1, 1), (1, 0, 2), (1, 0, 4096)], [(0, 0, 0), ((-1), 2, 4096), (0, 0, 1000000), (0, 0, 0), (0, 0, 0)])], [((0, 0, 0), [])], [], 4)]
def tc_12_16 : List tv_C := [(16, [(3, 14, 16), (1, (-1), (-1))], [(5, [(3, 14, 16), (1, (-1), (-1)), (1, 0, 4096), (1, 4096, 4096)], [(0, 0, 0), ((-1), 2, 4096), (0, 0, 1000000), (0, 0, 0), (0, 0, 0)])], [((0, 0, 0), [])], [], 1), (16, [(3, 22, 22), (1, (-1), (-1))], [(5, [(3, 22, 22), (1, (-1), (-1)), (1, 0, 4096), (1, 4096, 4096)], [(0, 0, 0), ((-1), 2, 4096), (0, 0, 1000000), (0, 0, 0), (0, 0, 0)])], [((0, 0, 0), [])], [], 1)]
def tc_12_17 : List tv_C := [(17, [(3, 1, 1), (1, 0, 2), (1, 0, 4095)], [(2, [(3, 1, 1), (1, 0, 2), (1, 0, 4095), (1, 1, 12), (0, 0, 0), (0, 0, 0)], [(0, 0, 0), ((-1), 3, 12), (0, 0, 1000000), (0, 0, 0), (0, 0, 0)]), (33, [(3, 1, 1), (1, 0, 2), (1, 0, 4095), (1, 1, 11), (1, 0, 4095), (1, 0, 12)], [(0, 0, 0), ((-1), 3, 12), (0, 0, 0), ((-1), 5, 12), (0, 0, 1000000)])], [((0, 0, 0), [])], [], 3)]
def tc_12_18 : List tv_C := [(18, [(3, 0, 0), (1, (-2147483648), 2147483647), (1, (-2147483648), 2147483647), (1, (-2147483648), 2147483647)], [], [((1, (-2147483648), 2147483647), [])], [], 41)]
def tc_12_19 : List tv_C := [(19, [(3, 1, 1), (1, (-2147483648), 2147483647), (1, (-2147483648), 2147483647), (1, (-2147483648), 2147483647)], [(6, [(3, 1, 1), (1, (-2147483648), 2147483647), (1, (-2147483648), 2147483647), (1, (-2147483648), 2147483647), (1, (-2147483648), 2147483647), (1, 1, 12), (0, 0, 0), (0, 0, 0)], [(0, 0, 0), ((-1), 5, 12), (0, 0, 1000000), (0, 0, 0), (0, 0, 0)]), (40, [(3, 1, 1), (1, (-2147483648), 2147483647), (1, (-2147483648), 2147483647), (1, (-2147483648), 2147483647), (1, (-2147483648), 2147483647), (1, 1, 11), (1, 0, 4095), (1, 0, 12)], [(0, 0, 0), ((-1), 5, 12), (0, 0, 0), ((-1), 7, 12), (0, 0, 1000000)])], [((1, (-2147483648), 2147483647), [])], [], 3)]
def tc_12_20 : List tv_C := [(20, [(3, 1, 1)], [], [((1, 4095, 4095), [])], [], 1)]
def tc_12_22 : List tv_C := [(22, [(3, 0, 0), (1, (-2147483648), 2147483647), (1, (-2147483648), 2147483647)], [], [((1, (-2147483648), 2147483647), [])], [], 43)]
def tc_12_23 : List tv_C := [(23, [(3, 1, 1), (1, 0, 2), (1, (-2147483648), 2147483647)], [(10, [(3, 1, 1), (1, 0, 2), (1, (-2147483648), 2147483647), (1, (-2147483648), 2147483647), (1, 0, 4096)], [(0, 0, 0), ((-1), 4, 4096), (0, 0, 1000000), (0, 0, 0), (0, 0, 0)])], [((1, (-2147483648), 2147483647), [])], [], 42)]
def tc_12_24 : List tv_C := [(24, [(3, 1, 1), (1, 0, 2), (1, (-2147483648), 2147483647), (1, 0, 4095)], [], [((1, 0, 0), []), ((1, 1, 1), [(2, 0, 12)])], [], 41)]
def tc_12_26 : List tv_C := [(26, [(3, 0, 0), (1, (-2147483648), 2147483647), (1, (-2147483648), 2147483647), (1, (-2147483648), 2147483647)], [], [((1, (-1), 4095), [])], [], 43)]
def tc_12_27 : List tv_C := [(27, [(3, 1, 1), (1, 0, 2), (1, (-2147483648), 2147483647), (1, (-2147483648), 2147483647)], [(11, [(3, 1, 1), (1, 0, 2), (1, (-2147483648), 2147483647), (1, (-2147483648), 2147483647), (1, (-2147483648), 2147483647), (1, 0, 4096)], [(0, 0, 0), ((-1), 5, 4096), (0, 0, 1000000), (0, 0, 0), (0, 0, 0)])], [((1, (-1), 4095), [])], [], 42)]
def tc_12_28 : List tv_C := [(28, [(3, 0, 0), (1, (-2147483648), 2147483647), (1, (-2147483648), 2147483647)], [], [((1, (-1), 12), [])], [], 42)]
def tc_12_29 : List tv_C := [(29, [(3, 1, 1), (1, (-2147483648), 2147483647), (1, (-2147483648), 2147483647)], [], [((1, 0, 12), [])], [], 41)]
def tc_12_30 : List tv_C := [(30, [(3, 0, 0), (1, (-2147483648), 2147483647)], [], [((1, (-1), 4095), [])], [], 44)]
def tc_12_31 : List tv_C := [(31, [(3, 1, 1), (1, 0, 4095)], [(12, [(3, 1, 1), (1, 0, 4095), (1, 0, 12), (1, 0, 4096), (0, 0, 0)], [(0, 0, 0), ((-1), 3, 4096), (0, 0, 1000000), (0, 0, 0), (0, 0, 0)])], [((1, (-1), 4095), [])], [], 43)]
def tc_12_32 : List tv_C := [(32, [(3, 1, 1), (1, (-2147483648), 2147483647), (1, (-2147483648), 2147483647)], [(2, [(3, 1, 1), (1, (-2147483648), 2147483647), (1, (-2147483648), 2147483647), (1, 1, 7)], [(0, 0, 0), ((-1), 3, 7), (0, 0, 1000000), (0, 0, 0), (0, 0, 0)])], [((1, 1, 1), []), ((1, 0, 0), [])], [], 42)]
def tc_12_33 : List tv_C := [(33, [(3, 0, 0), (1, (-2147483648), 2147483647), (1, (-2147483648), 2147483647), (1, (-2147483648), 2147483647)], [], [((1, (-2147483648), 2147483647), [])], [], 41)]
def tc_12_34 : List tv_C := [(34, [(3, 0, 0), (1, (-2147483648), 2147483647), (1, (-2147483648), 2147483647), (1, (-2147483648), 2147483647)], [], [((1, (-2147483648), 2147483647), [])], [(2, 4), (2, 5)], 43)]
def tc_12_35 : List tv_C := [(35, [(3, 1, 1), (1, (-2147483648), 2147483647), (1, (-2147483648), 2147483647)], [], [((1, 0, 0), []), ((1, 1, 1), [(1, 0, 4095), (2, 0, 4095)])], [], 41)]
def tc_12_36 : List tv_C := [(36, [(3, 2, 2), (1, 3, 12), (1, 0, 4095), (1, 0, 4095)], [(63, [(3, 2, 2), (1, 3, 12), (1, 0, 4095), (1, 0, 4095), (1, 0, 4095), (1, (-1), 4094)], [(0, 0, 0), (1, 5, 1), (0, 0, 1000000), (0, 0, 0), (0, 0, 0)])], [((0, 0, 0), [])], [(2, 4), (2, 5)], 42)]
def tc_12_37 : List tv_C := [(37, [(3, 2, 2), (1, (-2147483648), 2147483647), (3, 20, 20)], [(5, [(3, 2, 2), (1, (-2147483648), 2147483647), (3, 20, 20), (1, (-2147483648), 2147483647), (1, 0, 12)], [(0, 0, 0), ((-1), 4, 12), (0, 0, 1000000), (0, 0, 0), (0, 0, 0)])], [((0, 0, 0), [])], [], 3), (37, [(3, 2, 2), (1, (-2147483648), 2147483647), (3, 21, 21)], [(5, [(3, 2, 2), (1, (-2147483648), 2147483647), (3, 21, 21), (1, (-2147483648), 2147483647), (1, 0, 12)], [(0, 0, 0), ((-1), 4, 12), (0, 0, 1000000), (0, 0, 0), (0, 0, 0)])], [((0, 0, 0), [])], [], 3)]
def tc_12_38 : List tv_C := [(38, [(1, (-2147483648), 2147483647)], [], [((1, 0, 32), [])], [], 2)]
def tc_12_39 : List tv_C := [(39, [(1, (-2147483648), 2147483647)], [], [((1, 0, 32), [])], [], 1)]
def tc_12_40 : List tv_C := [(40, [(1, (-2147483648), 2147483647)], [], [((1, (-2147483648), 2147483647), [])], [], 1)]
def tc_12_41 : List tv_C := [(41, [(3, 2, 2), (1, 0, 4094)], [(14, [(3, 2, 2), (1, 0, 4094), (1, 0, 11), (1, (-2147483648), 2147483647), (1, (-2147483648), 2147483647), (1, 0, 12), (0, 0, 0)], [(0, 0, 0), ((-1), 5, 12), (0, 0, 1000000), (0, 0, 0), (0, 0, 0)])], [((0, 0, 0), [])], [], 41)]
def tc_12_42 : List tv_C := [(42, [(3, 2, 2), (1, 0, 4094), (1, 0, 11), (1, 0, 11)], [], [((1, (-2147483648), 2147483647), [])], [], 1), (42, [(3, 2, 2), (1, 0, 4095), (1, 0, 11), (1, 0, 11)], [], [((1, (-2147483648), 2147483647), [])], [], 1)]
def tc_12_43 : List tv_C := [(43, [(3, 2, 2)], [], [((1, (-2147483648), 2147483647), [])], [], 1)]
def tc_12_44 : List tv_C := [(44, [(3, 2, 2)], [], [((1, (-2147483648), 2147483647), [])], [], 1)]
def tc_12_45 : List tv_C := [(45, [(3, 2, 2), (1, (-2147483648), 11)], [(7, [(3, 2, 2), (1, (-2147483648), 11), (1, 0, 4095), (1, (-1), 32), (1, 0, 12), (0, 0, 0)], [(0, 0, 0), ((-1), 4, 12), (0, 0, 1000000), (0, 0, 0), (0, 0, 0)])], [((1, (-1), 32), [])], [], 3)]
def tc_12_46 : List tv_C := [(46, [(3, 2, 2), (1, 0, 4095), (1, 0, 11)], [(2, [(3, 2, 2), (1, 0, 4095), (1, 0, 11), (1, 0, 12)], [(0, 0, 0), ((-1), 3, 12), (0, 0, 1000000), (0, 0, 0), (0, 0, 0)])], [((1, (-1), 11), [])], [], 2)]
def tc_12_47 : List tv_C := [(47, [(3, 0, 0), (1, (-2147483648), 2147483647), (1, (-2147483648), 2147483647)], [], [((1, (-2147483648), 2147483647), [])], [(3, 2)], 43)]
def tc_12_48 : List tv_C := [(48, [(3, 3, 3), (3, 1, 1), (1, 0, 4095), (1, 0, 4095)], [(22, [(3, 3, 3), (3, 1, 1), (1, 0, 4095), (1, 0, 4095), (1, 0, 4096)], [(0, 0, 0), ((-1), 4, 4096), (0, 0, 1000000), (0, 0, 0), (0, 0, 0)])], [((1, (-2147483648), 2147483647), [])], [(3, 2)], 42)]
def tc_12_49 : List tv_C := [(49, [(3, 3, 3), (3, 1, 1), (1, 0, 4095)], [(18, [(3, 3, 3), (3, 1, 1), (1, 0, 4095), (1, 12, 12), (1, 0, 4095), (1, 0, 12)], [(0, 0, 0), ((-1), 5, 12), (0, 0, 1000000), (0, 0, 0), (0, 0, 0)])], [((0, 0, 0), [])], [(3, 2)], 2)]
def tc_12_50 : List tv_C := [(50, [(3, 3, 3), (1, 0, 4095), (1, (-2147483648), 2147483647)], [], [((0, 0, 0), [])], [(3, 2)], 1)]
def tc_12_51 : List tv_C := [(51, [(3, 3, 3), (1, 0, 4095), (1, 12, 12)], [(2, [(3, 3, 3), (1, 0, 4095), (1, 12, 12), (1, 0, 12), (0, 0, 0), (0, 0, 0)], [(0, 0, 0), ((-1), 3, 12), (0, 0, 1000000), (0, 0, 0), (0, 0, 0)])], [((0, 0, 0), [])], [(3, 2)], 41)]
def tc_12_52 : List tv_C := [(52, [(3, 0, 0), (1, (-2147483648), 2147483647), (2, 0, 0)], [], [((1, 0, 0), []), ((1, 1, 1), [(1, 0, 5)])], [], 4)]
def tc_12_53 : List tv_C := [(53, [(1, (-2147483648), 2147483647)], [], [((1, 0, 0), []), ((1, 1, 1), [(0, 0, 5)])], [], 1)]
def tc_12_54 : List tv_C := [(54, [(2, 0, 0), (1, 3, 12)], [], [((1, 0, 0), []), ((1, 1, 1), [])], [], 3)]
def tc_12_55 : List tv_C := [(55, [(2, 0, 0), (1, 0, 0), (1, 6, 6)], [(6, [(2, 0, 0), (0, 0, 0), (1, 0, 0), (1, 6, 6), (1, 0, 65535), (1, 0, 6)], [(0, 0, 0), ((-1), 5, 6), (0, 0, 1000000), (0, 0, 0), (0, 0, 0)])], [((1, 0, 65535), [])], [], 2), (55, [(2, 0, 0), (1, 0, 0), (1, 3, 12)], [(6, [(2, 0, 0), (0, 0, 0), (1, 0, 0), (1, 3, 12), (1, 0, 65535), (1, 0, 12)], [(0, 0, 0), ((-1), 5, 12), (0, 0, 1000000), (0, 0, 0), (0, 0, 0)])], [((1, 0, 65535), [])], [], 2)]
def tc_12_56 : List tv_C := [(56, [(2, 0, 0), (1, (-2147483648), 2147483647)], [], [((1, 0, 15), [])], [], 1)]
def tc_12_57 : List tv_C := [(57, [(3, 0, 0), (1, (-2147483648), 2147483647), (1, (-2147483648), 2147483647), (1, (-2147483648), 2147483647), (1, (-2147483648), 2147483647)], [], [((1, (-2147483648), 2147483647), [])], [], 3)]
def tc_12_58 : List tv_C := [(58, [(3, 0, 0), (1, (-2147483648), 2147483647)], [], [((1, 0, 0), []), ((1, 1, 1), [(1, 0, 5)])], [], 2)]
def tc_12_59 : List tv_C := [(59, [(1, (-2147483648), 2147483647)], [], [((1, 0, 0), []), ((1, 1, 1), [(0, 0, 3)])], [], 1)]
def tc_12_60 : List tv_C := [(60, [(2, 0, 0), (1, (-2147483648), 2147483647), (1, (-2147483648), 2147483647), (1, (-2147483648), 2147483647), (1, (-2147483648), 2147483647)], [], [((1, (-2147483648), 2147483647), [])], [], 2)]
def tc_12_63 : List tv_C := [(63, [(2, 0, 0), (1, 12, 12), (1, (-2147483648), 2147483647), (1, (-2147483648), 2147483647)], [(6, [(2, 0, 0), (0, 0, 0), (1, 12, 12), (1, (-2147483648), 2147483647), (1, (-2147483648), 2147483647), (2, 0, 0), (0, 0, 0), (1, 0, 12)], [(0, 0, 0), ((-1), 7, 12), (0, 0, 1000000), (0, 0, 0), (0, 0, 0)])], [((2, 0, 0), [])], [], 3), (63, [(2, 0, 0), (1, 3, 12), (1, (-2147483648), 2147483647), (1, (-2147483648), 2147483647)], [(6, [(2, 0, 0), (0, 0, 0), (1, 3, 12), (1, (-2147483648), 2147483647), (1, (-2147483648), 2147483647), (2, 0, 0), (0, 0, 0), (1, 0, 12)], [(0, 0, 0), ((-1), 7, 12), (0, 0, 1000000), (0, 0, 0), (0, 0, 0)])], [((2, 0, 0), [])], [], 3)]
def tc_12_65 : List tv_C := [(65, [(1, 0, 0), (1, 0, 32), (1, 3, 12)], [], [((1, 0, 32), [])], [], 1), (65, [(1, 0, 32), (1, 0, 32), (1, 3, 12)], [], [((1, (-32), 42), [])], [], 1), (65, [(1, 0, 32), (1, 0, 32), (1, 0, 24)], [], [((1, (-32), 54), [])], [], 1)]
def tc_12_66 : List tv_C := [(66, [(3, 0, 0), (1, (-2147483648), 2147483647), (1, (-2147483648), 2147483647)], [(52, [(3, 0, 0), (1, 0, 5), (1, 0, 3), (1, 12, 12), (1, 0, 65535), (1, 0, 4095), (1, 0, 12)], [(0, 0, 0), ((-1), 6, 12), (0, 0, 1000000), (0, 0, 0), (0, 0, 0)])], [((1, (-1), 4095), [])], [], 4)]
def tc_12_68 : List tv_C := [(68, [(3, 0, 0)], [], [((1, (-4174), 4174), [])], [(4, 4)], 54)]
def tc_12_69 : List tv_C := [(69, [(3, 4, 4), (1, 3, 12)], [], [((1, (-4174), 4174), [])], [(4, 4)], 53)]
def tc_12_70 : List tv_C := [(70, [(3, 4, 4), (1, 3, 12)], [], [((0, 0, 0), [])], [(4, 4)], 52)]
def tc_12_71 : List tv_C := [(71, [(3, 4, 4), (1, 3, 12), (1, 1, 1), (1, 0, 0), (1, 3, 4094), (1, 3, 4094), (2, 0, 0)], [(58, [(3, 4, 4), (1, 3, 12), (1, 1, 1), (1, 0, 0), (1, 3, 4094), (1, 3, 4094), (2, 0, 0), (0, 0, 0), (1, (-2147483648), 2147483647), (1, 0, 11), (0, 0, 0), (0, 0, 0)], [(0, 0, 0), (1, 9, 0), (0, 0, 1000000), (0, 0, 0), (0, 0, 0)])], [((0, 0, 0), [])], [(4, 4)], 51), (71, [(3, 4, 4), (1, 3, 12), (1, 12, 12), (1, 0, 32), (1, 0, 4094), (1, 0, 4094), (2, 0, 0)], [], [((0, 0, 0), [])], [(4, 4)], 2), (71, [(3, 4, 4), (1, 3, 12), (1, 11, 11), (1, 0, 32), (1, 0, 4094), (1, 0, 4094), (2, 0, 0)], [(58, [(3, 4, 4), (1, 12, 12), (1, 11, 11), (1, 0, 32), (1, 0, 4094), (1, 0, 4094), (2, 0, 0), (0, 0, 0), (1, (-2147483648), 2147483647), (1, 0, 11), (0, 0, 0), (0, 0, 0)], [(0, 0, 0), (1, 9, 0), (0, 0, 1000000), (0, 0, 0), (0, 0, 0)])], [((0, 0, 0), [])], [(4, 4)], 41), (71, [(3, 4, 4), (1, 3, 12), (1, 10, 10), (1, 0, 32), (1, 0, 4094), (1, 0, 4094), (2, 0, 0)], [(58, [(3, 4, 4), (1, 11, 12), (1, 10, 10), (1, 0, 32), (1, 0, 4094), (1, 0, 4094), (2, 0, 0), (0, 0, 0), (1, (-2147483648), 2147483647), (1, 0, 11), (0, 0, 0), (0, 0, 0)], [(0, 0, 0), (1, 9, 0), (0, 0, 1000000), (0, 0, 0), (0, 0, 0)])], [((0, 0, 0), [])], [(4, 4)], 42), (71, [(3, 4, 4), (1, 3, 12), (1, 9, 9), (1, 0, 32), (1, 0, 4094), (1, 0, 4094), (2, 0, 0)], [(58, [(3, 4, 4), (1, 10, 12), (1, 9, 9), (1, 0, 32), (1, 0, 4094), (1, 0, 4094), (2, 0, 0), (0, 0, 0), (1, (-2147483648), 2147483647), (1, 0, 11), (0, 0, 0), (0, 0, 0)], [(0, 0, 0), (1, 9, 0), (0, 0, 1000000), (0, 0, 0), (0, 0, 0)])], [((0, 0, 0), [])], [(4, 4)], 43), (71, [(3, 4, 4), (1, 3, 12), (1, 8, 8), (1, 0, 32), (1, 0, 4094), (1, 0, 4094), (2, 0, 0)], [(58, [(3, 4, 4), (1, 9, 12), (1, 8, 8), (1, 0, 32), (1, 0, 4094), (1, 0, 4094), (2, 0, 0), (0, 0, 0), (1, (-2147483648), 2147483647), (1, 0, 11), (0, 0, 0), (0, 0, 0)], [(0, 0, 0), (1, 9, 0), (0, 0, 1000000), (0, 0, 0), (0, 0, 0)])], [((0, 0, 0), [])], [(4, 4)], 44), (71, [(3, 4, 4), (1, 3, 12), (1, 7, 7), (1, 0, 32), (1, 0, 4094), (1, 0, 4094), (2, 0, 0)], [(58, [(3, 4, 4), (1, 8, 12), (1, 7, 7), (1, 0, 32), (1, 0, 4094), (1, 0, 4094), (2, 0, 0), (0, 0, 0), (1, (-2147483648), 2147483647), (1, 0, 11), (0, 0, 0), (0, 0, 0)], [(0, 0, 0), (1, 9, 0), (0, 0, 1000000), (0, 0, 0), (0, 0, 0)])], [((0, 0, 0), [])], [(4, 4)], 45), (71, [(3, 4, 4), (1, 3, 12), (1, 6, 6), (1, 0, 32), (1, 0, 4094), (1, 0, 4094), (2, 0, 0)], [(58, [(3, 4, 4), (1, 7, 12), (1, 6, 6), (1, 0, 32), (1, 0, 4094), (1, 0, 4094), (2, 0, 0), (0, 0, 0), (1, (-2147483648), 2147483647), (1, 0, 11), (0, 0, 0), (0, 0, 0)], [(0, 0, 0), (1, 9, 0), (0, 0, 1000000), (0, 0, 0), (0, 0, 0)])], [((0, 0, 0), [])], [(4, 4)], 46), (71, [(3, 4, 4), (1, 3, 12), (1, 5, 5), (1, 0, 32), (1, 0, 4094), (1, 0, 4094), (2, 0, 0)], [(58, [(3, 4, 4), (1, 6, 12), (1, 5, 5), (1, 0, 32), (1, 0, 4094), (1, 0, 4094), (2, 0, 0), (0, 0, 0), (1, (-2147483648), 2147483647), (1, 0, 11), (0, 0, 0), (0, 0, 0)], [(0, 0, 0), (1, 9, 0), (0, 0, 1000000), (0, 0, 0), (0, 0, 0)])], [((0, 0, 0), [])], [(4, 4)], 47), (71, [(3, 4, 4), (1, 3, 12), (1, 4, 4), (1, 0, 32), (1, 0, 4094), (1, 0, 4094), (2, 0, 0)], [(58, [(3, 4, 4), (1, 5, 12), (1, 4, 4), (1, 0, 32), (1, 0, 4094), (1, 0, 4094), (2, 0, 0), (0, 0, 0), (1, (-2147483648), 2147483647), (1, 0, 11), (0, 0, 0), (0, 0, 0)], [(0, 0, 0), (1, 9, 0), (0, 0, 1000000), (0, 0, 0), (0, 0, 0)])], [((0, 0, 0), [])], [(4, 4)], 48), (71, [(3, 4, 4), (1, 3, 12), (1, 3, 3), (1, 0, 32), (1, 0, 4094), (1, 0, 4094), (2, 0, 0)], [(58, [(3, 4, 4), (1, 4, 12), (1, 3, 3), (1, 0, 32), (1, 0, 4094), (1, 0, 4094), (2, 0, 0), (0, 0, 0), (1, (-2147483648), 2147483647), (1, 0, 11), (0, 0, 0), (0, 0, 0)], [(0, 0, 0), (1, 9, 0), (0, 0, 1000000), (0, 0, 0), (0, 0, 0)])], [((0, 0, 0), [])], [(4, 4)], 49), (71, [(3, 4, 4), (1, 3, 12), (1, 2, 2), (1, 0, 32), (1, 0, 4094), (1, 0, 4094), (2, 0, 0)], [(58, [(3, 4, 4), (1, 3, 12), (1, 2, 2), (1, 0, 32), (1, 0, 4094), (1, 0, 4094), (2, 0, 0), (0, 0, 0), (1, (-2147483648), 2147483647), (1, 0, 11), (0, 0, 0), (0, 0, 0)], [(0, 0, 0), (1, 9, 0), (0, 0, 1000000), (0, 0, 0), (0, 0, 0)])], [((0, 0, 0), [])], [(4, 4)], 50)]
def tc_12_72 : List tv_C := [(72, [(3, 4, 4), (2, 0, 0)], [], [((0, 0, 0), [])], [(4, 4)], 1)]
def tc_12_75 : List tv_C := [(75, [(3, 0, 0), (1, (-2147483648), 2147483647)], [], [((1, (-4174), 4173), [])], [(4, 4)], 54)]
def tc_12_76 : List tv_C := [(76, [(3, 4, 4), (1, 3, 12), (2, 0, 0)], [(13, [(3, 4, 4), (1, 3, 12), (2, 0, 0), (0, 0, 0), (1, 0, 4174)], [(0, 0, 0), ((-1), 4, 4174), (0, 0, 1000000), (0, 0, 0), (0, 0, 0)])], [((1, (-4174), 4173), [])], [(4, 4)], 53)]
def tc_12_77 : List tv_C := [(77, [(3, 0, 0), (1, (-2147483648), 2147483647), (1, (-2147483648), 2147483647)], [], [((1, (-1), 6561), [])], [(5, 1), (5, 2), (5, 3), (5, 4)], 66)]
def tc_12_78 : List tv_C := [(78, [(1, (-2147483648), 2147483647), (1, (-2147483648), 2147483647)], [], [((1, 0, 0), []), ((1, 1, 1), [(0, 2, 24), (1, 1, 16777215)])], [], 1)]
def tc_12_79 : List tv_C := [(79, [(3, 5, 5), (1, 2, 24), (1, 1, 16777215)], [], [((1, 0, 6561), [])], [(5, 1), (5, 2), (5, 3), (5, 4)], 65)]
def tc_12_80 : List tv_C := [(80, [(3, 5, 5), (1, 0, 0), (1, 0, 0), (1, 0, 0)], [(48, [(3, 5, 5), (1, 0, 0), (1, 0, 0), (1, 0, 0), (1, 0, 32), (1, (-2147483648), 2147483647), (1, 0, 63), (0, 0, 0), (0, 0, 0)], [(0, 0, 0), (1, 6, 0), (0, 0, 1000000), (0, 0, 0), (0, 0, 0)])], [((0, 0, 0), [])], [(5, 1)], 64), (80, [(3, 5, 5), (1, 0, 16777215), (1, (-2147483648), 2147483647), (1, 24, 24)], [], [((0, 0, 0), [])], [(5, 1)], 2), (80, [(3, 5, 5), (1, 0, 16777215), (1, (-2147483648), 2147483647), (1, 23, 23)], [(48, [(3, 5, 5), (1, 0, 16777215), (1, (-2147483648), 2147483647), (1, 23, 23), (1, 0, 32), (1, (-2147483648), 2147483647), (1, 0, 63), (0, 0, 0), (0, 0, 0)], [(0, 0, 0), (1, 6, 0), (0, 0, 1000000), (0, 0, 0), (0, 0, 0)])], [((0, 0, 0), [])], [(5, 1)], 41), (80, [(3, 5, 5), (1, 0, 16777215), (1, (-2147483648), 2147483647), (1, 22, 22)], [(48, [(3, 5, 5), (1, 0, 16777215), (1, (-2147483648), 2147483647), (1, 22, 22), (1, 0, 32), (1, (-2147483648), 2147483647), (1, 0, 63), (0, 0, 0), (0, 0, 0)], [(0, 0, 0), (1, 6, 0), (0, 0, 1000000), (0, 0, 0), (0, 0, 0)])], [((0, 0, 0), [])], [(5, 1)], 42), (80, [(3, 5, 5), (1, 0, 16777215), (1, (-2147483648), 2147483647), (1, 21, 21)], [(48, [(3, 5, 5), (1, 0, 16777215), (1, (-2147483648), 2147483647), (1, 21, 21), (1, 0, 32), (1, (-2147483648), 2147483647), (1, 0, 63), (0, 0, 0), (0, 0, 0)], [(0, 0, 0), (1, 6, 0), (0, 0, 1000000), (0, 0, 0), (0, 0, 0)])], [((0, 0, 0), [])], [(5, 1)], 43), (80, [(3, 5, 5), (1, 0, 16777215), (1, (-2147483648), 2147483647), (1, 20, 20)], [(48, [(3, 5, 5), (1, 0, 16777215), (1, (-2147483648), 2147483647), (1, 20, 20), (1, 0, 32), (1, (-2147483648), 2147483647), (1, 0, 63), (0, 0, 0), (0, 0, 0)], [(0, 0, 0), (1, 6, 0), (0, 0, 1000000), (0, 0, 0), (0, 0, 0)])], [((0, 0, 0), [])], [(5, 1)], 44), (80, [(3, 5, 5), (1, 0, 16777215), (1, (-2147483648), 2147483647), (1, 19, 19)], [(48, [(3, 5, 5), (1, 0, 16777215), (1, (-2147483648), 2147483647), (1, 19, 19), (1, 0, 32), (1, (-2147483648), 2147483647), (1, 0, 63), (0, 0, 0), (0, 0, 0)], [(0, 0, 0), (1, 6, 0), (0, 0, 1000000), (0, 0, 0), (0, 0, 0)])], [((0, 0, 0), [])], [(5, 1)], 45), (80, [(3, 5, 5), (1, 0, 16777215), (1, (-2147483648), 2147483647), (1, 18, 18)], [(48, [(3, 5, 5), (1, 0, 16777215), (1, (-2147483648), 2147483647), (1, 18, 18), (1, 0, 32), (1, (-2147483648), 2147483647), (1, 0, 63), (0, 0, 0), (0, 0, 0)], [(0, 0, 0), (1, 6, 0), (0, 0, 1000000), (0, 0, 0), (0, 0, 0)])], [((0, 0, 0), [])], [(5, 1)], 46), (80, [(3, 5, 5), (1, 0, 16777215), (1, (-2147483648), 2147483647), (1, 17, 17)], [(48, [(3, 5, 5), (1, 0, 16777215), (1, (-2147483648), 2147483647), (1, 17, 17), (1, 0, 32), (1, (-2147483648), 2147483647), (1, 0, 63), (0, 0, 0), (0, 0, 0)], [(0, 0, 0), (1, 6, 0), (0, 0, 1000000), (0, 0, 0), (0, 0, 0)])], [((0, 0, 0), [])], [(5, 1)], 47), (80, [(3, 5, 5), (1, 0, 16777215), (1, (-2147483648), 2147483647), (1, 16, 16)], [(48, [(3, 5, 5), (1, 0, 16777215), (1, (-2147483648), 2147483647), (1, 16, 16), (1, 0, 32), (1, (-2147483648), 2147483647), (1, 0, 63), (0, 0, 0), (0, 0, 0)], [(0, 0, 0), (1, 6, 0), (0, 0, 1000000), (0, 0, 0), (0, 0, 0)])], [((0, 0, 0), [])], [(5, 1)], 48), (80, [(3, 5, 5), (1, 0, 16777215), (1, (-2147483648), 2147483647), (1, 15, 15)], [(48, [(3, 5, 5), (1, 0, 16777215), (1, (-2147483648), 2147483647), (1, 15, 15), (1, 0, 32), (1, (-2147483648), 2147483647), (1, 0, 63), (0, 0, 0), (0, 0, 0)], [(0, 0, 0), (1, 6, 0), (0, 0, 1000000), (0, 0, 0), (0, 0, 0)])], [((0, 0, 0), [])], [(5, 1)], 49), (80, [(3, 5, 5), (1, 0, 16777215), (1, (-2147483648), 2147483647), (1, 14, 14)], [(48, [(3, 5, 5), (1, 0, 16777215), (1, (-2147483648), 2147483647), (1, 14, 14), (1, 0, 32), (1, (-2147483648), 2147483647), (1, 0, 63), (0, 0, 0), (0, 0, 0)], [(0, 0, 0), (1, 6, 0), (0, 0, 1000000), (0, 0, 0), (0, 0, 0)])], [((0, 0, 0), [])], [(5, 1)], 50), (80, [(3, 5, 5), (1, 0, 16777215), (1, (-2147483648), 2147483647), (1, 13, 13)], [(48, [(3, 5, 5), (1, 0, 16777215), (1, (-2147483648), 2147483647), (1, 13, 13), (1, 0, 32), (1, (-2147483648), 2147483647), (1, 0, 63), (0, 0, 0), (0, 0, 0)], [(0, 0, 0), (1, 6, 0), (0, 0, 1000000), (0, 0, 0), (0, 0, 0)])], [((0, 0, 0), [])], [(5, 1)], 51), (80, [(3, 5, 5), (1, 0, 16777215), (1, (-2147483648), 2147483647), (1, 12, 12)], [(48, [(3, 5, 5), (1, 0, 16777215), (1, (-2147483648), 2147483647), (1, 12, 12), (1, 0, 32), (1, (-2147483648), 2147483647), (1, 0, 63), (0, 0, 0), (0, 0, 0)], [(0, 0, 0), (1, 6, 0), (0, 0, 1000000), (0, 0, 0), (0, 0, 0)])], [((0, 0, 0), [])], [(5, 1)], 52), (80, [(3, 5, 5), (1, 0, 16777215), (1, (-2147483648), 2147483647), (1, 11, 11)], [(48, [(3, 5, 5), (1, 0, 16777215), (1, (-2147483648), 2147483647), (1, 11, 11), (1, 0, 32), (1, (-2147483648), 2147483647), (1, 0, 63), (0, 0, 0), (0, 0, 0)], [(0, 0, 0), (1, 6, 0), (0, 0, 1000000), (0, 0, 0), (0, 0, 0)])], [((0, 0, 0), [])], [(5, 1)], 53), (80, [(3, 5, 5), (1, 0, 16777215), (1, (-2147483648), 2147483647), (1, 10, 10)], [(48, [(3, 5, 5), (1, 0, 16777215), (1, (-2147483648), 2147483647), (1, 10, 10), (1, 0, 32), (1, (-2147483648), 2147483647), (1, 0, 63), (0, 0, 0), (0, 0, 0)], [(0, 0, 0), (1, 6, 0), (0, 0, 1000000), (0, 0, 0), (0, 0, 0)])], [((0, 0, 0), [])], [(5, 1)], 54), (80, [(3, 5, 5), (1, 0, 16777215), (1, (-2147483648), 2147483647), (1, 9, 9)], [(48, [(3, 5, 5), (1, 0, 16777215), (1, (-2147483648), 2147483647), (1, 9, 9), (1, 0, 32), (1, (-2147483648), 2147483647), (1, 0, 63), (0, 0, 0), (0, 0, 0)], [(0, 0, 0), (1, 6, 0), (0, 0, 1000000), (0, 0, 0), (0, 0, 0)])], [((0, 0, 0), [])], [(5, 1)], 55), (80, [(3, 5, 5), (1, 0, 16777215), (1, (-2147483648), 2147483647), (1, 8, 8)], [(48, [(3, 5, 5), (1, 0, 16777215), (1, (-2147483648), 2147483647), (1, 8, 8), (1, 0, 32), (1, (-2147483648), 2147483647), (1, 0, 63), (0, 0, 0), (0, 0, 0)], [(0, 0, 0), (1, 6, 0), (0, 0, 1000000), (0, 0, 0), (0, 0, 0)])], [((0, 0, 0), [])], [(5, 1)], 56), (80, [(3, 5, 5), (1, 0, 16777215), (1, (-2147483648), 2147483647), (1, 7, 7)], [(48, [(3, 5, 5), (1, 0, 16777215), (1, (-2147483648), 2147483647), (1, 7, 7), (1, 0, 32), (1, (-2147483648), 2147483647), (1, 0, 63), (0, 0, 0), (0, 0, 0)], [(0, 0, 0), (1, 6, 0), (0, 0, 1000000), (0, 0, 0), (0, 0, 0)])], [((0, 0, 0), [])], [(5, 1)], 57), (80, [(3, 5, 5), (1, 0, 16777215), (1, (-2147483648), 2147483647), (1, 6, 6)], [(48, [(3, 5, 5), (1, 0, 16777215), (1, (-2147483648), 2147483647), (1, 6, 6), (1, 0, 32), (1, (-2147483648), 2147483647), (1, 0, 63), (0, 0, 0), (0, 0, 0)], [(0, 0, 0), (1, 6, 0), (0, 0, 1000000), (0, 0, 0), (0, 0, 0)])], [((0, 0, 0), [])], [(5, 1)], 58), (80, [(3, 5, 5), (1, 0, 16777215), (1, (-2147483648), 2147483647), (1, 5, 5)], [(48, [(3, 5, 5), (1, 0, 16777215), (1, (-2147483648), 2147483647), (1, 5, 5), (1, 0, 32), (1, (-2147483648), 2147483647), (1, 0, 63), (0, 0, 0), (0, 0, 0)], [(0, 0, 0), (1, 6, 0), (0, 0, 1000000), (0, 0, 0), (0, 0, 0)])], [((0, 0, 0), [])], [(5, 1)], 59), (80, [(3, 5, 5), (1, 0, 16777215), (1, (-2147483648), 2147483647), (1, 4, 4)], [(48, [(3, 5, 5), (1, 0, 16777215), (1, (-2147483648), 2147483647), (1, 4, 4), (1, 0, 32), (1, (-2147483648), 2147483647), (1, 0, 63), (0, 0, 0), (0, 0, 0)], [(0, 0, 0), (1, 6, 0), (0, 0, 1000000), (0, 0, 0), (0, 0, 0)])], [((0, 0, 0), [])], [(5, 1)], 60), (80, [(3, 5, 5), (1, 0, 16777215), (1, (-2147483648), 2147483647), (1, 3, 3)], [(48, [(3, 5, 5), (1, 0, 16777215), (1, (-2147483648), 2147483647), (1, 3, 3), (1, 0, 32), (1, (-2147483648), 2147483647), (1, 0, 63), (0, 0, 0), (0, 0, 0)], [(0, 0, 0), (1, 6, 0), (0, 0, 1000000), (0, 0, 0), (0, 0, 0)])], [((0, 0, 0), [])], [(5, 1)], 61), (80, [(3, 5, 5), (1, 0, 16777215), (1, (-2147483648), 2147483647), (1, 2, 2)], [(48, [(3, 5, 5), (1, 0, 16777215), (1, (-2147483648), 2147483647), (1, 2, 2), (1, 0, 32), (1, (-2147483648), 2147483647), (1, 0, 63), (0, 0, 0), (0, 0, 0)], [(0, 0, 0), (1, 6, 0), (0, 0, 1000000), (0, 0, 0), (0, 0, 0)])], [((0, 0, 0), [])], [(5, 1)], 62), (80, [(3, 5, 5), (1, 0, 16777215), (1, (-2147483648), 2147483647), (1, 1, 1)], [(48, [(3, 5, 5), (1, 0, 16777215), (1, (-2147483648), 2147483647), (1, 1, 1), (1, 0, 32), (1, (-2147483648), 2147483647), (1, 0, 63), (0, 0, 0), (0, 0, 0)], [(0, 0, 0), (1, 6, 0), (0, 0, 1000000), (0, 0, 0), (0, 0, 0)])], [((0, 0, 0), [])], [(5, 1)], 63)]
def tc_12_81 : List tv_C := [(81, [(3, 5, 5), (1, (-2147483648), 2147483647)], [], [((0, 0, 0), [])], [(5, 1)], 1)]
def tc_12_82 : List tv_C := [(82, [(3, 0, 0), (1, (-2147483648), 2147483647), (1, (-2147483648), 2147483647), (1, (-2147483648), 2147483647)], [], [((1, (-2147483648), 2147483647), [])], [(5, 1), (5, 2), (5, 3), (5, 4)], 66)]
def tc_12_83 : List tv_C := [(83, [(3, 5, 5), (1, 0, 6560)], [], [((1, (-2147483648), 2147483647), [])], [(5, 2)], 42)]
def tc_12_84 : List tv_C := [(84, [(3, 5, 5)], [(9, [(3, 5, 5), (1, (-1), 3279), (0, 0, 0)], [(0, 0, 1), (1, 1, 1), (0, 0, 1000000), (0, 0, 0), (0, 0, 0)]), (35, [(3, 5, 5), (1, (-1), 6560), (0, 0, 0)], [(0, 0, 0), (1, 1, 1), (0, 0, 1000000), (0, 0, 0), (0, 0, 0)])], [((0, 0, 0), [])], [], 41)]
def tc_12_86 : List tv_C := [(86, [(3, 0, 0), (1, (-2147483648), 2147483647), (1, (-2147483648), 2147483647)], [], [((1, (-2147483648), 2147483647), [])], [(5, 1), (5, 2), (5, 3), (5, 4)], 67)]
def tc_12_87 : List tv_C := [(87, [(3, 5, 5), (1, 2, 24), (1, 1, 16777215)], [(24, [(3, 5, 5), (1, 2, 24), (1, 1, 16777215), (1, 0, 6561), (1, (-2147483648), 2147483647), (1, 0, 6561)], [(0, 0, 0), ((-1), 5, 6561), (0, 0, 1000000), (0, 0, 0), (0, 0, 0)])], [((1, (-2147483648), 2147483647), [])], [(5, 1), (5, 2), (5, 3), (5, 4)], 66)]
def tc_12_88 : List tv_C := [(88, [(1, 2, 24), (1, (-2147483648), 2147483647)], [(2, [(1, 2, 24), (1, (-2147483648), 2147483647), (1, 1, 24)], [(0, 0, 0), ((-1), 2, 24), (0, 0, 1000000), (0, 0, 0), (0, 0, 0)])], [((1, 1, 24), [])], [], 2)]
def tc_12_89 : List tv_C := [(89, [(3, 0, 0), (1, (-2147483648), 2147483647), (1, (-2147483648), 2147483647)], [], [((1, (-1), 24), [])], [], 3)]
def tc_12_90 : List tv_C := [(90, [(3, 0, 0), (1, (-2147483648), 2147483647), (1, (-2147483648), 2147483647), (1, (-2147483648), 2147483647), (1, (-2147483648), 2147483647), (1, (-2147483648), 2147483647)], [], [((1, (-1), 800), [])], [(7, 1)], 3)]
def tc_12_91 : List tv_C := [(91, [(3, 6, 6)], [], [((3, 7, 7), [])], [], 1)]
def tc_12_92 : List tv_C := [(92, [(3, 7, 7)], [], [((1, 0, 800), [])], [], 1), (92, [(3, 8, 8)], [], [((1, 0, 800), [])], [], 1)]
def tc_12_93 : List tv_C := [(93, [(3, 7, 7), (1, (-2147483648), 2147483647)], [], [((0, 0, 0), [])], [(7, 1)], 2)]
def tc_12_94 : List tv_C := [(94, [(3, 7, 7), (1, (-2147483648), 2147483647)], [], [((0, 0, 0), [])], [(7, 1)], 1), (94, [(3, 8, 8), (1, (-2147483648), 2147483647)], [], [((0, 0, 0), [])], [(8, 1)], 1)]
def tc_12_95 : List tv_C := [(95, [(3, 0, 0), (1, (-2147483648), 2147483647)], [], [((1, (-1), 800), [])], [(7, 1)], 2)]
def tc_12_96 : List tv_C := [(96, [(3, 7, 7), (1, (-2147483648), 2147483647)], [], [((0, 0, 0), [])], [(7, 1)], 1), (96, [(3, 8, 8), (1, (-2147483648), 2147483647)], [], [((0, 0, 0), [])], [(8, 1)], 1)]
def tc_12_97 : List tv_C := [(97, [(3, 0, 0)], [], [((1, (-1), 8), [])], [(0, 8), (6, 1), (6, 2), (6, 3), (6, 4), (6, 5), (6, 6), (6, 7), (6, 8), (7, 1), (9, 2), (9, 7), (10, 2), (10, 7)], 54)]
def tc_12_98 : List tv_C := [(98, [(3, 6, 6), (1, 3, 12)], [(35, [(3, 6, 6), (1, 3, 12), (1, 0, 1), (1, 0, 7)], [(0, 0, 1), ((-1), 3, 7), (0, 0, 1000000), (0, 0, 0), (0, 0, 0)]), (68, [(3, 6, 6), (1, 3, 12), (1, 0, 1), (1, 0, 9)], [(0, 0, 0), ((-1), 3, 9), (0, 0, 1000000), (0, 0, 0), (0, 0, 0)])], [((1, 0, 0), []), ((1, 1, 1), [])], [(6, 2), (6, 3), (6, 4), (6, 5), (6, 6), (6, 7), (6, 8), (9, 2), (9, 7), (10, 2), (10, 7)], 53)]
def tc_12_100 : List tv_C := [(100, [(3, 8, 8), (1, (-2147483648), 2147483647)], [], [((1, (-1), (-1)), []), ((1, 0, 255), [(1, 0, 799)])], [], 1), (100, [(3, 7, 7), (1, (-2147483648), 2147483647)], [], [((1, (-1), (-1)), []), ((1, 0, 255), [(1, 0, 799)])], [], 1)]
def tc_12_101 : List tv_C := [(101, [(1, (-2147483648), 2147483647)], [], [((1, 1, 1), [(0, 10, 32)]), ((1, 0, 0), [])], [], 1)]
def tc_12_102 : List tv_C := [(102, [(1, (-2147483648), 2147483647)], [], [((1, 0, 0), []), ((1, 1, 1), [(0, 65, 122)])], [], 1)]
def tc_12_103 : List tv_C := [(103, [(3, 6, 6), (1, (-2147483648), 2147483647)], [(2, [(3, 6, 6), (1, (-2147483648), 2147483647), (1, 0, 800)], [(0, 0, 0), ((-1), 2, 800), (0, 0, 1000000), (0, 0, 0), (0, 0, 0)])], [((3, 81, 81), []), ((3, 75, 75), []), ((3, 74, 74), []), ((3, 73, 73), []), ((3, 76, 76), [(1, 97, 2147483647)])], [(6, 4), (6, 6)], 41)]
def tc_12_112 : List tv_C := [(112, [(1, (-2147483648), 2147483647)], [], [((1, 0, 0), []), ((1, 1, 1), [(0, 48, 57)])], [], 1)]
def tc_12_113 : List tv_C := [(113, [(3, 6, 6)], [(2, [(3, 6, 6), (1, 0, 800)], [(0, 0, 1), ((-1), 1, 800), (0, 0, 1000000), (0, 0, 0), (0, 0, 0)]), (64, [(3, 6, 6), (1, 0, 800)], [(0, 0, 0), ((-1), 1, 800), (0, 0, 1000000), (0, 0, 0), (0, 0, 0)])], [((3, 81, 81), []), ((3, 77, 77), [])], [(6, 4), (6, 6)], 2)]
def tc_12_114 : List tv_C := [(114, [(3, 6, 6)], [], [((1, 0, 0), []), ((1, 1, 1), [])], [(6, 3), (6, 4), (6, 5), (6, 6), (6, 7), (6, 8), (9, 2), (10, 2)], 52)]
def tc_12_115 : List tv_C := [(115, [(3, 9, 9)], [], [((1, 0, 6), [])], [], 1), (115, [(3, 10, 10)], [], [((1, 0, 6), [])], [], 1)]
def tc_12_116 : List tv_C := [(116, [(3, 6, 6), (1, 0, 0), (1, 1, 1)], [], [((1, 0, 0), [])], [(6, 7), (6, 8)], 1), (116, [(3, 6, 6), (1, 1, 1), (1, 1, 1)], [], [((1, 1, 1), [])], [], 1), (116, [(3, 6, 6), (1, 0, 0), (1, 2, 2)], [], [((1, 0, 0), [])], [(6, 7), (6, 8)], 1), (116, [(3, 6, 6), (1, 1, 1), (1, 2, 2)], [], [((1, 1, 1), [])], [], 1), (116, [(3, 6, 6), (1, 0, 0), (1, 3, 3)], [], [((1, 0, 0), [])], [(6, 7), (6, 8)], 1), (116, [(3, 6, 6), (1, 1, 1), (1, 3, 3)], [], [((1, 1, 1), [])], [], 1), (116, [(3, 6, 6), (1, 0, 0), (1, 3, 5)], [], [((1, 0, 0), [])], [(6, 7), (6, 8)], 1), (116, [(3, 6, 6), (1, 1, 1), (1, 3, 5)], [], [((1, 1, 1), [])], [], 1)]
def tc_12_117 : List tv_C := [(117, [(3, 9, 9), (1, (-2147483648), 2147483647)], [(2, [(3, 9, 9), (1, (-2147483648), 2147483647), (1, 0, 6)], [(0, 0, 0), ((-1), 2, 6), (0, 0, 1000000), (0, 0, 0), (0, 0, 0)])], [((1, (-1), 5), [])], [], 1), (117, [(3, 10, 10), (1, (-2147483648), 2147483647)], [(2, [(3, 10, 10), (1, (-2147483648), 2147483647), (1, 0, 6)], [(0, 0, 0), ((-1), 2, 6), (0, 0, 1000000), (0, 0, 0), (0, 0, 0)])], [((1, (-1), 5), [])], [], 1)]
def tc_12_118 : List tv_C := [(118, [(3, 6, 6), (3, 78, 78)], [], [((1, 0, 0), []), ((1, 1, 1), [])], [(6, 3), (6, 4), (6, 5), (6, 6), (6, 7), (6, 8)], 51), (118, [(3, 6, 6), (3, 79, 79)], [], [((1, 0, 0), []), ((1, 1, 1), [])], [(6, 3), (6, 4), (6, 5), (6, 6), (6, 7), (6, 8)], 51), (118, [(3, 6, 6), (3, 75, 75)], [], [((1, 0, 0), []), ((1, 1, 1), [])], [(6, 3), (6, 4), (6, 5), (6, 6), (6, 7), (6, 8)], 51)]
def tc_12_119 : List tv_C := [(119, [(3, 6, 6)], [(10, [(3, 6, 6), (2, 0, 0), (0, 0, 0), (1, (-2147483648), 2147483647), (1, (-2147483648), 2147483647), (1, 0, 13)], [(0, 0, 0), ((-1), 5, 13), (0, 0, 1000000), (0, 0, 0), (0, 0, 0)])], [((2, 0, 0), [])], [(6, 3), (6, 4), (6, 5), (6, 6), (6, 7), (6, 8)], 51)]
def tc_12_120 : List tv_C := [(120, [(3, 9, 9), (1, (-2147483648), 2147483647), (2, 0, 0)], [], [((0, 0, 0), [])], [(9, 2)], 1), (120, [(3, 10, 10), (1, (-2147483648), 2147483647), (2, 0, 0)], [], [((0, 0, 0), [])], [(10, 2)], 1)]
def tc_12_121 : List tv_C := [(121, [(3, 6, 6)], [], [((1, 0, 0), []), ((1, 1, 1), [])], [(6, 3), (6, 4), (6, 5), (6, 6), (6, 7), (6, 8), (9, 7), (10, 7)], 52)]
def tc_12_122 : List tv_C := [(122, [(3, 9, 9)], [], [((1, 0, 8), [])], [], 1), (122, [(3, 10, 10)], [], [((1, 0, 8), [])], [], 1)]
def tc_12_128 : List tv_C := [(128, [(3, 6, 6), (1, (-2147483648), 2147483647)], [], [((1, 0, 0), []), ((1, 1, 1), [])], [(6, 3), (6, 4), (6, 5), (6, 6), (6, 7), (6, 8)], 51)]
def tc_12_129 : List tv_C := [(129, [(3, 9, 9), (1, 0, 5), (1, 0, 3), (1, (-2147483648), 2147483647), (1, (-2147483648), 2147483647)], [], [((0, 0, 0), [])], [(9, 7)], 1), (129, [(3, 10, 10), (1, 0, 5), (1, 0, 3), (1, (-2147483648), 2147483647), (1, (-2147483648), 2147483647)], [], [((0, 0, 0), [])], [(10, 7)], 1)]
def tc_12_130 : List tv_C := [(130, [(3, 6, 6), (3, 9, 9)], [], [((3, 9, 9), []), ((3, 10, 10), [])], [(6, 1)], 1), (130, [(3, 6, 6), (3, 10, 10)], [], [((3, 9, 9), []), ((3, 10, 10), [])], [(6, 1)], 1)]
def tc_12_131 : List tv_C := [(131, [(3, 0, 0), (1, (-2147483648), 2147483647)], [], [((1, (-2147483648), 2147483647), [])], [], 2)]
def tc_12_132 : List tv_C := [(132, [(3, 6, 6)], [], [((1, (-2147483648), 2147483647), [])], [], 1)]
def tc_12_133 : List tv_C := [(133, [(3, 6, 6)], [], [((1, (-2147483648), 2147483647), [])], [], 1)]
def tc_12_134 : List tv_C := [(134, [(3, 0, 0), (1, (-2147483648), 2147483647)], [], [((1, (-2147483648), 2147483647), [])], [], 7)]
def tc_12_135 : List tv_C := [(135, [(3, 9, 9), (1, 3, 12)], [(4, [(3, 9, 9), (1, 3, 12), (1, (-2147483648), 2147483647), (1, 0, 8)], [(0, 0, 0), ((-1), 3, 8), (0, 0, 1000000), (0, 0, 0), (0, 0, 0)])], [((1, (-2147483648), 2147483647), [])], [], 6), (135, [(3, 10, 10), (1, 3, 12)], [(4, [(3, 10, 10), (1, 3, 12), (1, (-2147483648), 2147483647), (1, 0, 8)], [(0, 0, 0), ((-1), 3, 8), (0, 0, 1000000), (0, 0, 0), (0, 0, 0)])], [((1, (-2147483648), 2147483647), [])], [], 6)]
def tc_12_136 : List tv_C := [(136, [(3, 9, 9), (1, 0, 7), (1, (-2147483648), 2147483647), (1, 12, 12)], [(14, [(3, 9, 9), (1, 0, 7), (1, (-2147483648), 2147483647), (1, 12, 12), (2, 0, 0), (0, 0, 0), (1, (-2147483648), 2147483647), (1, 0, 8), (0, 0, 0)], [(0, 0, 0), ((-1), 7, 8), (0, 0, 1000000), (0, 0, 0), (0, 0, 0)]), (26, [(3, 9, 9), (1, 0, 7), (1, (-2147483648), 2147483647), (1, 12, 12), (2, 0, 0), (0, 0, 0), (1, (-2147483648), 2147483647), (1, 0, 7), (1, 0, 12)], [(0, 0, 0), ((-1), 7, 8), (0, 0, 0), ((-1), 8, 12), (0, 0, 1000000)])], [((1, (-2147483648), 2147483647), [])], [], 5), (136, [(3, 10, 10), (1, 0, 7), (1, (-2147483648), 2147483647), (1, 12, 12)], [(14, [(3, 10, 10), (1, 0, 7), (1, (-2147483648), 2147483647), (1, 12, 12), (2, 0, 0), (0, 0, 0), (1, (-2147483648), 2147483647), (1, 0, 8), (0, 0, 0)], [(0, 0, 0), ((-1), 7, 8), (0, 0, 1000000), (0, 0, 0), (0, 0, 0)]), (26, [(3, 10, 10), (1, 0, 7), (1, (-2147483648), 2147483647), (1, 12, 12), (2, 0, 0), (0, 0, 0), (1, (-2147483648), 2147483647), (1, 0, 7), (1, 0, 12)], [(0, 0, 0), ((-1), 7, 8), (0, 0, 0), ((-1), 8, 12), (0, 0, 1000000)])], [((1, (-2147483648), 2147483647), [])], [], 5), (136, [(3, 9, 9), (1, 0, 7), (1, (-2147483648), 2147483647), (1, 3, 12)], [(14, [(3, 9, 9), (1, 0, 7), (1, (-2147483648), 2147483647), (1, 3, 12), (2, 0, 0), (0, 0, 0), (1, (-2147483648), 2147483647), (1, 0, 8), (0, 0, 0)], [(0, 0, 0), ((-1), 7, 8), (0, 0, 1000000), (0, 0, 0), (0, 0, 0)]), (26, [(3, 9, 9), (1, 0, 7), (1, (-2147483648), 2147483647), (1, 3, 12), (2, 0, 0), (0, 0, 0), (1, (-2147483648), 2147483647), (1, 0, 7), (1, 0, 12)], [(0, 0, 0), ((-1), 7, 8), (0, 0, 0), ((-1), 8, 12), (0, 0, 1000000)])], [((1, (-2147483648), 2147483647), [])], [], 5), (136, [(3, 10, 10), (1, 0, 7), (1, (-2147483648), 2147483647), (1, 3, 12)], [(14, [(3, 10, 10), (1, 0, 7), (1, (-2147483648), 2147483647), (1, 3, 12), (2, 0, 0), (0, 0, 0), (1, (-2147483648), 2147483647), (1, 0, 8), (0, 0, 0)], [(0, 0, 0), ((-1), 7, 8), (0, 0, 1000000), (0, 0, 0), (0, 0, 0)]), (26, [(3, 10, 10), (1, 0, 7), (1, (-2147483648), 2147483647), (1, 3, 12), (2, 0, 0), (0, 0, 0), (1, (-2147483648), 2147483647), (1, 0, 7), (1, 0, 12)], [(0, 0, 0), ((-1), 7, 8), (0, 0, 0), ((-1), 8, 12), (0, 0, 1000000)])], [((1, (-2147483648), 2147483647), [])], [], 5)]
def tc_12_137 : List tv_C := [(137, [(3, 9, 9), (1, 0, 7), (1, 12, 12)], [], [((2, 0, 0), [])], [], 4), (137, [(3, 10, 10), (1, 0, 7), (1, 12, 12)], [], [((2, 0, 0), [])], [], 4), (137, [(3, 9, 9), (1, 0, 7), (1, 3, 12)], [], [((2, 0, 0), [])], [], 4), (137, [(3, 10, 10), (1, 0, 7), (1, 3, 12)], [], [((2, 0, 0), [])], [], 4)]
def tc_12_138 : List tv_C := [(138, [(3, 9, 9), (1, 0, 7), (1, (-2147483648), 2147483647), (1, (-2147483648), 2147483647)], [], [((1, (-2147483648), 2147483647), [])], [], 3), (138, [(3, 10, 10), (1, 0, 7), (1, (-2147483648), 2147483647), (1, (-2147483648), 2147483647)], [], [((1, (-2147483648), 2147483647), [])], [], 3)]
def tc_12_139 : List tv_C := [(139, [(3, 9, 9), (1, 3, 12)], [(4, [(3, 9, 9), (1, 3, 12), (1, 0, 2147483647), (1, 0, 8)], [(0, 0, 0), ((-1), 3, 8), (0, 0, 1000000), (0, 0, 0), (0, 0, 0)])], [((1, 0, 2147483647), [])], [], 1), (139, [(3, 10, 10), (1, 3, 12)], [(4, [(3, 10, 10), (1, 3, 12), (1, 0, 2147483647), (1, 0, 8)], [(0, 0, 0), ((-1), 3, 8), (0, 0, 1000000), (0, 0, 0), (0, 0, 0)])], [((1, 0, 2147483647), [])], [], 1)]
def tc_12_140 : List tv_C := [(140, [(3, 0, 0), (1, (-2147483648), 2147483647), (1, (-2147483648), 2147483647)], [], [((1, (-2147483648), 2147483647), [])], [], 6)]
def tc_12_141 : List tv_C := [(141, [(3, 9, 9), (1, (-2147483648), 2147483647)], [], [((1, 0, 0), []), ((1, 1, 1), [(1, 0, 7)])], [], 1), (141, [(3, 10, 10), (1, (-2147483648), 2147483647)], [], [((1, 0, 0), []), ((1, 1, 1), [(1, 0, 7)])], [], 1)]
def tc_12_142 : List tv_C := [(142, [(3, 9, 9), (1, 0, 7)], [], [((1, 0, 5), [])], [], 1), (142, [(3, 10, 10), (1, 0, 7)], [], [((1, 0, 5), [])], [], 1)]
def tc_12_143 : List tv_C := [(143, [(3, 9, 9), (1, 0, 7)], [], [((1, 0, 3), [])], [], 1), (143, [(3, 10, 10), (1, 0, 7)], [], [((1, 0, 3), [])], [], 1)]
def tc_12_144 : List tv_C := [(144, [(3, 9, 9), (1, 0, 7)], [], [((1, (-2147483648), 2147483647), [])], [], 1), (144, [(3, 10, 10), (1, 0, 7)], [], [((1, (-2147483648), 2147483647), [])], [], 1)]
def tc_12_145 : List tv_C := [(145, [(3, 9, 9), (1, 0, 7)], [], [((1, (-2147483648), 2147483647), [])], [], 1), (145, [(3, 10, 10), (1, 0, 7)], [], [((1, (-2147483648), 2147483647), [])], [], 1)]
def tc_12_146 : List tv_C := [(146, [(3, 0, 0), (1, (-2147483648), 2147483647), (1, (-2147483648), 2147483647)], [], [((1, (-2147483648), 2147483647), [])], [], 4)]
def tc_12_147 : List tv_C := [(147, [(3, 0, 0), (1, (-2147483648), 2147483647)], [(4, [(3, 0, 0), (1, (-2147483648), 2147483647), (1, (-2147483648), 2147483647), (1, 0, 8), (0, 0, 0)], [(0, 0, 0), ((-1), 3, 8), (0, 0, 1000000), (0, 0, 0), (0, 0, 0)])], [((1, (-2147483648), 2147483647), [])], [], 4)]
def tc_12_148 : List tv_C := [(148, [(3, 0, 0), (1, (-2147483648), 2147483647), (1, (-2147483648), 2147483647)], [(46, [(3, 0, 0), (1, 0, 7), (1, 0, 40), (1, 0, 40), (1, (-2147483648), 2147483647), (1, 1, 41), (0, 0, 0)], [(0, 0, 0), ((-1), 5, 41), (0, 0, 1000000), (0, 0, 0), (0, 0, 0)])], [((1, (-2147483648), 2147483647), [])], [], 6)]
def tc_12_149 : List tv_C := [(149, [(3, 9, 9), (1, 0, 7), (1, (-2147483648), 2147483647)], [], [((0, 0, 0), [])], [], 1), (149, [(3, 10, 10), (1, 0, 7), (1, (-2147483648), 2147483647)], [], [((0, 0, 0), [])], [], 1)]
def tc_12_150 : List tv_C := [(150, [(3, 0, 0), (1, (-2147483648), 2147483647), (1, (-2147483648), 2147483647)], [], [((1, 0, 0), []), ((1, 1, 1), [(1, 0, 7), (2, 0, 5)])], [], 5)]
def tc_12_151 : List tv_C := [(151, [(3, 0, 0)], [], [((1, 0, 800), [])], [(8, 1)], 44)]
def tc_12_152 : List tv_C := [(152, [(3, 9, 9), (3, 8, 8), (1, 3, 12)], [(2, [(3, 9, 9), (3, 8, 8), (1, 3, 12), (1, 0, 6)], [(0, 0, 1), ((-1), 3, 6), (0, 0, 1000000), (0, 0, 0), (0, 0, 0)]), (25, [(3, 9, 9), (3, 8, 8), (1, 3, 12), (1, 0, 8)], [(0, 0, 0), ((-1), 3, 8), (0, 0, 1000000), (0, 0, 0), (0, 0, 0)])], [((0, 0, 0), [])], [(8, 1)], 43), (152, [(3, 10, 10), (3, 8, 8), (1, 3, 12)], [(2, [(3, 10, 10), (3, 8, 8), (1, 3, 12), (1, 0, 6)], [(0, 0, 1), ((-1), 3, 6), (0, 0, 1000000), (0, 0, 0), (0, 0, 0)]), (25, [(3, 10, 10), (3, 8, 8), (1, 3, 12), (1, 0, 8)], [(0, 0, 0), ((-1), 3, 8), (0, 0, 1000000), (0, 0, 0), (0, 0, 0)])], [((0, 0, 0), [])], [(8, 1)], 43)]
def tc_12_153 : List tv_C := [(153, [(3, 9, 9), (3, 8, 8), (1, 0, 5), (1, 3, 12)], [(25, [(3, 9, 9), (3, 8, 8), (1, 0, 5), (1, 3, 12), (1, 0, 12)], [(0, 0, 0), ((-1), 4, 12), (0, 0, 1000000), (0, 0, 0), (0, 0, 0)])], [((0, 0, 0), [])], [(8, 1)], 42), (153, [(3, 10, 10), (3, 8, 8), (1, 0, 5), (1, 3, 12)], [(25, [(3, 10, 10), (3, 8, 8), (1, 0, 5), (1, 3, 12), (1, 0, 12)], [(0, 0, 0), ((-1), 4, 12), (0, 0, 1000000), (0, 0, 0), (0, 0, 0)])], [((0, 0, 0), [])], [(8, 1)], 42)]
def tc_12_154 : List tv_C := [(154, [(3, 8, 8), (3, 86, 86)], [(2, [(3, 8, 8), (3, 86, 86), (1, 0, 4)], [(0, 0, 0), ((-1), 2, 4), (0, 0, 1000000), (0, 0, 0), (0, 0, 0)])], [((0, 0, 0), [])], [(8, 1)], 41), (154, [(3, 8, 8), (3, 87, 87)], [(2, [(3, 8, 8), (3, 87, 87), (1, 0, 3)], [(0, 0, 0), ((-1), 2, 3), (0, 0, 1000000), (0, 0, 0), (0, 0, 0)])], [((0, 0, 0), [])], [(8, 1)], 41), (154, [(3, 8, 8), (3, 88, 88)], [(2, [(3, 8, 8), (3, 88, 88), (1, 0, 2)], [(0, 0, 0), ((-1), 2, 2), (0, 0, 1000000), (0, 0, 0), (0, 0, 0)])], [((0, 0, 0), [])], [(8, 1)], 41), (154, [(3, 8, 8), (3, 89, 89)], [(2, [(3, 8, 8), (3, 89, 89), (1, 0, 6)], [(0, 0, 0), ((-1), 2, 6), (0, 0, 1000000), (0, 0, 0), (0, 0, 0)])], [((0, 0, 0), [])], [(8, 1)], 41), (154, [(3, 8, 8), (3, 90, 90)], [(2, [(3, 8, 8), (3, 90, 90), (1, 0, 4)], [(0, 0, 0), ((-1), 2, 4), (0, 0, 1000000), (0, 0, 0), (0, 0, 0)])], [((0, 0, 0), [])], [(8, 1)], 41), (154, [(3, 8, 8), (3, 91, 91)], [(2, [(3, 8, 8), (3, 91, 91), (1, 0, 3)], [(0, 0, 0), ((-1), 2, 3), (0, 0, 1000000), (0, 0, 0), (0, 0, 0)])], [((0, 0, 0), [])], [(8, 1)], 41)]
def tc_12_155 : List tv_C := [(155, [(3, 8, 8), (1, (-2147483648), 2147483647)], [], [((0, 0, 0), [])], [(8, 1)], 2)]
def tc_12_156 : List tv_C := [(156, [(3, 9, 9), (3, 8, 8), (1, 0, 7)], [], [((0, 0, 0), [])], [(8, 1)], 42), (156, [(3, 10, 10), (3, 8, 8), (1, 0, 7)], [], [((0, 0, 0), [])], [(8, 1)], 42)]
def tc_12_157 : List tv_C := [(157, [(3, 0, 0), (1, (-2147483648), 2147483647)], [], [((1, (-1), 255), [])], [], 2)]
def tc_12_158 : List tv_C := [(158, [(3, 0, 0)], [], [((1, 0, 800), [])], [(7, 1)], 41)]
def tc_12_161 : List tv_C := [(161, [(3, 11, 11), (1, (-2147483648), 2147483647), (1, (-2147483648), 2147483647), (1, (-2147483648), 2147483647)], [], [((1, (-1), 4095), [])], [(11, 0)], 3)]
def tc_12_162 : List tv_C := [(162, [(3, 11, 11), (1, (-2147483648), 2147483647)], [], [((1, 0, 0), []), ((1, 1, 1), [(1, 0, 4095)])], [], 1)]
def tc_12_163 : List tv_C := [(163, [(3, 11, 11), (1, (-2147483648), 2147483647), (1, (-2147483648), 2147483647)], [], [((1, 0, 0), []), ((1, 1, 1), [(2, 1, 11)])], [], 2)]
def tc_12_164 : List tv_C := [(164, [(3, 11, 11), (1, 1, 11), (1, 3, 12)], [], [((1, 1, 12), [])], [], 1)]
def tc_12_165 : List tv_C := [(165, [(3, 11, 11), (1, (-2147483648), 2147483647), (1, 1, 11), (1, 0, 11)], [(6, [(3, 11, 11), (1, (-2147483648), 2147483647), (1, 1, 11), (1, 0, 11), (1, 0, 4095), (1, 0, 12)], [(0, 0, 0), ((-1), 5, 12), (0, 0, 1000000), (0, 0, 0), (0, 0, 0)])], [((1, 0, 4095), [])], [], 2)]
def tc_12_166 : List tv_C := [(166, [(3, 11, 11), (1, (-2147483648), 2147483647), (1, (-2147483648), 2147483647)], [], [((1, 0, 0), []), ((1, 1, 1), [])], [], 1)]
def tc_12_167 : List tv_C := [(167, [(3, 11, 11), (1, (-2147483648), 2147483647), (1, (-2147483648), 2147483647)], [], [((1, (-2147483648), 2147483647), [])], [(11, 0)], 4)]
def tc_12_168 : List tv_C := [(168, [(3, 11, 11), (1, (-2147483648), 2147483647)], [], [((1, 0, 0), []), ((1, 1, 1), [(1, 0, 2)])], [], 1)]
def tc_12_169 : List tv_C := [(169, [(3, 11, 11), (1, (-2147483648), 2147483647), (1, (-2147483648), 2147483647)], [(5, [(3, 11, 11), (1, (-2147483648), 2147483647), (1, (-2147483648), 2147483647), (1, (-2147483648), 2147483647), (1, 1, 12), (0, 0, 0), (0, 0, 0)], [(0, 0, 0), ((-1), 4, 12), (0, 0, 1000000), (0, 0, 0), (0, 0, 0)]), (30, [(3, 11, 11), (1, (-2147483648), 2147483647), (1, (-2147483648), 2147483647), (1, (-2147483648), 2147483647), (1, 1, 11), (1, 0, 12), (0, 0, 0)], [(0, 0, 0), ((-1), 4, 12), (0, 0, 0), ((-1), 5, 12), (0, 0, 1000000)])], [((1, (-2147483648), 2147483647), [])], [], 3)]
def tc_12_170 : List tv_C := [(170, [(3, 11, 11), (1, (-2147483648), 2147483647), (1, (-2147483648), 2147483647), (1, (-2147483648), 2147483647)], [(41, [(3, 11, 11), (1, 0, 2), (1, 0, 4095), (1, 0, 2), (1, (-2147483648), 2147483647), (1, (-2147483648), 2147483647), (1, 1, 12), (0, 0, 0)], [(0, 0, 0), ((-1), 6, 12), (0, 0, 1000000), (0, 0, 0), (0, 0, 0)]), (66, [(3, 11, 11), (1, 0, 2), (1, 0, 4095), (1, 0, 2), (1, (-2147483648), 2147483647), (1, (-2147483648), 2147483647), (1, 1, 11), (1, 0, 12)], [(0, 0, 0), ((-1), 6, 12), (0, 0, 0), ((-1), 7, 12), (0, 0, 1000000)])], [((1, (-2147483648), 2147483647), [])], [(11, 0)], 4)]
def tc_12_171 : List tv_C := [(171, [(3, 11, 11), (1, (-2147483648), 2147483647), (1, (-2147483648), 2147483647), (1, (-2147483648), 2147483647)], [(3, [(3, 11, 11), (1, (-2147483648), 2147483647), (1, (-2147483648), 2147483647), (1, (-2147483648), 2147483647), (1, 0, 4096), (0, 0, 0), (0, 0, 0), (0, 0, 0)], [(0, 0, 1), ((-1), 4, 4096), (0, 0, 1000000), (0, 0, 0), (0, 0, 0)]), (31, [(3, 11, 11), (1, (-2147483648), 2147483647), (1, (-2147483648), 2147483647), (1, (-2147483648), 2147483647), (1, (-2147483648), 2147483647), (1, 1, 12), (0, 0, 0), (0, 0, 0)], [(0, 0, 0), ((-1), 5, 12), (0, 0, 1000000), (0, 0, 0), (0, 0, 0)]), (56, [(3, 11, 11), (1, (-2147483648), 2147483647), (1, (-2147483648), 2147483647), (1, (-2147483648), 2147483647), (1, (-2147483648), 2147483647), (1, 1, 11), (1, 0, 12), (0, 0, 0)], [(0, 0, 0), ((-1), 5, 12), (0, 0, 0), ((-1), 6, 12), (0, 0, 1000000)])], [((1, (-2147483648), 2147483647), [])], [], 3)]
def tc_12_172 : List tv_C := [(172, [(3, 11, 11), (1, (-2147483648), 2147483647), (1, (-2147483648), 2147483647)], [(21, [(3, 11, 11), (1, 0, 2), (1, 0, 12), (1, (-2147483648), 2147483647), (1, 0, 4096)], [(0, 0, 0), ((-1), 4, 4096), (0, 0, 1000000), (0, 0, 0), (0, 0, 0)])], [((1, (-2147483648), 2147483647), [])], [(11, 0)], 41)]
def tc_12_173 : List tv_C := [(173, [(3, 11, 11), (1, (-2147483648), 2147483647), (1, (-2147483648), 2147483647)], [], [((1, 0, 0), []), ((1, 1, 1), [(1, 0, 2), (2, 0, 12)])], [], 2)]
def tc_12_175 : List tv_C := [(175, [(3, 11, 11), (1, (-2147483648), 2147483647), (1, (-2147483648), 2147483647), (1, (-2147483648), 2147483647)], [(26, [(3, 11, 11), (1, 0, 2), (1, 0, 12), (1, 0, 2147483647), (1, (-2147483648), 2147483647), (1, 0, 4096)], [(0, 0, 0), ((-1), 5, 4096), (0, 0, 1000000), (0, 0, 0), (0, 0, 0)])], [((1, (-1), 4095), [])], [(11, 0)], 41)]
def tc_12_176 : List tv_C := [(176, [(3, 11, 11), (1, (-2147483648), 2147483647), (1, (-2147483648), 2147483647)], [], [((1, (-2147483648), 2147483647), [])], [(11, 0)], 3)]
def tc_12_177 : List tv_C := [(177, [(3, 11, 11), (1, (-2147483648), 2147483647), (1, (-2147483648), 2147483647)], [(5, [(3, 11, 11), (1, (-2147483648), 2147483647), (1, (-2147483648), 2147483647), (1, (-2147483648), 2147483647), (1, 0, 12), (0, 0, 0)], [(0, 0, 0), ((-1), 4, 12), (0, 0, 1000000), (0, 0, 0), (0, 0, 0)]), (20, [(3, 11, 11), (1, (-2147483648), 2147483647), (1, (-2147483648), 2147483647), (1, (-2147483648), 2147483647), (1, 0, 11), (1, 1, 12)], [(0, 0, 0), ((-1), 4, 12), (0, 0, 0), ((-1), 5, 12), (0, 0, 1000000)])], [((1, (-2147483648), 2147483647), [])], [], 2)]
def tc_12_178 : List tv_C := [(178, [(3, 11, 11), (1, 0, 11), (1, 1, 11)], [], [((1, (-10), 22), [])], [], 1)]
def tc_12_179 : List tv_C := [(179, [(3, 11, 11), (1, (-2147483648), 2147483647)], [(24, [(3, 11, 11), (1, 0, 4095), (1, (-2147483648), 2147483647), (1, 0, 4096), (0, 0, 0), (0, 0, 0)], [(0, 0, 0), ((-1), 3, 4096), (0, 0, 1000000), (0, 0, 0), (0, 0, 0)]), (61, [(3, 11, 11), (1, 0, 4095), (1, (-2147483648), 2147483647), (1, 0, 4095), (1, 0, 1), (1, 1, 7)], [(0, 0, 0), ((-1), 3, 4096), (0, 0, 0), ((-1), 5, 7), (0, 0, 1000000)])], [((1, (-1), 4095), [])], [(11, 0)], 41)]
def tc_12_180 : List tv_C := [(180, [(3, 11, 11), (1, (-2147483648), 2147483647), (1, (-2147483648), 2147483647), (1, (-2147483648), 2147483647)], [], [((1, (-2147483648), 2147483647), [])], [(11, 0)], 4)]
def tc_12_185 : List tv_C := [(185, [(3, 11, 11), (1, (-2147483648), 2147483647), (2, 0, 0)], [(21, [(3, 11, 11), (1, 0, 5), (2, 0, 0), (0, 0, 0), (1, (-2147483648), 2147483647), (1, 0, 12), (0, 0, 0)], [(0, 0, 1), ((-1), 5, 12), (0, 0, 1000000), (0, 0, 0), (0, 0, 0)]), (87, [(3, 11, 11), (1, 0, 5), (2, 0, 0), (0, 0, 0), (1, 4095, 4095), (1, 0, 12), (0, 0, 0)], [(0, 0, 0), ((-1), 5, 12), (0, 0, 1000000), (0, 0, 0), (0, 0, 0)])], [((1, 0, 0), []), ((1, 1, 1), [(1, 0, 5)])], [(11, 0)], 2)]
def tc_12_186 : List tv_C := [(186, [(3, 11, 11), (1, (-2147483648), 2147483647)], [], [((1, 0, 0), []), ((1, 1, 1), [(1, 0, 5)])], [], 1)]
def tc_12_187 : List tv_C := [(187, [(3, 11, 11), (1, (-2147483648), 2147483647), (1, (-2147483648), 2147483647), (1, (-2147483648), 2147483647), (1, (-2147483648), 2147483647)], [], [((1, (-11), 11), [])], [(11, 0)], 3)]
def tc_12_188 : List tv_C := [(188, [(3, 11, 11), (1, (-2147483648), 2147483647)], [], [((1, 0, 0), []), ((1, 1, 1), [(1, 0, 5)])], [], 2)]
def tc_12_189 : List tv_C := [(189, [(3, 11, 11), (1, (-2147483648), 2147483647)], [], [((1, 0, 0), []), ((1, 1, 1), [(1, 0, 3)])], [], 1)]
def tc_12_190 : List tv_C := [(190, [(3, 11, 11), (1, 0, 5), (1, (-2147483648), 2147483647), (1, (-2147483648), 2147483647), (1, 0, 11)], [], [((1, (-11), 11), [])], [], 2)]
def tc_12_191 : List tv_C := [(191, [(3, 11, 11), (1, (-2147483648), 2147483647), (1, (-2147483648), 2147483647), (1, (-2147483648), 2147483647)], [], [((1, (-11), 11), [])], [], 1)]
def tc_12_192 : List tv_C := [(192, [(3, 11, 11), (1, (-2147483648), 2147483647), (1, (-2147483648), 2147483647)], [(51, [(3, 11, 11), (1, 0, 5), (1, 0, 2), (1, (-2147483648), 2147483647), (1, (-2147483648), 2147483647), (1, 0, 72), (0, 0, 0), (0, 0, 0)], [(0, 0, 0), ((-1), 5, 72), (0, 0, 1000000), (0, 0, 0), (0, 0, 0)]), (96, [(3, 11, 11), (1, 0, 5), (1, 0, 2), (1, (-2147483648), 2147483647), (1, (-2147483648), 2147483647), (1, 0, 71), (1, 0, 1), (1, 0, 71)], [(0, 0, 0), ((-1), 5, 72), (0, 0, 0), ((-1), 7, 71), (0, 0, 1000000)])], [((1, (-2147483648), 2147483647), [])], [(11, 0)], 4)]
def tc_12_193 : List tv_C := [(193, [(3, 11, 11), (1, 0, 5)], [(4, [(3, 11, 11), (1, 0, 5), (1, (-2147483648), 2147483647), (1, 0, 11), (0, 0, 0)], [(0, 0, 0), ((-1), 3, 11), (0, 0, 1000000), (0, 0, 0), (0, 0, 0)])], [((1, 1, 1), []), ((1, 0, 0), [])], [], 2)]
def tc_12_194 : List tv_C := [(194, [(3, 11, 11), (1, 0, 5), (1, (-2147483648), 2147483647), (1, (-2147483648), 2147483647), (1, (-2147483648), 2147483647), (1, (-2147483648), 2147483647)], [(3, [(3, 11, 11), (1, 0, 5), (1, (-2147483648), 2147483647), (1, (-2147483648), 2147483647), (1, (-2147483648), 2147483647), (1, (-2147483648), 2147483647), (1, 0, 12)], [(0, 0, 0), ((-1), 6, 12), (0, 0, 1000000), (0, 0, 0), (0, 0, 0)])], [((1, 1, 1), []), ((1, 0, 0), [])], [], 3)]
def tc_12_195 : List tv_C := [(195, [(3, 11, 11), (1, (-2147483648), 2147483647), (1, (-2147483648), 2147483647)], [(38, [(3, 11, 11), (1, 0, 5), (1, 0, 3), (1, (-2147483648), 2147483647), (1, 0, 6), (0, 0, 0), (0, 0, 0), (0, 0, 0)], [(0, 0, 1), ((-1), 4, 6), (0, 0, 1000000), (0, 0, 0), (0, 0, 0)]), (78, [(3, 11, 11), (1, 0, 5), (1, 0, 3), (1, (-2147483648), 2147483647), (1, 0, 4095), (1, 0, 12), (0, 0, 0), (0, 0, 0)], [(0, 0, 0), ((-1), 5, 12), (0, 0, 1000000), (0, 0, 0), (0, 0, 0)]), (93, [(3, 11, 11), (1, 0, 5), (1, 0, 3), (1, (-2147483648), 2147483647), (1, 0, 4095), (1, 0, 11), (1, (-2147483648), 2147483647), (1, 0, 6)], [(0, 0, 0), ((-1), 5, 12), (0, 0, 0), ((-1), 7, 6), (0, 0, 1000000)])], [((1, (-1), 4095), [])], [(11, 0)], 3)]
def tc_12_197 : List tv_C := [(197, [(3, 11, 11)], [], [((1, 0, 4000), [])], [(11, 0), (11, 11), (11, 12)], 41)]
def tc_12_199 : List tv_C := [(199, [(3, 11, 11), (1, (-2147483648), 2147483647), (1, (-2147483648), 2147483647)], [(35, [(3, 11, 11), (1, 0, 5), (1, 0, 3999), (1, 0, 12)], [(0, 0, 0), ((-1), 3, 12), (0, 0, 1000000), (0, 0, 0), (0, 0, 0)])], [((1, 0, 0), []), ((1, 1, 1), [(1, 0, 5), (2, 0, 3999)])], [(11, 0), (11, 11), (11, 12)], 41)]
def tc_12_200 : List tv_C := [(200, [(3, 11, 11), (1, (-2147483648), 2147483647)], [(24, [(3, 11, 11), (1, 0, 5), (2, 0, 0), (0, 0, 0), (1, 0, 12)], [(0, 0, 1), ((-1), 4, 12), (0, 0, 1000000), (0, 0, 0), (0, 0, 0)]), (63, [(3, 11, 11), (1, 0, 5), (2, 0, 0), (0, 0, 0), (1, 0, 4000)], [(0, 0, 0), ((-1), 4, 4000), (0, 0, 1000000), (0, 0, 0), (0, 0, 0)])], [((1, (-1), 3999), [])], [(11, 0), (11, 11), (11, 12)], 41)]
def tc_12_202 : List tv_C := [(202, [(3, 11, 11), (1, (-2147483648), 2147483647), (1, (-2147483648), 2147483647)], [], [((1, 0, 0), []), ((1, 1, 1), [(1, 2, 24), (2, 1, 16777215)])], [], 1)]
def tc_12_205 : List tv_C := [(205, [(3, 11, 11), (1, (-2147483648), 2147483647), (1, (-2147483648), 2147483647), (1, (-2147483648), 2147483647)], [], [((1, (-2147483648), 2147483647), [])], [], 1)]
def tc_12_209 : List tv_C := [(209, [(3, 11, 11), (1, 2, 24), (1, (-2147483648), 2147483647)], [(2, [(3, 11, 11), (1, 2, 24), (1, (-2147483648), 2147483647), (1, 1, 24)], [(0, 0, 0), ((-1), 3, 24), (0, 0, 1000000), (0, 0, 0), (0, 0, 0)])], [((1, 1, 24), [])], [], 2)]
def tc_12_210 : List tv_C := [(210, [(3, 11, 11), (1, (-2147483648), 2147483647), (1, (-2147483648), 2147483647)], [], [((1, (-1), 24), [])], [(11, 0)], 3)]
def tc_12_211 : List tv_C := [(211, [(3, 11, 11), (1, (-2147483648), 2147483647)], [(42, [(3, 11, 11), (1, 0, 3), (1, (-2147483648), 2147483647), (1, 0, 52), (1, 0, 8), (0, 0, 0)], [(0, 0, 0), ((-1), 4, 8), (0, 0, 1000000), (0, 0, 0), (0, 0, 0)]), (54, [(3, 11, 11), (1, 0, 3), (1, (-2147483648), 2147483647), (1, 0, 52), (1, 0, 7), (1, 0, 7)], [(0, 0, 0), ((-1), 4, 8), (0, 0, 0), ((-1), 5, 7), (0, 0, 1000000)])], [((1, (-2147483648), 2147483647), [])], [(11, 0)], 42)]
def tc_12_212 : List tv_C := [(212, [(3, 11, 11), (1, 0, 7), (1, 0, 7)], [(5, [(3, 11, 11), (1, 0, 7), (1, 0, 7), (1, (-2147483648), 2147483647), (1, 0, 52)], [(0, 0, 0), ((-1), 4, 52), (0, 0, 1000000), (0, 0, 0), (0, 0, 0)])], [((1, (-2147483648), 2147483647), [])], [], 41)]
def tc_12_214 : List tv_C := [(214, [(3, 11, 11), (1, 0, 7), (1, 0, 11)], [], [((1, (-11), 11), [])], [], 2)]
def tc_12_215 : List tv_C := [(215, [(3, 11, 11), (1, (-2147483648), 2147483647), (1, (-2147483648), 2147483647)], [], [((1, (-2147483648), 2147483647), [])], [(11, 0)], 43)]
def tc_12_216 : List tv_C := [(216, [(3, 11, 11), (1, (-2147483648), 2147483647)], [], [((1, 0, 0), []), ((1, 1, 1), [(1, 0, 7)])], [], 1)]
def tc_12_217 : List tv_C := [(217, [(3, 11, 11), (1, 0, 7)], [(4, [(3, 11, 11), (1, 0, 7), (1, (-2147483648), 2147483647), (1, 0, 8)], [(0, 0, 0), ((-1), 3, 8), (0, 0, 1000000), (0, 0, 0), (0, 0, 0)])], [((1, (-2147483648), 2147483647), [])], [], 42)]
def tc_12_218 : List tv_C := [(218, [(3, 11, 11), (1, (-2147483648), 2147483647), (1, (-2147483648), 2147483647)], [], [((1, (-2147483648), 2147483647), [])], [(11, 0)], 41)]
def tc_12_219 : List tv_C := [(219, [(3, 11, 11), (1, (-2147483648), 2147483647)], [], [((1, 0, 0), []), ((1, 1, 1), [(1, 0, 51)])], [], 1)]
def tc_12_220 : List tv_C := [(220, [(3, 11, 11), (1, (-2147483648), 2147483647)], [(9, [(3, 11, 11), (1, (-2147483648), 2147483647), (1, (-2147483648), 2147483647), (1, 0, 8)], [(0, 0, 0), ((-1), 3, 8), (0, 0, 1000000), (0, 0, 0), (0, 0, 0)])], [((1, (-2147483648), 2147483647), [])], [(11, 0)], 41)]
def tc_12_221 : List tv_C := [(221, [(3, 11, 11), (1, (-2147483648), 2147483647), (1, (-2147483648), 2147483647)], [(33, [(3, 11, 11), (1, 0, 7), (1, 0, 40), (1, 0, 40), (1, (-2147483648), 2147483647), (1, 0, 41), (0, 0, 0)], [(0, 0, 0), ((-1), 5, 41), (0, 0, 1000000), (0, 0, 0), (0, 0, 0)])], [((1, (-2147483648), 2147483647), [])], [(11, 0)], 43)]
def tc_12_222 : List tv_C := [(222, [(3, 11, 11), (1, (-2147483648), 2147483647), (1, (-2147483648), 2147483647)], [(25, [(3, 11, 11), (1, 0, 7), (1, 0, 5), (1, 0, 12)], [(0, 0, 0), ((-1), 3, 12), (0, 0, 1000000), (0, 0, 0), (0, 0, 0)])], [((1, 0, 0), []), ((1, 1, 1), [(1, 0, 7), (2, 0, 5)])], [(11, 0)], 3)]
def tc_12_225 : List tv_C := [(225, [(3, 11, 11), (1, (-2147483648), 2147483647)], [], [((1, (-1), 800), [])], [(11, 0), (11, 32)], 1)]
def tc_12_226 : List tv_C := [(226, [(3, 11, 11)], [(31, [(3, 11, 11), (1, 0, 800)], [(0, 0, 0), ((-1), 1, 800), (0, 0, 1000000), (0, 0, 0), (0, 0, 0)])], [((1, 0, 800), [])], [(11, 0), (11, 32)], 1)]
def tc_12_227 : List tv_C := [(227, [(3, 11, 11), (1, (-2147483648), 2147483647)], [], [((1, (-2147483648), 2147483647), [])], [(11, 0)], 1)]
def tc_12_232 : List tv_C := [(232, [(3, 11, 11)], [(49, [(3, 11, 11), (1, 1, 1), (1, 0, 6), (0, 0, 0)], [(0, 0, 1), ((-1), 2, 6), (0, 0, 1000000), (0, 0, 0), (0, 0, 0)]), (71, [(3, 11, 11), (1, 1, 1), (1, 0, 5), (1, 0, 12)], [(0, 0, 1), ((-1), 2, 6), (0, 0, 0), ((-1), 3, 12), (0, 0, 1000000)]), (115, [(3, 11, 11), (1, 1, 1), (1, 0, 8), (0, 0, 0)], [(0, 0, 0), ((-1), 2, 8), (0, 0, 1000000), (0, 0, 0), (0, 0, 0)])], [((1, (-1), 8), [])], [(11, 0), (11, 23), (11, 26), (11, 32), (11, 35), (11, 36), (11, 37), (11, 38), (11, 39), (11, 40), (11, 41), (11, 42)], 41)]
def tc_12_243 : List tv_C := [(243, [(3, 11, 11), (1, (-2147483648), 2147483647)], [], [((1, (-2147483648), 2147483647), [])], [(11, 0)], 1)]
def tc_l12 : List (Nat × List tv_C) := [(2, tc_12_2), (4, tc_12_4), (5, tc_12_5), (6, tc_12_6), (7, tc_12_7), (8, tc_12_8), (9, tc_12_9), (10, tc_12_10), (11, tc_12_11), (12, tc_12_12), (13, tc_12_13), (14, tc_12_14), (15, tc_12_15), (16, tc_12_16), (17, tc_12_17), (18, tc_12_18), (19, tc_12_19), (20, tc_12_20), (22, tc_12_22), (23, tc_12_23), (24, tc_12_24), (26, tc_12_26), (27, tc_12_27), (28, tc_12_28), (29, tc_12_29), (30, tc_12_30), (31, tc_12_31), (32, tc_12_32), (33, tc_12_33), (34, tc_12_34), (35, tc_12_35), (36, tc_12_36), (37, tc_12_37), (38, tc_12_38), (39, tc_12_39), (40, tc_12_40), (41, tc_12_41), (42, tc_12_42), (43, tc_12_43), (44, tc_12_44), (45, tc_12_45), (46, tc_12_46), (47, tc_12_47), (48, tc_12_48), (49, tc_12_49), (50, tc_12_50), (51, tc_12_51), (52, tc_12_52), (53, tc_12_53), (54, tc_12_54), (55, tc_12_55), (56, tc_12_56), (57, tc_12_57), (58, tc_12_58), (59, tc_12_59), (60, tc_12_60), (63, tc_12_63), (65, tc_12_65), (66, tc_12_66), (68, tc_12_68), (69, tc_12_69), (70, tc_12_70), (71, tc_12_71), (72, tc_12_72), (75, tc_12_75), (76, tc_12_76), (77, tc_12_77), (78, tc_12_78), (79, tc_12_79), (80, tc_12_80), (81, tc_12_81), (82, tc_12_82), (83, tc_12_83), (84, tc_12_84), (86, tc_12_86), (87, tc_12_87), (88, tc_12_88), (89, tc_12_89), (90, tc_12_90), (91, tc_12_91), (92, tc_12_92), (93, tc_12_93), (94, tc_12_94), (95, tc_12_95), (96, tc_12_96), (97, tc_12_97), (98, tc_12_98), (100, tc_12_100), (101, tc_12_101), (102, tc_12_102), (103, tc_12_103), (112, tc_12_112), (113, tc_12_113), (114, tc_12_114), (115, tc_12_115), (116, tc_12_116), (117, tc_12_117), (118, tc_12_118), (119, tc_12_119), (120, tc_12_120), (121, tc_12_121), (122, tc_12_122), (128, tc_12_128), (129, tc_12_129), (130, tc_12_130), (131, tc_12_131), (132, tc_12_132), (133, tc_12_133), (134, tc_12_134), (135, tc_12_135), (136, tc_12_136), (137, tc_12_137), (138, tc_12_138), (139, tc_12_139), (140, tc_12_140), (141, tc_12_141), (142, tc_12_142), (143, tc_12_143), (144, tc_12_144), (145, tc_12_145), (146, tc_12_146), (147, tc_12_147), (148, tc_12_148), (149, tc_12_149), (150, tc_12_150), (151, tc_12_151), (152, tc_12_152), (153, tc_12_153), (154, tc_12_154), (155, tc_12_155), (156, tc_12_156), (157, tc_12_157), (158, tc_12_158), (161, tc_12_161), (162, tc_12_162), (163, tc_12_163), (164, tc_12_164), (165, tc_12_165), (166, tc_12_166), (167, tc_12_167), (168, tc_12_168), (169, tc_12_169), (170, tc_12_170), (171, tc_12_171), (172, tc_12_172), (173, tc_12_173), (175, tc_12_175), (176, tc_12_176), (177, tc_12_177), (178, tc_12_178), (179, tc_12_179), (180, tc_12_180), (185, tc_12_185), (186, tc_12_186), (187, tc_12_187), (188, tc_12_188), (189, tc_12_189), (190, tc_12_190), (191, tc_12_191), (192, tc_12_192), (193, tc_12_193), (194, tc_12_194), (195, tc_12_195), (197, tc_12_197), (199, tc_12_199), (200, tc_12_200), (202, tc_12_202), (205, tc_12_205), (209, tc_12_209), (210, tc_12_210), (211, tc_12_211), (212, tc_12_212), (214, tc_12_214), (215, tc_12_215), (216, tc_12_216), (217, tc_12_217), (218, tc_12_218), (219, tc_12_219), (220, tc_12_220), (221, tc_12_221), (222, tc_12_222), (225, tc_12_225), (226, tc_12_226), (227, tc_12_227), (232, tc_12_232), (243, tc_12_243)]
def tc_x12 (j : Nat) : List tv_C := tc_lk j tc_l12 ++ tc_h j
set_option maxRecDepth 100000 in
set_option maxHeartbeats 4000000 in
theorem tc_k12_0 : (List.take 25 tc_l12).all (fun q => q.2.all (tv_ck (tc_T 12) tc_x12 400)) = true := by decide +kernel
set_option maxRecDepth 100000 in
set_option maxHeartbeats 4000000 in
theorem tc_k12_25 : (List.take 25 (List.drop 25 tc_l12)).all (fun q => q.2.all (tv_ck (tc_T 12) tc_x12 400)) = true := by decide +kernel
set_option maxRecDepth 100000 in
set_option maxHeartbeats 4000000 in
theorem tc_k12_50 : (List.take 25 (List.drop 25 (List.drop 25 tc_l12))).all (fun q => q.2.all (tv_ck (tc_T 12) tc_x12 400)) = true := by decide +kernel
set_option maxRecDepth 100000 in
set_option maxHeartbeats 4000000 in
theorem tc_k12_75 : (List.take 25 (List.drop 25 (List.drop 25 (List.drop 25 tc_l12)))).all (fun q => q.2.all (tv_ck (tc_T 12) tc_x12 400)) = true := by decide +kernel
set_option maxRecDepth 100000 in
set_option maxHeartbeats 4000000 in
theorem tc_k12_100 : (List.take 25 (List.drop 25 (List.drop 25 (List.drop 25 (List.drop 25 tc_l12))))).all (fun q => q.2.all (tv_ck (tc_T 12) tc_x12 400)) = true := by decide +kernel
set_option maxRecDepth 100000 in
set_option maxHeartbeats 4000000 in
theorem tc_k12_125 : (List.take 25 (List.drop 25 (List.drop 25 (List.drop 25 (List.drop 25 (List.drop 25 tc_l12)))))).all (fun q => q.2.all (tv_ck (tc_T 12) tc_x12 400)) = true := by decide +kernel
set_option maxRecDepth 100000 in
set_option maxHeartbeats 4000000 in
theorem tc_k12_150 : (List.take 25 (List.drop 25 (List.drop 25 (List.drop 25 (List.drop 25 (List.drop 25 (List.drop 25 tc_l12))))))).all (fun q => q.2.all (tv_ck (tc_T 12) tc_x12 400)) = true := by decide +kernel
set_option maxRecDepth 100000 in
set_option maxHeartbeats 4000000 in
theorem tc_k12_175 : (List.take 25 (List.drop 25 (List.drop 25 (List.drop 25 (List.drop 25 (List.drop 25 (List.drop 25 (List.drop 25 tc_l12)))))))).all (fun q => q.2.all (tv_ck (tc_T 12) tc_x12 400)) = true := by decide +kernel
set_option maxRecDepth 100000 in
set_option maxHeartbeats 4000000 in
theorem tc_c12 : tc_ok (tc_T 12) tc_x12 tc_l12 = true := (tc_spl 25 tc_k12_0 (tc_spl 25 tc_k12_25 (tc_spl 25 tc_k12_50 (tc_spl 25 tc_k12_75 (tc_spl 25 tc_k12_100 (tc_spl 25 tc_k12_125 (tc_spl 25 tc_k12_150 (tc_spl 25 tc_k12_175 (by decide +kernel)))))))))
end
section
theorem tm_m0 {α : Type} {a : α} {l : List α} : a ∈ a :: l := List.mem_cons_self
theorem tm_m1 {α : Type} {x0 a : α} {l : List α} : a ∈ x0 ::  a :: l := List.mem_cons_of_mem _ tm_m0
theorem tm_m2 {α : Type} {x0 x1 a : α} {l : List α} : a ∈ x0 :: x1 ::  a :: l := List.mem_cons_of_mem _ tm_m1
theorem tm_m3 {α : Type} {x0 x1 x2 a : α} {l : List α} : a ∈ x0 :: x1 :: x2 ::  a :: l := List.mem_cons_of_mem _ tm_m2
theorem tm_m4 {α : Type} {x0 x1 x2 x3 a : α} {l : List α} : a ∈ x0 :: x1 :: x2 :: x3 ::  a :: l := List.mem_cons_of_mem _ tm_m3
theorem tm_m5 {α : Type} {x0 x1 x2 x3 x4 a : α} {l : List α} : a ∈ x0 :: x1 :: x2 :: x3 :: x4 ::  a :: l := List.mem_cons_of_mem _ tm_m4
theorem tm_m6 {α : Type} {x0 x1 x2 x3 x4 x5 a : α} {l : List α} : a ∈ x0 :: x1 :: x2 :: x3 :: x4 :: x5 ::  a :: l := List.mem_cons_of_mem _ tm_m5
theorem tm_m7 {α : Type} {x0 x1 x2 x3 x4 x5 x6 a : α} {l : List α} : a ∈ x0 :: x1 :: x2 :: x3 :: x4 :: x5 :: x6 ::  a :: l := List.mem_cons_of_mem _ tm_m6
theorem tm_m8 {α : Type} {x0 x1 x2 x3 x4 x5 x6 x7 a : α} {l : List α} : a ∈ x0 :: x1 :: x2 :: x3 :: x4 :: x5 :: x6 :: x7 ::  a :: l := List.mem_cons_of_mem _ tm_m7
theorem tm_m9 {α : Type} {x0 x1 x2 x3 x4 x5 x6 x7 x8 a : α} {l : List α} : a ∈ x0 :: x1 :: x2 :: x3 :: x4 :: x5 :: x6 :: x7 :: x8 ::  a :: l := List.mem_cons_of_mem _ tm_m8
theorem tm_m10 {α : Type} {x0 x1 x2 x3 x4 x5 x6 x7 x8 x9 a : α} {l : List α} : a ∈ x0 :: x1 :: x2 :: x3 :: x4 :: x5 :: x6 :: x7 :: x8 :: x9 ::  a :: l := List.mem_cons_of_mem _ tm_m9
theorem tm_m11 {α : Type} {x0 x1 x2 x3 x4 x5 x6 x7 x8 x9 x10 a : α} {l : List α} : a ∈ x0 :: x1 :: x2 :: x3 :: x4 :: x5 :: x6 :: x7 :: x8 :: x9 :: x10 ::  a :: l := List.mem_cons_of_mem _ tm_m10
theorem tm_m12 {α : Type} {x0 x1 x2 x3 x4 x5 x6 x7 x8 x9 x10 x11 a : α} {l : List α} : a ∈ x0 :: x1 :: x2 :: x3 :: x4 :: x5 :: x6 :: x7 :: x8 :: x9 :: x10 :: x11 ::  a :: l := List.mem_cons_of_mem _ tm_m11
theorem tm_m13 {α : Type} {x0 x1 x2 x3 x4 x5 x6 x7 x8 x9 x10 x11 x12 a : α} {l : List α} : a ∈ x0 :: x1 :: x2 :: x3 :: x4 :: x5 :: x6 :: x7 :: x8 :: x9 :: x10 :: x11 :: x12 ::  a :: l := List.mem_cons_of_mem _ tm_m12
theorem th_nI {j : Nat} {x : Int32} (h : tt_r j = some .int) : ∀ ty, tt_r j = some ty → narrow ty (.int x) = .int x := by
  intro ty ht
  rw [h] at ht
  cases ht
  rfl
theorem th_nT {j : Nat} {x : Int32} (t : FieldType) (h : tt_r j = some t) (hx : narrow t (.int x) = .int x) : ∀ ty, tt_r j = some ty → narrow ty (.int x) = .int x := by
  intro ty ht
  rw [h] at ht
  cases ht
  exact hx
theorem th_n1 {j : Nat} (h : tt_r j = some .boolean) : ∀ ty, tt_r j = some ty → narrow ty (.int 1) = .int 1 := th_nT .boolean h rfl
theorem th_n0 {j : Nat} (h : tt_r j = some .boolean) : ∀ ty, tt_r j = some ty → narrow ty (.int 0) = .int 0 := th_nT .boolean h rfl
/-- the answer is v, the store as it was -/
def th_is (v : Value) (σ : tm_S) (r : Option Value) (σ' : tm_S) : Prop := r = some v ∧ σ = σ'

set_option maxRecDepth 100000 in
set_option maxHeartbeats 4000000 in
theorem th_coder {d : Nat} {σ : tm_S} {q : Nat} (hq : q < tt_NS) : WM d 106 [.ref (tt_ST + q)] σ (th_is (.int 0) σ) := by
  show WP d 106 0 [(0, .ref (tt_ST + q))] [] σ _
  refine wp_gsC rfl ?_
  refine wq_ifeq rfl (fun h3 => absurd h3 (by decide)) (fun h3 => ?_)
  refine wp_lda rfl tm_m0 ?_
  refine wp_sfC rfl hq ?_
  refine wp_go rfl ?_
  exact wp_reti rfl (th_nT .byte rfl rfl) ⟨rfl, rfl⟩
set_option maxRecDepth 100000 in
set_option maxHeartbeats 4000000 in
theorem th_isL {d : Nat} {σ : tm_S} {q : Nat} (hq : q < tt_NS) : WM d 108 [.ref (tt_ST + q)] σ (th_is (.int 1) σ) := by
  show WP d 108 0 [(0, .ref (tt_ST + q))] [] σ _
  refine wp_gsC rfl ?_
  refine wq_ifeq rfl (fun h3 => absurd h3 (by decide)) (fun h3 => ?_)
  refine wp_lda rfl tm_m0 ?_
  refine wp_sfC rfl hq ?_
  refine wq_ifne rfl (fun h10 => absurd rfl h10) (fun h10 => ?_)
  refine wq_con (x := 1) rfl (by decide) ?_
  refine wp_go rfl ?_
  exact wp_reti rfl (th_nT .boolean rfl rfl) ⟨rfl, rfl⟩
theorem th_sh0 (x : Int32) : x >>> ((0 : Int32) &&& 31) = x := by
  apply Int32.toInt_inj.mp
  rw [tn_shr]
  show x.toInt / ((1 : Nat) : Int) = x.toInt
  omega
set_option maxRecDepth 100000 in
set_option maxHeartbeats 4000000 in
theorem th_len {d : Nat} {σ : tm_S} {q : Nat} (hq : q < tt_NS) : WM (d + 1) 105 [.ref (tt_ST + q)] σ (th_is (.int (Int32.ofNat (tt_len.getD q 0))) σ) := by
  show WP (d + 1) 105 0 [(0, .ref (tt_ST + q))] [] σ _
  refine wp_lda rfl tm_m0 ?_
  refine wp_sfV rfl hq ?_
  refine wp_slen rfl hq ?_
  refine wp_lda rfl tm_m0 ?_
  refine wq_calS [] rfl rfl rfl rfl rfl rfl rfl hq (th_coder hq) ?_
  rintro _ _ ⟨rfl, rfl⟩
  refine wq_ishr rfl ?_
  rw [th_sh0]
  exact wp_reti rfl (th_nI rfl) ⟨rfl, rfl⟩
set_option maxRecDepth 100000 in
set_option maxHeartbeats 4000000 in
theorem th_ck0 {d : Nat} {σ : tm_S} {i n : Int32} (hi0 : ¬ i < 0) (hi1 : i < n) : WM d 111 [.int i, .int n, .null] σ (th_is (.int i) σ) := by
  show WP d 111 0 [(0, .int i), (1, .int n), (2, .null)] [] σ _
  refine wp_ldi rfl tm_m0 ?_
  refine wq_iflt rfl (fun h1 => absurd h1 hi0) (fun h1 => ?_)
  refine wp_ldi rfl tm_m0 ?_
  refine wp_ldi rfl tm_m1 ?_
  refine wq_iclt rfl (fun h6 => ?_) (fun h6 => absurd hi1 h6)
  refine wp_ldi rfl tm_m0 ?_
  exact wp_reti rfl (th_nI rfl) ⟨rfl, rfl⟩
set_option maxRecDepth 100000 in
set_option maxHeartbeats 4000000 in
theorem th_ck1 {d : Nat} {σ : tm_S} {i n : Int32} (hi0 : ¬ i < 0) (hi1 : i < n) : WM d 111 [.int i, .int n, .ref tt_XQ] σ (th_is (.int i) σ) := by
  show WP d 111 0 [(0, .int i), (1, .int n), (2, .ref tt_XQ)] [] σ _
  refine wp_ldi rfl tm_m0 ?_
  refine wq_iflt rfl (fun h1 => absurd h1 hi0) (fun h1 => ?_)
  refine wp_ldi rfl tm_m0 ?_
  refine wp_ldi rfl tm_m1 ?_
  refine wq_iclt rfl (fun h6 => ?_) (fun h6 => absurd hi1 h6)
  refine wp_ldi rfl tm_m0 ?_
  exact wp_reti rfl (th_nI rfl) ⟨rfl, rfl⟩
def th_un (σ : tm_S) (r : Option Value) (σ' : tm_S) : Prop := r = none ∧ σ = σ'
set_option maxRecDepth 100000 in
set_option maxHeartbeats 4000000 in
theorem th_ckS {d : Nat} {σ : tm_S} {i n : Int32} (h0 : ¬ i < 0) (h1 : i < n) : WM (d + 1) 110 [.int i, .int n] σ (th_un σ) := by
  show WP (d + 1) 110 0 [(0, .int i), (1, .int n)] [] σ _
  refine wp_ldi rfl tm_m0 ?_
  refine wp_ldi rfl tm_m1 ?_
  refine wp_gsQ rfl ?_ ?_
  · refine wq_cals [.int i, .int n, .null] rfl rfl rfl rfl rfl rfl (th_ck0 h0 h1) ?_
    rintro _ _ ⟨rfl, rfl⟩
    refine wp_pop rfl rfl ?_
    exact wp_retv rfl ⟨rfl, rfl⟩
  · refine wq_cals [.int i, .int n, .ref tt_XQ] rfl rfl rfl rfl rfl rfl (th_ck1 h0 h1) ?_
    rintro _ _ ⟨rfl, rfl⟩
    refine wp_pop rfl rfl ?_
    exact wp_retv rfl ⟨rfl, rfl⟩
def th_chr (q : Nat) (i : Int32) : Int32 := (((tt_byt.getD q []).getD i.toNatClampNeg 0 &&& 255).toUInt32 % 65536).toInt32
theorem th_lt {i : Int32} {n : Nat} (hn : n ≤ 2147483647) (h : vp_in i n) : i < Int32.ofNat n := by
  have h1 := vp_in_iff.mp h
  rw [Int32.lt_iff_toInt_lt, tn_ofNat hn]
  exact h1.2
theorem th_n0' {i : Int32} {n : Nat} (h : vp_in i n) : ¬ i < 0 := fun e => h (Or.inl e)
theorem th_sln {q : Nat} : tt_len.getD q 0 ≤ 2147483647 := by
  have h : ∀ x ∈ tt_len, x ≤ 2147483647 := by decide +kernel
  rw [List.getD_eq_getElem?_getD]
  cases e : tt_len[q]? with
  | none => decide
  | some x => exact h x (List.mem_of_getElem? e)
set_option maxRecDepth 100000 in
set_option maxHeartbeats 4000000 in
theorem th_cL {d : Nat} {σ : tm_S} {q : Nat} (hq : q < tt_NS) {i : Int32} (hi : vp_in i (tt_len.getD q 0)) : WM (d + 2) 109 [.ref (tt_SV + q), .int i] σ (th_is (.int (th_chr q i)) σ) := by
  show WP (d + 2) 109 0 [(0, .ref (tt_SV + q)), (1, .int i)] [] σ _
  refine wp_ldi rfl tm_m1 ?_
  refine wp_lda rfl tm_m0 ?_
  refine wp_slen rfl hq ?_
  refine wq_cals [.int i, .int (Int32.ofNat (tt_len.getD q 0))] rfl rfl rfl rfl rfl rfl (th_ckS (th_n0' hi) (th_lt th_sln hi)) ?_
  rintro _ _ ⟨rfl, rfl⟩
  refine wp_lda rfl tm_m0 ?_
  refine wp_ldi rfl tm_m1 ?_
  refine wp_sald rfl hq (hi) ?_
  refine wq_con (x := 255) rfl (by decide) ?_
  refine wq_iand rfl ?_
  refine wp_i2c rfl ?_
  exact wp_reti rfl (th_nT .char rfl (pk_nc _)) ⟨rfl, rfl⟩
set_option maxRecDepth 100000 in
set_option maxHeartbeats 4000000 in
theorem th_chA {d : Nat} {σ : tm_S} {q : Nat} (hq : q < tt_NS) {i : Int32} (hi : vp_in i (tt_len.getD q 0)) : WM (d + 3) 107 [.ref (tt_ST + q), .int i] σ (th_is (.int (th_chr q i)) σ) := by
  show WP (d + 3) 107 0 [(0, .ref (tt_ST + q)), (1, .int i)] [] σ _
  refine wp_lda rfl tm_m0 ?_
  refine wq_calS [] rfl rfl rfl rfl rfl rfl rfl hq (th_isL hq) ?_
  rintro _ _ ⟨rfl, rfl⟩
  refine wq_ifeq rfl (fun h4 => absurd h4 (by decide)) (fun h4 => ?_)
  refine wp_lda rfl tm_m0 ?_
  refine wp_sfV rfl hq ?_
  refine wp_ldi rfl tm_m1 ?_
  refine wq_cals [.ref (tt_SV + q), .int i] rfl rfl rfl rfl rfl rfl (th_cL hq hi) ?_
  rintro _ _ ⟨rfl, rfl⟩
  exact wp_reti rfl (th_nT .char rfl (pk_nc _)) ⟨rfl, rfl⟩
end
section
/-! ===== small methods by hand ===== -/
def th_b0 (x : Int32) : Int32 := x - ((x.toUInt32 >>> (Int32.toUInt32 1 &&& Int32.toUInt32 31)).toInt32 &&& 1431655765)
def th_b1 (x : Int32) : Int32 := (x &&& 858993459) + ((x.toUInt32 >>> (Int32.toUInt32 2 &&& Int32.toUInt32 31)).toInt32 &&& 858993459)
def th_b2 (x : Int32) : Int32 := (x + (x.toUInt32 >>> (Int32.toUInt32 4 &&& Int32.toUInt32 31)).toInt32) &&& 252645135
def th_b3 (x : Int32) : Int32 := x + (x.toUInt32 >>> (Int32.toUInt32 8 &&& Int32.toUInt32 31)).toInt32
def th_b4 (x : Int32) : Int32 := x + (x.toUInt32 >>> (Int32.toUInt32 16 &&& Int32.toUInt32 31)).toInt32
def th_bit (x : Int32) : Int32 := th_b4 (th_b3 (th_b2 (th_b1 (th_b0 x)))) &&& 63
theorem th_bitCount {d : Nat} {σ : tm_S} {Q : Option Value → tm_S → Prop} (x : Int32) (h : Q (some (.int (th_bit x))) σ) : WM d 25 [.int x] σ Q := by
  show WP d 25 0 [(0, .int x)] [] σ Q
  refine wp_ldi rfl tm_m0 ?_
  refine wp_ldi rfl tm_m0 ?_
  refine wq_con (x := 1) rfl (by decide) ?_
  refine wq_iushr rfl ?_
  refine wq_con (x := 1431655765) rfl (by decide) ?_
  refine wq_iand rfl ?_
  refine wq_isub rfl ?_
  refine wq_sti [(0, .int (th_b0 x))] rfl rfl ?_
  refine wp_ldi rfl tm_m0 ?_
  refine wq_con (x := 858993459) rfl (by decide) ?_
  refine wq_iand rfl ?_
  refine wp_ldi rfl tm_m0 ?_
  refine wq_con (x := 2) rfl (by decide) ?_
  refine wq_iushr rfl ?_
  refine wq_con (x := 858993459) rfl (by decide) ?_
  refine wq_iand rfl ?_
  refine wq_iadd rfl ?_
  refine wq_sti [(0, .int (th_b1 (th_b0 x)))] rfl rfl ?_
  refine wp_ldi rfl tm_m0 ?_
  refine wp_ldi rfl tm_m0 ?_
  refine wq_con (x := 4) rfl (by decide) ?_
  refine wq_iushr rfl ?_
  refine wq_iadd rfl ?_
  refine wq_con (x := 252645135) rfl (by decide) ?_
  refine wq_iand rfl ?_
  refine wq_sti [(0, .int (th_b2 (th_b1 (th_b0 x))))] rfl rfl ?_
  refine wp_ldi rfl tm_m0 ?_
  refine wp_ldi rfl tm_m0 ?_
  refine wq_con (x := 8) rfl (by decide) ?_
  refine wq_iushr rfl ?_
  refine wq_iadd rfl ?_
  refine wq_sti [(0, .int (th_b3 (th_b2 (th_b1 (th_b0 x)))))] rfl rfl ?_
  refine wp_ldi rfl tm_m0 ?_
  refine wp_ldi rfl tm_m0 ?_
  refine wq_con (x := 16) rfl (by decide) ?_
  refine wq_iushr rfl ?_
  refine wq_iadd rfl ?_
  refine wq_sti [(0, .int (th_b4 (th_b3 (th_b2 (th_b1 (th_b0 x))))))] rfl rfl ?_
  refine wp_ldi rfl tm_m0 ?_
  refine wq_con (x := 63) rfl (by decide) ?_
  refine wq_iand rfl ?_
  exact wp_reti rfl (fun ty ht => by cases ht; rfl) h
end
section
/-! ===== methods by hand, with loops ===== -/
theorem tn_1 : (1 : Int32).toInt = 1 := by decide
theorem tn_2 : (2 : Int32).toInt = 2 := by decide
theorem tn_add1 {x : Int32} (h : x.toInt < 2147483647) : (x + 1).toInt = x.toInt + 1 := by
  have h1 := (tn_rng x).1
  rw [tn_add (by rw [tn_1]; omega) (by rw [tn_1]; omega), tn_1]
theorem tn_dbl {x : Int32} (h0 : 0 ≤ x.toInt) (h : x.toInt ≤ 1000000) : (2 * x + 1).toInt = 2 * x.toInt + 1 := by
  have e : (2 * x).toInt = 2 * x.toInt := by rw [tn_mul (by rw [tn_2]; omega) (by rw [tn_2]; omega), tn_2]
  rw [tn_add1 (by rw [e]; omega), e]
theorem tn_leI {x y : Int32} : x ≤ y ↔ x.toInt ≤ y.toInt := Int32.le_iff_toInt_le
theorem tn_ltI {x y : Int32} : x < y ↔ x.toInt < y.toInt := Int32.lt_iff_toInt_lt
theorem tn_dec {x : Int32} (h : ¬ x = 0) : (x &&& (x - 1)).toBitVec.toNat < x.toBitVec.toNat := by
  have h1 : x.toBitVec.toNat ≠ 0 := fun e => h (Int32.toBitVec_inj.mp (BitVec.eq_of_toNat_eq e))
  have h2 := tn_lt x
  rw [tn_and]
  have e : (x - 1).toBitVec.toNat = x.toBitVec.toNat - 1 := by
    rw [Int32.toBitVec_sub, BitVec.toNat_sub]
    show (2 ^ 32 - 1 + x.toBitVec.toNat) % 2 ^ 32 = _
    omega
  rw [e]
  exact Nat.lt_of_le_of_lt Nat.and_le_right (by omega)
set_option maxRecDepth 100000 in
set_option maxHeartbeats 4000000 in
theorem th_ones_l {d : Nat} {σ : tm_S} {s : Int32} : ∀ (n : Nat) (k x : Int32), x.toBitVec.toNat ≤ n → WP d 174 4 [(3, .int x), (2, .int k), (0, .ref 11), (1, .int s)] [] σ (fun r σ' => (∃ z : Int32, r = some (.int z)) ∧ σ = σ') := by
  intro n
  induction n with
  | zero =>
    intro k x hx
    refine wp_ldi rfl tm_m0 ?_
    refine wq_ifeq rfl (fun h5 => ?_) (fun h5 => absurd (Int32.toBitVec_inj.mp (BitVec.eq_of_toNat_eq (Nat.le_zero.mp hx))) h5)
    refine wp_ldi rfl tm_m1 ?_
    exact wp_reti rfl (th_nI rfl) ⟨⟨_, rfl⟩, rfl⟩
  | succ n ih =>
    intro k x hx
    refine wp_ldi rfl tm_m0 ?_
    refine wq_ifeq rfl (fun h5 => ?_) (fun h5 => ?_)
    · refine wp_ldi rfl tm_m1 ?_
      exact wp_reti rfl (th_nI rfl) ⟨⟨_, rfl⟩, rfl⟩
    · refine wp_ldi rfl tm_m1 ?_
      refine wq_con (x := 1) rfl (by decide) ?_
      refine wq_iadd rfl ?_
      refine wq_sti [(2, .int (k + 1)), (3, .int x), (0, .ref 11), (1, .int s)] rfl rfl ?_
      refine wp_ldi rfl tm_m1 ?_
      refine wp_ldi rfl tm_m1 ?_
      refine wq_con (x := 1) rfl (by decide) ?_
      refine wq_isub rfl ?_
      refine wq_iand rfl ?_
      refine wq_sti [(3, .int (x &&& (x - 1))), (2, .int (k + 1)), (0, .ref 11), (1, .int s)] rfl rfl ?_
      refine wp_go rfl ?_
      exact WP.less (ih (k + 1) (x &&& (x - 1)) (Nat.le_of_lt_succ (Nat.lt_of_lt_of_le (tn_dec h5) hx))) (by simp)
set_option maxRecDepth 100000 in
set_option maxHeartbeats 4000000 in
theorem th_ones {d : Nat} {σ : tm_S} {s : Int32} : WM d 174 [.ref 11, .int s] σ (fun r σ' => (∃ z : Int32, r = some (.int z)) ∧ σ = σ') := by
  show WP d 174 0 [(0, .ref 11), (1, .int s)] [] σ _
  refine wq_con (x := 0) rfl (by decide) ?_
  refine wq_sti [(2, .int 0), (0, .ref 11), (1, .int s)] rfl rfl ?_
  refine wp_ldi rfl tm_m2 ?_
  refine wq_sti [(3, .int s), (2, .int 0), (0, .ref 11), (1, .int s)] rfl rfl ?_
  exact WP.less (th_ones_l (s := s) _ 0 s (Nat.le_refl _)) (by simp)
set_option maxRecDepth 100000 in
set_option maxHeartbeats 4000000 in
theorem th_sink_l {d : Nat} {I : tm_S → Prop} (hI : ∀ σ k x, I σ → I (tm_sI σ 28 k x)) {va tp sz : Int32} (hsz : sz.toInt ≤ 6561) : ∀ (n : Nat) (at_ ch : Int32) (σ : tm_S), I σ → 0 ≤ at_.toInt → at_.toInt ≤ 6560 → 0 ≤ ch.toInt → 6561 ≤ ch.toInt + n → WP d 85 17 [(5, .int ch), (4, .int at_), (3, .int va), (0, .ref 5), (1, .int tp), (2, .int sz)] [] σ (fun r σ' => r = none ∧ I σ') := by
  have fin : ∀ (at_ ch : Int32) (σ : tm_S), I σ → 0 ≤ at_.toInt → at_.toInt ≤ 6560 → WP d 85 96 [(5, .int ch), (4, .int at_), (3, .int va), (0, .ref 5), (1, .int tp), (2, .int sz)] [] σ (fun r σ' => r = none ∧ I σ') := by
    intro at_ ch σ hσ h1 h2
    refine wp_lda rfl tm_m3 ?_
    refine wq_getr (p := 28) rfl rfl (f := 0) rfl rfl ?_
    refine wp_ldi rfl tm_m1 ?_
    refine wp_ldi rfl tm_m2 ?_
    refine wp_iast rfl rfl (tn_in h1 (by omega)) ?_
    exact wp_retv rfl ⟨rfl, hI _ _ _ hσ⟩
  intro n
  induction n with
  | zero =>
    intro at_ ch σ hσ h1 h2 h3 h4
    refine wp_ldi rfl tm_m0 ?_
    refine wp_ldi rfl tm_m5 ?_
    refine wq_icge rfl (fun h20 => ?_) (fun h20 => absurd (tn_leI.mpr (by omega)) h20)
    exact fin _ _ _ hσ h1 h2
  | succ n ih =>
    intro at_ ch σ hσ h1 h2 h3 h4
    have k53 : ∀ ch2 : Int32, ch.toInt ≤ ch2.toInt → ch2.toInt ≤ 6560 → WP d 85 53 [(5, .int ch2), (4, .int at_), (3, .int va), (0, .ref 5), (1, .int tp), (2, .int sz)] [] σ (fun r σ' => r = none ∧ I σ') := by
      intro ch2 g1 g2
      have e1 := tn_dbl (x := ch2) (by omega) (by omega)
      refine wp_lda rfl tm_m3 ?_
      refine wq_getr (p := 28) rfl rfl (f := 0) rfl rfl ?_
      refine wp_ldi rfl tm_m0 ?_
      refine wp_iald rfl rfl (tn_in (by omega) (by omega)) ?_
      refine wp_ldi rfl tm_m2 ?_
      refine wq_icgt rfl (fun h61 => ?_) (fun h61 => ?_)
      · refine wp_lda rfl tm_m3 ?_
        refine wq_getr (p := 28) rfl rfl (f := 0) rfl rfl ?_
        refine wp_ldi rfl tm_m1 ?_
        refine wp_lda rfl tm_m3 ?_
        refine wq_getr (p := 28) rfl rfl (f := 0) rfl rfl ?_
        refine wp_ldi rfl tm_m0 ?_
        refine wp_iald rfl rfl (tn_in (by omega) (by omega)) ?_
        refine wp_iast rfl rfl (tn_in h1 (by omega)) ?_
        refine wp_ldi rfl tm_m0 ?_
        refine wq_sti [(4, .int ch2), (5, .int ch2), (3, .int va), (0, .ref 5), (1, .int tp), (2, .int sz)] rfl rfl ?_
        refine wq_con (x := 2) rfl (by decide) ?_
        refine wp_ldi rfl tm_m1 ?_
        refine wq_imul rfl ?_
        refine wq_con (x := 1) rfl (by decide) ?_
        refine wq_iadd rfl ?_
        refine wq_sti [(5, .int ((2 * ch2) + 1)), (4, .int ch2), (3, .int va), (0, .ref 5), (1, .int tp), (2, .int sz)] rfl rfl ?_
        refine wp_go rfl ?_
        exact WP.less (ih ch2 ((2 * ch2) + 1) _ (hI _ _ _ hσ) (by omega) g2 (by omega) (by omega)) (by simp)
      · refine wp_go rfl ?_
        exact WP.less (fin at_ ch2 _ hσ h1 h2) (by simp)
    refine wp_ldi rfl tm_m0 ?_
    refine wp_ldi rfl tm_m5 ?_
    refine wq_icge rfl (fun h20 => ?_) (fun h20 => ?_)
    · exact fin _ _ _ hσ h1 h2
    · have e20 : ch.toInt < sz.toInt := by rw [tn_leI] at h20; omega
      have e1 := tn_add1 (x := ch) (by omega)
      refine wp_ldi rfl tm_m0 ?_
      refine wq_con (x := 1) rfl (by decide) ?_
      refine wq_iadd rfl ?_
      refine wp_ldi rfl tm_m5 ?_
      refine wq_icge rfl (fun h28 => ?_) (fun h28 => ?_)
      · exact WP.less (k53 ch (by omega) (by omega)) (by simp)
      · have e28 : (ch + 1).toInt < sz.toInt := by rw [tn_leI] at h28; omega
        refine wp_lda rfl tm_m3 ?_
        refine wq_getr (p := 28) rfl rfl (f := 0) rfl rfl ?_
        refine wp_ldi rfl tm_m0 ?_
        refine wq_con (x := 1) rfl (by decide) ?_
        refine wq_iadd rfl ?_
        refine wp_iald rfl rfl (tn_in (by omega) (by omega)) ?_
        refine wp_lda rfl tm_m3 ?_
        refine wq_getr (p := 28) rfl rfl (f := 0) rfl rfl ?_
        refine wp_ldi rfl tm_m0 ?_
        refine wp_iald rfl rfl (tn_in (by omega) (by omega)) ?_
        refine wq_icle rfl (fun h47 => ?_) (fun h47 => ?_)
        · exact WP.less (k53 ch (by omega) (by omega)) (by simp)
        · refine wq_inc (c := 1) [(5, .int (ch + 1)), (4, .int at_), (3, .int va), (0, .ref 5), (1, .int tp), (2, .int sz)] rfl tm_m0 rfl rfl ?_
          exact WP.less (k53 (ch + 1) (by omega) (by omega)) (by simp)
set_option maxRecDepth 100000 in
set_option maxHeartbeats 4000000 in
theorem th_sink {d : Nat} {I : tm_S → Prop} (hI : ∀ σ k x, I σ → I (tm_sI σ 28 k x)) {tp sz : Int32} (h1 : 0 ≤ tp.toInt) (h2 : tp.toInt ≤ 6560) (hsz : sz.toInt ≤ 6561) {σ : tm_S} (hσ : I σ) : WM d 85 [.ref 5, .int tp, .int sz] σ (fun r σ' => r = none ∧ I σ') := by
  show WP d 85 0 [(0, .ref 5), (1, .int tp), (2, .int sz)] [] σ _
  have e1 := tn_dbl (x := tp) h1 (by omega)
  refine wp_lda rfl tm_m0 ?_
  refine wq_getr (p := 28) rfl rfl (f := 0) rfl rfl ?_
  refine wp_ldi rfl tm_m1 ?_
  refine wp_iald rfl rfl (tn_in h1 (by omega)) ?_
  refine wq_sti [(3, .int (σ.1 28 tp.toNatClampNeg)), (0, .ref 5), (1, .int tp), (2, .int sz)] rfl rfl ?_
  refine wp_ldi rfl tm_m2 ?_
  refine wq_sti [(4, .int tp), (3, .int (σ.1 28 tp.toNatClampNeg)), (0, .ref 5), (1, .int tp), (2, .int sz)] rfl rfl ?_
  refine wq_con (x := 2) rfl (by decide) ?_
  refine wp_ldi rfl tm_m3 ?_
  refine wq_imul rfl ?_
  refine wq_con (x := 1) rfl (by decide) ?_
  refine wq_iadd rfl ?_
  refine wq_sti [(5, .int ((2 * tp) + 1)), (4, .int tp), (3, .int (σ.1 28 tp.toNatClampNeg)), (0, .ref 5), (1, .int tp), (2, .int sz)] rfl rfl ?_
  exact WP.less (th_sink_l (va := (σ.1 28 tp.toNatClampNeg)) (tp := tp) hI hsz 6561 tp ((2 * tp) + 1) _ hσ h1 h2 (by omega) (by omega)) (by simp)
end
section
/-! ===== contexts by hand: words ===== -/
theorem tv_un_rf {σ : tm_S} {w : List (Nat × Nat)} : tv_un σ σ w := fun _ _ _ _ _ => rfl
theorem tv_un_tr {a b c : tm_S} {w : List (Nat × Nat)} (h1 : tv_un a b w) (h2 : tv_un b c w) : tv_un a c w := fun k j kd h m => (h2 k j kd h m).trans (h1 k j kd h m)
theorem tv_un_ar {σ : tm_S} {p k : Nat} {x : Int32} {q : Nat × Nat} {w : List (Nat × Nat)} (h : tt_shp[p]? = some (.inr q)) : tv_un σ (tm_sI σ p k x) w := fun a b kd h1 _ => tv_keepI h a b kd h1
theorem tv_un_aJ {σ : tm_S} {p k : Nat} {x : Int64} {q : Nat × Nat} {w : List (Nat × Nat)} (h : tt_shp[p]? = some (.inr q)) : tv_un σ (tm_sJ σ p k x) w := fun a b kd h1 _ => tv_keepJ h a b kd h1
theorem tv_un_fI {σ : tm_S} {p k : Nat} {x : Int32} {w : List (Nat × Nat)} (hm : tv_mem w p k = true) : tv_un σ (tm_sI σ p k x) w := fun a b kd _ h => tv_val_sI (fun e => by rw [e.1, e.2, hm] at h; cases h) kd
theorem tv_un_mo {a b : tm_S} {w w' : List (Nat × Nat)} (h : tv_un a b w) (hw : ∀ q ∈ w, tv_mem w' q.1 q.2 = true) : tv_un a b w' := by
  intro k j kd h1 h2
  refine h k j kd h1 ?_
  cases e : tv_mem w k j with
  | false => rfl
  | true =>
    unfold tv_mem at e
    obtain ⟨q, hq, e1⟩ := List.any_eq_true.mp e
    rw [Bool.and_eq_true] at e1
    have h3 := hw q hq
    rw [tv_beq e1.1, tv_beq e1.2, h2] at h3
    cases h3
theorem tv_Snd_up {T : tv_TT} {j r r' : Nat} {a : List tv_T} {h h' : List tv_H} {cs : List (tv_T × List (Nat × Int × Int))} {w : List (Nat × Nat)} (hs : tv_Snd T (j, a, h, cs, w, r)) (hr : r ≤ r') : tv_Snd T (j, a, h', cs, w, r') := fun As σ hva hT => WM.deep (hs As σ hva hT) hr
theorem tv_va1 {t : tv_T} {As : List Value} (h : tv_va [t] As) : ∃ x, As = [x] ∧ tv_vt t x := by
  match As, h with
  | [x], h => exact ⟨x, rfl, h.1⟩
theorem tv_va2 {t u : tv_T} {As : List Value} (h : tv_va [t, u] As) : ∃ x y, As = [x, y] ∧ tv_vt t x ∧ tv_vt u y := by
  match As, h with
  | [x, y], h => exact ⟨x, y, rfl, h.1, h.2.1⟩
theorem tv_va3 {t u v : tv_T} {As : List Value} (h : tv_va [t, u, v] As) : ∃ x y z, As = [x, y, z] ∧ tv_vt t x ∧ tv_vt u y ∧ tv_vt v z := by
  match As, h with
  | [x, y, z], h => exact ⟨x, y, z, rfl, h.1, h.2.1, h.2.2.1⟩
theorem tv_va4 {t u v w : tv_T} {As : List Value} (h : tv_va [t, u, v, w] As) : ∃ x y z z2, As = [x, y, z, z2] ∧ tv_vt t x ∧ tv_vt u y ∧ tv_vt v z ∧ tv_vt w z2 := by
  match As, h with
  | [x, y, z, z2], h => exact ⟨x, y, z, z2, rfl, h.1, h.2.1, h.2.2.1, h.2.2.2.1⟩
/-- one case, nothing said of the arguments -/
theorem tv_Qc1 {T : tv_TT} {j rk : Nat} {a : List tv_T} {h : List tv_H} {t : tv_T} {w : List (Nat × Nat)} {As : List Value} {σ σ' : tm_S} {r : Option Value} (h1 : tv_TY T σ') (h2 : tv_un σ σ' w) (h3 : tv_rv r t) : tv_Qc T (j, a, h, [(t, [])], w, rk) As σ r σ' := ⟨h1, h2, _, List.mem_cons_self, h3, fun w hw => nomatch hw⟩
theorem tv_rvi {z : Int32} {lo hi : Int} (h1 : lo ≤ z.toInt) (h2 : z.toInt ≤ hi) : tv_rv (some (.int z)) (1, lo, hi) := Or.inr ⟨_, rfl, z, rfl, h1, h2⟩
theorem tv_rva {z : Int32} : tv_rv (some (.int z)) (1, (-2147483648), 2147483647) := tv_rvi (tn_rng z).1 (tn_rng z).2
theorem tv_rvn {a b : Int} : tv_rv none (0, a, b) := Or.inl ⟨rfl, rfl⟩
theorem th_bit63 (x : Int32) : 0 ≤ (th_bit x).toInt ∧ (th_bit x).toInt ≤ 63 := by
  unfold th_bit
  obtain ⟨j, h1, h2⟩ := pk_andE (th_b4 (th_b3 (th_b2 (th_b1 (th_b0 x))))) (m := 63) 6 (by decide)
  rw [h2, nI_toInt (by omega)]
  omega
set_option maxRecDepth 100000 in
theorem th_bit12k : (List.range 4096).all (fun n => decide ((th_bit (nI n)).toInt ≤ 12) && (Nat.beq n 4095 || decide ((th_bit (nI n)).toInt ≤ 11))) = true := by decide +kernel
theorem th_bit12 {x : Int32} (h1 : 0 ≤ x.toInt) (h2 : x.toInt ≤ 4095) : (th_bit x).toInt ≤ 12 ∧ (x.toInt ≤ 4094 → (th_bit x).toInt ≤ 11) := by
  obtain ⟨j, hj, rfl⟩ := nI_of (x := x) (by rw [tn_ltI]; show ¬ x.toInt < 0; omega)
  rw [nI_toInt hj] at h2 ⊢
  have h := List.all_eq_true.mp th_bit12k j (List.mem_range.mpr (by omega))
  simp only [Bool.and_eq_true, Bool.or_eq_true, decide_eq_true_eq] at h
  refine ⟨h.1, fun h3 => ?_⟩
  rcases h.2 with e | e
  · have := tv_beq e
    omega
  · exact e
set_option maxRecDepth 100000 in
set_option maxHeartbeats 4000000 in
theorem ts_bit0 {v : Int}  : tv_Snd (tc_T v) (25, [(1, (-2147483648), 2147483647)], [], [((1, 0, 63), [])], [], 40) := by
  intro As σ hva hT
  obtain ⟨x0, rfl, h0⟩ := tv_va1 hva
  obtain ⟨a0, rfl, l0, u0⟩ := h0
  exact th_bitCount a0 (tv_Qc1 hT tv_un_rf (tv_rvi (th_bit63 a0).1 ((th_bit63 a0).2)))
set_option maxRecDepth 100000 in
set_option maxHeartbeats 4000000 in
theorem ts_bit1 {v : Int}  : tv_Snd (tc_T v) (25, [(1, 0, 4094)], [], [((1, 0, 11), [])], [], 40) := by
  intro As σ hva hT
  obtain ⟨x0, rfl, h0⟩ := tv_va1 hva
  obtain ⟨a0, rfl, l0, u0⟩ := h0
  exact th_bitCount a0 (tv_Qc1 hT tv_un_rf (tv_rvi (th_bit63 a0).1 ((th_bit12 l0 (by omega)).2 u0)))
set_option maxRecDepth 100000 in
set_option maxHeartbeats 4000000 in
theorem ts_bit2 {v : Int}  : tv_Snd (tc_T v) (25, [(1, 0, 4095)], [], [((1, 0, 12), [])], [], 40) := by
  intro As σ hva hT
  obtain ⟨x0, rfl, h0⟩ := tv_va1 hva
  obtain ⟨a0, rfl, l0, u0⟩ := h0
  exact th_bitCount a0 (tv_Qc1 hT tv_un_rf (tv_rvi (th_bit63 a0).1 ((th_bit12 l0 u0).1)))
set_option maxRecDepth 100000 in
set_option maxHeartbeats 4000000 in
theorem ts_len0 {v : Int}  : tv_Snd (tc_T v) (105, [(3, 86, 86)], [], [((1, 4, 4), [])], [], 40) := by
  intro As σ hva hT
  obtain ⟨x0, rfl, h0⟩ := tv_va1 hva
  obtain ⟨k0, rfl, l0, u0⟩ := h0
  obtain rfl : k0 = 86 := by omega
  refine WM.mono (th_len (q := 4) (by decide)) ?_
  rintro r σ1 ⟨rfl, rfl⟩
  exact tv_Qc1 hT tv_un_rf (tv_rvi (by decide) (by decide))
set_option maxRecDepth 100000 in
set_option maxHeartbeats 4000000 in
theorem ts_len1 {v : Int}  : tv_Snd (tc_T v) (105, [(3, 87, 87)], [], [((1, 3, 3), [])], [], 40) := by
  intro As σ hva hT
  obtain ⟨x0, rfl, h0⟩ := tv_va1 hva
  obtain ⟨k0, rfl, l0, u0⟩ := h0
  obtain rfl : k0 = 87 := by omega
  refine WM.mono (th_len (q := 5) (by decide)) ?_
  rintro r σ1 ⟨rfl, rfl⟩
  exact tv_Qc1 hT tv_un_rf (tv_rvi (by decide) (by decide))
set_option maxRecDepth 100000 in
set_option maxHeartbeats 4000000 in
theorem ts_len2 {v : Int}  : tv_Snd (tc_T v) (105, [(3, 88, 88)], [], [((1, 2, 2), [])], [], 40) := by
  intro As σ hva hT
  obtain ⟨x0, rfl, h0⟩ := tv_va1 hva
  obtain ⟨k0, rfl, l0, u0⟩ := h0
  obtain rfl : k0 = 88 := by omega
  refine WM.mono (th_len (q := 6) (by decide)) ?_
  rintro r σ1 ⟨rfl, rfl⟩
  exact tv_Qc1 hT tv_un_rf (tv_rvi (by decide) (by decide))
set_option maxRecDepth 100000 in
set_option maxHeartbeats 4000000 in
theorem ts_len3 {v : Int}  : tv_Snd (tc_T v) (105, [(3, 89, 89)], [], [((1, 6, 6), [])], [], 40) := by
  intro As σ hva hT
  obtain ⟨x0, rfl, h0⟩ := tv_va1 hva
  obtain ⟨k0, rfl, l0, u0⟩ := h0
  obtain rfl : k0 = 89 := by omega
  refine WM.mono (th_len (q := 7) (by decide)) ?_
  rintro r σ1 ⟨rfl, rfl⟩
  exact tv_Qc1 hT tv_un_rf (tv_rvi (by decide) (by decide))
set_option maxRecDepth 100000 in
set_option maxHeartbeats 4000000 in
theorem ts_len4 {v : Int}  : tv_Snd (tc_T v) (105, [(3, 90, 90)], [], [((1, 4, 4), [])], [], 40) := by
  intro As σ hva hT
  obtain ⟨x0, rfl, h0⟩ := tv_va1 hva
  obtain ⟨k0, rfl, l0, u0⟩ := h0
  obtain rfl : k0 = 90 := by omega
  refine WM.mono (th_len (q := 8) (by decide)) ?_
  rintro r σ1 ⟨rfl, rfl⟩
  exact tv_Qc1 hT tv_un_rf (tv_rvi (by decide) (by decide))
set_option maxRecDepth 100000 in
set_option maxHeartbeats 4000000 in
theorem ts_len5 {v : Int}  : tv_Snd (tc_T v) (105, [(3, 91, 91)], [], [((1, 3, 3), [])], [], 40) := by
  intro As σ hva hT
  obtain ⟨x0, rfl, h0⟩ := tv_va1 hva
  obtain ⟨k0, rfl, l0, u0⟩ := h0
  obtain rfl : k0 = 91 := by omega
  refine WM.mono (th_len (q := 9) (by decide)) ?_
  rintro r σ1 ⟨rfl, rfl⟩
  exact tv_Qc1 hT tv_un_rf (tv_rvi (by decide) (by decide))
theorem th_chr255 (q : Nat) (i : Int32) : 0 ≤ (th_chr q i).toInt ∧ (th_chr q i).toInt ≤ 255 := by
  unfold th_chr
  rw [sc_c2]
  obtain ⟨j, h1, h2⟩ := pk_andE ((tt_byt.getD q []).getD i.toNatClampNeg 0) (m := 255) 8 (by decide)
  rw [h2, nI_toInt (by omega)]
  omega
set_option maxRecDepth 100000 in
set_option maxHeartbeats 4000000 in
theorem ts_chr0 {v : Int}  : tv_Snd (tc_T v) (107, [(3, 85, 85), (1, 0, 3)], [], [((1, 0, 255), [])], [], 40) := by
  intro As σ hva hT
  obtain ⟨x0, x1, rfl, h0, h1⟩ := tv_va2 hva
  obtain ⟨k0, rfl, l0, u0⟩ := h0
  obtain rfl : k0 = 85 := by omega
  obtain ⟨a1, rfl, l1, u1⟩ := h1
  refine WM.mono (th_chA (q := 3) (by decide) (i := a1) (tn_in l1 (by show a1.toInt < (4 : Nat); omega))) ?_
  rintro r σ1 ⟨rfl, rfl⟩
  exact tv_Qc1 hT tv_un_rf (tv_rvi (th_chr255 _ _).1 (th_chr255 _ _).2)
set_option maxRecDepth 100000 in
set_option maxHeartbeats 4000000 in
theorem ts_chr1 {v : Int}  : tv_Snd (tc_T v) (107, [(3, 86, 86), (1, 0, 3)], [], [((1, 0, 255), [])], [], 40) := by
  intro As σ hva hT
  obtain ⟨x0, x1, rfl, h0, h1⟩ := tv_va2 hva
  obtain ⟨k0, rfl, l0, u0⟩ := h0
  obtain rfl : k0 = 86 := by omega
  obtain ⟨a1, rfl, l1, u1⟩ := h1
  refine WM.mono (th_chA (q := 4) (by decide) (i := a1) (tn_in l1 (by show a1.toInt < (4 : Nat); omega))) ?_
  rintro r σ1 ⟨rfl, rfl⟩
  exact tv_Qc1 hT tv_un_rf (tv_rvi (th_chr255 _ _).1 (th_chr255 _ _).2)
set_option maxRecDepth 100000 in
set_option maxHeartbeats 4000000 in
theorem ts_chr2 {v : Int}  : tv_Snd (tc_T v) (107, [(3, 87, 87), (1, 0, 2)], [], [((1, 0, 255), [])], [], 40) := by
  intro As σ hva hT
  obtain ⟨x0, x1, rfl, h0, h1⟩ := tv_va2 hva
  obtain ⟨k0, rfl, l0, u0⟩ := h0
  obtain rfl : k0 = 87 := by omega
  obtain ⟨a1, rfl, l1, u1⟩ := h1
  refine WM.mono (th_chA (q := 5) (by decide) (i := a1) (tn_in l1 (by show a1.toInt < (3 : Nat); omega))) ?_
  rintro r σ1 ⟨rfl, rfl⟩
  exact tv_Qc1 hT tv_un_rf (tv_rvi (th_chr255 _ _).1 (th_chr255 _ _).2)
set_option maxRecDepth 100000 in
set_option maxHeartbeats 4000000 in
theorem ts_chr3 {v : Int}  : tv_Snd (tc_T v) (107, [(3, 88, 88), (1, 0, 1)], [], [((1, 0, 255), [])], [], 40) := by
  intro As σ hva hT
  obtain ⟨x0, x1, rfl, h0, h1⟩ := tv_va2 hva
  obtain ⟨k0, rfl, l0, u0⟩ := h0
  obtain rfl : k0 = 88 := by omega
  obtain ⟨a1, rfl, l1, u1⟩ := h1
  refine WM.mono (th_chA (q := 6) (by decide) (i := a1) (tn_in l1 (by show a1.toInt < (2 : Nat); omega))) ?_
  rintro r σ1 ⟨rfl, rfl⟩
  exact tv_Qc1 hT tv_un_rf (tv_rvi (th_chr255 _ _).1 (th_chr255 _ _).2)
set_option maxRecDepth 100000 in
set_option maxHeartbeats 4000000 in
theorem ts_chr4 {v : Int}  : tv_Snd (tc_T v) (107, [(3, 89, 89), (1, 0, 5)], [], [((1, 0, 255), [])], [], 40) := by
  intro As σ hva hT
  obtain ⟨x0, x1, rfl, h0, h1⟩ := tv_va2 hva
  obtain ⟨k0, rfl, l0, u0⟩ := h0
  obtain rfl : k0 = 89 := by omega
  obtain ⟨a1, rfl, l1, u1⟩ := h1
  refine WM.mono (th_chA (q := 7) (by decide) (i := a1) (tn_in l1 (by show a1.toInt < (6 : Nat); omega))) ?_
  rintro r σ1 ⟨rfl, rfl⟩
  exact tv_Qc1 hT tv_un_rf (tv_rvi (th_chr255 _ _).1 (th_chr255 _ _).2)
set_option maxRecDepth 100000 in
set_option maxHeartbeats 4000000 in
theorem ts_chr5 {v : Int}  : tv_Snd (tc_T v) (107, [(3, 90, 90), (1, 0, 3)], [], [((1, 0, 255), [])], [], 40) := by
  intro As σ hva hT
  obtain ⟨x0, x1, rfl, h0, h1⟩ := tv_va2 hva
  obtain ⟨k0, rfl, l0, u0⟩ := h0
  obtain rfl : k0 = 90 := by omega
  obtain ⟨a1, rfl, l1, u1⟩ := h1
  refine WM.mono (th_chA (q := 8) (by decide) (i := a1) (tn_in l1 (by show a1.toInt < (4 : Nat); omega))) ?_
  rintro r σ1 ⟨rfl, rfl⟩
  exact tv_Qc1 hT tv_un_rf (tv_rvi (th_chr255 _ _).1 (th_chr255 _ _).2)
set_option maxRecDepth 100000 in
set_option maxHeartbeats 4000000 in
theorem ts_chr6 {v : Int}  : tv_Snd (tc_T v) (107, [(3, 91, 91), (1, 0, 2)], [], [((1, 0, 255), [])], [], 40) := by
  intro As σ hva hT
  obtain ⟨x0, x1, rfl, h0, h1⟩ := tv_va2 hva
  obtain ⟨k0, rfl, l0, u0⟩ := h0
  obtain rfl : k0 = 91 := by omega
  obtain ⟨a1, rfl, l1, u1⟩ := h1
  refine WM.mono (th_chA (q := 9) (by decide) (i := a1) (tn_in l1 (by show a1.toInt < (3 : Nat); omega))) ?_
  rintro r σ1 ⟨rfl, rfl⟩
  exact tv_Qc1 hT tv_un_rf (tv_rvi (th_chr255 _ _).1 (th_chr255 _ _).2)
set_option maxRecDepth 100000 in
set_option maxHeartbeats 4000000 in
theorem ts_ones {v : Int}  : tv_Snd (tc_T v) (174, [(3, 11, 11), (1, (-2147483648), 2147483647)], [], [((1, (-2147483648), 2147483647), [])], [], 40) := by
  intro As σ hva hT
  obtain ⟨x0, x1, rfl, h0, h1⟩ := tv_va2 hva
  obtain ⟨k0, rfl, l0, u0⟩ := h0
  obtain rfl : k0 = 11 := by omega
  obtain ⟨a1, rfl, l1, u1⟩ := h1
  refine WM.mono th_ones ?_
  rintro r σ1 ⟨⟨z, rfl⟩, rfl⟩
  exact tv_Qc1 hT tv_un_rf tv_rva
set_option maxRecDepth 100000 in
set_option maxHeartbeats 4000000 in
theorem ts_sink {v : Int}  : tv_Snd (tc_T v) (85, [(3, 5, 5), (1, 0, 6560), (1, 0, 6561)], [], [((0, 0, 0), [])], [], 40) := by
  intro As σ hva hT
  obtain ⟨x0, x1, x2, rfl, h0, h1, h2⟩ := tv_va3 hva
  obtain ⟨k0, rfl, l0, u0⟩ := h0
  obtain rfl : k0 = 5 := by omega
  obtain ⟨a1, rfl, l1, u1⟩ := h1
  obtain ⟨a2, rfl, l2, u2⟩ := h2
  refine WM.mono (th_sink (I := fun s => tv_TY (tc_T v) s ∧ tv_un σ s []) (fun s k x h => ⟨tv_TY_row h.1 (ty := (tv_lo, tv_hi)) (fun _ => rfl) (tn_rng x).1 (tn_rng x).2, tv_un_tr h.2 (tv_un_ar rfl)⟩) l1 u1 u2 ⟨hT, tv_un_rf⟩) ?_
  rintro r σ1 ⟨rfl, g1, g2⟩
  exact tv_Qc1 g1 g2 tv_rvn
def tz_acts : tv_C := (19, [(3, 1, 1), (1, (-2147483648), 2147483647), (1, (-2147483648), 2147483647), (1, (-2147483648), 2147483647)], [], [((1, (-2147483648), 2147483647), [])], [], 39)
theorem tq_acts {T : tv_TT} {a1 : Int32} {a2 : Int32} {a3 : Int32} {σ σ' : tm_S} {r : Option Value} (h : tv_Qc T tz_acts [.ref 1, .int a1, .int a2, .int a3] σ r σ') : tv_TY T σ' ∧ tv_un σ σ' [] ∧ ((∃ z : Int32, r = some (.int z) ∧ (-2147483648) ≤ z.toInt ∧ z.toInt ≤ 2147483647)) := by
  obtain ⟨h1, h2, q, hq, hr, hn⟩ := h
  refine ⟨h1, h2, ?_⟩
  change q ∈ [((1, (-2147483648), 2147483647), [])] at hq
  simp only [List.mem_cons, List.not_mem_nil, or_false] at hq
  rcases hq with rfl
  rcases hr with ⟨e, -⟩ | ⟨x, rfl, hx⟩
  · cases e
  · obtain ⟨z, rfl, g1, g2⟩ := hx
    exact ⟨z, rfl, g1, g2⟩
set_option maxRecDepth 100000 in
set_option maxHeartbeats 4000000 in
theorem ts_into {v : Int} (hacts : tv_Snd (tc_T v) tz_acts) : tv_Snd (tc_T v) (21, [(3, 1, 1), (1, (-2147483648), 2147483647), (1, (-2147483648), 2147483647), (1, (-2147483648), 2147483647)], [], [((1, (-2147483648), 2147483647), [])], [], 40) := by
  intro As σ hva hT
  obtain ⟨x0, x1, x2, x3, rfl, h0, h1, h2, h3⟩ := tv_va4 hva
  obtain ⟨k0, rfl, l0, u0⟩ := h0
  obtain rfl : k0 = 1 := by omega
  obtain ⟨a1, rfl, l1, u1⟩ := h1
  obtain ⟨a2, rfl, l2, u2⟩ := h2
  obtain ⟨a3, rfl, l3, u3⟩ := h3
  show WP 40 21 0 [(0, .ref 1), (1, .int a1), (2, .int a2), (3, .int a3)] [] σ _
  refine wp_lda rfl tm_m0 ?_
  refine wp_ldi rfl tm_m1 ?_
  refine wp_ldi rfl tm_m2 ?_
  refine wp_ldi rfl tm_m2 ?_
  refine wq_calv [.int a1, .int a2, .int a2] rfl rfl rfl rfl rfl rfl rfl rfl rfl (WM.deep (hacts [.ref 1, .int a1, .int a2, .int a2] σ ⟨⟨_, rfl, by decide, by decide⟩, ⟨_, rfl, (tn_rng _).1, (tn_rng _).2⟩, ⟨_, rfl, (tn_rng _).1, (tn_rng _).2⟩, ⟨_, rfl, (tn_rng _).1, (tn_rng _).2⟩, trivial⟩ hT) (by decide)) ?_
  rintro r1 σ1 hq1
  obtain ⟨hT1, hu1, z1, rfl, -⟩ := tq_acts hq1
  refine wq_sti [(4, .int z1), (0, .ref 1), (1, .int a1), (2, .int a2), (3, .int a3)] rfl rfl ?_
  refine wp_ldi rfl tm_m0 ?_
  refine wq_ifne rfl (fun h11 => ?_) (fun h11 => ?_)
  · refine wp_lda rfl tm_m1 ?_
    refine wp_ldi rfl tm_m2 ?_
    refine wp_ldi rfl tm_m3 ?_
    refine wp_ldi rfl tm_m4 ?_
    refine wq_calv [.int a1, .int a2, .int a3] rfl rfl rfl rfl rfl rfl rfl rfl rfl (WM.deep (hacts [.ref 1, .int a1, .int a2, .int a3] σ1 ⟨⟨_, rfl, by decide, by decide⟩, ⟨_, rfl, (tn_rng _).1, (tn_rng _).2⟩, ⟨_, rfl, (tn_rng _).1, (tn_rng _).2⟩, ⟨_, rfl, (tn_rng _).1, (tn_rng _).2⟩, trivial⟩ hT1) (by decide)) ?_
    rintro r2 σ2 hq2
    obtain ⟨hT2, hu2, z2, rfl, -⟩ := tq_acts hq2
    refine wp_ldi rfl tm_m0 ?_
    refine wp_div rfl (h11) ?_
    exact wp_reti rfl (th_nI rfl) (tv_Qc1 hT2 (tv_un_tr hu1 hu2) tv_rva)
  · refine wq_con (x := (-1)) rfl (by decide) ?_
    refine wp_go rfl ?_
    exact wp_reti rfl (th_nI rfl) (tv_Qc1 hT1 hu1 tv_rva)
end
section
/-! ===== more contexts by hand ===== -/
theorem tv_z0 : (-2147483648 : Int) ≤ (0 : Int32).toInt := by decide
theorem tv_z1 : (0 : Int32).toInt ≤ (2147483647 : Int) := by decide
theorem tv_zz : (0 : Int) ≤ (0 : Int32).toInt := by decide
set_option maxRecDepth 100000 in
set_option maxHeartbeats 4000000 in
theorem th_spells_l {d : Nat} {σ : tm_S} {q : Nat} (hq : q < tt_NS) (hn : tt_len.getD q 0 ≤ 100) {f t : Int32} (hf : 0 ≤ f.toInt) (hft : f.toInt + (tt_len.getD q 0 : Nat) ≤ 800) : ∀ (m : Nat) (i : Int32), 0 ≤ i.toInt → (tt_len.getD q 0 : Int) ≤ i.toInt + m → WP (d + 4) 104 27 [(4, .int i), (0, .ref 7), (1, .ref (tt_ST + q)), (2, .int f), (3, .int t)] [] σ (fun r σ' => (r = some (.int 0) ∨ r = some (.int 1)) ∧ σ = σ') := by
  have eL : (Int32.ofNat (tt_len.getD q 0)).toInt = (tt_len.getD q 0 : Nat) := tn_ofNat (by omega)
  intro m
  induction m with
  | zero =>
    intro i h1 h2
    refine wp_ldi rfl tm_m0 ?_
    refine wp_lda rfl tm_m2 ?_
    refine wq_calS [] rfl rfl rfl rfl rfl rfl rfl hq (th_len hq) ?_
    rintro _ _ ⟨rfl, rfl⟩
    refine wq_icge rfl (fun h33 => ?_) (fun h33 => absurd (tn_leI.mpr (by omega)) h33)
    refine wq_con (x := 1) rfl (by decide) ?_
    exact wp_reti rfl (th_n1 rfl) ⟨Or.inr rfl, rfl⟩
  | succ m ih =>
    intro i h1 h2
    refine wp_ldi rfl tm_m0 ?_
    refine wp_lda rfl tm_m2 ?_
    refine wq_calS [] rfl rfl rfl rfl rfl rfl rfl hq (th_len hq) ?_
    rintro _ _ ⟨rfl, rfl⟩
    refine wq_icge rfl (fun h33 => ?_) (fun h33 => ?_)
    · refine wq_con (x := 1) rfl (by decide) ?_
      exact wp_reti rfl (th_n1 rfl) ⟨Or.inr rfl, rfl⟩
    · have e33 : i.toInt < (tt_len.getD q 0 : Nat) := by rw [tn_leI, eL] at h33; omega
      have e1 : (f + i).toInt = f.toInt + i.toInt := tn_add (by omega) (by omega)
      have e2 := tn_add1 (x := i) (by omega)
      refine wp_lda rfl tm_m1 ?_
      refine wq_getr (p := 29) rfl rfl (f := 0) rfl rfl ?_
      refine wp_ldi rfl tm_m3 ?_
      refine wp_ldi rfl tm_m0 ?_
      refine wq_iadd rfl ?_
      refine wp_iald rfl rfl (tn_in (by omega) (by omega)) ?_
      refine wp_lda rfl tm_m2 ?_
      refine wp_ldi rfl tm_m0 ?_
      refine wq_calS [.int i] rfl rfl rfl rfl rfl rfl rfl hq (th_chA hq (tn_in h1 (by omega))) ?_
      rintro _ _ ⟨rfl, rfl⟩
      refine wq_iceq rfl (fun h51 => ?_) (fun h51 => ?_)
      · refine wq_inc (c := 1) [(4, .int (i + 1)), (0, .ref 7), (1, .ref (tt_ST + q)), (2, .int f), (3, .int t)] rfl tm_m0 rfl rfl ?_
        refine wp_go rfl ?_
        exact WP.less (ih (i + 1) (by omega) (by omega)) (by simp)
      · refine wq_con (x := 0) rfl (by decide) ?_
        exact wp_reti rfl (th_n0 rfl) ⟨Or.inl rfl, rfl⟩
set_option maxRecDepth 100000 in
set_option maxHeartbeats 4000000 in
theorem th_spells {d : Nat} {σ : tm_S} {q : Nat} (hq : q < tt_NS) (hn : tt_len.getD q 0 ≤ 100) {f t : Int32} (hf : 0 ≤ f.toInt) (hf2 : f.toInt ≤ 800) (ht : 0 ≤ t.toInt) (hl : (σ.1 7 1).toInt ≤ 800) : WM (d + 4) 104 [.ref 7, .ref (tt_ST + q), .int f, .int t] σ (fun r σ' => (r = some (.int 0) ∨ r = some (.int 1)) ∧ σ = σ') := by
  have eL : (Int32.ofNat (tt_len.getD q 0)).toInt = (tt_len.getD q 0 : Nat) := tn_ofNat (by omega)
  show WP (d + 4) 104 0 [(0, .ref 7), (1, .ref (tt_ST + q)), (2, .int f), (3, .int t)] [] σ _
  refine wp_ldi rfl tm_m2 ?_
  refine wq_iflt rfl (fun h1 => ?_) (fun h1 => ?_)
  · refine wq_con (x := 0) rfl (by decide) ?_
    exact wp_reti rfl (th_n0 rfl) ⟨Or.inl rfl, rfl⟩
  · refine wp_ldi rfl tm_m3 ?_
    refine wp_lda rfl tm_m0 ?_
    refine wq_geti rfl rfl (f := 1) rfl rfl (Or.inl rfl) ?_
    refine wq_icgt rfl (fun h9 => ?_) (fun h9 => ?_)
    · refine wq_con (x := 0) rfl (by decide) ?_
      exact wp_reti rfl (th_n0 rfl) ⟨Or.inl rfl, rfl⟩
    · have e9 : t.toInt ≤ (σ.1 7 1).toInt := by rw [tn_ltI] at h9; omega
      have e1 : (t - f).toInt = t.toInt - f.toInt := tn_sub (by omega) (by omega)
      refine wp_lda rfl tm_m1 ?_
      refine wq_calS [] rfl rfl rfl rfl rfl rfl rfl hq (th_len hq) ?_
      rintro _ _ ⟨rfl, rfl⟩
      refine wp_ldi rfl tm_m3 ?_
      refine wp_ldi rfl tm_m2 ?_
      refine wq_isub rfl ?_
      refine wq_iceq rfl (fun h19 => ?_) (fun h19 => ?_)
      · refine wq_con (x := 0) rfl (by decide) ?_
        refine wq_sti [(4, .int 0), (0, .ref 7), (1, .ref (tt_ST + q)), (2, .int f), (3, .int t)] rfl rfl ?_
        have e19 : ((tt_len.getD q 0 : Nat) : Int) = t.toInt - f.toInt := by rw [← e1, ← h19, eL]
        exact WP.less (th_spells_l (t := t) hq hn hf (by omega) (tt_len.getD q 0) 0 (by decide) (by show _ ≤ (0 : Int) + _; omega)) (by simp)
      · refine wq_con (x := 0) rfl (by decide) ?_
        exact wp_reti rfl (th_n0 rfl) ⟨Or.inl rfl, rfl⟩
theorem tv_rvb {r : Option Value} (h : r = some (.int 0) ∨ r = some (.int 1)) : tv_rv r (1, 0, 1) := by
  rcases h with rfl | rfl
  · exact tv_rvi (by decide) (by decide)
  · exact tv_rvi (by decide) (by decide)
set_option maxRecDepth 100000 in
set_option maxHeartbeats 4000000 in
theorem ts_spl0 {v : Int}  : tv_Snd (tc_T v) (104, [(3, 7, 7), (3, 82, 82), (1, 0, 800), (1, 0, 800)], [], [((1, 0, 1), [])], [], 40) := by
  intro As σ hva hT
  obtain ⟨x0, x1, x2, x3, rfl, h0, h1, h2, h3⟩ := tv_va4 hva
  obtain ⟨k0, rfl, l0, u0⟩ := h0
  obtain rfl : k0 = 7 := by omega
  obtain ⟨k1, rfl, l1, u1⟩ := h1
  obtain rfl : k1 = 82 := by omega
  obtain ⟨a2, rfl, l2, u2⟩ := h2
  obtain ⟨a3, rfl, l3, u3⟩ := h3
  refine WM.mono (th_spells (q := 0) (d := 36) (by decide) (by decide) l2 u2 l3 (hT.1 7 1).2) ?_
  rintro r σ1 ⟨h, rfl⟩
  exact tv_Qc1 hT tv_un_rf (tv_rvb h)
set_option maxRecDepth 100000 in
set_option maxHeartbeats 4000000 in
theorem ts_spl1 {v : Int}  : tv_Snd (tc_T v) (104, [(3, 7, 7), (3, 83, 83), (1, 0, 800), (1, 0, 800)], [], [((1, 0, 1), [])], [], 40) := by
  intro As σ hva hT
  obtain ⟨x0, x1, x2, x3, rfl, h0, h1, h2, h3⟩ := tv_va4 hva
  obtain ⟨k0, rfl, l0, u0⟩ := h0
  obtain rfl : k0 = 7 := by omega
  obtain ⟨k1, rfl, l1, u1⟩ := h1
  obtain rfl : k1 = 83 := by omega
  obtain ⟨a2, rfl, l2, u2⟩ := h2
  obtain ⟨a3, rfl, l3, u3⟩ := h3
  refine WM.mono (th_spells (q := 1) (d := 36) (by decide) (by decide) l2 u2 l3 (hT.1 7 1).2) ?_
  rintro r σ1 ⟨h, rfl⟩
  exact tv_Qc1 hT tv_un_rf (tv_rvb h)
set_option maxRecDepth 100000 in
set_option maxHeartbeats 4000000 in
theorem ts_spl2 {v : Int}  : tv_Snd (tc_T v) (104, [(3, 7, 7), (3, 84, 84), (1, 0, 800), (1, 0, 800)], [], [((1, 0, 1), [])], [], 40) := by
  intro As σ hva hT
  obtain ⟨x0, x1, x2, x3, rfl, h0, h1, h2, h3⟩ := tv_va4 hva
  obtain ⟨k0, rfl, l0, u0⟩ := h0
  obtain rfl : k0 = 7 := by omega
  obtain ⟨k1, rfl, l1, u1⟩ := h1
  obtain rfl : k1 = 84 := by omega
  obtain ⟨a2, rfl, l2, u2⟩ := h2
  obtain ⟨a3, rfl, l3, u3⟩ := h3
  refine WM.mono (th_spells (q := 2) (d := 36) (by decide) (by decide) l2 u2 l3 (hT.1 7 1).2) ?_
  rintro r σ1 ⟨h, rfl⟩
  exact tv_Qc1 hT tv_un_rf (tv_rvb h)
theorem tv_TY_sA {T : tv_TT} {σ : tm_S} {p : Nat} {f : Nat → Int32} (hT : tv_TY T σ) (h : ∀ j, (tv_ti T p j).1 ≤ (f j).toInt ∧ (f j).toInt ≤ (tv_ti T p j).2) : tv_TY T (tm_sA σ p f) := by
  refine ⟨fun k j => ?_, hT.2⟩
  by_cases hk : k = p
  · subst hk
    rw [tm_sA_at]
    exact h j
  · rw [tm_sA_ne σ f hk]
    exact hT.1 k j
theorem tv_un_sA {σ : tm_S} {p : Nat} {f : Nat → Int32} {q : Nat × Nat} {w : List (Nat × Nat)} (h : tt_shp[p]? = some (.inr q)) : tv_un σ (tm_sA σ p f) w := by
  intro a i kd h1 _
  have hk : a ≠ p := by
    rintro rfl
    unfold tv_kd at h1
    rw [h] at h1
    cases h1
  match kd with
  | 0 => show Value.int _ = Value.int _; rw [tm_sA_ne σ f hk]
  | 1 => show Value.int _ = Value.int _; rw [tm_sA_ne σ f hk]
  | 2 => rfl
  | 3 => rfl
  | p + 4 => rfl
theorem th_sys : Cond.native arraycopyName ∈ tm_tbl ∧ Cond.static arraycopyName ∈ tm_tbl ∧ Cond.initialized "java/lang/System" ∈ tm_tbl := by
  refine ⟨tm_tbl_in ?_ rfl, tm_tbl_in ?_ rfl, tm_tbl_in ?_ rfl⟩ <;> decide +kernel
set_option maxRecDepth 100000 in
set_option maxHeartbeats 4000000 in
theorem ts_copy {v : Int}  : tv_Snd (tc_T v) (159, [(3, 7, 7), (3, 8, 8)], [], [((0, 0, 0), [])], [(7, 1)], 40) := by
  intro As σ hva hT
  obtain ⟨x0, x1, rfl, h0, h1⟩ := tv_va2 hva
  obtain ⟨k0, rfl, l0, u0⟩ := h0
  obtain rfl : k0 = 7 := by omega
  obtain ⟨k1, rfl, l1, u1⟩ := h1
  obtain rfl : k1 = 8 := by omega
  show WP 40 159 0 [(0, .ref 7), (1, .ref 8)] [] σ _
  refine wp_lda rfl tm_m1 ?_
  refine wq_getr (p := 30) rfl rfl (f := 0) rfl rfl ?_
  refine wq_con (x := 0) rfl (by decide) ?_
  refine wp_lda rfl tm_m0 ?_
  refine wq_getr (p := 29) rfl rfl (f := 0) rfl rfl ?_
  refine wq_con (x := 0) rfl (by decide) ?_
  refine wp_lda rfl tm_m1 ?_
  refine wq_geti rfl rfl (f := 1) rfl rfl (Or.inl rfl) ?_
  have g := hT.1 8 1
  have g0 : 0 ≤ (σ.1 8 1).toInt := g.1
  have g1 : (σ.1 8 1).toInt ≤ 800 := g.2
  have gc := tn_cl g0
  refine wp_cpy rfl rfl rfl (by decide) (by decide) (by rw [tn_ltI]; show ¬ (σ.1 8 1).toInt < 0; omega) (by show 0 + _ ≤ 800; omega) (by show 0 + _ ≤ 800; omega) (by decide) (by decide) th_sys ?_
  refine wp_lda rfl tm_m0 ?_
  refine wp_lda rfl tm_m1 ?_
  refine wq_geti rfl rfl (f := 1) rfl rfl (Or.inl rfl) ?_
  refine wq_puti rfl rfl (f := 1) rfl rfl ?_
  refine wp_retv rfl (tv_Qc1 (tv_TY_sI (tv_TY_sA hT (fun j => ?_)) g0 g1) (tv_un_tr (tv_un_sA rfl) (tv_un_fI rfl)) tv_rvn)
  unfold va_cpy
  split
  · exact hT.1 30 _
  · exact hT.1 29 _
def tz_note (v : Int) : tv_C := (214, [(3, 11, 11), (1, 0, 7), (1, 0, v - 1)], [], [((1, (-2147483648), 2147483647), [])], [], 39)
set_option maxRecDepth 100000 in
set_option maxHeartbeats 4000000 in
theorem ts_sung {v : Int} (hnote : tv_Snd (tc_T v) (tz_note v)) : tv_Snd (tc_T v) (213, [(3, 11, 11), (1, 0, 7), (1, (-2147483648), 2147483647)], [], [((1, (-2147483648), 2147483647), [])], [], 40) := by
  intro As σ hva hT
  obtain ⟨x0, x1, x2, rfl, h0, h1, h2⟩ := tv_va3 hva
  obtain ⟨k0, rfl, l0, u0⟩ := h0
  obtain rfl : k0 = 11 := by omega
  obtain ⟨a1, rfl, l1, u1⟩ := h1
  obtain ⟨a2, rfl, l2, u2⟩ := h2
  have gb : 0 ≤ (σ.1 64 a1.toNatClampNeg).toInt ∧ (σ.1 64 a1.toNatClampNeg).toInt ≤ 40 := hT.1 64 _
  have gn : v ≤ (σ.1 11 1).toInt ∧ (σ.1 11 1).toInt ≤ v := hT.1 11 1
  have hr2 := tn_rng a2
  show WP 40 213 0 [(0, .ref 11), (1, .int a1), (2, .int a2)] [] σ _
  refine wp_ldi rfl tm_m2 ?_
  refine wp_lda rfl tm_m0 ?_
  refine wq_getr (p := 64) rfl rfl (f := 30) rfl rfl ?_
  refine wp_ldi rfl tm_m1 ?_
  refine wp_iald rfl rfl (tn_in l1 (by omega)) ?_
  refine wq_isub rfl ?_
  refine wq_sti [(3, .int (a2 - (σ.1 64 a1.toNatClampNeg))), (0, .ref 11), (1, .int a1), (2, .int a2)] rfl rfl ?_
  refine wp_ldi rfl tm_m3 ?_
  refine wp_lda rfl tm_m1 ?_
  refine wq_getr (p := 64) rfl rfl (f := 30) rfl rfl ?_
  refine wp_ldi rfl tm_m2 ?_
  refine wp_iald rfl rfl (tn_in l1 (by omega)) ?_
  refine wq_iclt rfl (fun h16 => ?_) (fun h16 => ?_)
  · refine wq_con (x := (-1)) rfl (by decide) ?_
    exact wp_reti rfl (th_nI rfl) (tv_Qc1 hT tv_un_rf tv_rva)
  · refine wp_ldi rfl tm_m0 ?_
    refine wp_lda rfl tm_m1 ?_
    refine wq_geti rfl rfl (f := 1) rfl rfl (Or.inl rfl) ?_
    refine wq_icge rfl (fun h24 => ?_) (fun h24 => ?_)
    · refine wq_con (x := (-1)) rfl (by decide) ?_
      exact wp_reti rfl (th_nI rfl) (tv_Qc1 hT tv_un_rf tv_rva)
    · have e16 : ¬ a2.toInt < (σ.1 64 a1.toNatClampNeg).toInt := by rw [tn_ltI] at h16; exact h16
      have e1 : (a2 - σ.1 64 a1.toNatClampNeg).toInt = a2.toInt - (σ.1 64 a1.toNatClampNeg).toInt := tn_sub (by omega) (by omega)
      have e24 : (a2 - σ.1 64 a1.toNatClampNeg).toInt < (σ.1 11 1).toInt := by rw [tn_leI] at h24; omega
      refine wp_lda rfl tm_m1 ?_
      refine wp_ldi rfl tm_m2 ?_
      refine wp_ldi rfl tm_m0 ?_
      refine wq_calv [.int a1, .int (a2 - (σ.1 64 a1.toNatClampNeg))] rfl rfl rfl rfl rfl rfl rfl rfl rfl (WM.deep (hnote [.ref 11, .int a1, .int (a2 - σ.1 64 a1.toNatClampNeg)] σ ⟨⟨_, rfl, by decide, by decide⟩, ⟨_, rfl, l1, u1⟩, ⟨_, rfl, by omega, by omega⟩, trivial⟩ hT) (show 39 ≤ 39 from Nat.le_refl 39)) ?_
      rintro r1 σ1 ⟨hT1, hu1, q, hq, hr, -⟩
      obtain rfl := List.mem_singleton.mp hq
      rcases hr with ⟨e, -⟩ | ⟨x, rfl, hx⟩
      · cases e
      obtain ⟨z1, rfl, -, -⟩ := hx
      refine wp_go rfl ?_
      exact wp_reti rfl (th_nI rfl) (tv_Qc1 hT1 hu1 tv_rva)
end
section
/-! ===== indexOf, advance ===== -/
set_option maxRecDepth 100000 in
set_option maxHeartbeats 4000000 in
theorem th_can {d : Nat} {σ : tm_S} {c : Int32} : WM d 126 [.int c] σ (fun r σ' => (r = some (.int 0) ∨ r = some (.int 1)) ∧ σ = σ') := by
  show WP d 126 0 [(0, .int c)] [] σ _
  refine wp_ldi rfl tm_m0 ?_
  refine wq_iflt rfl (fun h1 => ?_) (fun h1 => ?_)
  · refine wq_con (x := 0) rfl (by decide) ?_
    exact wp_reti rfl (th_n0 rfl) ⟨Or.inl rfl, rfl⟩
  · refine wp_ldi rfl tm_m0 ?_
    refine wq_con (x := 255) rfl (by decide) ?_
    refine wq_icgt rfl (fun h8 => ?_) (fun h8 => ?_)
    · refine wq_con (x := 0) rfl (by decide) ?_
      exact wp_reti rfl (th_n0 rfl) ⟨Or.inl rfl, rfl⟩
    · refine wq_con (x := 1) rfl (by decide) ?_
      refine wp_go rfl ?_
      exact wp_reti rfl (th_n1 rfl) ⟨Or.inr rfl, rfl⟩
set_option maxRecDepth 100000 in
set_option maxHeartbeats 4000000 in
theorem th_ioc_l {d : Nat} {σ : tm_S} {q : Nat} (hq : q < tt_NS) {c e f t : Int32} (hn : tt_len.getD q 0 ≤ 100) (ht : t.toInt ≤ (tt_len.getD q 0 : Nat)) : ∀ (m : Nat) (i : Int32), 0 ≤ i.toInt → t.toInt ≤ i.toInt + m → WP d 127 7 [(5, .int i), (4, .int e), (0, .ref (tt_SV + q)), (1, .int c), (2, .int f), (3, .int t)] [] σ (fun r σ' => (∃ z : Int32, r = some (.int z) ∧ -1 ≤ z.toInt ∧ z.toInt < (tt_len.getD q 0 : Nat)) ∧ σ = σ') := by
  intro m
  induction m with
  | zero =>
    intro i h1 h2
    refine wp_ldi rfl tm_m0 ?_
    refine wp_ldi rfl tm_m5 ?_
    refine wq_icge rfl (fun h10 => ?_) (fun h10 => absurd (tn_leI.mpr (by omega)) h10)
    refine wq_con (x := (-1)) rfl (by decide) ?_
    exact wp_reti rfl (th_nI rfl) ⟨⟨_, rfl, by decide, by show (-1 : Int) < _; omega⟩, rfl⟩
  | succ m ih =>
    intro i h1 h2
    refine wp_ldi rfl tm_m0 ?_
    refine wp_ldi rfl tm_m5 ?_
    refine wq_icge rfl (fun h10 => ?_) (fun h10 => ?_)
    · refine wq_con (x := (-1)) rfl (by decide) ?_
      exact wp_reti rfl (th_nI rfl) ⟨⟨_, rfl, by decide, by show (-1 : Int) < _; omega⟩, rfl⟩
    · have e10 : i.toInt < t.toInt := by rw [tn_leI] at h10; omega
      have e2 := tn_add1 (x := i) (by omega)
      refine wp_lda rfl tm_m2 ?_
      refine wp_ldi rfl tm_m0 ?_
      refine wp_sald rfl hq (tn_in (by omega) (by omega)) ?_
      refine wp_ldi rfl tm_m1 ?_
      refine wq_icne rfl (fun h19 => ?_) (fun h19 => ?_)
      · refine wq_inc (c := 1) [(5, .int (i + 1)), (4, .int e), (0, .ref (tt_SV + q)), (1, .int c), (2, .int f), (3, .int t)] rfl tm_m0 rfl rfl ?_
        refine wp_go rfl ?_
        exact WP.less (ih (i + 1) (by omega) (by omega)) (by simp)
      · refine wp_ldi rfl tm_m0 ?_
        exact wp_reti rfl (th_nI rfl) ⟨⟨_, rfl, by omega, by omega⟩, rfl⟩
set_option maxRecDepth 100000 in
set_option maxHeartbeats 4000000 in
theorem th_ioc {d : Nat} {σ : tm_S} {q : Nat} (hq : q < tt_NS) {c f t : Int32} (hn : tt_len.getD q 0 ≤ 100) (hf : 0 ≤ f.toInt) (ht : t.toInt ≤ (tt_len.getD q 0 : Nat)) : WM d 127 [.ref (tt_SV + q), .int c, .int f, .int t] σ (fun r σ' => (∃ z : Int32, r = some (.int z) ∧ -1 ≤ z.toInt ∧ z.toInt < (tt_len.getD q 0 : Nat)) ∧ σ = σ') := by
  show WP d 127 0 [(0, .ref (tt_SV + q)), (1, .int c), (2, .int f), (3, .int t)] [] σ _
  refine wp_ldi rfl tm_m1 ?_
  refine wp_i2b rfl ?_
  refine wq_sti [(4, .int (c.toInt8.toInt32)), (0, .ref (tt_SV + q)), (1, .int c), (2, .int f), (3, .int t)] rfl rfl ?_
  refine wp_ldi rfl tm_m3 ?_
  refine wq_sti [(5, .int f), (4, .int (c.toInt8.toInt32)), (0, .ref (tt_SV + q)), (1, .int c), (2, .int f), (3, .int t)] rfl rfl ?_
  exact WP.less (th_ioc_l (c := c) (e := c.toInt8.toInt32) (f := f) hq hn ht 100 f hf (by omega)) (by simp)
set_option maxRecDepth 100000 in
set_option maxHeartbeats 4000000 in
theorem th_io4 {d : Nat} {σ : tm_S} {q : Nat} (hq : q < tt_NS) {c : Int32} (hn : tt_len.getD q 0 ≤ 100) : WM (d + 1) 125 [.ref (tt_SV + q), .int c, .int 0, .int (Int32.ofNat (tt_len.getD q 0))] σ (fun r σ' => (∃ z : Int32, r = some (.int z) ∧ -1 ≤ z.toInt ∧ z.toInt < (tt_len.getD q 0 : Nat)) ∧ σ = σ') := by
  have eL : (Int32.ofNat (tt_len.getD q 0)).toInt = (tt_len.getD q 0 : Nat) := tn_ofNat (by omega)
  show WP (d + 1) 125 0 [(0, .ref (tt_SV + q)), (1, .int c), (2, .int 0), (3, .int (Int32.ofNat (tt_len.getD q 0)))] [] σ _
  refine wp_ldi rfl tm_m1 ?_
  refine wq_cals [.int c] rfl rfl rfl rfl rfl rfl (th_can) ?_
  rintro r0 _ ⟨hr0, rfl⟩
  obtain ⟨z0, rfl⟩ : ∃ z : Int32, r0 = some (.int z) := by rcases hr0 with rfl | rfl <;> exact ⟨_, rfl⟩
  refine wq_ifne rfl (fun h4 => ?_) (fun h4 => ?_)
  · refine wp_ldi rfl tm_m2 ?_
    refine wq_con (x := 0) rfl (by decide) ?_
    refine wp_mmax rfl (by omega) (by decide) ?_
    rw [ite_self]
    refine wq_sti [(2, .int 0), (0, .ref (tt_SV + q)), (1, .int c), (3, .int (Int32.ofNat (tt_len.getD q 0)))] rfl rfl ?_
    refine wp_ldi rfl tm_m3 ?_
    refine wp_lda rfl tm_m1 ?_
    refine wp_slen rfl hq ?_
    refine wp_mmin rfl (by omega) (by decide) ?_
    rw [ite_self]
    refine wq_sti [(3, .int (Int32.ofNat (tt_len.getD q 0))), (2, .int 0), (0, .ref (tt_SV + q)), (1, .int c)] rfl rfl ?_
    refine wp_ldi rfl tm_m1 ?_
    refine wp_ldi rfl tm_m0 ?_
    refine wq_iclt rfl (fun h24 => ?_) (fun h24 => ?_)
    · refine wp_lda rfl tm_m2 ?_
      refine wp_ldi rfl tm_m3 ?_
      refine wp_ldi rfl tm_m1 ?_
      refine wp_ldi rfl tm_m0 ?_
      refine wq_cals [.ref (tt_SV + q), .int c, .int 0, .int (Int32.ofNat (tt_len.getD q 0))] rfl rfl rfl rfl rfl rfl (th_ioc hq hn (by decide) (by rw [eL]; omega)) ?_
      rintro _ _ ⟨⟨z1, rfl, g1, g2⟩, rfl⟩
      exact wp_reti rfl (th_nI rfl) ⟨⟨_, rfl, g1, g2⟩, rfl⟩
    · refine wq_con (x := (-1)) rfl (by decide) ?_
      exact wp_reti rfl (th_nI rfl) ⟨⟨_, rfl, by decide, by show (-1 : Int) < _; omega⟩, rfl⟩
  · refine wq_con (x := (-1)) rfl (by decide) ?_
    exact wp_reti rfl (th_nI rfl) ⟨⟨_, rfl, by decide, by show (-1 : Int) < _; omega⟩, rfl⟩
set_option maxRecDepth 100000 in
set_option maxHeartbeats 4000000 in
theorem th_io3 {d : Nat} {σ : tm_S} {q : Nat} (hq : q < tt_NS) {c : Int32} (hn : tt_len.getD q 0 ≤ 100) : WM (d + 2) 124 [.ref (tt_ST + q), .int c, .int 0] σ (fun r σ' => (∃ z : Int32, r = some (.int z) ∧ -1 ≤ z.toInt ∧ z.toInt < (tt_len.getD q 0 : Nat)) ∧ σ = σ') := by
  show WP (d + 2) 124 0 [(0, .ref (tt_ST + q)), (1, .int c), (2, .int 0)] [] σ _
  refine wp_lda rfl tm_m0 ?_
  refine wq_calS [] rfl rfl rfl rfl rfl rfl rfl hq (th_isL hq) ?_
  rintro _ _ ⟨rfl, rfl⟩
  refine wq_ifeq rfl (fun h4 => absurd h4 (by decide)) (fun h4 => ?_)
  refine wp_lda rfl tm_m0 ?_
  refine wp_sfV rfl hq ?_
  refine wp_ldi rfl tm_m1 ?_
  refine wp_ldi rfl tm_m2 ?_
  refine wp_lda rfl tm_m0 ?_
  refine wq_calS [] rfl rfl rfl rfl rfl rfl rfl hq (th_len hq) ?_
  rintro _ _ ⟨rfl, rfl⟩
  refine wq_cals [.ref (tt_SV + q), .int c, .int 0, .int (Int32.ofNat (tt_len.getD q 0))] rfl rfl rfl rfl rfl rfl (th_io4 hq hn) ?_
  rintro _ _ ⟨⟨z1, rfl, g1, g2⟩, rfl⟩
  refine wp_go rfl ?_
  exact wp_reti rfl (th_nI rfl) ⟨⟨_, rfl, g1, g2⟩, rfl⟩
set_option maxRecDepth 100000 in
set_option maxHeartbeats 4000000 in
theorem th_io2 {d : Nat} {σ : tm_S} {q : Nat} (hq : q < tt_NS) {c : Int32} (hn : tt_len.getD q 0 ≤ 100) : WM (d + 3) 123 [.ref (tt_ST + q), .int c] σ (fun r σ' => (∃ z : Int32, r = some (.int z) ∧ -1 ≤ z.toInt ∧ z.toInt < (tt_len.getD q 0 : Nat)) ∧ σ = σ') := by
  show WP (d + 3) 123 0 [(0, .ref (tt_ST + q)), (1, .int c)] [] σ _
  refine wp_lda rfl tm_m0 ?_
  refine wp_ldi rfl tm_m1 ?_
  refine wq_con (x := 0) rfl (by decide) ?_
  refine wq_calS [.int c, .int 0] rfl rfl rfl rfl rfl rfl rfl hq (th_io3 hq hn) ?_
  rintro _ _ ⟨⟨z1, rfl, g1, g2⟩, rfl⟩
  exact wp_reti rfl (th_nI rfl) ⟨⟨_, rfl, g1, g2⟩, rfl⟩
set_option maxRecDepth 100000 in
set_option maxHeartbeats 4000000 in
theorem ts_io0 {v : Int}  : tv_Snd (tc_T v) (123, [(3, 85, 85), (1, 0, 65535)], [], [((1, (-1), 3), [])], [], 40) := by
  intro As σ hva hT
  obtain ⟨x0, x1, rfl, h0, h1⟩ := tv_va2 hva
  obtain ⟨k0, rfl, l0, u0⟩ := h0
  obtain rfl : k0 = 85 := by omega
  obtain ⟨a1, rfl, l1, u1⟩ := h1
  refine WM.mono (th_io2 (q := 3) (d := 37) (by decide) (c := a1) (by decide)) ?_
  rintro r σ1 ⟨⟨z, rfl, g1, g2⟩, rfl⟩
  exact tv_Qc1 hT tv_un_rf (tv_rvi g1 (by have g3 : z.toInt < (4 : Nat) := g2; omega))
def tz_get7 : tv_C := (100, [(3, 7, 7), (1, (-2147483648), 2147483647)], [], [((1, (-1), (-1)), []), ((1, 0, 255), [(1, 0, 799)])], [], 49)
theorem tq_get7 {T : tv_TT} {a1 : Int32} {σ σ' : tm_S} {r : Option Value} (h : tv_Qc T tz_get7 [.ref 7, .int a1] σ r σ') : tv_TY T σ' ∧ tv_un σ σ' [] ∧ ((∃ z : Int32, r = some (.int z) ∧ (-1) ≤ z.toInt ∧ z.toInt ≤ (-1)) ∨ (∃ z : Int32, r = some (.int z) ∧ 0 ≤ z.toInt ∧ z.toInt ≤ 255 ∧ 0 ≤ a1.toInt ∧ a1.toInt ≤ 799)) := by
  obtain ⟨h1, h2, q, hq, hr, hn⟩ := h
  refine ⟨h1, h2, ?_⟩
  change q ∈ [((1, (-1), (-1)), []), ((1, 0, 255), [(1, 0, 799)])] at hq
  simp only [List.mem_cons, List.not_mem_nil, or_false] at hq
  rcases hq with rfl | rfl
  · rcases hr with ⟨e, -⟩ | ⟨x, rfl, hx⟩
    · cases e
    · obtain ⟨z, rfl, g1, g2⟩ := hx
      exact Or.inl (⟨z, rfl, g1, g2⟩)
  · obtain ⟨y0, e0, l0, u0⟩ := hn (1, 0, 799) tm_m0
    cases e0
    rcases hr with ⟨e, -⟩ | ⟨x, rfl, hx⟩
    · cases e
    · obtain ⟨z, rfl, g1, g2⟩ := hx
      exact Or.inr (⟨z, rfl, g1, g2, l0, u0⟩)
def tz_blank : tv_C := (101, [(1, (-2147483648), 2147483647)], [], [((1, 1, 1), [(0, 10, 32)]), ((1, 0, 0), [])], [], 49)
theorem tq_blank {T : tv_TT} {a0 : Int32} {σ σ' : tm_S} {r : Option Value} (h : tv_Qc T tz_blank [.int a0] σ r σ') : tv_TY T σ' ∧ tv_un σ σ' [] ∧ ((∃ z : Int32, r = some (.int z) ∧ 1 ≤ z.toInt ∧ z.toInt ≤ 1 ∧ 10 ≤ a0.toInt ∧ a0.toInt ≤ 32) ∨ (∃ z : Int32, r = some (.int z) ∧ 0 ≤ z.toInt ∧ z.toInt ≤ 0)) := by
  obtain ⟨h1, h2, q, hq, hr, hn⟩ := h
  refine ⟨h1, h2, ?_⟩
  change q ∈ [((1, 1, 1), [(0, 10, 32)]), ((1, 0, 0), [])] at hq
  simp only [List.mem_cons, List.not_mem_nil, or_false] at hq
  rcases hq with rfl | rfl
  · obtain ⟨y0, e0, l0, u0⟩ := hn (0, 10, 32) tm_m0
    cases e0
    rcases hr with ⟨e, -⟩ | ⟨x, rfl, hx⟩
    · cases e
    · obtain ⟨z, rfl, g1, g2⟩ := hx
      exact Or.inl (⟨z, rfl, g1, g2, l0, u0⟩)
  · rcases hr with ⟨e, -⟩ | ⟨x, rfl, hx⟩
    · cases e
    · obtain ⟨z, rfl, g1, g2⟩ := hx
      exact Or.inr (⟨z, rfl, g1, g2⟩)
def tz_letter : tv_C := (102, [(1, (-2147483648), 2147483647)], [], [((1, 0, 0), []), ((1, 1, 1), [(0, 65, 122)])], [], 49)
theorem tq_letter {T : tv_TT} {a0 : Int32} {σ σ' : tm_S} {r : Option Value} (h : tv_Qc T tz_letter [.int a0] σ r σ') : tv_TY T σ' ∧ tv_un σ σ' [] ∧ ((∃ z : Int32, r = some (.int z) ∧ 0 ≤ z.toInt ∧ z.toInt ≤ 0) ∨ (∃ z : Int32, r = some (.int z) ∧ 1 ≤ z.toInt ∧ z.toInt ≤ 1 ∧ 65 ≤ a0.toInt ∧ a0.toInt ≤ 122)) := by
  obtain ⟨h1, h2, q, hq, hr, hn⟩ := h
  refine ⟨h1, h2, ?_⟩
  change q ∈ [((1, 0, 0), []), ((1, 1, 1), [(0, 65, 122)])] at hq
  simp only [List.mem_cons, List.not_mem_nil, or_false] at hq
  rcases hq with rfl | rfl
  · rcases hr with ⟨e, -⟩ | ⟨x, rfl, hx⟩
    · cases e
    · obtain ⟨z, rfl, g1, g2⟩ := hx
      exact Or.inl (⟨z, rfl, g1, g2⟩)
  · obtain ⟨y0, e0, l0, u0⟩ := hn (0, 65, 122) tm_m0
    cases e0
    rcases hr with ⟨e, -⟩ | ⟨x, rfl, hx⟩
    · cases e
    · obtain ⟨z, rfl, g1, g2⟩ := hx
      exact Or.inr (⟨z, rfl, g1, g2, l0, u0⟩)
def tz_digit : tv_C := (112, [(1, (-2147483648), 2147483647)], [], [((1, 0, 0), []), ((1, 1, 1), [(0, 48, 57)])], [], 49)
theorem tq_digit {T : tv_TT} {a0 : Int32} {σ σ' : tm_S} {r : Option Value} (h : tv_Qc T tz_digit [.int a0] σ r σ') : tv_TY T σ' ∧ tv_un σ σ' [] ∧ ((∃ z : Int32, r = some (.int z) ∧ 0 ≤ z.toInt ∧ z.toInt ≤ 0) ∨ (∃ z : Int32, r = some (.int z) ∧ 1 ≤ z.toInt ∧ z.toInt ≤ 1 ∧ 48 ≤ a0.toInt ∧ a0.toInt ≤ 57)) := by
  obtain ⟨h1, h2, q, hq, hr, hn⟩ := h
  refine ⟨h1, h2, ?_⟩
  change q ∈ [((1, 0, 0), []), ((1, 1, 1), [(0, 48, 57)])] at hq
  simp only [List.mem_cons, List.not_mem_nil, or_false] at hq
  rcases hq with rfl | rfl
  · rcases hr with ⟨e, -⟩ | ⟨x, rfl, hx⟩
    · cases e
    · obtain ⟨z, rfl, g1, g2⟩ := hx
      exact Or.inl (⟨z, rfl, g1, g2⟩)
  · obtain ⟨y0, e0, l0, u0⟩ := hn (0, 48, 57) tm_m0
    cases e0
    rcases hr with ⟨e, -⟩ | ⟨x, rfl, hx⟩
    · cases e
    · obtain ⟨z, rfl, g1, g2⟩ := hx
      exact Or.inr (⟨z, rfl, g1, g2, l0, u0⟩)
def tz_word : tv_C := (103, [(3, 6, 6), (1, (-2147483648), 2147483647)], [], [((3, 81, 81), []), ((3, 75, 75), []), ((3, 74, 74), []), ((3, 73, 73), []), ((3, 76, 76), [(1, 97, 2147483647)])], [(6, 4), (6, 6)], 49)
theorem tq_word {T : tv_TT} {a1 : Int32} {σ σ' : tm_S} {r : Option Value} (h : tv_Qc T tz_word [.ref 6, .int a1] σ r σ') : tv_TY T σ' ∧ tv_un σ σ' [(6, 4), (6, 6)] ∧ ((r = some (.ref 81)) ∨ (r = some (.ref 75)) ∨ (r = some (.ref 74)) ∨ (r = some (.ref 73)) ∨ (r = some (.ref 76) ∧ 97 ≤ a1.toInt ∧ a1.toInt ≤ 2147483647)) := by
  obtain ⟨h1, h2, q, hq, hr, hn⟩ := h
  refine ⟨h1, h2, ?_⟩
  change q ∈ [((3, 81, 81), []), ((3, 75, 75), []), ((3, 74, 74), []), ((3, 73, 73), []), ((3, 76, 76), [(1, 97, 2147483647)])] at hq
  simp only [List.mem_cons, List.not_mem_nil, or_false] at hq
  rcases hq with rfl | rfl | rfl | rfl | rfl
  · rcases hr with ⟨e, -⟩ | ⟨x, rfl, hx⟩
    · cases e
    · obtain ⟨z, rfl, g1, g2⟩ := hx
      obtain rfl : z = 81 := by omega
      exact Or.inl (rfl)
  · rcases hr with ⟨e, -⟩ | ⟨x, rfl, hx⟩
    · cases e
    · obtain ⟨z, rfl, g1, g2⟩ := hx
      obtain rfl : z = 75 := by omega
      exact Or.inr (Or.inl (rfl))
  · rcases hr with ⟨e, -⟩ | ⟨x, rfl, hx⟩
    · cases e
    · obtain ⟨z, rfl, g1, g2⟩ := hx
      obtain rfl : z = 74 := by omega
      exact Or.inr (Or.inr (Or.inl (rfl)))
  · rcases hr with ⟨e, -⟩ | ⟨x, rfl, hx⟩
    · cases e
    · obtain ⟨z, rfl, g1, g2⟩ := hx
      obtain rfl : z = 73 := by omega
      exact Or.inr (Or.inr (Or.inr (Or.inl (rfl))))
  · obtain ⟨y0, e0, l0, u0⟩ := hn (1, 97, 2147483647) tm_m0
    cases e0
    rcases hr with ⟨e, -⟩ | ⟨x, rfl, hx⟩
    · cases e
    · obtain ⟨z, rfl, g1, g2⟩ := hx
      obtain rfl : z = 76 := by omega
      exact Or.inr (Or.inr (Or.inr (Or.inr (⟨rfl, l0, u0⟩))))
def tz_numb : tv_C := (113, [(3, 6, 6)], [], [((3, 81, 81), []), ((3, 77, 77), [])], [(6, 4), (6, 6)], 49)
theorem tq_numb {T : tv_TT}  {σ σ' : tm_S} {r : Option Value} (h : tv_Qc T tz_numb [.ref 6] σ r σ') : tv_TY T σ' ∧ tv_un σ σ' [(6, 4), (6, 6)] ∧ ((r = some (.ref 81)) ∨ (r = some (.ref 77))) := by
  obtain ⟨h1, h2, q, hq, hr, hn⟩ := h
  refine ⟨h1, h2, ?_⟩
  change q ∈ [((3, 81, 81), []), ((3, 77, 77), [])] at hq
  simp only [List.mem_cons, List.not_mem_nil, or_false] at hq
  rcases hq with rfl | rfl
  · rcases hr with ⟨e, -⟩ | ⟨x, rfl, hx⟩
    · cases e
    · obtain ⟨z, rfl, g1, g2⟩ := hx
      obtain rfl : z = 81 := by omega
      exact Or.inl (rfl)
  · rcases hr with ⟨e, -⟩ | ⟨x, rfl, hx⟩
    · cases e
    · obtain ⟨z, rfl, g1, g2⟩ := hx
      obtain rfl : z = 77 := by omega
      exact Or.inr (rfl)
/-- the types hold but at one field -/
def tv_TX (T : tv_TT) (p q : Nat) (σ : tm_S) : Prop := (∀ k j : Nat, ¬ (k = p ∧ j = q) → (tv_ti T k j).1 ≤ (σ.1 k j).toInt ∧ (σ.1 k j).toInt ≤ (tv_ti T k j).2) ∧ ∀ w ∈ tv_rt, w.2.1 ≤ σ.2.2 w.1.1 w.1.2 ∧ σ.2.2 w.1.1 w.1.2 ≤ w.2.2.1
theorem tv_TX_of {T : tv_TT} {p q : Nat} {σ : tm_S} (h : tv_TY T σ) : tv_TX T p q σ := ⟨fun k j _ => h.1 k j, h.2⟩
theorem tv_TX_at {T : tv_TT} {p q : Nat} {σ : tm_S} {x : Int32} (h : tv_TX T p q σ) (h1 : (tv_ti T p q).1 ≤ x.toInt) (h2 : x.toInt ≤ (tv_ti T p q).2) : tv_TY T (tm_sI σ p q x) := by
  refine ⟨fun k j => ?_, h.2⟩
  rw [tm_gI]
  split
  · rename_i e
    rw [e.1, e.2]
    exact ⟨h1, h2⟩
  · rename_i e
    exact h.1 k j e
theorem tv_TX_self {T : tv_TT} {p q : Nat} {σ : tm_S} {x : Int32} (h : tv_TX T p q σ) : tv_TX T p q (tm_sI σ p q x) := by
  refine ⟨fun k j e => ?_, h.2⟩
  rw [tm_gI, if_neg e]
  exact h.1 k j e
theorem tv_TX_sI {T : tv_TT} {p q a b : Nat} {σ : tm_S} {x : Int32} (h : tv_TX T p q σ) (h1 : (tv_ti T a b).1 ≤ x.toInt) (h2 : x.toInt ≤ (tv_ti T a b).2) : tv_TX T p q (tm_sI σ a b x) := by
  refine ⟨fun k j e => ?_, h.2⟩
  rw [tm_gI]
  split
  · rename_i e
    rw [e.1, e.2]
    exact ⟨h1, h2⟩
  · exact h.1 k j e
theorem tm_gR (σ : tm_S) (k j v a b : Nat) : (tm_sR σ k j v).2.2 a b = if a = k ∧ b = j then v else σ.2.2 a b := by
  show (if a = k then (fun i => if i = j then v else σ.2.2 k i) else σ.2.2 a) b = _
  by_cases ha : a = k
  · subst ha
    rw [if_pos rfl]
    by_cases hb : b = j
    · rw [if_pos hb, if_pos ⟨rfl, hb⟩]
    · rw [if_neg hb, if_neg (fun e => hb e.2)]
  · rw [if_neg ha, if_neg (fun e => ha e.1)]
/-- the reader's token is one of the nine -/
theorem tv_TX_tok {T : tv_TT} {p q x : Nat} {σ : tm_S} (h : tv_TX T p q σ) (h1 : tt_EN ≤ x) (h2 : x ≤ tt_EN + 8) : tv_TX T p q (tm_sR σ 6 3 x) := by
  refine ⟨h.1, fun w hw => ?_⟩
  rw [tm_gR]
  split
  · rename_i e
    have h3 : ∀ w ∈ tv_rt, w.1.1 = 6 ∧ w.1.2 = 3 → w.2.1 = tt_EN ∧ w.2.2.1 = tt_EN + 8 := by decide
    obtain ⟨e1, e2⟩ := h3 w hw e
    rw [e1, e2]
    exact ⟨h1, h2⟩
  · exact h.2 w hw
theorem tv_TY_tok {T : tv_TT} {x : Nat} {σ : tm_S} (h : tv_TY T σ) (h1 : tt_EN ≤ x) (h2 : x ≤ tt_EN + 8) : tv_TY T (tm_sR σ 6 3 x) := by
  have h3 := tv_TX_tok (p := 6) (q := 0) (tv_TX_of h) h1 h2
  exact ⟨h.1, h3.2⟩
theorem tv_un_fR {σ : tm_S} {p k x : Nat} {w : List (Nat × Nat)} (hm : tv_mem w p k = true) : tv_un σ (tm_sR σ p k x) w := by
  intro a i kd h1 h2
  match kd with
  | 0 => rfl
  | 1 => rfl
  | 2 => rfl
  | 3 =>
    show Value.ref _ = Value.ref _
    rw [tm_gR, if_neg (fun e => by rw [e.1, e.2, hm] at h2; cases h2)]
  | p + 4 => rfl
theorem tv_un_i {a b : tm_S} {w : List (Nat × Nat)} {k j : Nat} (h : tv_un a b w) (hk : tv_kd k j = some 0) (hm : tv_mem w k j = false) : b.1 k j = a.1 k j := Value.int.inj (h k j 0 hk hm)
set_option maxRecDepth 100000 in
set_option maxHeartbeats 4000000 in
theorem ts_adv {v : Int} (hget7 : tv_Snd (tc_T v) tz_get7) (hblank : tv_Snd (tc_T v) tz_blank) (hletter : tv_Snd (tc_T v) tz_letter) (hdigit : tv_Snd (tc_T v) tz_digit) (hword : tv_Snd (tc_T v) tz_word) (hnumb : tv_Snd (tc_T v) tz_numb) : tv_Snd (tc_T v) (99, [(3, 6, 6)], [], [((0, 0, 0), [])], [(6, 3), (6, 4), (6, 5), (6, 6)], 50) := by
  intro As σ hva hT
  obtain ⟨x0, rfl, h0⟩ := tv_va1 hva
  obtain ⟨k0, rfl, l0, u0⟩ := h0
  obtain rfl : k0 = 6 := by omega
  have k50 : ∀ (i : Int32) (σa : tm_S), tv_TY (tc_T v) σa → tv_un σ σa [(6, 3), (6, 4), (6, 5), (6, 6)] → WP 50 99 50 [(1, .int i), (0, .ref 6)] [] σa (tv_Qc (tc_T v) (99, [(3, 6, 6)], [], [((0, 0, 0), [])], [(6, 3), (6, 4), (6, 5), (6, 6)], 50) [.ref 6] σ) := by
    intro i σa hTa hua
    refine wp_lda rfl tm_m1 ?_
    refine wq_getr (p := 7) rfl rfl (f := 0) rfl rfl ?_
    refine wp_lda rfl tm_m1 ?_
    refine wq_geti rfl rfl (f := 5) rfl rfl (Or.inl rfl) ?_
    refine wq_calv [.int (σa.1 6 5)] rfl rfl rfl rfl rfl rfl rfl rfl rfl (WM.deep (hget7 [.ref 7, .int (σa.1 6 5)] σa ⟨⟨_, rfl, by decide, by decide⟩, ⟨_, rfl, (tn_rng _).1, (tn_rng _).2⟩, trivial⟩ hTa) (by decide)) ?_
    rintro r1 σ1 hq1
    obtain ⟨hT1, hu1, hz1⟩ := tq_get7 hq1
    obtain ⟨z1, rfl, hp1, hm1⟩ : ∃ z : Int32, r1 = some (.int z) ∧ (¬ z = -1 → 0 ≤ (σa.1 6 5).toInt ∧ (σa.1 6 5).toInt ≤ 799) ∧ (0 ≤ z.toInt → ¬ z = -1) := by
      rcases hz1 with ⟨z, rfl, g1, g2⟩ | ⟨z, rfl, g1, g2, g3, g4⟩
      · exact ⟨z, rfl, fun e => absurd (Int32.toInt_inj.mp (by show z.toInt = -1; omega)) e, fun h => by omega⟩
      · exact ⟨z, rfl, fun _ => ⟨g3, g4⟩, fun _ e => by rw [e] at g1; exact absurd g1 (by decide)⟩
    have ep1 : σ1.1 6 5 = (σa).1 6 5 := tv_un_i hu1 rfl rfl
    refine wq_sti [(1, .int z1), (0, .ref 6)] rfl rfl ?_
    refine wp_lda rfl tm_m1 ?_
    refine wp_lda rfl tm_m1 ?_
    refine wq_geti rfl rfl (f := 5) rfl rfl (Or.inl rfl) ?_
    refine wq_con (x := 1) rfl (by decide) ?_
    refine wq_iadd rfl ?_
    refine wq_puti rfl rfl (f := 6) rfl rfl ?_
    have gp : 0 ≤ (σ1.1 6 5).toInt ∧ (σ1.1 6 5).toInt ≤ 800 := hT1.1 6 5
    have gv : (tv_ti (tc_T v) 6 4).1 ≤ (0 : Int32).toInt ∧ (0 : Int32).toInt ≤ (tv_ti (tc_T v) 6 4).2 := ⟨tv_z0, tv_z1⟩
    refine wp_lda rfl tm_m1 ?_
    refine wq_con (x := 0) rfl (by decide) ?_
    refine wq_puti rfl rfl (f := 4) rfl rfl ?_
    refine wp_ldi rfl tm_m0 ?_
    refine wq_con (x := (-1)) rfl (by decide) ?_
    refine wq_icne rfl (fun h79 => ?_) (fun h79 => ?_)
    · have gq := hp1 h79
      rw [← ep1] at gq
      have g1 := tn_add1 (x := σ1.1 6 5) (by omega)
      have hTs : tv_TY (tc_T v) (tm_sI (tm_sI σ1 6 6 ((σ1.1 6 5) + 1)) 6 4 0) := tv_TY_sI (tv_TY_sI hT1 (by show (0 : Int) ≤ _; omega) (by show _ ≤ (800 : Int); omega)) gv.1 gv.2
      have hus : tv_un σ (tm_sI (tm_sI σ1 6 6 ((σ1.1 6 5) + 1)) 6 4 0) [(6, 3), (6, 4), (6, 5), (6, 6)] := (tv_un_tr (tv_un_tr (tv_un_tr hua (tv_un_mo hu1 (by decide))) (tv_un_fI rfl)) (tv_un_fI rfl))
      refine wp_ldi rfl tm_m0 ?_
      refine wq_cals [.int z1] rfl rfl rfl rfl rfl rfl (WM.deep (hletter [.int z1] (tm_sI (tm_sI σ1 6 6 ((σ1.1 6 5) + 1)) 6 4 0) ⟨⟨_, rfl, (tn_rng _).1, (tn_rng _).2⟩, trivial⟩ hTs) (by decide)) ?_
      rintro r2 σ2 hq2
      obtain ⟨hT2, hu2, hz2⟩ := tq_letter hq2
      obtain ⟨z2, rfl, hb2⟩ : ∃ z : Int32, r2 = some (.int z) ∧ (¬ z = 0 → 0 ≤ (z1).toInt) := by
        rcases hz2 with ⟨z, rfl, g1, g2⟩ | ⟨z, rfl, g1, g2, g3, g4⟩
        · exact ⟨z, rfl, fun e => absurd (Int32.toInt_inj.mp (by show z.toInt = 0; omega)) e⟩
        · exact ⟨z, rfl, fun e => by omega⟩
      have hx2 := tv_un_tr hus (tv_un_mo hu2 (w' := [(6, 3), (6, 4), (6, 5), (6, 6)]) (by decide))
      refine wq_ifeq rfl (fun h104 => ?_) (fun h104 => ?_)
      · refine wp_ldi rfl tm_m0 ?_
        refine wq_cals [.int z1] rfl rfl rfl rfl rfl rfl (WM.deep (hdigit [.int z1] σ2 ⟨⟨_, rfl, (tn_rng _).1, (tn_rng _).2⟩, trivial⟩ hT2) (by decide)) ?_
        rintro r3 σ3 hq3
        obtain ⟨hT3, hu3, hz3⟩ := tq_digit hq3
        obtain ⟨z3, rfl, hb3⟩ : ∃ z : Int32, r3 = some (.int z) ∧ (¬ z = 0 → 0 ≤ (z1).toInt) := by
          rcases hz3 with ⟨z, rfl, g1, g2⟩ | ⟨z, rfl, g1, g2, g3, g4⟩
          · exact ⟨z, rfl, fun e => absurd (Int32.toInt_inj.mp (by show z.toInt = 0; omega)) e⟩
          · exact ⟨z, rfl, fun e => by omega⟩
        have hx3 := tv_un_tr hx2 (tv_un_mo hu3 (w' := [(6, 3), (6, 4), (6, 5), (6, 6)]) (by decide))
        refine wq_ifeq rfl (fun h123 => ?_) (fun h123 => ?_)
        · refine wp_ldi rfl tm_m0 ?_
          refine wq_con (x := 61) rfl (by decide) ?_
          refine wq_icne rfl (fun h140 => ?_) (fun h140 => ?_)
          · refine wp_lda rfl tm_m1 ?_
            refine wp_ldi rfl tm_m0 ?_
            refine wq_con (x := 59) rfl (by decide) ?_
            refine wq_icne rfl (fun h157 => ?_) (fun h157 => ?_)
            · refine wp_gsE rfl ?_
              refine wq_putr rfl rfl (f := 3) rfl rfl ?_
              exact wp_retv rfl (tv_Qc1 (tv_TY_tok hT3 (by decide) (by decide)) (tv_un_tr hx3 (tv_un_fR rfl)) tv_rvn)
            · refine wp_gsE rfl ?_
              refine wp_go rfl ?_
              refine wq_putr rfl rfl (f := 3) rfl rfl ?_
              exact wp_retv rfl (tv_Qc1 (tv_TY_tok hT3 (by decide) (by decide)) (tv_un_tr hx3 (tv_un_fR rfl)) tv_rvn)
          · refine wp_lda rfl tm_m1 ?_
            refine wp_gsE rfl ?_
            refine wq_putr rfl rfl (f := 3) rfl rfl ?_
            refine wp_go rfl ?_
            exact wp_retv rfl (tv_Qc1 (tv_TY_tok hT3 (by decide) (by decide)) (tv_un_tr hx3 (tv_un_fR rfl)) tv_rvn)
        · refine wp_lda rfl tm_m1 ?_
          refine wp_lda rfl tm_m1 ?_
          refine wq_calv [] rfl rfl rfl rfl rfl rfl rfl rfl rfl (WM.deep (hnumb [.ref 6] σ3 ⟨⟨_, rfl, by decide, by decide⟩, trivial⟩ hT3) (by decide)) ?_
          rintro r4 σ4 hq4
          obtain ⟨hT4, hu4, hz4⟩ := tq_numb hq4
          obtain ⟨z4, rfl, hc4, hd4⟩ : ∃ z : Nat, r4 = some (.ref z) ∧ tt_EN ≤ z ∧ z ≤ tt_EN + 8 := by
            rcases hz4 with rfl | rfl <;> exact ⟨_, rfl, by decide, by decide⟩
          have hx4 := tv_un_tr hx3 (tv_un_mo hu4 (w' := [(6, 3), (6, 4), (6, 5), (6, 6)]) (by decide))
          refine wq_putr rfl rfl (f := 3) rfl rfl ?_
          refine wp_go rfl ?_
          exact wp_retv rfl (tv_Qc1 (tv_TY_tok hT4 (hc4) (hd4)) (tv_un_tr hx4 (tv_un_fR rfl)) tv_rvn)
      · refine wp_lda rfl tm_m1 ?_
        refine wp_lda rfl tm_m1 ?_
        refine wp_ldi rfl tm_m0 ?_
        refine wq_calv [.int z1] rfl rfl rfl rfl rfl rfl rfl rfl rfl (WM.deep (hword [.ref 6, .int z1] σ2 ⟨⟨_, rfl, by decide, by decide⟩, ⟨_, rfl, (tn_rng _).1, (tn_rng _).2⟩, trivial⟩ hT2) (by decide)) ?_
        rintro r5 σ5 hq5
        obtain ⟨hT5, hu5, hz5⟩ := tq_word hq5
        obtain ⟨z5, rfl, hc5, hd5⟩ : ∃ z : Nat, r5 = some (.ref z) ∧ tt_EN ≤ z ∧ z ≤ tt_EN + 8 := by
          rcases hz5 with rfl | rfl | rfl | rfl | ⟨rfl, -, -⟩ <;> exact ⟨_, rfl, by decide, by decide⟩
        have hx5 := tv_un_tr hx2 (tv_un_mo hu5 (w' := [(6, 3), (6, 4), (6, 5), (6, 6)]) (by decide))
        refine wq_putr rfl rfl (f := 3) rfl rfl ?_
        refine wp_go rfl ?_
        exact wp_retv rfl (tv_Qc1 (tv_TY_tok hT5 (hc5) (hd5)) (tv_un_tr hx5 (tv_un_fR rfl)) tv_rvn)
    · refine wp_lda rfl tm_m1 ?_
      refine wp_gsE rfl ?_
      refine wq_putr rfl rfl (f := 3) rfl rfl ?_
      refine wp_lda rfl tm_m1 ?_
      refine wp_lda rfl tm_m1 ?_
      refine wq_geti rfl rfl (f := 5) rfl rfl (Or.inl rfl) ?_
      refine wq_puti rfl rfl (f := 6) rfl rfl ?_
      refine wp_go rfl ?_
      exact wp_retv rfl (tv_Qc1 (tv_TX_at (tv_TX_tok (tv_TX_sI (tv_TX_self (tv_TX_of hT1)) gv.1 gv.2) (by decide) (by decide)) (gp.1) (gp.2)) (tv_un_tr (tv_un_tr (tv_un_tr (tv_un_tr (tv_un_tr hua (tv_un_mo hu1 (by decide))) (tv_un_fI rfl)) (tv_un_fI rfl)) (tv_un_fR rfl)) (tv_un_fI rfl)) tv_rvn)
  have k10 : ∀ (m : Nat) (i : Int32) (σa : tm_S), tv_TY (tc_T v) σa → tv_un σ σa [(6, 3), (6, 4), (6, 5), (6, 6)] → 0 ≤ i.toInt → 800 ≤ i.toInt + m → WP 50 99 10 [(1, .int i), (0, .ref 6)] [] σa (tv_Qc (tc_T v) (99, [(3, 6, 6)], [], [((0, 0, 0), [])], [(6, 3), (6, 4), (6, 5), (6, 6)], 50) [.ref 6] σ) := by
    intro m
    induction m with
    | zero =>
      intro i σa hTa hua h1 h2
      refine wp_ldi rfl tm_m0 ?_
      refine wq_con (x := 800) rfl (by decide) ?_
      refine wq_icge rfl (fun h14 => ?_) (fun h14 => absurd (tn_leI.mpr (by show (800 : Int) ≤ _; omega)) h14)
      exact k50 i _ hTa hua
    | succ m ih =>
      intro i σa hTa hua h1 h2
      refine wp_ldi rfl tm_m0 ?_
      refine wq_con (x := 800) rfl (by decide) ?_
      refine wq_icge rfl (fun h14 => ?_) (fun h14 => ?_)
      · exact k50 i _ hTa hua
      · have e14 : i.toInt < 800 := by rw [tn_leI] at h14; exact Int.not_le.mp h14
        have e2 := tn_add1 (x := i) (by omega)
        refine wp_lda rfl tm_m1 ?_
        refine wq_getr (p := 7) rfl rfl (f := 0) rfl rfl ?_
        refine wp_lda rfl tm_m1 ?_
        refine wq_geti rfl rfl (f := 5) rfl rfl (Or.inl rfl) ?_
        refine wq_calv [.int (σa.1 6 5)] rfl rfl rfl rfl rfl rfl rfl rfl rfl (WM.deep (hget7 [.ref 7, .int (σa.1 6 5)] σa ⟨⟨_, rfl, by decide, by decide⟩, ⟨_, rfl, (tn_rng _).1, (tn_rng _).2⟩, trivial⟩ hTa) (by decide)) ?_
        rintro r1 σ1 hq1
        obtain ⟨hT1, hu1, hz1⟩ := tq_get7 hq1
        obtain ⟨z1, rfl, hp1, hm1⟩ : ∃ z : Int32, r1 = some (.int z) ∧ (¬ z = -1 → 0 ≤ (σa.1 6 5).toInt ∧ (σa.1 6 5).toInt ≤ 799) ∧ (0 ≤ z.toInt → ¬ z = -1) := by
          rcases hz1 with ⟨z, rfl, g1, g2⟩ | ⟨z, rfl, g1, g2, g3, g4⟩
          · exact ⟨z, rfl, fun e => absurd (Int32.toInt_inj.mp (by show z.toInt = -1; omega)) e, fun h => by omega⟩
          · exact ⟨z, rfl, fun _ => ⟨g3, g4⟩, fun _ e => by rw [e] at g1; exact absurd g1 (by decide)⟩
        have ep1 : σ1.1 6 5 = (σa).1 6 5 := tv_un_i hu1 rfl rfl
        refine wq_cals [.int z1] rfl rfl rfl rfl rfl rfl (WM.deep (hblank [.int z1] σ1 ⟨⟨_, rfl, (tn_rng _).1, (tn_rng _).2⟩, trivial⟩ hT1) (by decide)) ?_
        rintro r2 σ2 hq2
        obtain ⟨hT2, hu2, hz2⟩ := tq_blank hq2
        obtain ⟨z2, rfl, hb2⟩ : ∃ z : Int32, r2 = some (.int z) ∧ (¬ z = 0 → 0 ≤ (z1).toInt) := by
          rcases hz2 with ⟨z, rfl, g1, g2, g3, g4⟩ | ⟨z, rfl, g1, g2⟩
          · exact ⟨z, rfl, fun e => by omega⟩
          · exact ⟨z, rfl, fun e => absurd (Int32.toInt_inj.mp (by show z.toInt = 0; omega)) e⟩
        have ep2 : σ2.1 6 5 = σ1.1 6 5 := tv_un_i hu2 rfl rfl
        refine wq_ifeq rfl (fun h31 => ?_) (fun h31 => ?_)
        · exact k50 i _ hT2 (tv_un_tr (tv_un_tr hua (tv_un_mo hu1 (by decide))) (tv_un_mo hu2 (by decide)))
        · have gq := hp1 (hm1 (hb2 h31))
          rw [← ep1, ← ep2] at gq
          have g1 := tn_add1 (x := σ2.1 6 5) (by omega)
          refine wp_lda rfl tm_m1 ?_
          refine wp_dup rfl rfl ?_
          refine wq_geti rfl rfl (f := 5) rfl rfl (Or.inl rfl) ?_
          refine wq_con (x := 1) rfl (by decide) ?_
          refine wq_iadd rfl ?_
          refine wq_puti rfl rfl (f := 5) rfl rfl ?_
          refine wq_inc (c := 1) [(1, .int (i + 1)), (0, .ref 6)] rfl tm_m0 rfl rfl ?_
          refine wp_go rfl ?_
          exact WP.less (ih (i + 1) _ (tv_TY_sI hT2 (by show (0 : Int) ≤ _; omega) (by show _ ≤ (800 : Int); omega)) (tv_un_tr (tv_un_tr (tv_un_tr hua (tv_un_mo hu1 (by decide))) (tv_un_mo hu2 (by decide))) (tv_un_fI rfl)) (by omega) (by omega)) (by simp)
  show WP 50 99 0 [(0, .ref 6)] [] σ _
  have gn : 0 ≤ (σ.1 6 6).toInt ∧ (σ.1 6 6).toInt ≤ 800 := hT.1 6 6
  refine wp_lda rfl tm_m0 ?_
  refine wp_lda rfl tm_m0 ?_
  refine wq_geti rfl rfl (f := 6) rfl rfl (Or.inl rfl) ?_
  refine wq_puti rfl rfl (f := 5) rfl rfl ?_
  refine wq_con (x := 0) rfl (by decide) ?_
  refine wq_sti [(1, .int 0), (0, .ref 6)] rfl rfl ?_
  exact WP.less (k10 800 0 _ (tv_TY_sI hT gn.1 gn.2) (tv_un_fI rfl) (by decide) (by decide)) (by simp)
end
section
/-! ===== octave, of the class and of the reference ===== -/
set_option maxRecDepth 100000 in
set_option maxHeartbeats 4000000 in
theorem th_fill_l {d : Nat} {x : Int64} {σ : tm_S} : ∀ (m : Nat) (i : Int32) (σa : tm_S), σa.1 = σ.1 → σa.2.2 = σ.2.2 → 0 ≤ i.toInt → 6 ≤ i.toInt + m → WP d 0 6 [(3, .int i), (4, .int 6), (0, .ref 12), (1, .long x)] [] σa (fun r σ' => r = none ∧ σ'.1 = σ.1 ∧ σ'.2.2 = σ.2.2) := by
  intro m
  induction m with
  | zero =>
    intro i σa e1 e2 h1 h2
    refine wp_ldi rfl tm_m0 ?_
    refine wp_ldi rfl tm_m1 ?_
    refine wq_icge rfl (fun h9 => ?_) (fun h9 => absurd (tn_leI.mpr (by show (6 : Int) ≤ _; omega)) h9)
    exact wp_retv rfl ⟨rfl, e1, e2⟩
  | succ m ih =>
    intro i σa e1 e2 h1 h2
    refine wp_ldi rfl tm_m0 ?_
    refine wp_ldi rfl tm_m1 ?_
    refine wq_icge rfl (fun h9 => ?_) (fun h9 => ?_)
    · exact wp_retv rfl ⟨rfl, e1, e2⟩
    · have e9 : i.toInt < 6 := by rw [tn_leI] at h9; exact Int.not_le.mp h9
      have e3 := tn_add1 (x := i) (by omega)
      refine wp_lda rfl tm_m2 ?_
      refine wp_ldi rfl tm_m0 ?_
      refine wp_ldl rfl tm_m3 ?_
      refine wp_last rfl rfl (tn_in h1 (by omega)) ?_
      refine wq_inc (c := 1) [(3, .int (i + 1)), (4, .int 6), (0, .ref 12), (1, .long x)] rfl tm_m0 rfl rfl ?_
      refine wp_go rfl ?_
      exact WP.less (ih (i + 1) _ e1 e2 (by omega) (by omega)) (by simp)
set_option maxRecDepth 100000 in
set_option maxHeartbeats 4000000 in
theorem th_fill {d : Nat} {x : Int64} {σ : tm_S} : WM d 0 [.ref 12, .long x] σ (fun r σ' => r = none ∧ σ'.1 = σ.1 ∧ σ'.2.2 = σ.2.2) := by
  show WP d 0 0 [(0, .ref 12), (1, .long x)] [] σ _
  refine wq_con (x := 0) rfl (by decide) ?_
  refine wq_sti [(3, .int 0), (0, .ref 12), (1, .long x)] rfl rfl ?_
  refine wp_lda rfl tm_m1 ?_
  refine wq_len (x := 6) rfl rfl (by decide) ?_
  refine wq_sti [(4, .int 6), (3, .int 0), (0, .ref 12), (1, .long x)] rfl rfl ?_
  exact WP.less (th_fill_l (x := x) 6 0 σ rfl rfl (by decide) (by decide)) (by simp)
set_option maxRecDepth 100000 in
set_option maxHeartbeats 4000000 in
theorem th_clear9 {d : Nat} {σ : tm_S} : WM d 4 [.ref 9] σ (fun r σ' => r = none ∧ σ' = tm_sI (tm_sI σ 9 2 0) 9 7 0) := by
  show WP d 4 0 [(0, .ref 9)] [] σ _
  refine wp_lda rfl tm_m0 ?_
  refine wq_con (x := 0) rfl (by decide) ?_
  refine wq_puti rfl rfl (f := 2) rfl rfl ?_
  refine wp_lda rfl tm_m0 ?_
  refine wq_con (x := 0) rfl (by decide) ?_
  refine wq_puti rfl rfl (f := 7) rfl rfl ?_
  exact wp_retv rfl ⟨rfl, rfl⟩
set_option maxRecDepth 100000 in
set_option maxHeartbeats 4000000 in
theorem th_clear10 {d : Nat} {σ : tm_S} : WM d 4 [.ref 10] σ (fun r σ' => r = none ∧ σ' = tm_sI (tm_sI σ 10 2 0) 10 7 0) := by
  show WP d 4 0 [(0, .ref 10)] [] σ _
  refine wp_lda rfl tm_m0 ?_
  refine wq_con (x := 0) rfl (by decide) ?_
  refine wq_puti rfl rfl (f := 2) rfl rfl ?_
  refine wp_lda rfl tm_m0 ?_
  refine wq_con (x := 0) rfl (by decide) ?_
  refine wq_puti rfl rfl (f := 7) rfl rfl ?_
  exact wp_retv rfl ⟨rfl, rfl⟩
set_option maxRecDepth 100000 in
set_option maxHeartbeats 4000000 in
theorem th_size {d : Nat} {σ : tm_S} : WM d 2 [.ref 1] σ (th_is (.int (σ.1 1 0)) σ) := by
  show WP d 2 0 [(0, .ref 1)] [] σ _
  refine wp_lda rfl tm_m0 ?_
  refine wq_geti rfl rfl (f := 0) rfl rfl (Or.inl rfl) ?_
  exact wp_reti rfl (th_nI rfl) ⟨rfl, rfl⟩
/-- as σ, but for the row p, which holds 0 or what it held -/
def th_row0 (p : Nat) (σ σ' : tm_S) : Prop := (∀ k j, k ≠ p → σ'.1 k j = σ.1 k j) ∧ (∀ j, σ'.1 p j = 0 ∨ σ'.1 p j = σ.1 p j) ∧ σ'.2 = σ.2
theorem th_row0_rf {p : Nat} {σ : tm_S} : th_row0 p σ σ := ⟨fun _ _ _ => rfl, fun _ => Or.inr rfl, rfl⟩
theorem th_row0_st {p i : Nat} {σ σ' : tm_S} (h : th_row0 p σ σ') : th_row0 p σ (tm_sI σ' p i 0) := by
  refine ⟨fun k j hk => ?_, fun j => ?_, h.2.2⟩
  · rw [tm_gI, if_neg (fun e => hk e.1)]
    exact h.1 k j hk
  · rw [tm_gI]
    split
    · exact Or.inl rfl
    · exact h.2.1 j
set_option maxRecDepth 100000 in
set_option maxHeartbeats 4000000 in
theorem th_resz_l {d : Nat} {n : Int32} {σ : tm_S} : ∀ (m : Nat) (i : Int32) (σa : tm_S), th_row0 17 (tm_sI σ 1 0 n) σa → 0 ≤ i.toInt → 3 ≤ i.toInt + m → WP d 3 7 [(2, .int i), (0, .ref 1), (1, .int n)] [] σa (fun r σ' => r = none ∧ th_row0 17 (tm_sI σ 1 0 n) σ') := by
  intro m
  induction m with
  | zero =>
    intro i σa e1 h1 h2
    refine wp_ldi rfl tm_m0 ?_
    refine wq_con (x := 3) rfl (by decide) ?_
    refine wq_icge rfl (fun h9 => ?_) (fun h9 => absurd (tn_leI.mpr (by show (3 : Int) ≤ _; omega)) h9)
    exact wp_retv rfl ⟨rfl, e1⟩
  | succ m ih =>
    intro i σa e1 h1 h2
    refine wp_ldi rfl tm_m0 ?_
    refine wq_con (x := 3) rfl (by decide) ?_
    refine wq_icge rfl (fun h9 => ?_) (fun h9 => ?_)
    · exact wp_retv rfl ⟨rfl, e1⟩
    · have e9 : i.toInt < 3 := by rw [tn_leI] at h9; exact Int.not_le.mp h9
      have e3 := tn_add1 (x := i) (by omega)
      refine wp_lda rfl tm_m1 ?_
      refine wq_getr (p := 17) rfl rfl (f := 2) rfl rfl ?_
      refine wp_ldi rfl tm_m0 ?_
      refine wq_con (x := 0) rfl (by decide) ?_
      refine wp_zast rfl rfl (tn_in h1 (by omega)) (Or.inl rfl) ?_
      refine wq_inc (c := 1) [(2, .int (i + 1)), (0, .ref 1), (1, .int n)] rfl tm_m0 rfl rfl ?_
      refine wp_go rfl ?_
      exact WP.less (ih (i + 1) _ (th_row0_st e1) (by omega) (by omega)) (by simp)
set_option maxRecDepth 100000 in
set_option maxHeartbeats 4000000 in
theorem th_resz {d : Nat} {n : Int32} {σ : tm_S} : WM d 3 [.ref 1, .int n] σ (fun r σ' => r = none ∧ th_row0 17 (tm_sI σ 1 0 n) σ') := by
  show WP d 3 0 [(0, .ref 1), (1, .int n)] [] σ _
  refine wp_lda rfl tm_m0 ?_
  refine wp_ldi rfl tm_m1 ?_
  refine wq_puti rfl rfl (f := 0) rfl rfl ?_
  refine wq_con (x := 0) rfl (by decide) ?_
  refine wq_sti [(2, .int 0), (0, .ref 1), (1, .int n)] rfl rfl ?_
  exact WP.less (th_resz_l (n := n) 3 0 _ th_row0_rf (by decide) (by decide)) (by simp)
/-- octave's answer -/
def th_oct (n : Int32) : Int32 := if 3 ≤ n.toInt ∧ n.toInt ≤ 12 then 1 else 0
/-- what octave leaves of the store: N set, rows of booleans and of longs, the score's counts -/
def th_octS (c : Nat) (n : Int32) (σ σ' : tm_S) : Prop := (∀ k j, k ≠ 17 → ¬ (k = 1 ∧ j = 0) → ¬ (k = c ∧ (j = 2 ∨ j = 7)) → σ'.1 k j = σ.1 k j) ∧ (∀ j, σ'.1 17 j = 0 ∨ σ'.1 17 j = σ.1 17 j) ∧ σ'.1 1 0 = n ∧ σ'.1 c 2 = 0 ∧ σ'.1 c 7 = 0 ∧ σ'.2.2 = σ.2.2
theorem th_octS_mk {c : Nat} (hc : c = 9 ∨ c = 10) {n : Int32} {σ σ1 σ2 : tm_S} (h1 : th_row0 17 (tm_sI σ 1 0 n) σ1) (h2 : σ2.1 = σ1.1) (h3 : σ2.2.2 = σ1.2.2) : th_octS c n σ (tm_sI (tm_sI σ2 c 2 0) c 7 0) := by
  obtain ⟨a1, a2, a3⟩ := h1
  have hc1 : c ≠ 1 := by omega
  have hcp : c ≠ 17 := by omega
  refine ⟨fun k j hk hn hx => ?_, fun j => ?_, ?_, ?_, ?_, ?_⟩
  · rw [tm_gI, if_neg (fun e => hx ⟨e.1, Or.inr e.2⟩), tm_gI, if_neg (fun e => hx ⟨e.1, Or.inl e.2⟩), h2, a1 k j hk, tm_gI, if_neg hn]
  · rw [tm_gI, if_neg (fun e => hcp e.1.symm), tm_gI, if_neg (fun e => hcp e.1.symm), h2]
    have h := a2 j
    rw [tm_gI, if_neg (fun e => absurd e.1 (by decide))] at h
    exact h
  · rw [tm_gI, if_neg (fun e => hc1 e.1.symm), tm_gI, if_neg (fun e => hc1 e.1.symm), h2, a1 1 0 (by decide), tm_gI, if_pos ⟨rfl, rfl⟩]
  · rw [tm_gI, if_neg (fun e => absurd e.2 (by decide)), tm_gI, if_pos ⟨rfl, rfl⟩]
  · rw [tm_gI, if_pos ⟨rfl, rfl⟩]
  · show σ2.2.2 = σ.2.2
    rw [h3, a3]
    rfl
set_option maxRecDepth 100000 in
set_option maxHeartbeats 4000000 in
theorem th_xoct {d : Nat} {σ : tm_S} {n : Int32} (hc : σ.2.2 0 8 = 9 ∨ σ.2.2 0 8 = 10) : WM (d + 1) 1 [.ref 0, .int n] σ (fun r σ' => r = some (.int (th_oct n)) ∧ (σ' = σ ∨ (3 ≤ n.toInt ∧ n.toInt ≤ 12 ∧ ∃ c, (c = 9 ∨ c = 10) ∧ th_octS c n σ σ'))) := by
  show WP (d + 1) 1 0 [(0, .ref 0), (1, .int n)] [] σ _
  have k49 : ∀ σ' : tm_S, 3 ≤ n.toInt → n.toInt ≤ 12 → (σ' = σ ∨ (3 ≤ n.toInt ∧ n.toInt ≤ 12 ∧ ∃ c, (c = 9 ∨ c = 10) ∧ th_octS c n σ σ')) → WP (d + 1) 1 49 [(0, .ref 0), (1, .int n)] [] σ' (fun r σ' => r = some (.int (th_oct n)) ∧ (σ' = σ ∨ (3 ≤ n.toInt ∧ n.toInt ≤ 12 ∧ ∃ c, (c = 9 ∨ c = 10) ∧ th_octS c n σ σ'))) := by
    intro σ' h1 h2 h3
    have e : th_oct n = 1 := if_pos ⟨h1, h2⟩
    refine wq_con (x := 1) rfl (by decide) ?_
    exact wp_reti rfl (th_n1 rfl) ⟨by rw [e], h3⟩
  have k42 : ∀ σ2 σ1 : tm_S, 3 ≤ n.toInt → n.toInt ≤ 12 → th_row0 17 (tm_sI σ 1 0 n) σ1 → σ2.1 = σ1.1 → σ2.2.2 = σ1.2.2 → WP (d + 1) 1 42 [(0, .ref 0), (1, .int n)] [] σ2 (fun r σ' => r = some (.int (th_oct n)) ∧ (σ' = σ ∨ (3 ≤ n.toInt ∧ n.toInt ≤ 12 ∧ ∃ c, (c = 9 ∨ c = 10) ∧ th_octS c n σ σ'))) := by
    intro σ2 σ1 h1 h2 g1 g2 g3
    have hr : σ2.2.2 0 8 = σ.2.2 0 8 := by rw [g3, g1.2.2]; rfl
    rcases hc with hc | hc
    · refine wp_lda rfl tm_m0 ?_
      refine wq_getv rfl rfl (f := 8) rfl rfl ?_
      rw [hr, hc]
      refine wq_calv [] rfl rfl rfl rfl rfl rfl rfl rfl rfl th_clear9 ?_
      rintro _ _ ⟨rfl, rfl⟩
      exact k49 _ h1 h2 (Or.inr ⟨h1, h2, 9, Or.inl rfl, th_octS_mk (Or.inl rfl) g1 g2 g3⟩)
    · refine wp_lda rfl tm_m0 ?_
      refine wq_getv rfl rfl (f := 8) rfl rfl ?_
      rw [hr, hc]
      refine wq_calv [] rfl rfl rfl rfl rfl rfl rfl rfl rfl th_clear10 ?_
      rintro _ _ ⟨rfl, rfl⟩
      exact k49 _ h1 h2 (Or.inr ⟨h1, h2, 10, Or.inr rfl, th_octS_mk (Or.inr rfl) g1 g2 g3⟩)
  refine wp_ldi rfl tm_m1 ?_
  refine wq_con (x := 3) rfl (by decide) ?_
  refine wq_iclt rfl (fun h2 => ?_) (fun h2 => ?_)
  · have e11 : ¬ (3 ≤ n.toInt ∧ n.toInt ≤ 12) := fun e => by first | (have e2 : n.toInt < 3 := tn_ltI.mp h2; omega) | (have e8 : ¬ n.toInt ≤ 12 := fun g => h8 (tn_leI.mpr g); omega)
    refine wq_con (x := 0) rfl (by decide) ?_
    exact wp_reti rfl (th_n0 rfl) ⟨by rw [show th_oct n = 0 from if_neg e11], Or.inl rfl⟩
  · have e2 : 3 ≤ n.toInt := by rw [tn_ltI] at h2; exact Int.not_lt.mp h2
    refine wp_ldi rfl tm_m1 ?_
    refine wq_con (x := 12) rfl (by decide) ?_
    refine wq_icle rfl (fun h8 => ?_) (fun h8 => ?_)
    · have e8 : n.toInt ≤ 12 := tn_leI.mp h8
      refine wp_ldi rfl tm_m1 ?_
      refine wp_lda rfl tm_m0 ?_
      refine wq_getr (p := 1) rfl rfl (f := 0) rfl rfl ?_
      refine wq_calv [] rfl rfl rfl rfl rfl rfl rfl rfl rfl (th_size) ?_
      rintro _ _ ⟨rfl, rfl⟩
      refine wq_iceq rfl (fun h21 => ?_) (fun h21 => ?_)
      · exact k49 _ e2 e8 (Or.inl rfl)
      · refine wp_lda rfl tm_m0 ?_
        refine wq_getr (p := 1) rfl rfl (f := 0) rfl rfl ?_
        refine wp_ldi rfl tm_m1 ?_
        refine wq_calv [.int n] rfl rfl rfl rfl rfl rfl rfl rfl rfl (th_resz) ?_
        rintro _ σ1 ⟨rfl, g1⟩
        refine wp_lda rfl tm_m0 ?_
        refine wq_getr (p := 12) rfl rfl (f := 5) rfl rfl ?_
        refine wq_lco (x := (-1)) rfl (by decide) ?_
        refine wq_cals [.ref 12, .long ((-1))] rfl rfl rfl rfl rfl rfl (th_fill) ?_
        rintro _ σ2 ⟨rfl, g2, g3⟩
        exact k42 _ _ e2 e8 g1 g2 g3
    · have e11 : ¬ (3 ≤ n.toInt ∧ n.toInt ≤ 12) := fun e => by first | (have e2 : n.toInt < 3 := tn_ltI.mp h2; omega) | (have e8 : ¬ n.toInt ≤ 12 := fun g => h8 (tn_leI.mpr g); omega)
      refine wq_con (x := 0) rfl (by decide) ?_
      exact wp_reti rfl (th_n0 rfl) ⟨by rw [show th_oct n = 0 from if_neg e11], Or.inl rfl⟩
set_option maxRecDepth 100000 in
set_option maxHeartbeats 4000000 in
theorem th_moct {d : Nat} {σ : tm_S} {n : Int32} : WM d 160 [.ref 11, .int n] σ (fun r σ' => r = some (.int (th_oct n)) ∧ (σ' = tm_sI σ 11 0 0 ∨ (3 ≤ n.toInt ∧ n.toInt ≤ 12 ∧ ∃ σ1, th_row0 50 (tm_sI (tm_sI σ 11 0 0) 11 1 n) σ1 ∧ σ' = tm_sI (tm_sI (tm_sI σ1 11 23 0) 11 26 0) 11 11 0))) := by
  have k25 : ∀ (m : Nat) (i : Int32) (σ1 : tm_S), 3 ≤ n.toInt → n.toInt ≤ 12 → th_row0 50 (tm_sI (tm_sI σ 11 0 0) 11 1 n) σ1 → 0 ≤ i.toInt → 6 ≤ i.toInt + m → WP d 160 25 [(2, .int i), (0, .ref 11), (1, .int n)] [] σ1 (fun r σ' => r = some (.int (th_oct n)) ∧ (σ' = tm_sI σ 11 0 0 ∨ (3 ≤ n.toInt ∧ n.toInt ≤ 12 ∧ ∃ σ1, th_row0 50 (tm_sI (tm_sI σ 11 0 0) 11 1 n) σ1 ∧ σ' = tm_sI (tm_sI (tm_sI σ1 11 23 0) 11 26 0) 11 11 0))) := by
    intro m
    induction m with
    | zero =>
      intro i σ1 c1 c2 e1 h1 h2
      have e : th_oct n = 1 := if_pos ⟨c1, c2⟩
      refine wp_ldi rfl tm_m0 ?_
      refine wq_con (x := 6) rfl (by decide) ?_
      refine wq_icge rfl (fun h28 => ?_) (fun h28 => absurd (tn_leI.mpr (by show (6 : Int) ≤ _; omega)) h28)
      refine wp_lda rfl tm_m1 ?_
      refine wq_con (x := 0) rfl (by decide) ?_
      refine wq_puti rfl rfl (f := 23) rfl rfl ?_
      refine wp_lda rfl tm_m1 ?_
      refine wq_con (x := 0) rfl (by decide) ?_
      refine wq_puti rfl rfl (f := 26) rfl rfl ?_
      refine wp_lda rfl tm_m1 ?_
      refine wq_con (x := 0) rfl (by decide) ?_
      refine wq_puti rfl rfl (f := 11) rfl rfl ?_
      refine wq_con (x := 1) rfl (by decide) ?_
      exact wp_reti rfl (th_n1 rfl) ⟨by rw [e], Or.inr ⟨c1, c2, σ1, e1, rfl⟩⟩
    | succ m ih =>
      intro i σ1 c1 c2 e1 h1 h2
      have e : th_oct n = 1 := if_pos ⟨c1, c2⟩
      refine wp_ldi rfl tm_m0 ?_
      refine wq_con (x := 6) rfl (by decide) ?_
      refine wq_icge rfl (fun h28 => ?_) (fun h28 => ?_)
      · refine wp_lda rfl tm_m1 ?_
        refine wq_con (x := 0) rfl (by decide) ?_
        refine wq_puti rfl rfl (f := 23) rfl rfl ?_
        refine wp_lda rfl tm_m1 ?_
        refine wq_con (x := 0) rfl (by decide) ?_
        refine wq_puti rfl rfl (f := 26) rfl rfl ?_
        refine wp_lda rfl tm_m1 ?_
        refine wq_con (x := 0) rfl (by decide) ?_
        refine wq_puti rfl rfl (f := 11) rfl rfl ?_
        refine wq_con (x := 1) rfl (by decide) ?_
        exact wp_reti rfl (th_n1 rfl) ⟨by rw [e], Or.inr ⟨c1, c2, σ1, e1, rfl⟩⟩
      · have e28 : i.toInt < 6 := by rw [tn_leI] at h28; exact Int.not_le.mp h28
        have e3 := tn_add1 (x := i) (by omega)
        refine wp_lda rfl tm_m1 ?_
        refine wq_getr (p := 50) rfl rfl (f := 9) rfl rfl ?_
        refine wp_ldi rfl tm_m0 ?_
        refine wq_con (x := 0) rfl (by decide) ?_
        refine wp_zast rfl rfl (tn_in h1 (by omega)) (Or.inl rfl) ?_
        refine wq_inc (c := 1) [(2, .int (i + 1)), (0, .ref 11), (1, .int n)] rfl tm_m0 rfl rfl ?_
        refine wp_go rfl ?_
        exact WP.less (ih (i + 1) _ c1 c2 (th_row0_st e1) (by omega) (by omega)) (by simp)
  show WP d 160 0 [(0, .ref 11), (1, .int n)] [] σ _
  refine wp_lda rfl tm_m0 ?_
  refine wq_con (x := 0) rfl (by decide) ?_
  refine wq_puti rfl rfl (f := 0) rfl rfl ?_
  refine wp_ldi rfl tm_m1 ?_
  refine wq_con (x := 3) rfl (by decide) ?_
  refine wq_iclt rfl (fun h7 => ?_) (fun h7 => ?_)
  · have e16 : ¬ (3 ≤ n.toInt ∧ n.toInt ≤ 12) := fun e => by first | (have e2 : n.toInt < 3 := tn_ltI.mp h7; omega) | (have e8 : ¬ n.toInt ≤ 12 := fun g => h13 (tn_leI.mpr g); omega)
    refine wq_con (x := 0) rfl (by decide) ?_
    exact wp_reti rfl (th_n0 rfl) ⟨by rw [show th_oct n = 0 from if_neg e16], Or.inl rfl⟩
  · have e7 : 3 ≤ n.toInt := by rw [tn_ltI] at h7; exact Int.not_lt.mp h7
    refine wp_ldi rfl tm_m1 ?_
    refine wq_con (x := 12) rfl (by decide) ?_
    refine wq_icle rfl (fun h13 => ?_) (fun h13 => ?_)
    · have e13 : n.toInt ≤ 12 := tn_leI.mp h13
      refine wp_lda rfl tm_m0 ?_
      refine wp_ldi rfl tm_m1 ?_
      refine wq_puti rfl rfl (f := 1) rfl rfl ?_
      refine wq_con (x := 0) rfl (by decide) ?_
      refine wq_sti [(2, .int 0), (0, .ref 11), (1, .int n)] rfl rfl ?_
      exact WP.less (k25 6 0 _ e7 e13 th_row0_rf (by decide) (by decide)) (by simp)
    · have e16 : ¬ (3 ≤ n.toInt ∧ n.toInt ≤ 12) := fun e => by first | (have e2 : n.toInt < 3 := tn_ltI.mp h7; omega) | (have e8 : ¬ n.toInt ≤ 12 := fun g => h13 (tn_leI.mpr g); omega)
      refine wq_con (x := 0) rfl (by decide) ?_
      exact wp_reti rfl (th_n0 rfl) ⟨by rw [show th_oct n = 0 from if_neg e16], Or.inl rfl⟩
end
section
/-! ===== the tape and what is written, of the reference ===== -/
def th_tp (v : Int) (σ0 : tm_S) (m : Int) (σ : tm_S) : Prop := tv_TY (tc_T v) σ ∧ tv_un σ0 σ [(11, 0), (11, 32)] ∧ (σ.1 11 32).toInt ≤ m
def th_ou (v : Int) (σ0 : tm_S) (m : Int) (σ : tm_S) : Prop := tv_TY (tc_T v) σ ∧ tv_un σ0 σ [(11, 0), (11, 34)] ∧ (σ.1 11 34).toInt ≤ m
theorem th_tp_st {v : Int} {σ0 σ : tm_S} {m : Int} {k : Nat} {x : Int32} (h : th_tp v σ0 m σ) (hm : m < 800) : th_tp v σ0 (m + 1) (tm_sI (tm_sI σ 65 k x) 11 32 (σ.1 11 32 + 1)) := by
  obtain ⟨h1, h2, h3⟩ := h
  have g : 0 ≤ (σ.1 11 32).toInt ∧ (σ.1 11 32).toInt ≤ 800 := h1.1 11 32
  have e := tn_add1 (x := σ.1 11 32) (by omega)
  refine ⟨tv_TY_sI (tv_TY_row h1 (ty := (tv_lo, tv_hi)) (fun _ => rfl) (tn_rng x).1 (tn_rng x).2) (by show (0 : Int) ≤ _; omega) (by show _ ≤ (800 : Int); omega), tv_un_tr (tv_un_tr h2 (tv_un_ar rfl)) (tv_un_fI rfl), ?_⟩
  rw [tm_gI, if_pos ⟨rfl, rfl⟩]
  omega
theorem th_ou_st {v : Int} {σ0 σ : tm_S} {m : Int} {k : Nat} {x : Int32} (h : th_ou v σ0 m σ) (hm : m < 1000) : th_ou v σ0 (m + 1) (tm_sI (tm_sI σ 66 k x) 11 34 (σ.1 11 34 + 1)) := by
  obtain ⟨h1, h2, h3⟩ := h
  have g : 0 ≤ (σ.1 11 34).toInt ∧ (σ.1 11 34).toInt ≤ 1000 := h1.1 11 34
  have e := tn_add1 (x := σ.1 11 34) (by omega)
  refine ⟨tv_TY_sI (tv_TY_row h1 (ty := (tv_lo, tv_hi)) (fun _ => rfl) (tn_rng x).1 (tn_rng x).2) (by show (0 : Int) ≤ _; omega) (by show _ ≤ (1000 : Int); omega), tv_un_tr (tv_un_tr h2 (tv_un_ar rfl)) (tv_un_fI rfl), ?_⟩
  rw [tm_gI, if_pos ⟨rfl, rfl⟩]
  omega
set_option maxRecDepth 100000 in
set_option maxHeartbeats 4000000 in
theorem th_lay_l {d : Nat} {v : Int} {w : Int32} {σ0 : tm_S} {a : Int} : ∀ (m : Nat) (z : Int32) (σ : tm_S), th_tp v σ0 (a - m) σ → a ≤ 800 → z.toInt + 8 = 8 * m → WP d 224 3 [(2, .int z), (0, .ref 11), (1, .int w)] [] σ (fun r σ' => r = none ∧ th_tp v σ0 (a) σ') := by
  intro m
  induction m with
  | zero =>
    intro z σ h ha hz
    refine wp_ldi rfl tm_m0 ?_
    refine wq_iflt rfl (fun h4 => ?_) (fun h4 => absurd (tn_ltI.mpr (by show z.toInt < 0; omega)) h4)
    exact wp_retv rfl ⟨rfl, by simpa using h⟩
  | succ m ih =>
    intro z σ h ha hz
    have hg : 0 ≤ (σ.1 11 32).toInt ∧ (σ.1 11 32).toInt ≤ 800 := h.1.1 11 32
    have hl := h.2.2
    have e8 : (z + (-8)).toInt = z.toInt - 8 := by rw [tn_add (by show -2147483648 ≤ z.toInt + (-8); omega) (by show z.toInt + (-8) ≤ 2147483647; omega)]; rfl
    refine wp_ldi rfl tm_m0 ?_
    refine wq_iflt rfl (fun h4 => absurd (tn_ltI.mp h4) (by show ¬ z.toInt < 0; omega)) (fun h4 => ?_)
    refine wp_lda rfl tm_m1 ?_
    refine wq_getr (p := 65) rfl rfl (f := 31) rfl rfl ?_
    refine wp_lda rfl tm_m1 ?_
    refine wq_geti rfl rfl (f := 32) rfl rfl (Or.inl rfl) ?_
    refine wp_ldi rfl tm_m2 ?_
    refine wp_ldi rfl tm_m0 ?_
    refine wq_ishr rfl ?_
    refine wq_con (x := 255) rfl (by decide) ?_
    refine wq_iand rfl ?_
    refine wp_iast rfl rfl (tn_in hg.1 (by omega)) ?_
    refine wp_lda rfl tm_m1 ?_
    refine wp_lda rfl tm_m1 ?_
    refine wq_geti rfl rfl (f := 32) rfl rfl (Or.inl rfl) ?_
    refine wq_con (x := 1) rfl (by decide) ?_
    refine wq_iadd rfl ?_
    refine wq_puti rfl rfl (f := 32) rfl rfl ?_
    refine wq_inc (c := (-8)) [(2, .int (z + (-8))), (0, .ref 11), (1, .int w)] rfl tm_m0 rfl rfl ?_
    refine wp_go rfl ?_
    have hn := th_tp_st (k := (σ.1 11 32).toNatClampNeg) (x := w >>> (z &&& 31) &&& 255) h (by omega)
    exact WP.less (ih (z + (-8)) _ (by rw [show a - (m : Nat) = a - ((m + 1 : Nat) : Int) + 1 by omega]; exact hn) ha (by omega)) (by simp)
set_option maxRecDepth 100000 in
set_option maxHeartbeats 4000000 in
theorem th_lay {d : Nat} {v : Int} {w : Int32} {σ0 σ : tm_S} {a : Int} (h : th_tp v σ0 a σ) (ha : a ≤ 796) : WM d 224 [.ref 11, .int w] σ (fun r σ' => r = none ∧ th_tp v σ0 (a + 4) σ') := by
  show WP d 224 0 [(0, .ref 11), (1, .int w)] [] σ _
  refine wq_con (x := 24) rfl (by decide) ?_
  refine wq_sti [(2, .int 24), (0, .ref 11), (1, .int w)] rfl rfl ?_
  exact WP.less (th_lay_l (w := w) (a := a + 4) 4 24 σ (by simpa using h) (by omega) (by decide)) (by simp)
set_option maxRecDepth 100000 in
set_option maxHeartbeats 4000000 in
theorem th_feed {d : Nat} {v : Int} {a1 a2 a3 a4 a5 : Int32} {σ : tm_S} (hT : tv_TY (tc_T v) σ) : WM (d + 1) 223 [.ref 11, .int a1, .int a2, .int a3, .int a4, .int a5] σ (fun r σ' => (∃ z : Int32, r = some (.int z)) ∧ tv_TY (tc_T v) σ') := by
  show WP (d + 1) 223 0 [(0, .ref 11), (1, .int a1), (2, .int a2), (3, .int a3), (4, .int a4), (5, .int a5)] [] σ _
  have g : 0 ≤ (σ.1 11 32).toInt ∧ (σ.1 11 32).toInt ≤ 800 := hT.1 11 32
  have hT0 : tv_TY (tc_T v) (tm_sI σ 11 0 0) := tv_TY_sI hT tv_z0 tv_z1
  have eT : (tm_sI σ 11 0 0).1 11 32 = σ.1 11 32 := by rw [tm_gI, if_neg (fun e => absurd e.2 (by decide))]
  refine wp_lda rfl tm_m0 ?_
  refine wq_con (x := 0) rfl (by decide) ?_
  refine wq_puti rfl rfl (f := 0) rfl rfl ?_
  refine wp_lda rfl tm_m0 ?_
  refine wq_geti rfl rfl (f := 32) rfl rfl (Or.inl rfl) ?_
  refine wq_con (x := 20) rfl (by decide) ?_
  refine wq_iadd rfl ?_
  refine wq_con (x := 800) rfl (by decide) ?_
  refine wq_icle rfl (fun h15 => ?_) (fun h15 => ?_)
  · rw [eT] at h15
    have e20 : (σ.1 11 32 + 20).toInt = (σ.1 11 32).toInt + 20 := by rw [tn_add (by show -2147483648 ≤ (σ.1 11 32).toInt + 20; omega) (by show (σ.1 11 32).toInt + 20 ≤ 2147483647; omega)]; rfl
    have l0 : (σ.1 11 32).toInt ≤ 780 := by
      have g2 := tn_leI.mp h15
      rw [e20] at g2
      change _ ≤ (800 : Int) at g2
      omega
    have h0 : th_tp v σ 780 (tm_sI σ 11 0 0) := ⟨hT0, tv_un_fI rfl, by rw [eT]; exact l0⟩
    refine wp_lda rfl tm_m0 ?_
    refine wp_ldi rfl tm_m1 ?_
    refine wq_calv [.int a1] rfl rfl rfl rfl rfl rfl rfl rfl rfl (th_lay h0 (by omega)) ?_
    rintro _ s1 ⟨rfl, h1⟩
    refine wp_lda rfl tm_m0 ?_
    refine wp_ldi rfl tm_m2 ?_
    refine wq_calv [.int a2] rfl rfl rfl rfl rfl rfl rfl rfl rfl (th_lay h1 (by omega)) ?_
    rintro _ s2 ⟨rfl, h2⟩
    refine wp_lda rfl tm_m0 ?_
    refine wp_ldi rfl tm_m3 ?_
    refine wq_calv [.int a3] rfl rfl rfl rfl rfl rfl rfl rfl rfl (th_lay h2 (by omega)) ?_
    rintro _ s3 ⟨rfl, h3⟩
    refine wp_lda rfl tm_m0 ?_
    refine wp_ldi rfl tm_m4 ?_
    refine wq_calv [.int a4] rfl rfl rfl rfl rfl rfl rfl rfl rfl (th_lay h3 (by omega)) ?_
    rintro _ s4 ⟨rfl, h4⟩
    refine wp_lda rfl tm_m0 ?_
    refine wp_ldi rfl tm_m5 ?_
    refine wq_calv [.int a5] rfl rfl rfl rfl rfl rfl rfl rfl rfl (th_lay h4 (by omega)) ?_
    rintro _ s5 ⟨rfl, h5⟩
    refine wp_lda rfl tm_m0 ?_
    refine wq_geti rfl rfl (f := 32) rfl rfl (Or.inl rfl) ?_
    exact wp_reti rfl (th_nI rfl) ⟨⟨_, rfl⟩, h5.1⟩
  · refine wq_con (x := (-1)) rfl (by decide) ?_
    exact wp_reti rfl (th_nI rfl) ⟨⟨_, rfl⟩, hT0⟩
set_option maxRecDepth 100000 in
set_option maxHeartbeats 4000000 in
theorem th_say {d : Nat} {v : Int} {c : Int32} {σ0 σ : tm_S} {a : Int} (h : th_ou v σ0 a σ) (ha : a < 1000) : WM d 229 [.ref 11, .int c] σ (fun r σ' => r = none ∧ th_ou v σ0 (a + 1) σ') := by
  have hg : 0 ≤ (σ.1 11 34).toInt ∧ (σ.1 11 34).toInt ≤ 1000 := h.1.1 11 34
  have hl := h.2.2
  show WP d 229 0 [(0, .ref 11), (1, .int c)] [] σ _
  refine wp_lda rfl tm_m0 ?_
  refine wq_getr (p := 66) rfl rfl (f := 33) rfl rfl ?_
  refine wp_lda rfl tm_m0 ?_
  refine wq_geti rfl rfl (f := 34) rfl rfl (Or.inl rfl) ?_
  refine wp_ldi rfl tm_m1 ?_
  refine wp_iast rfl rfl (tn_in hg.1 (by omega)) ?_
  refine wp_lda rfl tm_m0 ?_
  refine wp_lda rfl tm_m0 ?_
  refine wq_geti rfl rfl (f := 34) rfl rfl (Or.inl rfl) ?_
  refine wq_con (x := 1) rfl (by decide) ?_
  refine wq_iadd rfl ?_
  refine wq_puti rfl rfl (f := 34) rfl rfl ?_
  exact wp_retv rfl ⟨rfl, th_ou_st h ha⟩
theorem th_ou_mo {v : Int} {σ0 σ : tm_S} {m m2 : Int} (h : th_ou v σ0 m σ) (hm : m ≤ m2) : th_ou v σ0 m2 σ := ⟨h.1, h.2.1, Int.le_trans h.2.2 hm⟩
set_option maxRecDepth 100000 in
set_option maxHeartbeats 4000000 in
theorem th_sayL {d : Nat} {v : Int} {c : Int32} {σ0 σ : tm_S} {a : Int} (h : th_ou v σ0 a σ) (ha : a < 999) : WM (d + 1) 230 [.ref 11, .int c] σ (fun r σ' => r = none ∧ th_ou v σ0 (a + 2) σ') := by
  show WP (d + 1) 230 0 [(0, .ref 11), (1, .int c)] [] σ _
  refine wp_lda rfl tm_m0 ?_
  refine wp_ldi rfl tm_m1 ?_
  refine wq_calv [.int c] rfl rfl rfl rfl rfl rfl rfl rfl rfl (th_say h (by omega)) ?_
  rintro _ s1 ⟨rfl, h1⟩
  refine wp_lda rfl tm_m0 ?_
  refine wq_con (x := 32) rfl (by decide) ?_
  refine wq_calv [.int 32] rfl rfl rfl rfl rfl rfl rfl rfl rfl (th_say h1 (by omega)) ?_
  rintro _ s2 ⟨rfl, h2⟩
  exact wp_retv rfl ⟨rfl, th_ou_mo h2 (by omega)⟩
set_option maxRecDepth 100000 in
set_option maxHeartbeats 4000000 in
theorem th_sayN {d : Nat} {v : Int} {c : Int32} {σ0 σ : tm_S} {a : Int} (h : th_ou v σ0 a σ) (ha : a < 998) : WM (d + 1) 231 [.ref 11, .int c] σ (fun r σ' => r = none ∧ th_ou v σ0 (a + 3) σ') := by
  have k17 : ∀ (s : tm_S), th_ou v σ0 (a + 1) s → WP (d + 1) 231 17 [(0, .ref 11), (1, .int c)] [] s (fun r σ' => r = none ∧ th_ou v σ0 (a + 3) σ') := by
    intro s h0
    refine wp_lda rfl tm_m0 ?_
    refine wq_con (x := 48) rfl (by decide) ?_
    refine wp_ldi rfl tm_m1 ?_
    refine wq_con (x := 10) rfl (by decide) ?_
    refine wp_rem rfl (by decide) ?_
    refine wq_iadd rfl ?_
    refine wq_calv [.int (48 + (c - c / 10 * 10))] rfl rfl rfl rfl rfl rfl rfl rfl rfl (th_say h0 (by omega)) ?_
    rintro _ s1 ⟨rfl, h1⟩
    refine wp_lda rfl tm_m0 ?_
    refine wq_con (x := 32) rfl (by decide) ?_
    refine wq_calv [.int 32] rfl rfl rfl rfl rfl rfl rfl rfl rfl (th_say h1 (by omega)) ?_
    rintro _ s2 ⟨rfl, h2⟩
    exact wp_retv rfl ⟨rfl, th_ou_mo h2 (by omega)⟩
  show WP (d + 1) 231 0 [(0, .ref 11), (1, .int c)] [] σ _
  refine wp_ldi rfl tm_m1 ?_
  refine wq_con (x := 9) rfl (by decide) ?_
  refine wq_icle rfl (fun h3 => ?_) (fun h3 => ?_)
  · exact k17 _ (th_ou_mo h (by omega))
  · refine wp_lda rfl tm_m0 ?_
    refine wq_con (x := 48) rfl (by decide) ?_
    refine wp_ldi rfl tm_m1 ?_
    refine wq_con (x := 10) rfl (by decide) ?_
    refine wp_div rfl (by decide) ?_
    refine wq_iadd rfl ?_
    refine wq_calv [.int (48 + (c / 10))] rfl rfl rfl rfl rfl rfl rfl rfl rfl (th_say h (by omega)) ?_
    rintro _ s1 ⟨rfl, h1⟩
    exact k17 _ h1
set_option maxRecDepth 100000 in
set_option maxHeartbeats 4000000 in
theorem th_write {d : Nat} {v : Int} (hv0 : 0 ≤ v) (hv : v ≤ 12) {σ : tm_S} (hT : tv_TY (tc_T v) σ) : WM (d + 2) 228 [.ref 11] σ (fun r σ' => (∃ z : Int32, r = some (.int z)) ∧ tv_TY (tc_T v) σ') := by
  have k105 : ∀ (m : Nat) (r : Int32) (s : tm_S), th_ou v σ (276 + 21 * r.toInt) s → 0 ≤ r.toInt → 8 ≤ r.toInt + m → r.toInt ≤ 8 → WP (d + 2) 228 105 [(1, .int r), (0, .ref 11)] [] s (fun r σ' => (∃ z : Int32, r = some (.int z)) ∧ tv_TY (tc_T v) σ') := by
    intro m
    induction m with
    | zero =>
      intro r s h hr1 hr2 hr3
      have gv : 0 ≤ (s.1 11 26).toInt ∧ (s.1 11 26).toInt ≤ 8 := h.1.1 11 26
      refine wp_ldi rfl tm_m0 ?_
      refine wp_lda rfl tm_m1 ?_
      refine wq_geti rfl rfl (f := 26) rfl rfl (Or.inl rfl) ?_
      refine wq_icge rfl (fun h110 => ?_) (fun h110 => absurd (tn_leI.mpr (by omega)) h110)
      refine wp_lda rfl tm_m1 ?_
      refine wq_geti rfl rfl (f := 34) rfl rfl (Or.inl rfl) ?_
      exact wp_reti rfl (th_nI rfl) ⟨⟨_, rfl⟩, h.1⟩
    | succ m ih =>
      intro r s h hr1 hr2 hr3
      have gv : 0 ≤ (s.1 11 26).toInt ∧ (s.1 11 26).toInt ≤ 8 := h.1.1 11 26
      have er := tn_add1 (x := r) (by omega)
      have k205 : ∀ (c : Int32) (s2 : tm_S), r.toInt ≤ 7 → th_ou v σ (276 + 21 * r.toInt + 8) s2 → WP (d + 2) 228 205 [(1, .int r), (0, .ref 11)] [.int c, .ref 11] s2 (fun r σ' => (∃ z : Int32, r = some (.int z)) ∧ tv_TY (tc_T v) σ') := by
        intro c s2 hr h0
        refine wq_calv [.int c] rfl rfl rfl rfl rfl rfl rfl rfl rfl (th_sayL h0 (by omega)) ?_
        rintro _ s1 ⟨rfl, h1⟩
        refine wp_lda rfl tm_m1 ?_
        refine wp_lda rfl tm_m1 ?_
        refine wq_getr (p := 63) rfl rfl (f := 29) rfl rfl ?_
        refine wp_ldi rfl tm_m0 ?_
        refine wp_iald rfl rfl (tn_in hr1 (by omega)) ?_
        refine wq_calv [.int (s1.1 63 r.toNatClampNeg)] rfl rfl rfl rfl rfl rfl rfl rfl rfl (th_sayN h1 (by omega)) ?_
        rintro _ s2 ⟨rfl, h2⟩
        refine wp_lda rfl tm_m1 ?_
        refine wq_con (x := 97) rfl (by decide) ?_
        refine wq_calv [.int 97] rfl rfl rfl rfl rfl rfl rfl rfl rfl (th_say h2 (by omega)) ?_
        rintro _ s3 ⟨rfl, h3⟩
        refine wp_lda rfl tm_m1 ?_
        refine wq_con (x := 116) rfl (by decide) ?_
        refine wq_calv [.int 116] rfl rfl rfl rfl rfl rfl rfl rfl rfl (th_sayL h3 (by omega)) ?_
        rintro _ s4 ⟨rfl, h4⟩
        refine wp_lda rfl tm_m1 ?_
        refine wp_lda rfl tm_m1 ?_
        refine wq_getr (p := 64) rfl rfl (f := 30) rfl rfl ?_
        refine wp_ldi rfl tm_m0 ?_
        refine wp_iald rfl rfl (tn_in hr1 (by omega)) ?_
        refine wq_calv [.int (s4.1 64 r.toNatClampNeg)] rfl rfl rfl rfl rfl rfl rfl rfl rfl (th_sayN h4 (by omega)) ?_
        rintro _ s5 ⟨rfl, h5⟩
        refine wp_lda rfl tm_m1 ?_
        refine wq_con (x := 59) rfl (by decide) ?_
        refine wq_calv [.int 59] rfl rfl rfl rfl rfl rfl rfl rfl rfl (th_say h5 (by omega)) ?_
        rintro _ s6 ⟨rfl, h6⟩
        refine wp_lda rfl tm_m1 ?_
        refine wq_con (x := 10) rfl (by decide) ?_
        refine wq_calv [.int 10] rfl rfl rfl rfl rfl rfl rfl rfl rfl (th_say h6 (by omega)) ?_
        rintro _ s7 ⟨rfl, h7⟩
        refine wq_inc (c := 1) [(1, .int (r + 1)), (0, .ref 11)] rfl tm_m0 rfl rfl ?_
        refine wp_go rfl ?_
        exact WP.less (ih (r + 1) _ (th_ou_mo h7 (by omega)) (by omega) (by omega) (by omega)) (by simp)
      refine wp_ldi rfl tm_m0 ?_
      refine wp_lda rfl tm_m1 ?_
      refine wq_geti rfl rfl (f := 26) rfl rfl (Or.inl rfl) ?_
      refine wq_icge rfl (fun h110 => ?_) (fun h110 => ?_)
      · refine wp_lda rfl tm_m1 ?_
        refine wq_geti rfl rfl (f := 34) rfl rfl (Or.inl rfl) ?_
        exact wp_reti rfl (th_nI rfl) ⟨⟨_, rfl⟩, h.1⟩
      · have e110 : r.toInt < (s.1 11 26).toInt := by rw [tn_leI] at h110; omega
        refine wp_lda rfl tm_m1 ?_
        refine wq_con (x := 118) rfl (by decide) ?_
        refine wq_calv [.int 118] rfl rfl rfl rfl rfl rfl rfl rfl rfl (th_say h (by omega)) ?_
        rintro _ s1 ⟨rfl, h1⟩
        refine wp_lda rfl tm_m1 ?_
        refine wq_con (x := 111) rfl (by decide) ?_
        refine wq_calv [.int 111] rfl rfl rfl rfl rfl rfl rfl rfl rfl (th_say h1 (by omega)) ?_
        rintro _ s2 ⟨rfl, h2⟩
        refine wp_lda rfl tm_m1 ?_
        refine wq_con (x := 105) rfl (by decide) ?_
        refine wq_calv [.int 105] rfl rfl rfl rfl rfl rfl rfl rfl rfl (th_say h2 (by omega)) ?_
        rintro _ s3 ⟨rfl, h3⟩
        refine wp_lda rfl tm_m1 ?_
        refine wq_con (x := 99) rfl (by decide) ?_
        refine wq_calv [.int 99] rfl rfl rfl rfl rfl rfl rfl rfl rfl (th_say h3 (by omega)) ?_
        rintro _ s4 ⟨rfl, h4⟩
        refine wp_lda rfl tm_m1 ?_
        refine wq_con (x := 101) rfl (by decide) ?_
        refine wq_calv [.int 101] rfl rfl rfl rfl rfl rfl rfl rfl rfl (th_sayL h4 (by omega)) ?_
        rintro _ s5 ⟨rfl, h5⟩
        refine wp_lda rfl tm_m1 ?_
        refine wp_lda rfl tm_m1 ?_
        refine wq_getr (p := 59) rfl rfl (f := 24) rfl rfl ?_
        refine wp_lda rfl tm_m1 ?_
        refine wq_getr (p := 61) rfl rfl (f := 27) rfl rfl ?_
        refine wp_ldi rfl tm_m0 ?_
        refine wp_iald rfl rfl (tn_in hr1 (by omega)) ?_
        refine wp_iald rfl rfl (tn_in (h5.1.1 61 _).1 (by have g6 : (s5.1 61 r.toNatClampNeg).toInt ≤ 5 := (h5.1.1 61 _).2; omega)) ?_
        refine wq_calv [.int (s5.1 59 (s5.1 61 r.toNatClampNeg).toNatClampNeg)] rfl rfl rfl rfl rfl rfl rfl rfl rfl (th_sayL h5 (by omega)) ?_
        rintro _ s6 ⟨rfl, h6⟩
        refine wp_lda rfl tm_m1 ?_
        refine wp_lda rfl tm_m1 ?_
        refine wq_getr (p := 62) rfl rfl (f := 28) rfl rfl ?_
        refine wp_ldi rfl tm_m0 ?_
        refine wp_iald rfl rfl (tn_in hr1 (by omega)) ?_
        refine wq_ifne rfl (fun h165 => ?_) (fun h165 => ?_)
        · refine wp_lda rfl tm_m1 ?_
          refine wq_getr (p := 62) rfl rfl (f := 28) rfl rfl ?_
          refine wp_ldi rfl tm_m0 ?_
          refine wp_iald rfl rfl (tn_in hr1 (by omega)) ?_
          refine wq_con (x := 1) rfl (by decide) ?_
          refine wq_icne rfl (fun h180 => ?_) (fun h180 => ?_)
          · refine wp_lda rfl tm_m1 ?_
            refine wq_getr (p := 62) rfl rfl (f := 28) rfl rfl ?_
            refine wp_ldi rfl tm_m0 ?_
            refine wp_iald rfl rfl (tn_in hr1 (by omega)) ?_
            refine wq_con (x := 2) rfl (by decide) ?_
            refine wq_icne rfl (fun h195 => ?_) (fun h195 => ?_)
            · refine wq_con (x := 117) rfl (by decide) ?_
              exact k205 _ _ (by omega) (th_ou_mo h6 (by omega))
            · refine wq_con (x := 114) rfl (by decide) ?_
              refine wp_go rfl ?_
              exact k205 _ _ (by omega) (th_ou_mo h6 (by omega))
          · refine wq_con (x := 105) rfl (by decide) ?_
            refine wp_go rfl ?_
            exact k205 _ _ (by omega) (th_ou_mo h6 (by omega))
        · refine wq_con (x := 112) rfl (by decide) ?_
          refine wp_go rfl ?_
          exact k205 _ _ (by omega) (th_ou_mo h6 (by omega))
  have k12 : ∀ (m : Nat) (r : Int32) (s : tm_S), th_ou v σ (46 * r.toInt) s → 0 ≤ r.toInt → 6 ≤ r.toInt + m → r.toInt ≤ 6 → WP (d + 2) 228 12 [(1, .int r), (0, .ref 11)] [] s (fun r σ' => (∃ z : Int32, r = some (.int z)) ∧ tv_TY (tc_T v) σ') := by
    intro m
    induction m with
    | zero =>
      intro r s h hr1 hr2 hr3
      have gv : 0 ≤ (s.1 11 23).toInt ∧ (s.1 11 23).toInt ≤ 6 := h.1.1 11 23
      refine wp_ldi rfl tm_m0 ?_
      refine wp_lda rfl tm_m1 ?_
      refine wq_geti rfl rfl (f := 23) rfl rfl (Or.inl rfl) ?_
      refine wq_icge rfl (fun h17 => ?_) (fun h17 => absurd (tn_leI.mpr (by omega)) h17)
      refine wq_con (x := 0) rfl (by decide) ?_
      refine wq_sti [(1, .int 0), (0, .ref 11)] rfl rfl ?_
      exact WP.less (k105 8 0 _ (th_ou_mo h (by show 46 * r.toInt ≤ 276 + 21 * 0; omega)) (by decide) (by decide) (by decide)) (by simp)
    | succ m ih =>
      intro r s h hr1 hr2 hr3
      have gv : 0 ≤ (s.1 11 23).toInt ∧ (s.1 11 23).toInt ≤ 6 := h.1.1 11 23
      have er := tn_add1 (x := r) (by omega)
      have k56 : ∀ (m2 : Nat) (i : Int32) (s : tm_S), r.toInt ≤ 5 → th_ou v σ (46 * r.toInt + 8 + 3 * i.toInt) s → 0 ≤ i.toInt → v ≤ i.toInt + m2 → i.toInt ≤ v → WP (d + 2) 228 56 [(2, .int i), (1, .int r), (0, .ref 11)] [] s (fun r σ' => (∃ z : Int32, r = some (.int z)) ∧ tv_TY (tc_T v) σ') := by
        intro m2
        induction m2 with
        | zero =>
          intro i s hr h hi1 hi2 hi3
          have gn : v ≤ (s.1 11 1).toInt ∧ (s.1 11 1).toInt ≤ v := h.1.1 11 1
          refine wp_ldi rfl tm_m0 ?_
          refine wp_lda rfl tm_m2 ?_
          refine wq_geti rfl rfl (f := 1) rfl rfl (Or.inl rfl) ?_
          refine wq_icge rfl (fun h61 => ?_) (fun h61 => absurd (tn_leI.mpr (by omega)) h61)
          refine wp_lda rfl tm_m2 ?_
          refine wq_con (x := 59) rfl (by decide) ?_
          refine wq_calv [.int 59] rfl rfl rfl rfl rfl rfl rfl rfl rfl (th_say h (by omega)) ?_
          rintro _ s1 ⟨rfl, h1⟩
          refine wp_lda rfl tm_m2 ?_
          refine wq_con (x := 10) rfl (by decide) ?_
          refine wq_calv [.int 10] rfl rfl rfl rfl rfl rfl rfl rfl rfl (th_say h1 (by omega)) ?_
          rintro _ s2 ⟨rfl, h2⟩
          refine wq_inc (c := 1) [(1, .int (r + 1)), (2, .int i), (0, .ref 11)] rfl tm_m1 rfl rfl ?_
          refine wp_go rfl ?_
          exact WP.less (ih (r + 1) _ (th_ou_mo h2 (by omega)) (by omega) (by omega) (by omega)) (by simp)
        | succ m2 ih2 =>
          intro i s hr h hi1 hi2 hi3
          have gn : v ≤ (s.1 11 1).toInt ∧ (s.1 11 1).toInt ≤ v := h.1.1 11 1
          have ei := tn_add1 (x := i) (by omega)
          have e12 : (12 * r).toInt = 12 * r.toInt := by rw [tn_mul (by show -2147483648 ≤ 12 * r.toInt; omega) (by show 12 * r.toInt ≤ 2147483647; omega)]; rfl
          have e13 : (12 * r + i).toInt = 12 * r.toInt + i.toInt := by rw [tn_add (by omega) (by omega), e12]
          refine wp_ldi rfl tm_m0 ?_
          refine wp_lda rfl tm_m2 ?_
          refine wq_geti rfl rfl (f := 1) rfl rfl (Or.inl rfl) ?_
          refine wq_icge rfl (fun h61 => ?_) (fun h61 => ?_)
          · refine wp_lda rfl tm_m2 ?_
            refine wq_con (x := 59) rfl (by decide) ?_
            refine wq_calv [.int 59] rfl rfl rfl rfl rfl rfl rfl rfl rfl (th_say h (by omega)) ?_
            rintro _ s1 ⟨rfl, h1⟩
            refine wp_lda rfl tm_m2 ?_
            refine wq_con (x := 10) rfl (by decide) ?_
            refine wq_calv [.int 10] rfl rfl rfl rfl rfl rfl rfl rfl rfl (th_say h1 (by omega)) ?_
            rintro _ s2 ⟨rfl, h2⟩
            refine wq_inc (c := 1) [(1, .int (r + 1)), (2, .int i), (0, .ref 11)] rfl tm_m1 rfl rfl ?_
            refine wp_go rfl ?_
            exact WP.less (ih (r + 1) _ (th_ou_mo h2 (by omega)) (by omega) (by omega) (by omega)) (by simp)
          · have e61 : i.toInt < (s.1 11 1).toInt := by rw [tn_leI] at h61; omega
            refine wp_lda rfl tm_m2 ?_
            refine wp_lda rfl tm_m2 ?_
            refine wq_getr (p := 60) rfl rfl (f := 25) rfl rfl ?_
            refine wq_con (x := 12) rfl (by decide) ?_
            refine wp_ldi rfl tm_m1 ?_
            refine wq_imul rfl ?_
            refine wp_ldi rfl tm_m0 ?_
            refine wq_iadd rfl ?_
            refine wp_iald rfl rfl (tn_in (by omega) (by omega)) ?_
            refine wq_calv [.int (s.1 60 ((12 * r) + i).toNatClampNeg)] rfl rfl rfl rfl rfl rfl rfl rfl rfl (th_sayN h (by omega)) ?_
            rintro _ s3 ⟨rfl, h3⟩
            refine wq_inc (c := 1) [(2, .int (i + 1)), (1, .int r), (0, .ref 11)] rfl tm_m0 rfl rfl ?_
            refine wp_go rfl ?_
            exact WP.less (ih2 (i + 1) _ hr (th_ou_mo h3 (by omega)) (by omega) (by omega) (by omega)) (by simp)
      refine wp_ldi rfl tm_m0 ?_
      refine wp_lda rfl tm_m1 ?_
      refine wq_geti rfl rfl (f := 23) rfl rfl (Or.inl rfl) ?_
      refine wq_icge rfl (fun h17 => ?_) (fun h17 => ?_)
      · refine wq_con (x := 0) rfl (by decide) ?_
        refine wq_sti [(1, .int 0), (0, .ref 11)] rfl rfl ?_
        exact WP.less (k105 8 0 _ (th_ou_mo h (by show 46 * r.toInt ≤ 276 + 21 * 0; omega)) (by decide) (by decide) (by decide)) (by simp)
      · have e17 : r.toInt < (s.1 11 23).toInt := by rw [tn_leI] at h17; omega
        refine wp_lda rfl tm_m1 ?_
        refine wq_con (x := 114) rfl (by decide) ?_
        refine wq_calv [.int 114] rfl rfl rfl rfl rfl rfl rfl rfl rfl (th_say h (by omega)) ?_
        rintro _ s1 ⟨rfl, h1⟩
        refine wp_lda rfl tm_m1 ?_
        refine wq_con (x := 111) rfl (by decide) ?_
        refine wq_calv [.int 111] rfl rfl rfl rfl rfl rfl rfl rfl rfl (th_say h1 (by omega)) ?_
        rintro _ s2 ⟨rfl, h2⟩
        refine wp_lda rfl tm_m1 ?_
        refine wq_con (x := 119) rfl (by decide) ?_
        refine wq_calv [.int 119] rfl rfl rfl rfl rfl rfl rfl rfl rfl (th_sayL h2 (by omega)) ?_
        rintro _ s3 ⟨rfl, h3⟩
        refine wp_lda rfl tm_m1 ?_
        refine wp_lda rfl tm_m1 ?_
        refine wq_getr (p := 59) rfl rfl (f := 24) rfl rfl ?_
        refine wp_ldi rfl tm_m0 ?_
        refine wp_iald rfl rfl (tn_in hr1 (by omega)) ?_
        refine wq_calv [.int (s3.1 59 r.toNatClampNeg)] rfl rfl rfl rfl rfl rfl rfl rfl rfl (th_sayL h3 (by omega)) ?_
        rintro _ s4 ⟨rfl, h4⟩
        refine wp_lda rfl tm_m1 ?_
        refine wq_con (x := 61) rfl (by decide) ?_
        refine wq_calv [.int 61] rfl rfl rfl rfl rfl rfl rfl rfl rfl (th_sayL h4 (by omega)) ?_
        rintro _ s5 ⟨rfl, h5⟩
        refine wq_con (x := 0) rfl (by decide) ?_
        refine wq_sti [(2, .int 0), (1, .int r), (0, .ref 11)] rfl rfl ?_
        exact WP.less (k56 12 0 _ (by omega) (th_ou_mo h5 (by show _ ≤ 46 * r.toInt + 8 + 3 * (0 : Int); omega)) (by decide) (by show v ≤ (0 : Int) + 12; omega) (by show (0 : Int) ≤ v; omega)) (by simp)
  show WP (d + 2) 228 0 [(0, .ref 11)] [] σ _
  refine wp_lda rfl tm_m0 ?_
  refine wq_con (x := 0) rfl (by decide) ?_
  refine wq_puti rfl rfl (f := 0) rfl rfl ?_
  refine wp_lda rfl tm_m0 ?_
  refine wq_con (x := 0) rfl (by decide) ?_
  refine wq_puti rfl rfl (f := 34) rfl rfl ?_
  refine wq_con (x := 0) rfl (by decide) ?_
  refine wq_sti [(1, .int 0), (0, .ref 11)] rfl rfl ?_
  exact WP.less (k12 6 0 _ ⟨tv_TY_sI (tv_TY_sI hT tv_z0 tv_z1) tv_zz (by show (0 : Int) ≤ 1000; decide), tv_un_tr (tv_un_fI rfl) (tv_un_fI rfl), by rw [tm_gI, if_pos ⟨rfl, rfl⟩]; decide⟩ (by decide) (by decide) (by decide)) (by simp)
end
section
/-! ===== reading, of the reference: next ===== -/
/-- what stands k places on -/
def th_rw (σ : tm_S) (k : Int32) : Int32 := if σ.1 11 32 ≤ σ.1 11 35 + k then -1 else σ.1 65 (σ.1 11 35 + k).toNatClampNeg
set_option maxRecDepth 100000 in
set_option maxHeartbeats 4000000 in
theorem th_raw {d : Nat} {v : Int} {k : Int32} {σ : tm_S} (hT : tv_TY (tc_T v) σ) (hk0 : 0 ≤ k.toInt) (hk1 : k.toInt ≤ 1000) : WM d 235 [.ref 11, .int k] σ (th_is (.int (th_rw σ k)) σ) := by
  have g1 : 0 ≤ (σ.1 11 35).toInt ∧ (σ.1 11 35).toInt ≤ 800 := hT.1 11 35
  have g2 : 0 ≤ (σ.1 11 32).toInt ∧ (σ.1 11 32).toInt ≤ 800 := hT.1 11 32
  have e1 : (σ.1 11 35 + k).toInt = (σ.1 11 35).toInt + k.toInt := tn_add (by omega) (by omega)
  show WP d 235 0 [(0, .ref 11), (1, .int k)] [] σ _
  refine wp_lda rfl tm_m0 ?_
  refine wq_geti rfl rfl (f := 35) rfl rfl (Or.inl rfl) ?_
  refine wp_ldi rfl tm_m1 ?_
  refine wq_iadd rfl ?_
  refine wp_lda rfl tm_m0 ?_
  refine wq_geti rfl rfl (f := 32) rfl rfl (Or.inl rfl) ?_
  refine wq_icge rfl (fun h10 => ?_) (fun h10 => ?_)
  · refine wq_con (x := (-1)) rfl (by decide) ?_
    exact wp_reti rfl (th_nI rfl) ⟨by unfold th_rw; rw [if_pos h10], rfl⟩
  · have e10 : (σ.1 11 35 + k).toInt < (σ.1 11 32).toInt := by rw [tn_leI] at h10; omega
    refine wp_lda rfl tm_m0 ?_
    refine wq_getr (p := 65) rfl rfl (f := 31) rfl rfl ?_
    refine wp_lda rfl tm_m0 ?_
    refine wq_geti rfl rfl (f := 35) rfl rfl (Or.inl rfl) ?_
    refine wp_ldi rfl tm_m1 ?_
    refine wq_iadd rfl ?_
    refine wp_iald rfl rfl (tn_in (by omega) (by omega)) ?_
    refine wp_go rfl ?_
    exact wp_reti rfl (th_nI rfl) ⟨by unfold th_rw; rw [if_neg h10], rfl⟩
theorem th_rw_ne {v : Int} {k : Int32} {σ : tm_S} (hT : tv_TY (tc_T v) σ) (hk0 : 0 ≤ k.toInt) (hk1 : k.toInt ≤ 1000) (h : ¬ th_rw σ k = -1) : (σ.1 11 35).toInt + k.toInt < (σ.1 11 32).toInt := by
  have g1 : 0 ≤ (σ.1 11 35).toInt ∧ (σ.1 11 35).toInt ≤ 800 := hT.1 11 35
  have e1 : (σ.1 11 35 + k).toInt = (σ.1 11 35).toInt + k.toInt := tn_add (by omega) (by omega)
  unfold th_rw at h
  by_cases hc : σ.1 11 32 ≤ σ.1 11 35 + k
  · rw [if_pos hc] at h
    exact absurd rfl h
  · rw [tn_leI] at hc
    omega
set_option maxRecDepth 100000 in
set_option maxHeartbeats 4000000 in
theorem th_mlet {d : Nat} {c : Int32} {σ : tm_S} : WM d 236 [.ref 11, .int c] σ (fun r σ' => ((r = some (.int 1) ∧ 65 ≤ c.toInt ∧ c.toInt ≤ 122) ∨ r = some (.int 0)) ∧ σ = σ') := by
  show WP d 236 0 [(0, .ref 11), (1, .int c)] [] σ _
  refine wp_ldi rfl tm_m1 ?_
  refine wq_con (x := 97) rfl (by decide) ?_
  refine wq_iclt rfl (fun h3 => ?_) (fun h3 => ?_)
  · have g3 : (c).toInt < 97 := tn_ltI.mp h3
    refine wp_ldi rfl tm_m1 ?_
    refine wq_con (x := 65) rfl (by decide) ?_
    refine wq_iclt rfl (fun h15 => ?_) (fun h15 => ?_)
    · have g15 : (c).toInt < 65 := tn_ltI.mp h15
      refine wq_con (x := 0) rfl (by decide) ?_
      exact wp_reti rfl (th_n0 rfl) ⟨Or.inr rfl, rfl⟩
    · have g15 : ¬ (c).toInt < 65 := fun g => h15 (tn_ltI.mpr g)
      refine wp_ldi rfl tm_m1 ?_
      refine wq_con (x := 90) rfl (by decide) ?_
      refine wq_icgt rfl (fun h21 => ?_) (fun h21 => ?_)
      · have g21 : 90 < (c).toInt := tn_ltI.mp h21
        refine wq_con (x := 0) rfl (by decide) ?_
        exact wp_reti rfl (th_n0 rfl) ⟨Or.inr rfl, rfl⟩
      · have g21 : ¬ 90 < (c).toInt := fun g => h21 (tn_ltI.mpr g)
        refine wq_con (x := 1) rfl (by decide) ?_
        refine wp_go rfl ?_
        exact wp_reti rfl (th_n1 rfl) ⟨Or.inl ⟨rfl, by omega, by omega⟩, rfl⟩
  · have g3 : ¬ (c).toInt < 97 := fun g => h3 (tn_ltI.mpr g)
    refine wp_ldi rfl tm_m1 ?_
    refine wq_con (x := 122) rfl (by decide) ?_
    refine wq_icle rfl (fun h9 => ?_) (fun h9 => ?_)
    · have g9 : (c).toInt ≤ 122 := tn_leI.mp h9
      refine wq_con (x := 1) rfl (by decide) ?_
      refine wp_go rfl ?_
      exact wp_reti rfl (th_n1 rfl) ⟨Or.inl ⟨rfl, by omega, by omega⟩, rfl⟩
    · have g9 : ¬ (c).toInt ≤ 122 := fun g => h9 (tn_leI.mpr g)
      refine wp_ldi rfl tm_m1 ?_
      refine wq_con (x := 65) rfl (by decide) ?_
      refine wq_iclt rfl (fun h15 => ?_) (fun h15 => ?_)
      · have g15 : (c).toInt < 65 := tn_ltI.mp h15
        refine wq_con (x := 0) rfl (by decide) ?_
        exact wp_reti rfl (th_n0 rfl) ⟨Or.inr rfl, rfl⟩
      · have g15 : ¬ (c).toInt < 65 := fun g => h15 (tn_ltI.mpr g)
        refine wp_ldi rfl tm_m1 ?_
        refine wq_con (x := 90) rfl (by decide) ?_
        refine wq_icgt rfl (fun h21 => ?_) (fun h21 => ?_)
        · have g21 : 90 < (c).toInt := tn_ltI.mp h21
          refine wq_con (x := 0) rfl (by decide) ?_
          exact wp_reti rfl (th_n0 rfl) ⟨Or.inr rfl, rfl⟩
        · have g21 : ¬ 90 < (c).toInt := fun g => h21 (tn_ltI.mpr g)
          refine wq_con (x := 1) rfl (by decide) ?_
          refine wp_go rfl ?_
          exact wp_reti rfl (th_n1 rfl) ⟨Or.inl ⟨rfl, by omega, by omega⟩, rfl⟩
set_option maxRecDepth 100000 in
set_option maxHeartbeats 4000000 in
theorem th_mdig {d : Nat} {c : Int32} {σ : tm_S} : WM d 237 [.ref 11, .int c] σ (fun r σ' => ((r = some (.int 1) ∧ 48 ≤ c.toInt ∧ c.toInt ≤ 57) ∨ r = some (.int 0)) ∧ σ = σ') := by
  show WP d 237 0 [(0, .ref 11), (1, .int c)] [] σ _
  refine wp_ldi rfl tm_m1 ?_
  refine wq_con (x := 48) rfl (by decide) ?_
  refine wq_iclt rfl (fun h3 => ?_) (fun h3 => ?_)
  · have g3 : (c).toInt < 48 := tn_ltI.mp h3
    refine wq_con (x := 0) rfl (by decide) ?_
    exact wp_reti rfl (th_n0 rfl) ⟨Or.inr rfl, rfl⟩
  · have g3 : ¬ (c).toInt < 48 := fun g => h3 (tn_ltI.mpr g)
    refine wp_ldi rfl tm_m1 ?_
    refine wq_con (x := 57) rfl (by decide) ?_
    refine wq_icgt rfl (fun h9 => ?_) (fun h9 => ?_)
    · have g9 : 57 < (c).toInt := tn_ltI.mp h9
      refine wq_con (x := 0) rfl (by decide) ?_
      exact wp_reti rfl (th_n0 rfl) ⟨Or.inr rfl, rfl⟩
    · have g9 : ¬ 57 < (c).toInt := fun g => h9 (tn_ltI.mpr g)
      refine wq_con (x := 1) rfl (by decide) ?_
      refine wp_go rfl ?_
      exact wp_reti rfl (th_n1 rfl) ⟨Or.inl ⟨rfl, by omega, by omega⟩, rfl⟩
end
