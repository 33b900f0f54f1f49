section
-- ===== PART A: goes FIRST, ahead of the names: the tables' words, and 'selects' of the private methods out of them =====
/-- a private method of a class that the tables say can be made, by its rows of tables_1 -/
def lw_okq (q : MethodName × Nat) : Prop := (q.1.cls ≠ "java/lang/invoke/MethodHandle" ∧ q.1.cls ≠ "java/lang/invoke/VarHandle") ∧ Cond.instantiable q.1.cls q.2 ∈ tables_1 ∧ Cond.privateMethod q.1 ∈ tables_1 ∧ Cond.instanceMethod q.1 ∈ tables_1
theorem lw_p0 : lw_okq (⟨"RattleAtFifty", "rowRefusal", "(I)I"⟩, 8) := ⟨⟨by decide +kernel, by decide +kernel⟩, List.mem_of_getElem? (i := 24) (by decide +kernel), List.mem_of_getElem? (i := 199) (by decide +kernel), List.mem_of_getElem? (i := 200) (by decide +kernel)⟩
theorem lw_p1 : lw_okq (⟨"RattleAtFifty$Car", "kindOf", "(I)LRattleAtFifty$Part;"⟩, 10) := ⟨⟨by decide +kernel, by decide +kernel⟩, List.mem_of_getElem? (i := 89) (by decide +kernel), List.mem_of_getElem? (i := 268) (by decide +kernel), List.mem_of_getElem? (i := 269) (by decide +kernel)⟩
theorem lw_p2 : lw_okq (⟨"RattleAtFifty", "pairsRefusal", "(I)I"⟩, 8) := ⟨⟨by decide +kernel, by decide +kernel⟩, List.mem_of_getElem? (i := 24) (by decide +kernel), List.mem_of_getElem? (i := 517) (by decide +kernel), List.mem_of_getElem? (i := 518) (by decide +kernel)⟩
theorem lw_p3 : lw_okq (⟨"RattleAtFifty", "suspectsBy", "(LRattleAtFifty$Shelf;)I"⟩, 8) := ⟨⟨by decide +kernel, by decide +kernel⟩, List.mem_of_getElem? (i := 24) (by decide +kernel), List.mem_of_getElem? (i := 527) (by decide +kernel), List.mem_of_getElem? (i := 528) (by decide +kernel)⟩
theorem lw_p4 : lw_okq (⟨"RattleAtFifty", "isSetOfParts", "(I)Z"⟩, 8) := ⟨⟨by decide +kernel, by decide +kernel⟩, List.mem_of_getElem? (i := 24) (by decide +kernel), List.mem_of_getElem? (i := 558) (by decide +kernel), List.mem_of_getElem? (i := 559) (by decide +kernel)⟩
theorem lw_p5 : lw_okq (⟨"RattleAtFifty", "drivesByHalves", "(I)I"⟩, 8) := ⟨⟨by decide +kernel, by decide +kernel⟩, List.mem_of_getElem? (i := 24) (by decide +kernel), List.mem_of_getElem? (i := 566) (by decide +kernel), List.mem_of_getElem? (i := 567) (by decide +kernel)⟩
theorem lw_p6 : lw_okq (⟨"RattleAtFifty", "fillPool", "(I)I"⟩, 8) := ⟨⟨by decide +kernel, by decide +kernel⟩, List.mem_of_getElem? (i := 24) (by decide +kernel), List.mem_of_getElem? (i := 570) (by decide +kernel), List.mem_of_getElem? (i := 571) (by decide +kernel)⟩
theorem lw_p7 : lw_okq (⟨"RattleAtFifty", "moveLeastToEnd", "(I)V"⟩, 8) := ⟨⟨by decide +kernel, by decide +kernel⟩, List.mem_of_getElem? (i := 24) (by decide +kernel), List.mem_of_getElem? (i := 574) (by decide +kernel), List.mem_of_getElem? (i := 575) (by decide +kernel)⟩
theorem lw_p8 : lw_okq (⟨"RattleAtFifty", "swapInPool", "(I)V"⟩, 8) := ⟨⟨by decide +kernel, by decide +kernel⟩, List.mem_of_getElem? (i := 24) (by decide +kernel), List.mem_of_getElem? (i := 578) (by decide +kernel), List.mem_of_getElem? (i := 579) (by decide +kernel)⟩
theorem lw_p9 : lw_okq (⟨"RattleAtFifty", "drivesOneByOne", "(I)I"⟩, 8) := ⟨⟨by decide +kernel, by decide +kernel⟩, List.mem_of_getElem? (i := 24) (by decide +kernel), List.mem_of_getElem? (i := 592) (by decide +kernel), List.mem_of_getElem? (i := 593) (by decide +kernel)⟩
theorem lw_p10 : lw_okq (⟨"RattleAtFifty", "moveGreatestToEnd", "(I)V"⟩, 8) := ⟨⟨by decide +kernel, by decide +kernel⟩, List.mem_of_getElem? (i := 24) (by decide +kernel), List.mem_of_getElem? (i := 596) (by decide +kernel), List.mem_of_getElem? (i := 597) (by decide +kernel)⟩
theorem lw_p11 : lw_okq (⟨"RattleAtFifty", "startDigits", "(I)V"⟩, 8) := ⟨⟨by decide +kernel, by decide +kernel⟩, List.mem_of_getElem? (i := 24) (by decide +kernel), List.mem_of_getElem? (i := 608) (by decide +kernel), List.mem_of_getElem? (i := 609) (by decide +kernel)⟩
theorem lw_p12 : lw_okq (⟨"RattleAtFifty", "digitsAtMostPowerOfTen", "(I)Z"⟩, 8) := ⟨⟨by decide +kernel, by decide +kernel⟩, List.mem_of_getElem? (i := 24) (by decide +kernel), List.mem_of_getElem? (i := 612) (by decide +kernel), List.mem_of_getElem? (i := 613) (by decide +kernel)⟩
theorem lw_p13 : lw_okq (⟨"RattleAtFifty", "multiplyDigits", "(I)V"⟩, 8) := ⟨⟨by decide +kernel, by decide +kernel⟩, List.mem_of_getElem? (i := 24) (by decide +kernel), List.mem_of_getElem? (i := 616) (by decide +kernel), List.mem_of_getElem? (i := 617) (by decide +kernel)⟩
theorem lw_p14 : lw_okq (⟨"RattleAtFifty", "toldSeatsRefusal", "(I)I"⟩, 8) := ⟨⟨by decide +kernel, by decide +kernel⟩, List.mem_of_getElem? (i := 24) (by decide +kernel), List.mem_of_getElem? (i := 624) (by decide +kernel), List.mem_of_getElem? (i := 625) (by decide +kernel)⟩
theorem lw_p15 : lw_okq (⟨"RattleAtFifty", "statesRefusal", "(I)I"⟩, 8) := ⟨⟨by decide +kernel, by decide +kernel⟩, List.mem_of_getElem? (i := 24) (by decide +kernel), List.mem_of_getElem? (i := 656) (by decide +kernel), List.mem_of_getElem? (i := 657) (by decide +kernel)⟩
def lw_privs_1 : List (MethodName × Nat) := [(⟨"RattleAtFifty", "rowRefusal", "(I)I"⟩, 8), (⟨"RattleAtFifty$Car", "kindOf", "(I)LRattleAtFifty$Part;"⟩, 10), (⟨"RattleAtFifty", "pairsRefusal", "(I)I"⟩, 8), (⟨"RattleAtFifty", "suspectsBy", "(LRattleAtFifty$Shelf;)I"⟩, 8), (⟨"RattleAtFifty", "isSetOfParts", "(I)Z"⟩, 8), (⟨"RattleAtFifty", "drivesByHalves", "(I)I"⟩, 8), (⟨"RattleAtFifty", "fillPool", "(I)I"⟩, 8), (⟨"RattleAtFifty", "moveLeastToEnd", "(I)V"⟩, 8), (⟨"RattleAtFifty", "swapInPool", "(I)V"⟩, 8), (⟨"RattleAtFifty", "drivesOneByOne", "(I)I"⟩, 8), (⟨"RattleAtFifty", "moveGreatestToEnd", "(I)V"⟩, 8), (⟨"RattleAtFifty", "startDigits", "(I)V"⟩, 8), (⟨"RattleAtFifty", "digitsAtMostPowerOfTen", "(I)Z"⟩, 8), (⟨"RattleAtFifty", "multiplyDigits", "(I)V"⟩, 8), (⟨"RattleAtFifty", "toldSeatsRefusal", "(I)I"⟩, 8), (⟨"RattleAtFifty", "statesRefusal", "(I)I"⟩, 8)]
theorem lw_r1 : ∀ q ∈ lw_privs_1, lw_okq q := List.forall_mem_cons.mpr ⟨lw_p0, List.forall_mem_cons.mpr ⟨lw_p1, List.forall_mem_cons.mpr ⟨lw_p2, List.forall_mem_cons.mpr ⟨lw_p3, List.forall_mem_cons.mpr ⟨lw_p4, List.forall_mem_cons.mpr ⟨lw_p5, List.forall_mem_cons.mpr ⟨lw_p6, List.forall_mem_cons.mpr ⟨lw_p7, List.forall_mem_cons.mpr ⟨lw_p8, List.forall_mem_cons.mpr ⟨lw_p9, List.forall_mem_cons.mpr ⟨lw_p10, List.forall_mem_cons.mpr ⟨lw_p11, List.forall_mem_cons.mpr ⟨lw_p12, List.forall_mem_cons.mpr ⟨lw_p13, List.forall_mem_cons.mpr ⟨lw_p14, List.forall_mem_cons.mpr ⟨lw_p15, fun _ h => absurd h List.not_mem_nil⟩⟩⟩⟩⟩⟩⟩⟩⟩⟩⟩⟩⟩⟩⟩⟩
theorem lw_p16 : lw_okq (⟨"RattleAtFifty", "kindRefusal", "(I)I"⟩, 8) := ⟨⟨by decide +kernel, by decide +kernel⟩, List.mem_of_getElem? (i := 24) (by decide +kernel), List.mem_of_getElem? (i := 750) (by decide +kernel), List.mem_of_getElem? (i := 751) (by decide +kernel)⟩
theorem lw_p17 : lw_okq (⟨"java/lang/Throwable", "fillInStackTrace", "(I)Ljava/lang/Throwable;"⟩, 6) := ⟨⟨by decide +kernel, by decide +kernel⟩, List.mem_of_getElem? (i := 843) (by decide +kernel), List.mem_of_getElem? (i := 841) (by decide +kernel), List.mem_of_getElem? (i := 842) (by decide +kernel)⟩
theorem lw_p18 : lw_okq (⟨"RattleAtFiftyModel", "wrongRow", "(II)I"⟩, 20) := ⟨⟨by decide +kernel, by decide +kernel⟩, List.mem_of_getElem? (i := 934) (by decide +kernel), List.mem_of_getElem? (i := 1005) (by decide +kernel), List.mem_of_getElem? (i := 1006) (by decide +kernel)⟩
theorem lw_p19 : lw_okq (⟨"RattleAtFiftyModel", "readsStatement", "()Z"⟩, 20) := ⟨⟨by decide +kernel, by decide +kernel⟩, List.mem_of_getElem? (i := 934) (by decide +kernel), List.mem_of_getElem? (i := 1015) (by decide +kernel), List.mem_of_getElem? (i := 1016) (by decide +kernel)⟩
theorem lw_p20 : lw_okq (⟨"RattleAtFiftyModel", "here", "()I"⟩, 20) := ⟨⟨by decide +kernel, by decide +kernel⟩, List.mem_of_getElem? (i := 934) (by decide +kernel), List.mem_of_getElem? (i := 1019) (by decide +kernel), List.mem_of_getElem? (i := 1020) (by decide +kernel)⟩
theorem lw_p21 : lw_okq (⟨"RattleAtFiftyModel", "readsNumber", "(II)Z"⟩, 20) := ⟨⟨by decide +kernel, by decide +kernel⟩, List.mem_of_getElem? (i := 934) (by decide +kernel), List.mem_of_getElem? (i := 1023) (by decide +kernel), List.mem_of_getElem? (i := 1024) (by decide +kernel)⟩
theorem lw_p22 : lw_okq (⟨"RattleAtFiftyModel", "isDone", "(I)Z"⟩, 20) := ⟨⟨by decide +kernel, by decide +kernel⟩, List.mem_of_getElem? (i := 934) (by decide +kernel), List.mem_of_getElem? (i := 1030) (by decide +kernel), List.mem_of_getElem? (i := 1031) (by decide +kernel)⟩
theorem lw_p23 : lw_okq (⟨"RattleAtFiftyModel", "addsPart", "(IIII)V"⟩, 20) := ⟨⟨by decide +kernel, by decide +kernel⟩, List.mem_of_getElem? (i := 934) (by decide +kernel), List.mem_of_getElem? (i := 1037) (by decide +kernel), List.mem_of_getElem? (i := 1038) (by decide +kernel)⟩
theorem lw_p24 : lw_okq (⟨"RattleAtFiftyModel", "isThere", "(I)Z"⟩, 20) := ⟨⟨by decide +kernel, by decide +kernel⟩, List.mem_of_getElem? (i := 934) (by decide +kernel), List.mem_of_getElem? (i := 1047) (by decide +kernel), List.mem_of_getElem? (i := 1048) (by decide +kernel)⟩
theorem lw_p25 : lw_okq (⟨"RattleAtFiftyModel", "isPart", "(I)Z"⟩, 20) := ⟨⟨by decide +kernel, by decide +kernel⟩, List.mem_of_getElem? (i := 934) (by decide +kernel), List.mem_of_getElem? (i := 1051) (by decide +kernel), List.mem_of_getElem? (i := 1052) (by decide +kernel)⟩
theorem lw_p26 : lw_okq (⟨"RattleAtFiftyModel", "wrongKept", "(I)I"⟩, 20) := ⟨⟨by decide +kernel, by decide +kernel⟩, List.mem_of_getElem? (i := 934) (by decide +kernel), List.mem_of_getElem? (i := 1096) (by decide +kernel), List.mem_of_getElem? (i := 1097) (by decide +kernel)⟩
theorem lw_p27 : lw_okq (⟨"RattleAtFiftyModel", "wrongPairs", "(I)I"⟩, 20) := ⟨⟨by decide +kernel, by decide +kernel⟩, List.mem_of_getElem? (i := 934) (by decide +kernel), List.mem_of_getElem? (i := 1166) (by decide +kernel), List.mem_of_getElem? (i := 1167) (by decide +kernel)⟩
theorem lw_p28 : lw_okq (⟨"RattleAtFiftyModel", "whichOf", "(I)I"⟩, 20) := ⟨⟨by decide +kernel, by decide +kernel⟩, List.mem_of_getElem? (i := 934) (by decide +kernel), List.mem_of_getElem? (i := 1170) (by decide +kernel), List.mem_of_getElem? (i := 1171) (by decide +kernel)⟩
theorem lw_p29 : lw_okq (⟨"RattleAtFiftyModel", "isTold", "(II)Z"⟩, 20) := ⟨⟨by decide +kernel, by decide +kernel⟩, List.mem_of_getElem? (i := 934) (by decide +kernel), List.mem_of_getElem? (i := 1174) (by decide +kernel), List.mem_of_getElem? (i := 1175) (by decide +kernel)⟩
theorem lw_p30 : lw_okq (⟨"RattleAtFiftyModel", "isSet", "(I)Z"⟩, 20) := ⟨⟨by decide +kernel, by decide +kernel⟩, List.mem_of_getElem? (i := 934) (by decide +kernel), List.mem_of_getElem? (i := 1190) (by decide +kernel), List.mem_of_getElem? (i := 1191) (by decide +kernel)⟩
theorem lw_p31 : lw_okq (⟨"RattleAtFiftyModel", "halvesOf", "(I)I"⟩, 20) := ⟨⟨by decide +kernel, by decide +kernel⟩, List.mem_of_getElem? (i := 934) (by decide +kernel), List.mem_of_getElem? (i := 1194) (by decide +kernel), List.mem_of_getElem? (i := 1195) (by decide +kernel)⟩
def lw_privs_2 : List (MethodName × Nat) := [(⟨"RattleAtFifty", "kindRefusal", "(I)I"⟩, 8), (⟨"java/lang/Throwable", "fillInStackTrace", "(I)Ljava/lang/Throwable;"⟩, 6), (⟨"RattleAtFiftyModel", "wrongRow", "(II)I"⟩, 20), (⟨"RattleAtFiftyModel", "readsStatement", "()Z"⟩, 20), (⟨"RattleAtFiftyModel", "here", "()I"⟩, 20), (⟨"RattleAtFiftyModel", "readsNumber", "(II)Z"⟩, 20), (⟨"RattleAtFiftyModel", "isDone", "(I)Z"⟩, 20), (⟨"RattleAtFiftyModel", "addsPart", "(IIII)V"⟩, 20), (⟨"RattleAtFiftyModel", "isThere", "(I)Z"⟩, 20), (⟨"RattleAtFiftyModel", "isPart", "(I)Z"⟩, 20), (⟨"RattleAtFiftyModel", "wrongKept", "(I)I"⟩, 20), (⟨"RattleAtFiftyModel", "wrongPairs", "(I)I"⟩, 20), (⟨"RattleAtFiftyModel", "whichOf", "(I)I"⟩, 20), (⟨"RattleAtFiftyModel", "isTold", "(II)Z"⟩, 20), (⟨"RattleAtFiftyModel", "isSet", "(I)Z"⟩, 20), (⟨"RattleAtFiftyModel", "halvesOf", "(I)I"⟩, 20)]
theorem lw_r2 : ∀ q ∈ lw_privs_2, lw_okq q := List.forall_mem_cons.mpr ⟨lw_p16, List.forall_mem_cons.mpr ⟨lw_p17, List.forall_mem_cons.mpr ⟨lw_p18, List.forall_mem_cons.mpr ⟨lw_p19, List.forall_mem_cons.mpr ⟨lw_p20, List.forall_mem_cons.mpr ⟨lw_p21, List.forall_mem_cons.mpr ⟨lw_p22, List.forall_mem_cons.mpr ⟨lw_p23, List.forall_mem_cons.mpr ⟨lw_p24, List.forall_mem_cons.mpr ⟨lw_p25, List.forall_mem_cons.mpr ⟨lw_p26, List.forall_mem_cons.mpr ⟨lw_p27, List.forall_mem_cons.mpr ⟨lw_p28, List.forall_mem_cons.mpr ⟨lw_p29, List.forall_mem_cons.mpr ⟨lw_p30, List.forall_mem_cons.mpr ⟨lw_p31, fun _ h => absurd h List.not_mem_nil⟩⟩⟩⟩⟩⟩⟩⟩⟩⟩⟩⟩⟩⟩⟩⟩
theorem lw_p32 : lw_okq (⟨"RattleAtFiftyModel", "weightOf", "(I)I"⟩, 20) := ⟨⟨by decide +kernel, by decide +kernel⟩, List.mem_of_getElem? (i := 934) (by decide +kernel), List.mem_of_getElem? (i := 1199) (by decide +kernel), List.mem_of_getElem? (i := 1200) (by decide +kernel)⟩
theorem lw_p33 : lw_okq (⟨"RattleAtFiftyModel", "oneByOneOf", "(I)I"⟩, 20) := ⟨⟨by decide +kernel, by decide +kernel⟩, List.mem_of_getElem? (i := 934) (by decide +kernel), List.mem_of_getElem? (i := 1214) (by decide +kernel), List.mem_of_getElem? (i := 1215) (by decide +kernel)⟩
theorem lw_p34 : lw_okq (⟨"RattleAtFiftyModel", "timesFigures", "(I)V"⟩, 20) := ⟨⟨by decide +kernel, by decide +kernel⟩, List.mem_of_getElem? (i := 934) (by decide +kernel), List.mem_of_getElem? (i := 1226) (by decide +kernel), List.mem_of_getElem? (i := 1227) (by decide +kernel)⟩
theorem lw_p35 : lw_okq (⟨"RattleAtFiftyModel", "isWithinTen", "(I)Z"⟩, 20) := ⟨⟨by decide +kernel, by decide +kernel⟩, List.mem_of_getElem? (i := 934) (by decide +kernel), List.mem_of_getElem? (i := 1230) (by decide +kernel), List.mem_of_getElem? (i := 1231) (by decide +kernel)⟩
theorem lw_p36 : lw_okq (⟨"RattleAtFiftyModel", "wrongEar", "(II)I"⟩, 20) := ⟨⟨by decide +kernel, by decide +kernel⟩, List.mem_of_getElem? (i := 934) (by decide +kernel), List.mem_of_getElem? (i := 1238) (by decide +kernel), List.mem_of_getElem? (i := 1239) (by decide +kernel)⟩
theorem lw_p37 : lw_okq (⟨"RattleAtFiftyModel", "earOf", "(III)J"⟩, 20) := ⟨⟨by decide +kernel, by decide +kernel⟩, List.mem_of_getElem? (i := 934) (by decide +kernel), List.mem_of_getElem? (i := 1243) (by decide +kernel), List.mem_of_getElem? (i := 1244) (by decide +kernel)⟩
theorem lw_p38 : lw_okq (⟨"RattleAtFiftyModel", "wrongBy", "(II)I"⟩, 20) := ⟨⟨by decide +kernel, by decide +kernel⟩, List.mem_of_getElem? (i := 934) (by decide +kernel), List.mem_of_getElem? (i := 1279) (by decide +kernel), List.mem_of_getElem? (i := 1280) (by decide +kernel)⟩
theorem lw_p39 : lw_okq (⟨"RattleAtFiftyModel", "drawn", "(I)I"⟩, 20) := ⟨⟨by decide +kernel, by decide +kernel⟩, List.mem_of_getElem? (i := 934) (by decide +kernel), List.mem_of_getElem? (i := 1291) (by decide +kernel), List.mem_of_getElem? (i := 1292) (by decide +kernel)⟩
def lw_privs_3 : List (MethodName × Nat) := [(⟨"RattleAtFiftyModel", "weightOf", "(I)I"⟩, 20), (⟨"RattleAtFiftyModel", "oneByOneOf", "(I)I"⟩, 20), (⟨"RattleAtFiftyModel", "timesFigures", "(I)V"⟩, 20), (⟨"RattleAtFiftyModel", "isWithinTen", "(I)Z"⟩, 20), (⟨"RattleAtFiftyModel", "wrongEar", "(II)I"⟩, 20), (⟨"RattleAtFiftyModel", "earOf", "(III)J"⟩, 20), (⟨"RattleAtFiftyModel", "wrongBy", "(II)I"⟩, 20), (⟨"RattleAtFiftyModel", "drawn", "(I)I"⟩, 20)]
theorem lw_r3 : ∀ q ∈ lw_privs_3, lw_okq q := List.forall_mem_cons.mpr ⟨lw_p32, List.forall_mem_cons.mpr ⟨lw_p33, List.forall_mem_cons.mpr ⟨lw_p34, List.forall_mem_cons.mpr ⟨lw_p35, List.forall_mem_cons.mpr ⟨lw_p36, List.forall_mem_cons.mpr ⟨lw_p37, List.forall_mem_cons.mpr ⟨lw_p38, List.forall_mem_cons.mpr ⟨lw_p39, fun _ h => absurd h List.not_mem_nil⟩⟩⟩⟩⟩⟩⟩⟩
def lw_privs : List (MethodName × Nat) := lw_privs_1 ++ (lw_privs_2 ++ (lw_privs_3))
def lw_tbl : List Cond := k2_sels lw_privs ++ tables_1
theorem lw_privs_ok : ∀ q ∈ lw_privs, lw_okq q := by
  show ∀ q ∈ lw_privs_1 ++ (lw_privs_2 ++ (lw_privs_3)), lw_okq q
  exact List.forall_mem_append.mpr ⟨lw_r1, List.forall_mem_append.mpr ⟨lw_r2, lw_r3⟩⟩
-- ===== end of PART A; then your names; then what follows =====
end
section
def RX0 : String := "RattleAtFifty$Car"
def TX0 : u_T := fun k => match k with
  | 0 => ("RattleAtFifty$Car", "kinds", "[LRattleAtFifty$Part;", true)
  | 1 => ("RattleAtFifty$Car", "kind", "[I", true)
  | 2 => ("RattleAtFifty$Car", "figure", "[I", true)
  | 3 => ("RattleAtFifty$Car", "seat", "[I", true)
  | 4 => ("RattleAtFifty$Car", "weight", "[I", true)
  | 5 => ("RattleAtFifty$Car", "state", "[I", true)
  | 6 => ("RattleAtFifty$Car", "drivesWedged", "[I", true)
  | 7 => ("RattleAtFifty$Car", "setting", "[I", true)
  | 8 => ("RattleAtFifty$Car", "parts", "I", false)
  | _ => ("RattleAtFifty$Car", "miles", "I", false)
def tyX0 : Nat → FieldType := fun k => match k with
  | 0 => .array (.object "RattleAtFifty$Part")
  | 1 => .array .int
  | 2 => .array .int
  | 3 => .array .int
  | 4 => .array .int
  | 5 => .array .int
  | 6 => .array .int
  | 7 => .array .int
  | 8 => .int
  | _ => .int
theorem nmX0 : ∀ a, a < 10 → ∀ b, b < 10 → a ≠ b → (TX0 a).2.1 ≠ (TX0 b).2.1 := by decide +kernel
theorem tyX0_ok : ∀ k, k < 10 → parseFieldDescriptor (TX0 k).2.2.1 = some (tyX0 k) := by decide +kernel
abbrev cX0_init : ByteArray := prog_2_method_1_code
def yX0_init : MethodName := ⟨RX0, "<init>", "([LRattleAtFifty$Part;)V"⟩
abbrev cX0_becomes : ByteArray := prog_2_method_2_code
def yX0_becomes : MethodName := ⟨RX0, "becomes", "(LRattleAtFifty$Car;)V"⟩
abbrev cX0_has : ByteArray := prog_2_method_3_code
def yX0_has : MethodName := ⟨RX0, "has", "(I)Z"⟩
abbrev cX0_takeIn : ByteArray := prog_2_method_4_code
def yX0_takeIn : MethodName := ⟨RX0, "takeIn", "(IIII)I"⟩
abbrev cX0_hold : ByteArray := prog_2_method_5_code
def yX0_hold : MethodName := ⟨RX0, "hold", "(I)I"⟩
abbrev cX0_wedge : ByteArray := prog_2_method_6_code
def yX0_wedge : MethodName := ⟨RX0, "wedge", "(I)I"⟩
abbrev cX0_takeOut : ByteArray := prog_2_method_7_code
def yX0_takeOut : MethodName := ⟨RX0, "takeOut", "(I)I"⟩
abbrev cX0_screw : ByteArray := prog_2_method_8_code
def yX0_screw : MethodName := ⟨RX0, "screw", "(I)I"⟩
abbrev cX0_change : ByteArray := prog_2_method_9_code
def yX0_change : MethodName := ⟨RX0, "change", "(II)I"⟩
abbrev cX0_drive : ByteArray := prog_2_method_10_code
def yX0_drive : MethodName := ⟨RX0, "drive", "(I)I"⟩
abbrev cX0_endDrive : ByteArray := prog_2_method_11_code
def yX0_endDrive : MethodName := ⟨RX0, "endDrive", "()V"⟩
abbrev cX0_takeStates : ByteArray := prog_2_method_12_code
def yX0_takeStates : MethodName := ⟨RX0, "takeStates", "(LRattleAtFifty$Shelf;)V"⟩
abbrev cX0_kindOf : ByteArray := prog_2_method_13_code
def yX0_kindOf : MethodName := ⟨RX0, "kindOf", "(I)LRattleAtFifty$Part;"⟩
abbrev cX0_loudNow : ByteArray := prog_2_method_14_code
def yX0_loudNow : MethodName := ⟨RX0, "loudNow", "(I)I"⟩
abbrev cX0_seconds : ByteArray := prog_2_method_15_code
def yX0_seconds : MethodName := ⟨RX0, "seconds", "(I)I"⟩
abbrev cX0_loosening : ByteArray := prog_2_method_16_code
def yX0_loosening : MethodName := ⟨RX0, "loosening", "(I)I"⟩
abbrev cX0_soundThere : ByteArray := prog_2_method_17_code
def yX0_soundThere : MethodName := ⟨RX0, "soundThere", "(III)I"⟩
abbrev cX0_soundOfAllBut : ByteArray := prog_2_method_18_code
def yX0_soundOfAllBut : MethodName := ⟨RX0, "soundOfAllBut", "(III)I"⟩
abbrev cX0_heardAt : ByteArray := prog_2_method_19_code
def yX0_heardAt : MethodName := ⟨RX0, "heardAt", "(II)I"⟩
abbrev cX0_heardNow : ByteArray := prog_2_method_20_code
def yX0_heardNow : MethodName := ⟨RX0, "heardNow", "(I)I"⟩
abbrev cX0_loudestAt : ByteArray := prog_2_method_21_code
def yX0_loudestAt : MethodName := ⟨RX0, "loudestAt", "(I)I"⟩
abbrev cX0_fewestToHold : ByteArray := prog_2_method_22_code
def yX0_fewestToHold : MethodName := ⟨RX0, "fewestToHold", "()I"⟩
abbrev cX0_secondsOf : ByteArray := prog_2_method_23_code
def yX0_secondsOf : MethodName := ⟨RX0, "secondsOf", "(I)I"⟩
abbrev cX0_weightOf : ByteArray := prog_2_method_24_code
def yX0_weightOf : MethodName := ⟨RX0, "weightOf", "(I)I"⟩
abbrev cX0_allFigures : ByteArray := prog_2_method_25_code
def yX0_allFigures : MethodName := ⟨RX0, "allFigures", "()I"⟩
abbrev cX0_freeOnes : ByteArray := prog_2_method_26_code
def yX0_freeOnes : MethodName := ⟨RX0, "freeOnes", "()I"⟩
abbrev cX0_rattlingAt : ByteArray := prog_2_method_27_code
def yX0_rattlingAt : MethodName := ⟨RX0, "rattlingAt", "(I)I"⟩
abbrev cX0_doesJust : ByteArray := prog_2_method_28_code
def yX0_doesJust : MethodName := ⟨RX0, "doesJust", "(LRattleAtFifty$Shelf;I)Z"⟩
def RX1 : String := "RattleAtFifty$Dead"
def TX1 : u_T := fun k => match k with
  | _ => ("", "", "", false)
def tyX1 : Nat → FieldType := fun k => match k with
  | _ => .int
theorem nmX1 : ∀ a, a < 0 → ∀ b, b < 0 → a ≠ b → (TX1 a).2.1 ≠ (TX1 b).2.1 := by decide +kernel
theorem tyX1_ok : ∀ k, k < 0 → parseFieldDescriptor (TX1 k).2.2.1 = some (tyX1 k) := by decide +kernel
abbrev cX1_init : ByteArray := prog_3_method_1_code
def yX1_init : MethodName := ⟨RX1, "<init>", "()V"⟩
abbrev cX1_loudness : ByteArray := prog_3_method_2_code
def yX1_loudness : MethodName := ⟨RX1, "loudness", "(IIII)I"⟩
abbrev cX1_loosensBy : ByteArray := prog_3_method_3_code
def yX1_loosensBy : MethodName := ⟨RX1, "loosensBy", "()I"⟩
abbrev cX1_price : ByteArray := prog_3_method_4_code
def yX1_price : MethodName := ⟨RX1, "price", "(I)I"⟩
abbrev cX1_fail : ByteArray := prog_3_method_5_code
def yX1_fail : MethodName := ⟨RX1, "fail", "(I)V"⟩
def RX2 : String := "RattleAtFifty$Deep"
def TX2 : u_T := fun k => match k with
  | _ => ("", "", "", false)
def tyX2 : Nat → FieldType := fun k => match k with
  | _ => .int
theorem nmX2 : ∀ a, a < 0 → ∀ b, b < 0 → a ≠ b → (TX2 a).2.1 ≠ (TX2 b).2.1 := by decide +kernel
theorem tyX2_ok : ∀ k, k < 0 → parseFieldDescriptor (TX2 k).2.2.1 = some (tyX2 k) := by decide +kernel
abbrev cX2_init : ByteArray := prog_4_method_1_code
def yX2_init : MethodName := ⟨RX2, "<init>", "()V"⟩
abbrev cX2_loudness : ByteArray := prog_4_method_2_code
def yX2_loudness : MethodName := ⟨RX2, "loudness", "(IIII)I"⟩
abbrev cX2_price : ByteArray := prog_4_method_3_code
def yX2_price : MethodName := ⟨RX2, "price", "(I)I"⟩
def RX3 : String := "RattleAtFifty$Doubled"
def TX3 : u_T := fun k => match k with
  | _ => ("", "", "", false)
def tyX3 : Nat → FieldType := fun k => match k with
  | _ => .int
theorem nmX3 : ∀ a, a < 0 → ∀ b, b < 0 → a ≠ b → (TX3 a).2.1 ≠ (TX3 b).2.1 := by decide +kernel
theorem tyX3_ok : ∀ k, k < 0 → parseFieldDescriptor (TX3 k).2.2.1 = some (tyX3 k) := by decide +kernel
abbrev cX3_init : ByteArray := prog_5_method_1_code
def yX3_init : MethodName := ⟨RX3, "<init>", "()V"⟩
abbrev cX3_loudness : ByteArray := prog_5_method_2_code
def yX3_loudness : MethodName := ⟨RX3, "loudness", "(IIII)I"⟩
abbrev cX3_secondsToHold : ByteArray := prog_5_method_3_code
def yX3_secondsToHold : MethodName := ⟨RX3, "secondsToHold", "(I)I"⟩
abbrev cX3_price : ByteArray := prog_5_method_4_code
def yX3_price : MethodName := ⟨RX3, "price", "(I)I"⟩
abbrev cX3_fail : ByteArray := prog_5_method_5_code
def yX3_fail : MethodName := ⟨RX3, "fail", "(I)V"⟩
def RX4 : String := "RattleAtFifty$Frosty"
def TX4 : u_T := fun k => match k with
  | _ => ("", "", "", false)
def tyX4 : Nat → FieldType := fun k => match k with
  | _ => .int
theorem nmX4 : ∀ a, a < 0 → ∀ b, b < 0 → a ≠ b → (TX4 a).2.1 ≠ (TX4 b).2.1 := by decide +kernel
theorem tyX4_ok : ∀ k, k < 0 → parseFieldDescriptor (TX4 k).2.2.1 = some (tyX4 k) := by decide +kernel
abbrev cX4_init : ByteArray := prog_6_method_1_code
def yX4_init : MethodName := ⟨RX4, "<init>", "()V"⟩
abbrev cX4_loudness : ByteArray := prog_6_method_2_code
def yX4_loudness : MethodName := ⟨RX4, "loudness", "(IIII)I"⟩
abbrev cX4_secondsToHold : ByteArray := prog_6_method_3_code
def yX4_secondsToHold : MethodName := ⟨RX4, "secondsToHold", "(I)I"⟩
abbrev cX4_price : ByteArray := prog_6_method_4_code
def yX4_price : MethodName := ⟨RX4, "price", "(I)I"⟩
def RX5 : String := "RattleAtFifty$Heavy"
def TX5 : u_T := fun k => match k with
  | _ => ("", "", "", false)
def tyX5 : Nat → FieldType := fun k => match k with
  | _ => .int
theorem nmX5 : ∀ a, a < 0 → ∀ b, b < 0 → a ≠ b → (TX5 a).2.1 ≠ (TX5 b).2.1 := by decide +kernel
theorem tyX5_ok : ∀ k, k < 0 → parseFieldDescriptor (TX5 k).2.2.1 = some (tyX5 k) := by decide +kernel
abbrev cX5_init : ByteArray := prog_7_method_1_code
def yX5_init : MethodName := ⟨RX5, "<init>", "()V"⟩
abbrev cX5_loudness : ByteArray := prog_7_method_2_code
def yX5_loudness : MethodName := ⟨RX5, "loudness", "(IIII)I"⟩
abbrev cX5_secondsToHold : ByteArray := prog_7_method_3_code
def yX5_secondsToHold : MethodName := ⟨RX5, "secondsToHold", "(I)I"⟩
abbrev cX5_price : ByteArray := prog_7_method_4_code
def yX5_price : MethodName := ⟨RX5, "price", "(I)I"⟩
def RX6 : String := "RattleAtFifty$Loose"
def TX6 : u_T := fun k => match k with
  | _ => ("", "", "", false)
def tyX6 : Nat → FieldType := fun k => match k with
  | _ => .int
theorem nmX6 : ∀ a, a < 0 → ∀ b, b < 0 → a ≠ b → (TX6 a).2.1 ≠ (TX6 b).2.1 := by decide +kernel
theorem tyX6_ok : ∀ k, k < 0 → parseFieldDescriptor (TX6 k).2.2.1 = some (tyX6 k) := by decide +kernel
abbrev cX6_init : ByteArray := prog_8_method_1_code
def yX6_init : MethodName := ⟨RX6, "<init>", "()V"⟩
abbrev cX6_loudness : ByteArray := prog_8_method_2_code
def yX6_loudness : MethodName := ⟨RX6, "loudness", "(IIII)I"⟩
abbrev cX6_secondsToHold : ByteArray := prog_8_method_3_code
def yX6_secondsToHold : MethodName := ⟨RX6, "secondsToHold", "(I)I"⟩
abbrev cX6_loosensBy : ByteArray := prog_8_method_4_code
def yX6_loosensBy : MethodName := ⟨RX6, "loosensBy", "()I"⟩
abbrev cX6_price : ByteArray := prog_8_method_5_code
def yX6_price : MethodName := ⟨RX6, "price", "(I)I"⟩
def RX7 : String := "RattleAtFifty$Part"
def TX7 : u_T := fun k => match k with
  | _ => ("", "", "", false)
def tyX7 : Nat → FieldType := fun k => match k with
  | _ => .int
theorem nmX7 : ∀ a, a < 0 → ∀ b, b < 0 → a ≠ b → (TX7 a).2.1 ≠ (TX7 b).2.1 := by decide +kernel
theorem tyX7_ok : ∀ k, k < 0 → parseFieldDescriptor (TX7 k).2.2.1 = some (tyX7 k) := by decide +kernel
abbrev cX7_init : ByteArray := prog_9_method_1_code
def yX7_init : MethodName := ⟨RX7, "<init>", "()V"⟩
abbrev cX7_loudness : ByteArray := prog_9_method_2_code
def yX7_loudness : MethodName := ⟨RX7, "loudness", "(IIII)I"⟩
abbrev cX7_secondsToHold : ByteArray := prog_9_method_3_code
def yX7_secondsToHold : MethodName := ⟨RX7, "secondsToHold", "(I)I"⟩
abbrev cX7_loosensBy : ByteArray := prog_9_method_4_code
def yX7_loosensBy : MethodName := ⟨RX7, "loosensBy", "()I"⟩
abbrev cX7_price : ByteArray := prog_9_method_5_code
def yX7_price : MethodName := ⟨RX7, "price", "(I)I"⟩
abbrev cX7_fail : ByteArray := prog_9_method_6_code
def yX7_fail : MethodName := ⟨RX7, "fail", "(I)V"⟩
def RX8 : String := "RattleAtFifty$Road"
def TX8 : u_T := fun k => match k with
  | _ => ("", "", "", false)
def tyX8 : Nat → FieldType := fun k => match k with
  | _ => .int
theorem nmX8 : ∀ a, a < 0 → ∀ b, b < 0 → a ≠ b → (TX8 a).2.1 ≠ (TX8 b).2.1 := by decide +kernel
theorem tyX8_ok : ∀ k, k < 0 → parseFieldDescriptor (TX8 k).2.2.1 = some (tyX8 k) := by decide +kernel
abbrev cX8_digitsBehind : ByteArray := prog_10_method_2_code
def yX8_digitsBehind : MethodName := ⟨RX8, "digitsBehind", "(I)I"⟩
abbrev cX8_placeOfFormFault : ByteArray := prog_10_method_3_code
def yX8_placeOfFormFault : MethodName := ⟨RX8, "placeOfFormFault", "(LRattleAtFifty$Shelf;)I"⟩
abbrev cX8_follow : ByteArray := prog_10_method_4_code
def yX8_follow : MethodName := ⟨RX8, "follow", "(LRattleAtFifty$Shelf;LRattleAtFifty$Car;)I"⟩
abbrev cX8_can : ByteArray := prog_10_method_5_code
def yX8_can : MethodName := ⟨RX8, "can", "(LRattleAtFifty$Shelf;ILRattleAtFifty$Car;)Z"⟩
def RX9 : String := "RattleAtFifty$Shelf"
def TX9 : u_T := fun k => match k with
  | 0 => ("RattleAtFifty$Shelf", "content", "I", false)
  | 1 => ("RattleAtFifty$Shelf", "kind", "I", false)
  | 2 => ("RattleAtFifty$Shelf", "figure", "I", false)
  | 3 => ("RattleAtFifty$Shelf", "sort", "I", false)
  | 4 => ("RattleAtFifty$Shelf", "size", "I", false)
  | _ => ("RattleAtFifty$Shelf", "elements", "[I", true)
def tyX9 : Nat → FieldType := fun k => match k with
  | 0 => .int
  | 1 => .int
  | 2 => .int
  | 3 => .int
  | 4 => .int
  | _ => .array .int
theorem nmX9 : ∀ a, a < 6 → ∀ b, b < 6 → a ≠ b → (TX9 a).2.1 ≠ (TX9 b).2.1 := by decide +kernel
theorem tyX9_ok : ∀ k, k < 6 → parseFieldDescriptor (TX9 k).2.2.1 = some (tyX9 k) := by decide +kernel
abbrev cX9_init : ByteArray := prog_11_method_1_code
def yX9_init : MethodName := ⟨RX9, "<init>", "()V"⟩
abbrev cX9_clear : ByteArray := prog_11_method_2_code
def yX9_clear : MethodName := ⟨RX9, "clear", "()V"⟩
abbrev cX9_takeKind : ByteArray := prog_11_method_3_code
def yX9_takeKind : MethodName := ⟨RX9, "takeKind", "(II)V"⟩
abbrev cX9_takeRow : ByteArray := prog_11_method_4_code
def yX9_takeRow : MethodName := ⟨RX9, "takeRow", "(II)V"⟩
abbrev cX9_isEmpty : ByteArray := prog_11_method_5_code
def yX9_isEmpty : MethodName := ⟨RX9, "isEmpty", "()Z"⟩
abbrev cX9_refusalAsKind : ByteArray := prog_11_method_6_code
def yX9_refusalAsKind : MethodName := ⟨RX9, "refusalAsKind", "()I"⟩
abbrev cX9_refusalAsRow : ByteArray := prog_11_method_7_code
def yX9_refusalAsRow : MethodName := ⟨RX9, "refusalAsRow", "()I"⟩
abbrev cX9_hasPlace : ByteArray := prog_11_method_8_code
def yX9_hasPlace : MethodName := ⟨RX9, "hasPlace", "(I)Z"⟩
abbrev cX9_hasStretch : ByteArray := prog_11_method_9_code
def yX9_hasStretch : MethodName := ⟨RX9, "hasStretch", "(II)Z"⟩
abbrev cX9_store : ByteArray := prog_11_method_10_code
def yX9_store : MethodName := ⟨RX9, "store", "(II)V"⟩
abbrev cX9_skips : ByteArray := prog_11_method_11_code
def yX9_skips : MethodName := ⟨RX9, "skips", "(I)Z"⟩
abbrev cX9_isOfPairs : ByteArray := prog_11_method_12_code
def yX9_isOfPairs : MethodName := ⟨RX9, "isOfPairs", "()Z"⟩
abbrev cX9_hasDigit : ByteArray := prog_11_method_13_code
def yX9_hasDigit : MethodName := ⟨RX9, "hasDigit", "(I)Z"⟩
abbrev cX9_number : ByteArray := prog_11_method_14_code
def yX9_number : MethodName := ⟨RX9, "number", "(II)I"⟩
def RX10 : String := "RattleAtFifty$Tinny"
def TX10 : u_T := fun k => match k with
  | _ => ("", "", "", false)
def tyX10 : Nat → FieldType := fun k => match k with
  | _ => .int
theorem nmX10 : ∀ a, a < 0 → ∀ b, b < 0 → a ≠ b → (TX10 a).2.1 ≠ (TX10 b).2.1 := by decide +kernel
theorem tyX10_ok : ∀ k, k < 0 → parseFieldDescriptor (TX10 k).2.2.1 = some (tyX10 k) := by decide +kernel
abbrev cX10_init : ByteArray := prog_12_method_1_code
def yX10_init : MethodName := ⟨RX10, "<init>", "()V"⟩
abbrev cX10_loudness : ByteArray := prog_12_method_2_code
def yX10_loudness : MethodName := ⟨RX10, "loudness", "(IIII)I"⟩
abbrev cX10_secondsToHold : ByteArray := prog_12_method_3_code
def yX10_secondsToHold : MethodName := ⟨RX10, "secondsToHold", "(I)I"⟩
abbrev cX10_price : ByteArray := prog_12_method_4_code
def yX10_price : MethodName := ⟨RX10, "price", "(I)I"⟩
abbrev cX10_fail : ByteArray := prog_12_method_5_code
def yX10_fail : MethodName := ⟨RX10, "fail", "(I)V"⟩
def RX11 : String := "RattleAtFifty"
def TX11 : u_T := fun k => match k with
  | 0 => ("RattleAtFifty", "car", "LRattleAtFifty$Car;", true)
  | 1 => ("RattleAtFifty", "trial", "LRattleAtFifty$Car;", true)
  | 2 => ("RattleAtFifty", "imaged", "LRattleAtFifty$Car;", true)
  | 3 => ("RattleAtFifty", "hasImage", "Z", false)
  | 4 => ("RattleAtFifty", "kinds", "[LRattleAtFifty$Part;", true)
  | 5 => ("RattleAtFifty", "shelves", "[LRattleAtFifty$Shelf;", true)
  | 6 => ("RattleAtFifty", "pool", "[I", true)
  | _ => ("RattleAtFifty", "digits", "[I", true)
def tyX11 : Nat → FieldType := fun k => match k with
  | 0 => .object "RattleAtFifty$Car"
  | 1 => .object "RattleAtFifty$Car"
  | 2 => .object "RattleAtFifty$Car"
  | 3 => .boolean
  | 4 => .array (.object "RattleAtFifty$Part")
  | 5 => .array (.object "RattleAtFifty$Shelf")
  | 6 => .array .int
  | _ => .array .int
theorem nmX11 : ∀ a, a < 8 → ∀ b, b < 8 → a ≠ b → (TX11 a).2.1 ≠ (TX11 b).2.1 := by decide +kernel
theorem tyX11_ok : ∀ k, k < 8 → parseFieldDescriptor (TX11 k).2.2.1 = some (tyX11 k) := by decide +kernel
abbrev cX11_init : ByteArray := prog_1_method_1_code
def yX11_init : MethodName := ⟨RX11, "<init>", "()V"⟩
abbrev cX11_road : ByteArray := prog_1_method_2_code
def yX11_road : MethodName := ⟨RX11, "road", "(I)I"⟩
abbrev cX11_part : ByteArray := prog_1_method_3_code
def yX11_part : MethodName := ⟨RX11, "part", "(II)I"⟩
abbrev cX11_adds : ByteArray := prog_1_method_4_code
def yX11_adds : MethodName := ⟨RX11, "adds", "(III)I"⟩
abbrev cX11_holds : ByteArray := prog_1_method_5_code
def yX11_holds : MethodName := ⟨RX11, "holds", "(I)I"⟩
abbrev cX11_wedges : ByteArray := prog_1_method_6_code
def yX11_wedges : MethodName := ⟨RX11, "wedges", "(I)I"⟩
abbrev cX11_outs : ByteArray := prog_1_method_7_code
def yX11_outs : MethodName := ⟨RX11, "outs", "(I)I"⟩
abbrev cX11_screws : ByteArray := prog_1_method_8_code
def yX11_screws : MethodName := ⟨RX11, "screws", "(I)I"⟩
abbrev cX11_set : ByteArray := prog_1_method_9_code
def yX11_set : MethodName := ⟨RX11, "set", "(II)I"⟩
abbrev cX11_drives : ByteArray := prog_1_method_10_code
def yX11_drives : MethodName := ⟨RX11, "drives", "(I)I"⟩
abbrev cX11_heard : ByteArray := prog_1_method_11_code
def yX11_heard : MethodName := ⟨RX11, "heard", "(II)I"⟩
abbrev cX11_loudest : ByteArray := prog_1_method_12_code
def yX11_loudest : MethodName := ⟨RX11, "loudest", "(I)I"⟩
abbrev cX11_paces : ByteArray := prog_1_method_13_code
def yX11_paces : MethodName := ⟨RX11, "paces", "(II)I"⟩
abbrev cX11_silentFrom : ByteArray := prog_1_method_14_code
def yX11_silentFrom : MethodName := ⟨RX11, "silentFrom", "(II)I"⟩
abbrev cX11_holdAll : ByteArray := prog_1_method_15_code
def yX11_holdAll : MethodName := ⟨RX11, "holdAll", "(I)I"⟩
abbrev cX11_radio : ByteArray := prog_1_method_16_code
def yX11_radio : MethodName := ⟨RX11, "radio", "(I)I"⟩
abbrev cX11_wanted : ByteArray := prog_1_method_17_code
def yX11_wanted : MethodName := ⟨RX11, "wanted", "(I)I"⟩
abbrev cX11_bestSeat : ByteArray := prog_1_method_18_code
def yX11_bestSeat : MethodName := ⟨RX11, "bestSeat", "()I"⟩
abbrev cX11_which : ByteArray := prog_1_method_19_code
def yX11_which : MethodName := ⟨RX11, "which", "(II)I"⟩
abbrev cX11_two : ByteArray := prog_1_method_20_code
def yX11_two : MethodName := ⟨RX11, "two", "(II)I"⟩
abbrev cX11_tryNext : ByteArray := prog_1_method_21_code
def yX11_tryNext : MethodName := ⟨RX11, "tryNext", "(I)I"⟩
abbrev cX11_halves : ByteArray := prog_1_method_22_code
def yX11_halves : MethodName := ⟨RX11, "halves", "(II)J"⟩
abbrev cX11_oneByOne : ByteArray := prog_1_method_23_code
def yX11_oneByOne : MethodName := ⟨RX11, "oneByOne", "(II)J"⟩
abbrev cX11_worse : ByteArray := prog_1_method_24_code
def yX11_worse : MethodName := ⟨RX11, "worse", "(I)I"⟩
abbrev cX11_gone : ByteArray := prog_1_method_25_code
def yX11_gone : MethodName := ⟨RX11, "gone", "(II)I"⟩
abbrev cX11_ear : ByteArray := prog_1_method_26_code
def yX11_ear : MethodName := ⟨RX11, "ear", "(IIII)J"⟩
abbrev cX11_likeliest : ByteArray := prog_1_method_27_code
def yX11_likeliest : MethodName := ⟨RX11, "likeliest", "(II)I"⟩
abbrev cX11_suspectsBy : ByteArray := prog_1_method_28_code
def yX11_suspectsBy : MethodName := ⟨RX11, "suspectsBy", "(LRattleAtFifty$Shelf;)I"⟩
abbrev cX11_pairsRefusal : ByteArray := prog_1_method_29_code
def yX11_pairsRefusal : MethodName := ⟨RX11, "pairsRefusal", "(I)I"⟩
abbrev cX11_toldSeatsRefusal : ByteArray := prog_1_method_30_code
def yX11_toldSeatsRefusal : MethodName := ⟨RX11, "toldSeatsRefusal", "(I)I"⟩
abbrev cX11_likelihood : ByteArray := prog_1_method_31_code
def yX11_likelihood : MethodName := ⟨RX11, "likelihood", "(LRattleAtFifty$Shelf;II)J"⟩
abbrev cX11_drivesByHalves : ByteArray := prog_1_method_32_code
def yX11_drivesByHalves : MethodName := ⟨RX11, "drivesByHalves", "(I)I"⟩
abbrev cX11_drivesOneByOne : ByteArray := prog_1_method_33_code
def yX11_drivesOneByOne : MethodName := ⟨RX11, "drivesOneByOne", "(I)I"⟩
abbrev cX11_fillPool : ByteArray := prog_1_method_34_code
def yX11_fillPool : MethodName := ⟨RX11, "fillPool", "(I)I"⟩
abbrev cX11_moveLeastToEnd : ByteArray := prog_1_method_35_code
def yX11_moveLeastToEnd : MethodName := ⟨RX11, "moveLeastToEnd", "(I)V"⟩
abbrev cX11_moveGreatestToEnd : ByteArray := prog_1_method_36_code
def yX11_moveGreatestToEnd : MethodName := ⟨RX11, "moveGreatestToEnd", "(I)V"⟩
abbrev cX11_swapInPool : ByteArray := prog_1_method_37_code
def yX11_swapInPool : MethodName := ⟨RX11, "swapInPool", "(I)V"⟩
abbrev cX11_startDigits : ByteArray := prog_1_method_38_code
def yX11_startDigits : MethodName := ⟨RX11, "startDigits", "(I)V"⟩
abbrev cX11_multiplyDigits : ByteArray := prog_1_method_39_code
def yX11_multiplyDigits : MethodName := ⟨RX11, "multiplyDigits", "(I)V"⟩
abbrev cX11_digitsAtMostPowerOfTen : ByteArray := prog_1_method_40_code
def yX11_digitsAtMostPowerOfTen : MethodName := ⟨RX11, "digitsAtMostPowerOfTen", "(I)Z"⟩
abbrev cX11_inLeastTerms : ByteArray := prog_1_method_41_code
def yX11_inLeastTerms : MethodName := ⟨RX11, "inLeastTerms", "(JJI)J"⟩
abbrev cX11_greatestCommonDivisor : ByteArray := prog_1_method_42_code
def yX11_greatestCommonDivisor : MethodName := ⟨RX11, "greatestCommonDivisor", "(JJ)J"⟩
abbrev cX11_mends : ByteArray := prog_1_method_43_code
def yX11_mends : MethodName := ⟨RX11, "mends", "(I)I"⟩
abbrev cX11_mechanic : ByteArray := prog_1_method_44_code
def yX11_mechanic : MethodName := ⟨RX11, "mechanic", "(IIII)I"⟩
abbrev cX11_worth : ByteArray := prog_1_method_45_code
def yX11_worth : MethodName := ⟨RX11, "worth", "(I)I"⟩
abbrev cX11_quiet : ByteArray := prog_1_method_46_code
def yX11_quiet : MethodName := ⟨RX11, "quiet", "(II)I"⟩
abbrev cX11_statesRefusal : ByteArray := prog_1_method_47_code
def yX11_statesRefusal : MethodName := ⟨RX11, "statesRefusal", "(I)I"⟩
abbrev cX11_forged : ByteArray := prog_1_method_48_code
def yX11_forged : MethodName := ⟨RX11, "forged", "(I)I"⟩
abbrev cX11_judge : ByteArray := prog_1_method_49_code
def yX11_judge : MethodName := ⟨RX11, "judge", "(I)I"⟩
abbrev cX11_winters : ByteArray := prog_1_method_50_code
def yX11_winters : MethodName := ⟨RX11, "winters", "(III)I"⟩
abbrev cX11_nextSeed : ByteArray := prog_1_method_51_code
def yX11_nextSeed : MethodName := ⟨RX11, "nextSeed", "(I)I"⟩
abbrev cX11_drawn : ByteArray := prog_1_method_52_code
def yX11_drawn : MethodName := ⟨RX11, "drawn", "(I)I"⟩
abbrev cX11_image : ByteArray := prog_1_method_53_code
def yX11_image : MethodName := ⟨RX11, "image", "()I"⟩
abbrev cX11_restore : ByteArray := prog_1_method_54_code
def yX11_restore : MethodName := ⟨RX11, "restore", "()I"⟩
abbrev cX11_count : ByteArray := prog_1_method_55_code
def yX11_count : MethodName := ⟨RX11, "count", "(I)I"⟩
abbrev cX11_keep : ByteArray := prog_1_method_56_code
def yX11_keep : MethodName := ⟨RX11, "keep", "(IIII)I"⟩
abbrev cX11_row : ByteArray := prog_1_method_57_code
def yX11_row : MethodName := ⟨RX11, "row", "(III)I"⟩
abbrev cX11_put : ByteArray := prog_1_method_58_code
def yX11_put : MethodName := ⟨RX11, "put", "(III)I"⟩
abbrev cX11_element : ByteArray := prog_1_method_59_code
def yX11_element : MethodName := ⟨RX11, "element", "(II)J"⟩
abbrev cX11_copy : ByteArray := prog_1_method_60_code
def yX11_copy : MethodName := ⟨RX11, "copy", "(IIIII)I"⟩
abbrev cX11_cost : ByteArray := prog_1_method_61_code
def yX11_cost : MethodName := ⟨RX11, "cost", "(I)I"⟩
abbrev cX11_toss : ByteArray := prog_1_method_62_code
def yX11_toss : MethodName := ⟨RX11, "toss", "(I)I"⟩
abbrev cX11_rowRefusal : ByteArray := prog_1_method_63_code
def yX11_rowRefusal : MethodName := ⟨RX11, "rowRefusal", "(I)I"⟩
abbrev cX11_kindRefusal : ByteArray := prog_1_method_64_code
def yX11_kindRefusal : MethodName := ⟨RX11, "kindRefusal", "(I)I"⟩
abbrev cX11_within : ByteArray := prog_1_method_65_code
def yX11_within : MethodName := ⟨RX11, "within", "(III)Z"⟩
abbrev cX11_isEither : ByteArray := prog_1_method_66_code
def yX11_isEither : MethodName := ⟨RX11, "isEither", "(I)Z"⟩
abbrev cX11_isShelf : ByteArray := prog_1_method_67_code
def yX11_isShelf : MethodName := ⟨RX11, "isShelf", "(I)Z"⟩
abbrev cX11_isSeat : ByteArray := prog_1_method_68_code
def yX11_isSeat : MethodName := ⟨RX11, "isSeat", "(I)Z"⟩
abbrev cX11_isPace : ByteArray := prog_1_method_69_code
def yX11_isPace : MethodName := ⟨RX11, "isPace", "(I)Z"⟩
abbrev cX11_isSetOfParts : ByteArray := prog_1_method_70_code
def yX11_isSetOfParts : MethodName := ⟨RX11, "isSetOfParts", "(I)Z"⟩
abbrev cX11_ofLongs : ByteArray := prog_1_method_71_code
def yX11_ofLongs : MethodName := ⟨RX11, "ofLongs", "(I)J"⟩
def RX12 : String := "RattleAtFiftyModel"
def TX12 : u_T := fun k => match k with
  | 0 => ("RattleAtFiftyModel", "s", "[I", true)
  | 1 => ("RattleAtFiftyModel", "m", "[I", true)
  | 2 => ("RattleAtFiftyModel", "image", "[I", true)
  | 3 => ("RattleAtFiftyModel", "was", "[I", true)
  | 4 => ("RattleAtFiftyModel", "hasImage", "Z", false)
  | 5 => ("RattleAtFiftyModel", "place", "I", false)
  | 6 => ("RattleAtFiftyModel", "rowAt", "I", false)
  | 7 => ("RattleAtFiftyModel", "rowEnd", "I", false)
  | 8 => ("RattleAtFiftyModel", "numbers", "[I", true)
  | 9 => ("RattleAtFiftyModel", "halved", "[I", true)
  | 10 => ("RattleAtFiftyModel", "figures", "[I", true)
  | 11 => ("RattleAtFiftyModel", "figuresMany", "I", false)
  | 12 => ("RattleAtFiftyModel", "seed", "I", false)
  | 13 => ("RattleAtFiftyModel", "kept", "[I", true)
  | 14 => ("RattleAtFiftyModel", "keptKind", "[I", true)
  | 15 => ("RattleAtFiftyModel", "keptFigure", "[I", true)
  | 16 => ("RattleAtFiftyModel", "sort", "[I", true)
  | 17 => ("RattleAtFiftyModel", "size", "[I", true)
  | 18 => ("RattleAtFiftyModel", "element", "[I", true)
  | _ => ("RattleAtFiftyModel", "thrown", "I", false)
def tyX12 : Nat → FieldType := fun k => match k with
  | 0 => .array .int
  | 1 => .array .int
  | 2 => .array .int
  | 3 => .array .int
  | 4 => .boolean
  | 5 => .int
  | 6 => .int
  | 7 => .int
  | 8 => .array .int
  | 9 => .array .int
  | 10 => .array .int
  | 11 => .int
  | 12 => .int
  | 13 => .array .int
  | 14 => .array .int
  | 15 => .array .int
  | 16 => .array .int
  | 17 => .array .int
  | 18 => .array .int
  | _ => .int
theorem nmX12 : ∀ a, a < 20 → ∀ b, b < 20 → a ≠ b → (TX12 a).2.1 ≠ (TX12 b).2.1 := by decide +kernel
theorem tyX12_ok : ∀ k, k < 20 → parseFieldDescriptor (TX12 k).2.2.1 = some (tyX12 k) := by decide +kernel
abbrev cX12_init : ByteArray := prog_14_method_1_code
def yX12_init : MethodName := ⟨RX12, "<init>", "()V"⟩
abbrev cX12_isIn : ByteArray := prog_14_method_2_code
def yX12_isIn : MethodName := ⟨RX12, "isIn", "(III)Z"⟩
abbrev cX12_size : ByteArray := prog_14_method_3_code
def yX12_size : MethodName := ⟨RX12, "size", "(I)I"⟩
abbrev cX12_most : ByteArray := prog_14_method_4_code
def yX12_most : MethodName := ⟨RX12, "most", "(II)I"⟩
abbrev cX12_lays : ByteArray := prog_14_method_5_code
def yX12_lays : MethodName := ⟨RX12, "lays", "([I[I)V"⟩
abbrev cX12_at : ByteArray := prog_14_method_6_code
def yX12_at : MethodName := ⟨RX12, "at", "(II)I"⟩
abbrev cX12_isPart : ByteArray := prog_14_method_7_code
def yX12_isPart : MethodName := ⟨RX12, "isPart", "(I)Z"⟩
abbrev cX12_isSeat : ByteArray := prog_14_method_8_code
def yX12_isSeat : MethodName := ⟨RX12, "isSeat", "(I)Z"⟩
abbrev cX12_loudOf : ByteArray := prog_14_method_9_code
def yX12_loudOf : MethodName := ⟨RX12, "loudOf", "([III)I"⟩
abbrev cX12_secondsOf : ByteArray := prog_14_method_10_code
def yX12_secondsOf : MethodName := ⟨RX12, "secondsOf", "([II)I"⟩
abbrev cX12_loosensOf : ByteArray := prog_14_method_11_code
def yX12_loosensOf : MethodName := ⟨RX12, "loosensOf", "([II)I"⟩
abbrev cX12_partAt : ByteArray := prog_14_method_12_code
def yX12_partAt : MethodName := ⟨RX12, "partAt", "([IIII)I"⟩
abbrev cX12_soundAt : ByteArray := prog_14_method_13_code
def yX12_soundAt : MethodName := ⟨RX12, "soundAt", "([III)I"⟩
abbrev cX12_heardAt : ByteArray := prog_14_method_14_code
def yX12_heardAt : MethodName := ⟨RX12, "heardAt", "([III)I"⟩
abbrev cX12_heardNow : ByteArray := prog_14_method_15_code
def yX12_heardNow : MethodName := ⟨RX12, "heardNow", "([I)I"⟩
abbrev cX12_loudestAt : ByteArray := prog_14_method_16_code
def yX12_loudestAt : MethodName := ⟨RX12, "loudestAt", "([II)I"⟩
abbrev cX12_drive : ByteArray := prog_14_method_17_code
def yX12_drive : MethodName := ⟨RX12, "drive", "([I)I"⟩
abbrev cX12_screw : ByteArray := prog_14_method_18_code
def yX12_screw : MethodName := ⟨RX12, "screw", "([II)I"⟩
abbrev cX12_puts : ByteArray := prog_14_method_19_code
def yX12_puts : MethodName := ⟨RX12, "puts", "([III)V"⟩
abbrev cX12_here : ByteArray := prog_14_method_20_code
def yX12_here : MethodName := ⟨RX12, "here", "()I"⟩
abbrev cX12_readsNumber : ByteArray := prog_14_method_21_code
def yX12_readsNumber : MethodName := ⟨RX12, "readsNumber", "(II)Z"⟩
abbrev cX12_readsStatement : ByteArray := prog_14_method_22_code
def yX12_readsStatement : MethodName := ⟨RX12, "readsStatement", "()Z"⟩
abbrev cX12_isThere : ByteArray := prog_14_method_23_code
def yX12_isThere : MethodName := ⟨RX12, "isThere", "(I)Z"⟩
abbrev cX12_addsPart : ByteArray := prog_14_method_24_code
def yX12_addsPart : MethodName := ⟨RX12, "addsPart", "(IIII)V"⟩
abbrev cX12_isDone : ByteArray := prog_14_method_25_code
def yX12_isDone : MethodName := ⟨RX12, "isDone", "(I)Z"⟩
abbrev cX12_road : ByteArray := prog_14_method_26_code
def yX12_road : MethodName := ⟨RX12, "road", "(I)I"⟩
abbrev cX12_part : ByteArray := prog_14_method_27_code
def yX12_part : MethodName := ⟨RX12, "part", "(II)I"⟩
abbrev cX12_adds : ByteArray := prog_14_method_28_code
def yX12_adds : MethodName := ⟨RX12, "adds", "(III)I"⟩
abbrev cX12_holds : ByteArray := prog_14_method_29_code
def yX12_holds : MethodName := ⟨RX12, "holds", "(I)I"⟩
abbrev cX12_wedges : ByteArray := prog_14_method_30_code
def yX12_wedges : MethodName := ⟨RX12, "wedges", "(I)I"⟩
abbrev cX12_outs : ByteArray := prog_14_method_31_code
def yX12_outs : MethodName := ⟨RX12, "outs", "(I)I"⟩
abbrev cX12_screws : ByteArray := prog_14_method_32_code
def yX12_screws : MethodName := ⟨RX12, "screws", "(I)I"⟩
abbrev cX12_set : ByteArray := prog_14_method_33_code
def yX12_set : MethodName := ⟨RX12, "set", "(II)I"⟩
abbrev cX12_drives : ByteArray := prog_14_method_34_code
def yX12_drives : MethodName := ⟨RX12, "drives", "(I)I"⟩
abbrev cX12_heard : ByteArray := prog_14_method_35_code
def yX12_heard : MethodName := ⟨RX12, "heard", "(II)I"⟩
abbrev cX12_loudest : ByteArray := prog_14_method_36_code
def yX12_loudest : MethodName := ⟨RX12, "loudest", "(I)I"⟩
abbrev cX12_paces : ByteArray := prog_14_method_37_code
def yX12_paces : MethodName := ⟨RX12, "paces", "(II)I"⟩
abbrev cX12_silentFrom : ByteArray := prog_14_method_38_code
def yX12_silentFrom : MethodName := ⟨RX12, "silentFrom", "(II)I"⟩
abbrev cX12_bits : ByteArray := prog_14_method_39_code
def yX12_bits : MethodName := ⟨RX12, "bits", "(I)I"⟩
abbrev cX12_holdAll : ByteArray := prog_14_method_40_code
def yX12_holdAll : MethodName := ⟨RX12, "holdAll", "(I)I"⟩
abbrev cX12_radio : ByteArray := prog_14_method_41_code
def yX12_radio : MethodName := ⟨RX12, "radio", "(I)I"⟩
abbrev cX12_wanted : ByteArray := prog_14_method_42_code
def yX12_wanted : MethodName := ⟨RX12, "wanted", "(I)I"⟩
abbrev cX12_bestSeat : ByteArray := prog_14_method_43_code
def yX12_bestSeat : MethodName := ⟨RX12, "bestSeat", "()I"⟩
abbrev cX12_wrongPairs : ByteArray := prog_14_method_44_code
def yX12_wrongPairs : MethodName := ⟨RX12, "wrongPairs", "(I)I"⟩
abbrev cX12_isTold : ByteArray := prog_14_method_45_code
def yX12_isTold : MethodName := ⟨RX12, "isTold", "(II)Z"⟩
abbrev cX12_whichOf : ByteArray := prog_14_method_46_code
def yX12_whichOf : MethodName := ⟨RX12, "whichOf", "(I)I"⟩
abbrev cX12_which : ByteArray := prog_14_method_47_code
def yX12_which : MethodName := ⟨RX12, "which", "(II)I"⟩
abbrev cX12_two : ByteArray := prog_14_method_48_code
def yX12_two : MethodName := ⟨RX12, "two", "(II)I"⟩
abbrev cX12_tryNext : ByteArray := prog_14_method_49_code
def yX12_tryNext : MethodName := ⟨RX12, "tryNext", "(I)I"⟩
abbrev cX12_weightOf : ByteArray := prog_14_method_50_code
def yX12_weightOf : MethodName := ⟨RX12, "weightOf", "(I)I"⟩
abbrev cX12_halvesOf : ByteArray := prog_14_method_51_code
def yX12_halvesOf : MethodName := ⟨RX12, "halvesOf", "(I)I"⟩
abbrev cX12_oneByOneOf : ByteArray := prog_14_method_52_code
def yX12_oneByOneOf : MethodName := ⟨RX12, "oneByOneOf", "(I)I"⟩
abbrev cX12_isSet : ByteArray := prog_14_method_53_code
def yX12_isSet : MethodName := ⟨RX12, "isSet", "(I)Z"⟩
abbrev cX12_gcd : ByteArray := prog_14_method_54_code
def yX12_gcd : MethodName := ⟨RX12, "gcd", "(JJ)J"⟩
abbrev cX12_partOf : ByteArray := prog_14_method_55_code
def yX12_partOf : MethodName := ⟨RX12, "partOf", "(JJI)J"⟩
abbrev cX12_halves : ByteArray := prog_14_method_56_code
def yX12_halves : MethodName := ⟨RX12, "halves", "(II)J"⟩
abbrev cX12_oneByOne : ByteArray := prog_14_method_57_code
def yX12_oneByOne : MethodName := ⟨RX12, "oneByOne", "(II)J"⟩
abbrev cX12_worse : ByteArray := prog_14_method_58_code
def yX12_worse : MethodName := ⟨RX12, "worse", "(I)I"⟩
abbrev cX12_timesFigures : ByteArray := prog_14_method_59_code
def yX12_timesFigures : MethodName := ⟨RX12, "timesFigures", "(I)V"⟩
abbrev cX12_isWithinTen : ByteArray := prog_14_method_60_code
def yX12_isWithinTen : MethodName := ⟨RX12, "isWithinTen", "(I)Z"⟩
abbrev cX12_gone : ByteArray := prog_14_method_61_code
def yX12_gone : MethodName := ⟨RX12, "gone", "(II)I"⟩
abbrev cX12_wrongEar : ByteArray := prog_14_method_62_code
def yX12_wrongEar : MethodName := ⟨RX12, "wrongEar", "(II)I"⟩
abbrev cX12_earOf : ByteArray := prog_14_method_63_code
def yX12_earOf : MethodName := ⟨RX12, "earOf", "(III)J"⟩
abbrev cX12_ear : ByteArray := prog_14_method_64_code
def yX12_ear : MethodName := ⟨RX12, "ear", "(IIII)J"⟩
abbrev cX12_likeliest : ByteArray := prog_14_method_65_code
def yX12_likeliest : MethodName := ⟨RX12, "likeliest", "(II)I"⟩
abbrev cX12_mends : ByteArray := prog_14_method_66_code
def yX12_mends : MethodName := ⟨RX12, "mends", "(I)I"⟩
abbrev cX12_figuresOf : ByteArray := prog_14_method_67_code
def yX12_figuresOf : MethodName := ⟨RX12, "figuresOf", "([I)I"⟩
abbrev cX12_mechanic : ByteArray := prog_14_method_68_code
def yX12_mechanic : MethodName := ⟨RX12, "mechanic", "(IIII)I"⟩
abbrev cX12_worth : ByteArray := prog_14_method_69_code
def yX12_worth : MethodName := ⟨RX12, "worth", "(I)I"⟩
abbrev cX12_leastOf : ByteArray := prog_14_method_70_code
def yX12_leastOf : MethodName := ⟨RX12, "leastOf", "(I)I"⟩
abbrev cX12_quiet : ByteArray := prog_14_method_71_code
def yX12_quiet : MethodName := ⟨RX12, "quiet", "(II)I"⟩
abbrev cX12_wrongBy : ByteArray := prog_14_method_72_code
def yX12_wrongBy : MethodName := ⟨RX12, "wrongBy", "(II)I"⟩
abbrev cX12_forged : ByteArray := prog_14_method_73_code
def yX12_forged : MethodName := ⟨RX12, "forged", "(I)I"⟩
abbrev cX12_judge : ByteArray := prog_14_method_74_code
def yX12_judge : MethodName := ⟨RX12, "judge", "(I)I"⟩
abbrev cX12_drawn : ByteArray := prog_14_method_75_code
def yX12_drawn : MethodName := ⟨RX12, "drawn", "(I)I"⟩
abbrev cX12_winters : ByteArray := prog_14_method_76_code
def yX12_winters : MethodName := ⟨RX12, "winters", "(III)I"⟩
abbrev cX12_image : ByteArray := prog_14_method_77_code
def yX12_image : MethodName := ⟨RX12, "image", "()I"⟩
abbrev cX12_restore : ByteArray := prog_14_method_78_code
def yX12_restore : MethodName := ⟨RX12, "restore", "()I"⟩
abbrev cX12_count : ByteArray := prog_14_method_79_code
def yX12_count : MethodName := ⟨RX12, "count", "(I)I"⟩
abbrev cX12_thrown : ByteArray := prog_14_method_80_code
def yX12_thrown : MethodName := ⟨RX12, "thrown", "()I"⟩
abbrev cX12_isShelf : ByteArray := prog_14_method_81_code
def yX12_isShelf : MethodName := ⟨RX12, "isShelf", "(I)Z"⟩
abbrev cX12_wrongRow : ByteArray := prog_14_method_82_code
def yX12_wrongRow : MethodName := ⟨RX12, "wrongRow", "(II)I"⟩
abbrev cX12_wrongKept : ByteArray := prog_14_method_83_code
def yX12_wrongKept : MethodName := ⟨RX12, "wrongKept", "(I)I"⟩
abbrev cX12_keep : ByteArray := prog_14_method_84_code
def yX12_keep : MethodName := ⟨RX12, "keep", "(IIII)I"⟩
abbrev cX12_row : ByteArray := prog_14_method_85_code
def yX12_row : MethodName := ⟨RX12, "row", "(III)I"⟩
abbrev cX12_put : ByteArray := prog_14_method_86_code
def yX12_put : MethodName := ⟨RX12, "put", "(III)I"⟩
abbrev cX12_element : ByteArray := prog_14_method_87_code
def yX12_element : MethodName := ⟨RX12, "element", "(II)J"⟩
abbrev cX12_copy : ByteArray := prog_14_method_88_code
def yX12_copy : MethodName := ⟨RX12, "copy", "(IIIII)I"⟩
abbrev cX12_costBy : ByteArray := prog_14_method_89_code
def yX12_costBy : MethodName := ⟨RX12, "costBy", "(II)I"⟩
abbrev cX12_cost : ByteArray := prog_14_method_90_code
def yX12_cost : MethodName := ⟨RX12, "cost", "(I)I"⟩
abbrev cX12_toss : ByteArray := prog_14_method_91_code
def yX12_toss : MethodName := ⟨RX12, "toss", "(I)I"⟩
def RJ6 : String := "java/lang/Integer"
abbrev cJ6_bitCount_0f7a4 : ByteArray := prog_18_method_49_code
def yJ6_bitCount_0f7a4 : MethodName := ⟨RJ6, "bitCount", "(I)I"⟩
def RJ9 : String := "java/lang/Math"
abbrev cJ9_abs_0f7a4 : ByteArray := prog_19_method_59_code
def yJ9_abs_0f7a4 : MethodName := ⟨RJ9, "abs", "(I)I"⟩
abbrev cJ9_max_7cf53 : ByteArray := prog_19_method_65_code
def yJ9_max_7cf53 : MethodName := ⟨RJ9, "max", "(II)I"⟩
abbrev cJ9_min_7cf53 : ByteArray := prog_19_method_69_code
def yJ9_min_7cf53 : MethodName := ⟨RJ9, "min", "(II)I"⟩
def RL : String := "RattleAtFiftyLaw"
abbrev cL_element : ByteArray := method_3_code
def yL_element : MethodName := ⟨RL, "element", "(LRattleAtFifty;II[J)I"⟩
abbrev cL_law : ByteArray := code
def yL_law : MethodName := ⟨RL, "law", "([I)Z"⟩
end
section
theorem dX0_init_0 : decode cX0_init 0 = .ok (.aload_n 0, 1) := by decide +kernel
theorem dX0_init_1 : decode cX0_init 1 = .ok (.invokespecial 3, 3) := by decide +kernel
theorem dX0_init_4 : decode cX0_init 4 = .ok (.aload_n 0, 1) := by decide +kernel
theorem dX0_init_5 : decode cX0_init 5 = .ok (.aload_n 1, 1) := by decide +kernel
theorem dX0_init_6 : decode cX0_init 6 = .ok (.putfield 9, 3) := by decide +kernel
theorem dX0_init_9 : decode cX0_init 9 = .ok (.aload_n 0, 1) := by decide +kernel
theorem dX0_init_10 : decode cX0_init 10 = .ok (.bipush 7, 2) := by decide +kernel
theorem dX0_init_12 : decode cX0_init 12 = .ok (.newarray .int, 2) := by decide +kernel
theorem dX0_init_14 : decode cX0_init 14 = .ok (.putfield 15, 3) := by decide +kernel
theorem dX0_init_17 : decode cX0_init 17 = .ok (.aload_n 0, 1) := by decide +kernel
theorem dX0_init_18 : decode cX0_init 18 = .ok (.bipush 7, 2) := by decide +kernel
theorem dX0_init_20 : decode cX0_init 20 = .ok (.newarray .int, 2) := by decide +kernel
theorem dX0_init_22 : decode cX0_init 22 = .ok (.putfield 19, 3) := by decide +kernel
theorem dX0_init_25 : decode cX0_init 25 = .ok (.aload_n 0, 1) := by decide +kernel
theorem dX0_init_26 : decode cX0_init 26 = .ok (.bipush 7, 2) := by decide +kernel
theorem dX0_init_28 : decode cX0_init 28 = .ok (.newarray .int, 2) := by decide +kernel
theorem dX0_init_30 : decode cX0_init 30 = .ok (.putfield 22, 3) := by decide +kernel
theorem dX0_init_33 : decode cX0_init 33 = .ok (.aload_n 0, 1) := by decide +kernel
theorem dX0_init_34 : decode cX0_init 34 = .ok (.bipush 7, 2) := by decide +kernel
theorem dX0_init_36 : decode cX0_init 36 = .ok (.newarray .int, 2) := by decide +kernel
theorem dX0_init_38 : decode cX0_init 38 = .ok (.putfield 25, 3) := by decide +kernel
theorem dX0_init_41 : decode cX0_init 41 = .ok (.aload_n 0, 1) := by decide +kernel
theorem dX0_init_42 : decode cX0_init 42 = .ok (.bipush 7, 2) := by decide +kernel
theorem dX0_init_44 : decode cX0_init 44 = .ok (.newarray .int, 2) := by decide +kernel
theorem dX0_init_46 : decode cX0_init 46 = .ok (.putfield 28, 3) := by decide +kernel
theorem dX0_init_49 : decode cX0_init 49 = .ok (.aload_n 0, 1) := by decide +kernel
theorem dX0_init_50 : decode cX0_init 50 = .ok (.bipush 7, 2) := by decide +kernel
theorem dX0_init_52 : decode cX0_init 52 = .ok (.newarray .int, 2) := by decide +kernel
theorem dX0_init_54 : decode cX0_init 54 = .ok (.putfield 31, 3) := by decide +kernel
theorem dX0_init_57 : decode cX0_init 57 = .ok (.aload_n 0, 1) := by decide +kernel
theorem dX0_init_58 : decode cX0_init 58 = .ok (.iconst 4, 1) := by decide +kernel
theorem dX0_init_59 : decode cX0_init 59 = .ok (.newarray .int, 2) := by decide +kernel
theorem dX0_init_61 : decode cX0_init 61 = .ok (.dup, 1) := by decide +kernel
theorem dX0_init_62 : decode cX0_init 62 = .ok (.iconst 0, 1) := by decide +kernel
theorem dX0_init_63 : decode cX0_init 63 = .ok (.bipush 50, 2) := by decide +kernel
theorem dX0_init_65 : decode cX0_init 65 = .ok (.iastore, 1) := by decide +kernel
theorem dX0_init_66 : decode cX0_init 66 = .ok (.dup, 1) := by decide +kernel
theorem dX0_init_67 : decode cX0_init 67 = .ok (.iconst 1, 1) := by decide +kernel
theorem dX0_init_68 : decode cX0_init 68 = .ok (.iconst 5, 1) := by decide +kernel
theorem dX0_init_69 : decode cX0_init 69 = .ok (.iastore, 1) := by decide +kernel
theorem dX0_init_70 : decode cX0_init 70 = .ok (.dup, 1) := by decide +kernel
theorem dX0_init_71 : decode cX0_init 71 = .ok (.iconst 2, 1) := by decide +kernel
theorem dX0_init_72 : decode cX0_init 72 = .ok (.iconst 0, 1) := by decide +kernel
theorem dX0_init_73 : decode cX0_init 73 = .ok (.iastore, 1) := by decide +kernel
theorem dX0_init_74 : decode cX0_init 74 = .ok (.dup, 1) := by decide +kernel
theorem dX0_init_75 : decode cX0_init 75 = .ok (.iconst 3, 1) := by decide +kernel
theorem dX0_init_76 : decode cX0_init 76 = .ok (.iconst 0, 1) := by decide +kernel
theorem dX0_init_77 : decode cX0_init 77 = .ok (.iastore, 1) := by decide +kernel
theorem dX0_init_78 : decode cX0_init 78 = .ok (.putfield 34, 3) := by decide +kernel
theorem dX0_init_81 : decode cX0_init 81 = .ok (.aload_n 0, 1) := by decide +kernel
theorem dX0_init_82 : decode cX0_init 82 = .ok (.iconst 0, 1) := by decide +kernel
theorem dX0_init_83 : decode cX0_init 83 = .ok (.putfield 37, 3) := by decide +kernel
theorem dX0_init_86 : decode cX0_init 86 = .ok (.aload_n 0, 1) := by decide +kernel
theorem dX0_init_87 : decode cX0_init 87 = .ok (.iconst 0, 1) := by decide +kernel
theorem dX0_init_88 : decode cX0_init 88 = .ok (.putfield 41, 3) := by decide +kernel
theorem dX0_init_91 : decode cX0_init 91 = .ok (.return_, 1) := by decide +kernel
theorem dX0_becomes_0 : decode cX0_becomes 0 = .ok (.aload_n 1, 1) := by decide +kernel
theorem dX0_becomes_1 : decode cX0_becomes 1 = .ok (.getfield 15, 3) := by decide +kernel
theorem dX0_becomes_4 : decode cX0_becomes 4 = .ok (.iconst 0, 1) := by decide +kernel
theorem dX0_becomes_5 : decode cX0_becomes 5 = .ok (.aload_n 0, 1) := by decide +kernel
theorem dX0_becomes_6 : decode cX0_becomes 6 = .ok (.getfield 15, 3) := by decide +kernel
theorem dX0_becomes_9 : decode cX0_becomes 9 = .ok (.iconst 0, 1) := by decide +kernel
theorem dX0_becomes_10 : decode cX0_becomes 10 = .ok (.bipush 7, 2) := by decide +kernel
theorem dX0_becomes_12 : decode cX0_becomes 12 = .ok (.invokestatic 44, 3) := by decide +kernel
theorem dX0_becomes_15 : decode cX0_becomes 15 = .ok (.aload_n 1, 1) := by decide +kernel
theorem dX0_becomes_16 : decode cX0_becomes 16 = .ok (.getfield 19, 3) := by decide +kernel
theorem dX0_becomes_19 : decode cX0_becomes 19 = .ok (.iconst 0, 1) := by decide +kernel
theorem dX0_becomes_20 : decode cX0_becomes 20 = .ok (.aload_n 0, 1) := by decide +kernel
theorem dX0_becomes_21 : decode cX0_becomes 21 = .ok (.getfield 19, 3) := by decide +kernel
theorem dX0_becomes_24 : decode cX0_becomes 24 = .ok (.iconst 0, 1) := by decide +kernel
theorem dX0_becomes_25 : decode cX0_becomes 25 = .ok (.bipush 7, 2) := by decide +kernel
theorem dX0_becomes_27 : decode cX0_becomes 27 = .ok (.invokestatic 44, 3) := by decide +kernel
theorem dX0_becomes_30 : decode cX0_becomes 30 = .ok (.aload_n 1, 1) := by decide +kernel
theorem dX0_becomes_31 : decode cX0_becomes 31 = .ok (.getfield 22, 3) := by decide +kernel
theorem dX0_becomes_34 : decode cX0_becomes 34 = .ok (.iconst 0, 1) := by decide +kernel
theorem dX0_becomes_35 : decode cX0_becomes 35 = .ok (.aload_n 0, 1) := by decide +kernel
theorem dX0_becomes_36 : decode cX0_becomes 36 = .ok (.getfield 22, 3) := by decide +kernel
theorem dX0_becomes_39 : decode cX0_becomes 39 = .ok (.iconst 0, 1) := by decide +kernel
theorem dX0_becomes_40 : decode cX0_becomes 40 = .ok (.bipush 7, 2) := by decide +kernel
theorem dX0_becomes_42 : decode cX0_becomes 42 = .ok (.invokestatic 44, 3) := by decide +kernel
theorem dX0_becomes_45 : decode cX0_becomes 45 = .ok (.aload_n 1, 1) := by decide +kernel
theorem dX0_becomes_46 : decode cX0_becomes 46 = .ok (.getfield 25, 3) := by decide +kernel
theorem dX0_becomes_49 : decode cX0_becomes 49 = .ok (.iconst 0, 1) := by decide +kernel
theorem dX0_becomes_50 : decode cX0_becomes 50 = .ok (.aload_n 0, 1) := by decide +kernel
theorem dX0_becomes_51 : decode cX0_becomes 51 = .ok (.getfield 25, 3) := by decide +kernel
theorem dX0_becomes_54 : decode cX0_becomes 54 = .ok (.iconst 0, 1) := by decide +kernel
theorem dX0_becomes_55 : decode cX0_becomes 55 = .ok (.bipush 7, 2) := by decide +kernel
theorem dX0_becomes_57 : decode cX0_becomes 57 = .ok (.invokestatic 44, 3) := by decide +kernel
theorem dX0_becomes_60 : decode cX0_becomes 60 = .ok (.aload_n 1, 1) := by decide +kernel
theorem dX0_becomes_61 : decode cX0_becomes 61 = .ok (.getfield 28, 3) := by decide +kernel
theorem dX0_becomes_64 : decode cX0_becomes 64 = .ok (.iconst 0, 1) := by decide +kernel
theorem dX0_becomes_65 : decode cX0_becomes 65 = .ok (.aload_n 0, 1) := by decide +kernel
theorem dX0_becomes_66 : decode cX0_becomes 66 = .ok (.getfield 28, 3) := by decide +kernel
theorem dX0_becomes_69 : decode cX0_becomes 69 = .ok (.iconst 0, 1) := by decide +kernel
theorem dX0_becomes_70 : decode cX0_becomes 70 = .ok (.bipush 7, 2) := by decide +kernel
theorem dX0_becomes_72 : decode cX0_becomes 72 = .ok (.invokestatic 44, 3) := by decide +kernel
theorem dX0_becomes_75 : decode cX0_becomes 75 = .ok (.aload_n 1, 1) := by decide +kernel
theorem dX0_becomes_76 : decode cX0_becomes 76 = .ok (.getfield 31, 3) := by decide +kernel
theorem dX0_becomes_79 : decode cX0_becomes 79 = .ok (.iconst 0, 1) := by decide +kernel
theorem dX0_becomes_80 : decode cX0_becomes 80 = .ok (.aload_n 0, 1) := by decide +kernel
theorem dX0_becomes_81 : decode cX0_becomes 81 = .ok (.getfield 31, 3) := by decide +kernel
theorem dX0_becomes_84 : decode cX0_becomes 84 = .ok (.iconst 0, 1) := by decide +kernel
theorem dX0_becomes_85 : decode cX0_becomes 85 = .ok (.bipush 7, 2) := by decide +kernel
theorem dX0_becomes_87 : decode cX0_becomes 87 = .ok (.invokestatic 44, 3) := by decide +kernel
theorem dX0_becomes_90 : decode cX0_becomes 90 = .ok (.aload_n 1, 1) := by decide +kernel
theorem dX0_becomes_91 : decode cX0_becomes 91 = .ok (.getfield 34, 3) := by decide +kernel
theorem dX0_becomes_94 : decode cX0_becomes 94 = .ok (.iconst 0, 1) := by decide +kernel
theorem dX0_becomes_95 : decode cX0_becomes 95 = .ok (.aload_n 0, 1) := by decide +kernel
theorem dX0_becomes_96 : decode cX0_becomes 96 = .ok (.getfield 34, 3) := by decide +kernel
theorem dX0_becomes_99 : decode cX0_becomes 99 = .ok (.iconst 0, 1) := by decide +kernel
theorem dX0_becomes_100 : decode cX0_becomes 100 = .ok (.aload_n 0, 1) := by decide +kernel
theorem dX0_becomes_101 : decode cX0_becomes 101 = .ok (.getfield 34, 3) := by decide +kernel
theorem dX0_becomes_104 : decode cX0_becomes 104 = .ok (.arraylength, 1) := by decide +kernel
theorem dX0_becomes_105 : decode cX0_becomes 105 = .ok (.invokestatic 44, 3) := by decide +kernel
theorem dX0_becomes_108 : decode cX0_becomes 108 = .ok (.aload_n 0, 1) := by decide +kernel
theorem dX0_becomes_109 : decode cX0_becomes 109 = .ok (.aload_n 1, 1) := by decide +kernel
theorem dX0_becomes_110 : decode cX0_becomes 110 = .ok (.getfield 37, 3) := by decide +kernel
theorem dX0_becomes_113 : decode cX0_becomes 113 = .ok (.putfield 37, 3) := by decide +kernel
theorem dX0_becomes_116 : decode cX0_becomes 116 = .ok (.aload_n 0, 1) := by decide +kernel
theorem dX0_becomes_117 : decode cX0_becomes 117 = .ok (.aload_n 1, 1) := by decide +kernel
theorem dX0_becomes_118 : decode cX0_becomes 118 = .ok (.getfield 41, 3) := by decide +kernel
theorem dX0_becomes_121 : decode cX0_becomes 121 = .ok (.putfield 41, 3) := by decide +kernel
theorem dX0_becomes_124 : decode cX0_becomes 124 = .ok (.return_, 1) := by decide +kernel
theorem dX0_has_0 : decode cX0_has 0 = .ok (.iload_n 1, 1) := by decide +kernel
theorem dX0_has_1 : decode cX0_has 1 = .ok (.ifCond .lt 15, 3) := by decide +kernel
theorem dX0_has_4 : decode cX0_has 4 = .ok (.iload_n 1, 1) := by decide +kernel
theorem dX0_has_5 : decode cX0_has 5 = .ok (.aload_n 0, 1) := by decide +kernel
theorem dX0_has_6 : decode cX0_has 6 = .ok (.getfield 37, 3) := by decide +kernel
theorem dX0_has_9 : decode cX0_has 9 = .ok (.if_icmp .ge 7, 3) := by decide +kernel
theorem dX0_has_12 : decode cX0_has 12 = .ok (.iconst 1, 1) := by decide +kernel
theorem dX0_has_13 : decode cX0_has 13 = .ok (.goto 4, 3) := by decide +kernel
theorem dX0_has_16 : decode cX0_has 16 = .ok (.iconst 0, 1) := by decide +kernel
theorem dX0_has_17 : decode cX0_has 17 = .ok (.ireturn, 1) := by decide +kernel
theorem dX0_takeIn_0 : decode cX0_takeIn 0 = .ok (.iload_n 1, 1) := by decide +kernel
theorem dX0_takeIn_1 : decode cX0_takeIn 1 = .ok (.iconst 0, 1) := by decide +kernel
theorem dX0_takeIn_2 : decode cX0_takeIn 2 = .ok (.bipush 7, 2) := by decide +kernel
theorem dX0_takeIn_4 : decode cX0_takeIn 4 = .ok (.invokestatic 50, 3) := by decide +kernel
theorem dX0_takeIn_7 : decode cX0_takeIn 7 = .ok (.ifCond .eq 31, 3) := by decide +kernel
theorem dX0_takeIn_10 : decode cX0_takeIn 10 = .ok (.iload_n 2, 1) := by decide +kernel
theorem dX0_takeIn_11 : decode cX0_takeIn 11 = .ok (.iconst 0, 1) := by decide +kernel
theorem dX0_takeIn_12 : decode cX0_takeIn 12 = .ok (.bipush 9, 2) := by decide +kernel
theorem dX0_takeIn_14 : decode cX0_takeIn 14 = .ok (.invokestatic 50, 3) := by decide +kernel
theorem dX0_takeIn_17 : decode cX0_takeIn 17 = .ok (.ifCond .eq 21, 3) := by decide +kernel
theorem dX0_takeIn_20 : decode cX0_takeIn 20 = .ok (.iload_n 3, 1) := by decide +kernel
theorem dX0_takeIn_21 : decode cX0_takeIn 21 = .ok (.invokestatic 54, 3) := by decide +kernel
theorem dX0_takeIn_24 : decode cX0_takeIn 24 = .ok (.ifCond .eq 14, 3) := by decide +kernel
theorem dX0_takeIn_27 : decode cX0_takeIn 27 = .ok (.iload 4, 2) := by decide +kernel
theorem dX0_takeIn_29 : decode cX0_takeIn 29 = .ok (.iconst 1, 1) := by decide +kernel
theorem dX0_takeIn_30 : decode cX0_takeIn 30 = .ok (.bipush 9, 2) := by decide +kernel
theorem dX0_takeIn_32 : decode cX0_takeIn 32 = .ok (.invokestatic 50, 3) := by decide +kernel
theorem dX0_takeIn_35 : decode cX0_takeIn 35 = .ok (.ifCond .ne 5, 3) := by decide +kernel
theorem dX0_takeIn_38 : decode cX0_takeIn 38 = .ok (.iconst (-1), 1) := by decide +kernel
theorem dX0_takeIn_39 : decode cX0_takeIn 39 = .ok (.ireturn, 1) := by decide +kernel
theorem dX0_takeIn_40 : decode cX0_takeIn 40 = .ok (.aload_n 0, 1) := by decide +kernel
theorem dX0_takeIn_41 : decode cX0_takeIn 41 = .ok (.getfield 37, 3) := by decide +kernel
theorem dX0_takeIn_44 : decode cX0_takeIn 44 = .ok (.bipush 7, 2) := by decide +kernel
theorem dX0_takeIn_46 : decode cX0_takeIn 46 = .ok (.if_icmp .lt 6, 3) := by decide +kernel
theorem dX0_takeIn_49 : decode cX0_takeIn 49 = .ok (.bipush (-2), 2) := by decide +kernel
theorem dX0_takeIn_51 : decode cX0_takeIn 51 = .ok (.ireturn, 1) := by decide +kernel
theorem dX0_takeIn_52 : decode cX0_takeIn 52 = .ok (.aload_n 0, 1) := by decide +kernel
theorem dX0_takeIn_53 : decode cX0_takeIn 53 = .ok (.getfield 15, 3) := by decide +kernel
theorem dX0_takeIn_56 : decode cX0_takeIn 56 = .ok (.aload_n 0, 1) := by decide +kernel
theorem dX0_takeIn_57 : decode cX0_takeIn 57 = .ok (.getfield 37, 3) := by decide +kernel
theorem dX0_takeIn_60 : decode cX0_takeIn 60 = .ok (.iload_n 1, 1) := by decide +kernel
theorem dX0_takeIn_61 : decode cX0_takeIn 61 = .ok (.iastore, 1) := by decide +kernel
theorem dX0_takeIn_62 : decode cX0_takeIn 62 = .ok (.aload_n 0, 1) := by decide +kernel
theorem dX0_takeIn_63 : decode cX0_takeIn 63 = .ok (.getfield 19, 3) := by decide +kernel
theorem dX0_takeIn_66 : decode cX0_takeIn 66 = .ok (.aload_n 0, 1) := by decide +kernel
theorem dX0_takeIn_67 : decode cX0_takeIn 67 = .ok (.getfield 37, 3) := by decide +kernel
theorem dX0_takeIn_70 : decode cX0_takeIn 70 = .ok (.iload_n 2, 1) := by decide +kernel
theorem dX0_takeIn_71 : decode cX0_takeIn 71 = .ok (.iastore, 1) := by decide +kernel
theorem dX0_takeIn_72 : decode cX0_takeIn 72 = .ok (.aload_n 0, 1) := by decide +kernel
theorem dX0_takeIn_73 : decode cX0_takeIn 73 = .ok (.getfield 22, 3) := by decide +kernel
theorem dX0_takeIn_76 : decode cX0_takeIn 76 = .ok (.aload_n 0, 1) := by decide +kernel
theorem dX0_takeIn_77 : decode cX0_takeIn 77 = .ok (.getfield 37, 3) := by decide +kernel
theorem dX0_takeIn_80 : decode cX0_takeIn 80 = .ok (.iload_n 3, 1) := by decide +kernel
theorem dX0_takeIn_81 : decode cX0_takeIn 81 = .ok (.iastore, 1) := by decide +kernel
theorem dX0_takeIn_82 : decode cX0_takeIn 82 = .ok (.aload_n 0, 1) := by decide +kernel
theorem dX0_takeIn_83 : decode cX0_takeIn 83 = .ok (.getfield 25, 3) := by decide +kernel
theorem dX0_takeIn_86 : decode cX0_takeIn 86 = .ok (.aload_n 0, 1) := by decide +kernel
theorem dX0_takeIn_87 : decode cX0_takeIn 87 = .ok (.getfield 37, 3) := by decide +kernel
theorem dX0_takeIn_90 : decode cX0_takeIn 90 = .ok (.iload 4, 2) := by decide +kernel
theorem dX0_takeIn_92 : decode cX0_takeIn 92 = .ok (.iastore, 1) := by decide +kernel
theorem dX0_takeIn_93 : decode cX0_takeIn 93 = .ok (.aload_n 0, 1) := by decide +kernel
theorem dX0_takeIn_94 : decode cX0_takeIn 94 = .ok (.getfield 28, 3) := by decide +kernel
theorem dX0_takeIn_97 : decode cX0_takeIn 97 = .ok (.aload_n 0, 1) := by decide +kernel
theorem dX0_takeIn_98 : decode cX0_takeIn 98 = .ok (.getfield 37, 3) := by decide +kernel
theorem dX0_takeIn_101 : decode cX0_takeIn 101 = .ok (.iconst 0, 1) := by decide +kernel
theorem dX0_takeIn_102 : decode cX0_takeIn 102 = .ok (.iastore, 1) := by decide +kernel
theorem dX0_takeIn_103 : decode cX0_takeIn 103 = .ok (.aload_n 0, 1) := by decide +kernel
theorem dX0_takeIn_104 : decode cX0_takeIn 104 = .ok (.getfield 31, 3) := by decide +kernel
theorem dX0_takeIn_107 : decode cX0_takeIn 107 = .ok (.aload_n 0, 1) := by decide +kernel
theorem dX0_takeIn_108 : decode cX0_takeIn 108 = .ok (.getfield 37, 3) := by decide +kernel
theorem dX0_takeIn_111 : decode cX0_takeIn 111 = .ok (.iconst 0, 1) := by decide +kernel
theorem dX0_takeIn_112 : decode cX0_takeIn 112 = .ok (.iastore, 1) := by decide +kernel
theorem dX0_takeIn_113 : decode cX0_takeIn 113 = .ok (.aload_n 0, 1) := by decide +kernel
theorem dX0_takeIn_114 : decode cX0_takeIn 114 = .ok (.dup, 1) := by decide +kernel
theorem dX0_takeIn_115 : decode cX0_takeIn 115 = .ok (.getfield 37, 3) := by decide +kernel
theorem dX0_takeIn_118 : decode cX0_takeIn 118 = .ok (.iconst 1, 1) := by decide +kernel
theorem dX0_takeIn_119 : decode cX0_takeIn 119 = .ok (.iadd, 1) := by decide +kernel
theorem dX0_takeIn_120 : decode cX0_takeIn 120 = .ok (.putfield 37, 3) := by decide +kernel
theorem dX0_takeIn_123 : decode cX0_takeIn 123 = .ok (.aload_n 0, 1) := by decide +kernel
theorem dX0_takeIn_124 : decode cX0_takeIn 124 = .ok (.getfield 37, 3) := by decide +kernel
theorem dX0_takeIn_127 : decode cX0_takeIn 127 = .ok (.iconst 1, 1) := by decide +kernel
theorem dX0_takeIn_128 : decode cX0_takeIn 128 = .ok (.isub, 1) := by decide +kernel
theorem dX0_takeIn_129 : decode cX0_takeIn 129 = .ok (.ireturn, 1) := by decide +kernel
theorem dX0_hold_0 : decode cX0_hold 0 = .ok (.aload_n 0, 1) := by decide +kernel
theorem dX0_hold_1 : decode cX0_hold 1 = .ok (.iload_n 1, 1) := by decide +kernel
theorem dX0_hold_2 : decode cX0_hold 2 = .ok (.invokevirtual 58, 3) := by decide +kernel
theorem dX0_hold_5 : decode cX0_hold 5 = .ok (.ifCond .ne 5, 3) := by decide +kernel
theorem dX0_hold_8 : decode cX0_hold 8 = .ok (.iconst (-1), 1) := by decide +kernel
theorem dX0_hold_9 : decode cX0_hold 9 = .ok (.ireturn, 1) := by decide +kernel
theorem dX0_hold_10 : decode cX0_hold 10 = .ok (.aload_n 0, 1) := by decide +kernel
theorem dX0_hold_11 : decode cX0_hold 11 = .ok (.getfield 28, 3) := by decide +kernel
theorem dX0_hold_14 : decode cX0_hold 14 = .ok (.iload_n 1, 1) := by decide +kernel
theorem dX0_hold_15 : decode cX0_hold 15 = .ok (.iaload, 1) := by decide +kernel
theorem dX0_hold_16 : decode cX0_hold 16 = .ok (.iconst 3, 1) := by decide +kernel
theorem dX0_hold_17 : decode cX0_hold 17 = .ok (.if_icmp .ne 6, 3) := by decide +kernel
theorem dX0_hold_20 : decode cX0_hold 20 = .ok (.bipush (-3), 2) := by decide +kernel
theorem dX0_hold_22 : decode cX0_hold 22 = .ok (.ireturn, 1) := by decide +kernel
theorem dX0_hold_23 : decode cX0_hold 23 = .ok (.aload_n 0, 1) := by decide +kernel
theorem dX0_hold_24 : decode cX0_hold 24 = .ok (.getfield 28, 3) := by decide +kernel
theorem dX0_hold_27 : decode cX0_hold 27 = .ok (.iload_n 1, 1) := by decide +kernel
theorem dX0_hold_28 : decode cX0_hold 28 = .ok (.iconst 1, 1) := by decide +kernel
theorem dX0_hold_29 : decode cX0_hold 29 = .ok (.iastore, 1) := by decide +kernel
theorem dX0_hold_30 : decode cX0_hold 30 = .ok (.aload_n 0, 1) := by decide +kernel
theorem dX0_hold_31 : decode cX0_hold 31 = .ok (.iload_n 1, 1) := by decide +kernel
theorem dX0_hold_32 : decode cX0_hold 32 = .ok (.invokevirtual 61, 3) := by decide +kernel
theorem dX0_hold_35 : decode cX0_hold 35 = .ok (.aload_n 0, 1) := by decide +kernel
theorem dX0_hold_36 : decode cX0_hold 36 = .ok (.getfield 19, 3) := by decide +kernel
theorem dX0_hold_39 : decode cX0_hold 39 = .ok (.iload_n 1, 1) := by decide +kernel
theorem dX0_hold_40 : decode cX0_hold 40 = .ok (.iaload, 1) := by decide +kernel
theorem dX0_hold_41 : decode cX0_hold 41 = .ok (.invokevirtual 65, 3) := by decide +kernel
theorem dX0_hold_44 : decode cX0_hold 44 = .ok (.ireturn, 1) := by decide +kernel
theorem dX0_wedge_0 : decode cX0_wedge 0 = .ok (.aload_n 0, 1) := by decide +kernel
theorem dX0_wedge_1 : decode cX0_wedge 1 = .ok (.iload_n 1, 1) := by decide +kernel
theorem dX0_wedge_2 : decode cX0_wedge 2 = .ok (.invokevirtual 58, 3) := by decide +kernel
theorem dX0_wedge_5 : decode cX0_wedge 5 = .ok (.ifCond .ne 5, 3) := by decide +kernel
theorem dX0_wedge_8 : decode cX0_wedge 8 = .ok (.iconst (-1), 1) := by decide +kernel
theorem dX0_wedge_9 : decode cX0_wedge 9 = .ok (.ireturn, 1) := by decide +kernel
theorem dX0_wedge_10 : decode cX0_wedge 10 = .ok (.aload_n 0, 1) := by decide +kernel
theorem dX0_wedge_11 : decode cX0_wedge 11 = .ok (.getfield 28, 3) := by decide +kernel
theorem dX0_wedge_14 : decode cX0_wedge 14 = .ok (.iload_n 1, 1) := by decide +kernel
theorem dX0_wedge_15 : decode cX0_wedge 15 = .ok (.iaload, 1) := by decide +kernel
theorem dX0_wedge_16 : decode cX0_wedge 16 = .ok (.iconst 3, 1) := by decide +kernel
theorem dX0_wedge_17 : decode cX0_wedge 17 = .ok (.if_icmp .ne 6, 3) := by decide +kernel
theorem dX0_wedge_20 : decode cX0_wedge 20 = .ok (.bipush (-3), 2) := by decide +kernel
theorem dX0_wedge_22 : decode cX0_wedge 22 = .ok (.ireturn, 1) := by decide +kernel
theorem dX0_wedge_23 : decode cX0_wedge 23 = .ok (.aload_n 0, 1) := by decide +kernel
theorem dX0_wedge_24 : decode cX0_wedge 24 = .ok (.getfield 28, 3) := by decide +kernel
theorem dX0_wedge_27 : decode cX0_wedge 27 = .ok (.iload_n 1, 1) := by decide +kernel
theorem dX0_wedge_28 : decode cX0_wedge 28 = .ok (.iaload, 1) := by decide +kernel
theorem dX0_wedge_29 : decode cX0_wedge 29 = .ok (.istore_n 2, 1) := by decide +kernel
theorem dX0_wedge_30 : decode cX0_wedge 30 = .ok (.aload_n 0, 1) := by decide +kernel
theorem dX0_wedge_31 : decode cX0_wedge 31 = .ok (.getfield 28, 3) := by decide +kernel
theorem dX0_wedge_34 : decode cX0_wedge 34 = .ok (.iload_n 1, 1) := by decide +kernel
theorem dX0_wedge_35 : decode cX0_wedge 35 = .ok (.iconst 2, 1) := by decide +kernel
theorem dX0_wedge_36 : decode cX0_wedge 36 = .ok (.iastore, 1) := by decide +kernel
theorem dX0_wedge_37 : decode cX0_wedge 37 = .ok (.aload_n 0, 1) := by decide +kernel
theorem dX0_wedge_38 : decode cX0_wedge 38 = .ok (.getfield 31, 3) := by decide +kernel
theorem dX0_wedge_41 : decode cX0_wedge 41 = .ok (.iload_n 1, 1) := by decide +kernel
theorem dX0_wedge_42 : decode cX0_wedge 42 = .ok (.iconst 0, 1) := by decide +kernel
theorem dX0_wedge_43 : decode cX0_wedge 43 = .ok (.iastore, 1) := by decide +kernel
theorem dX0_wedge_44 : decode cX0_wedge 44 = .ok (.iload_n 2, 1) := by decide +kernel
theorem dX0_wedge_45 : decode cX0_wedge 45 = .ok (.ireturn, 1) := by decide +kernel
theorem dX0_takeOut_0 : decode cX0_takeOut 0 = .ok (.aload_n 0, 1) := by decide +kernel
theorem dX0_takeOut_1 : decode cX0_takeOut 1 = .ok (.iload_n 1, 1) := by decide +kernel
theorem dX0_takeOut_2 : decode cX0_takeOut 2 = .ok (.invokevirtual 58, 3) := by decide +kernel
theorem dX0_takeOut_5 : decode cX0_takeOut 5 = .ok (.ifCond .ne 5, 3) := by decide +kernel
theorem dX0_takeOut_8 : decode cX0_takeOut 8 = .ok (.iconst (-1), 1) := by decide +kernel
theorem dX0_takeOut_9 : decode cX0_takeOut 9 = .ok (.ireturn, 1) := by decide +kernel
theorem dX0_takeOut_10 : decode cX0_takeOut 10 = .ok (.aload_n 0, 1) := by decide +kernel
theorem dX0_takeOut_11 : decode cX0_takeOut 11 = .ok (.getfield 28, 3) := by decide +kernel
theorem dX0_takeOut_14 : decode cX0_takeOut 14 = .ok (.iload_n 1, 1) := by decide +kernel
theorem dX0_takeOut_15 : decode cX0_takeOut 15 = .ok (.aload_n 0, 1) := by decide +kernel
theorem dX0_takeOut_16 : decode cX0_takeOut 16 = .ok (.getfield 28, 3) := by decide +kernel
theorem dX0_takeOut_19 : decode cX0_takeOut 19 = .ok (.iload_n 1, 1) := by decide +kernel
theorem dX0_takeOut_20 : decode cX0_takeOut 20 = .ok (.iaload, 1) := by decide +kernel
theorem dX0_takeOut_21 : decode cX0_takeOut 21 = .ok (.iconst 3, 1) := by decide +kernel
theorem dX0_takeOut_22 : decode cX0_takeOut 22 = .ok (.if_icmp .ne 7, 3) := by decide +kernel
theorem dX0_takeOut_25 : decode cX0_takeOut 25 = .ok (.iconst 0, 1) := by decide +kernel
theorem dX0_takeOut_26 : decode cX0_takeOut 26 = .ok (.goto 4, 3) := by decide +kernel
theorem dX0_takeOut_29 : decode cX0_takeOut 29 = .ok (.iconst 3, 1) := by decide +kernel
theorem dX0_takeOut_30 : decode cX0_takeOut 30 = .ok (.iastore, 1) := by decide +kernel
theorem dX0_takeOut_31 : decode cX0_takeOut 31 = .ok (.aload_n 0, 1) := by decide +kernel
theorem dX0_takeOut_32 : decode cX0_takeOut 32 = .ok (.getfield 28, 3) := by decide +kernel
theorem dX0_takeOut_35 : decode cX0_takeOut 35 = .ok (.iload_n 1, 1) := by decide +kernel
theorem dX0_takeOut_36 : decode cX0_takeOut 36 = .ok (.iaload, 1) := by decide +kernel
theorem dX0_takeOut_37 : decode cX0_takeOut 37 = .ok (.ireturn, 1) := by decide +kernel
theorem dX0_screw_0 : decode cX0_screw 0 = .ok (.aload_n 0, 1) := by decide +kernel
theorem dX0_screw_1 : decode cX0_screw 1 = .ok (.iload_n 1, 1) := by decide +kernel
theorem dX0_screw_2 : decode cX0_screw 2 = .ok (.invokevirtual 58, 3) := by decide +kernel
theorem dX0_screw_5 : decode cX0_screw 5 = .ok (.ifCond .ne 5, 3) := by decide +kernel
theorem dX0_screw_8 : decode cX0_screw 8 = .ok (.iconst (-1), 1) := by decide +kernel
theorem dX0_screw_9 : decode cX0_screw 9 = .ok (.ireturn, 1) := by decide +kernel
theorem dX0_screw_10 : decode cX0_screw 10 = .ok (.aload_n 0, 1) := by decide +kernel
theorem dX0_screw_11 : decode cX0_screw 11 = .ok (.getfield 19, 3) := by decide +kernel
theorem dX0_screw_14 : decode cX0_screw 14 = .ok (.iload_n 1, 1) := by decide +kernel
theorem dX0_screw_15 : decode cX0_screw 15 = .ok (.iconst 0, 1) := by decide +kernel
theorem dX0_screw_16 : decode cX0_screw 16 = .ok (.iastore, 1) := by decide +kernel
theorem dX0_screw_17 : decode cX0_screw 17 = .ok (.iload_n 1, 1) := by decide +kernel
theorem dX0_screw_18 : decode cX0_screw 18 = .ok (.iconst 1, 1) := by decide +kernel
theorem dX0_screw_19 : decode cX0_screw 19 = .ok (.iadd, 1) := by decide +kernel
theorem dX0_screw_20 : decode cX0_screw 20 = .ok (.aload_n 0, 1) := by decide +kernel
theorem dX0_screw_21 : decode cX0_screw 21 = .ok (.getfield 37, 3) := by decide +kernel
theorem dX0_screw_24 : decode cX0_screw 24 = .ok (.if_icmp .ge 9, 3) := by decide +kernel
theorem dX0_screw_27 : decode cX0_screw 27 = .ok (.iload_n 1, 1) := by decide +kernel
theorem dX0_screw_28 : decode cX0_screw 28 = .ok (.iconst 1, 1) := by decide +kernel
theorem dX0_screw_29 : decode cX0_screw 29 = .ok (.iadd, 1) := by decide +kernel
theorem dX0_screw_30 : decode cX0_screw 30 = .ok (.goto 4, 3) := by decide +kernel
theorem dX0_screw_33 : decode cX0_screw 33 = .ok (.iconst 0, 1) := by decide +kernel
theorem dX0_screw_34 : decode cX0_screw 34 = .ok (.istore_n 2, 1) := by decide +kernel
theorem dX0_screw_35 : decode cX0_screw 35 = .ok (.iload_n 2, 1) := by decide +kernel
theorem dX0_screw_36 : decode cX0_screw 36 = .ok (.iload_n 1, 1) := by decide +kernel
theorem dX0_screw_37 : decode cX0_screw 37 = .ok (.if_icmp .eq 29, 3) := by decide +kernel
theorem dX0_screw_40 : decode cX0_screw 40 = .ok (.aload_n 0, 1) := by decide +kernel
theorem dX0_screw_41 : decode cX0_screw 41 = .ok (.getfield 19, 3) := by decide +kernel
theorem dX0_screw_44 : decode cX0_screw 44 = .ok (.iload_n 2, 1) := by decide +kernel
theorem dX0_screw_45 : decode cX0_screw 45 = .ok (.bipush 9, 2) := by decide +kernel
theorem dX0_screw_47 : decode cX0_screw 47 = .ok (.aload_n 0, 1) := by decide +kernel
theorem dX0_screw_48 : decode cX0_screw 48 = .ok (.getfield 19, 3) := by decide +kernel
theorem dX0_screw_51 : decode cX0_screw 51 = .ok (.iload_n 2, 1) := by decide +kernel
theorem dX0_screw_52 : decode cX0_screw 52 = .ok (.iaload, 1) := by decide +kernel
theorem dX0_screw_53 : decode cX0_screw 53 = .ok (.aload_n 0, 1) := by decide +kernel
theorem dX0_screw_54 : decode cX0_screw 54 = .ok (.iload_n 2, 1) := by decide +kernel
theorem dX0_screw_55 : decode cX0_screw 55 = .ok (.invokevirtual 61, 3) := by decide +kernel
theorem dX0_screw_58 : decode cX0_screw 58 = .ok (.invokevirtual 71, 3) := by decide +kernel
theorem dX0_screw_61 : decode cX0_screw 61 = .ok (.iadd, 1) := by decide +kernel
theorem dX0_screw_62 : decode cX0_screw 62 = .ok (.invokestatic 75, 3) := by decide +kernel
theorem dX0_screw_65 : decode cX0_screw 65 = .ok (.iastore, 1) := by decide +kernel
theorem dX0_screw_66 : decode cX0_screw 66 = .ok (.aload_n 0, 1) := by decide +kernel
theorem dX0_screw_67 : decode cX0_screw 67 = .ok (.getfield 19, 3) := by decide +kernel
theorem dX0_screw_70 : decode cX0_screw 70 = .ok (.iload_n 2, 1) := by decide +kernel
theorem dX0_screw_71 : decode cX0_screw 71 = .ok (.iaload, 1) := by decide +kernel
theorem dX0_screw_72 : decode cX0_screw 72 = .ok (.ireturn, 1) := by decide +kernel
theorem dX0_change_0 : decode cX0_change 0 = .ok (.iload_n 1, 1) := by decide +kernel
theorem dX0_change_1 : decode cX0_change 1 = .ok (.iconst 0, 1) := by decide +kernel
theorem dX0_change_2 : decode cX0_change 2 = .ok (.iconst 3, 1) := by decide +kernel
theorem dX0_change_3 : decode cX0_change 3 = .ok (.invokestatic 50, 3) := by decide +kernel
theorem dX0_change_6 : decode cX0_change 6 = .ok (.ifCond .eq 16, 3) := by decide +kernel
theorem dX0_change_9 : decode cX0_change 9 = .ok (.iload_n 2, 1) := by decide +kernel
theorem dX0_change_10 : decode cX0_change 10 = .ok (.iconst 0, 1) := by decide +kernel
theorem dX0_change_11 : decode cX0_change 11 = .ok (.getstatic 81, 3) := by decide +kernel
theorem dX0_change_14 : decode cX0_change 14 = .ok (.iload_n 1, 1) := by decide +kernel
theorem dX0_change_15 : decode cX0_change 15 = .ok (.iaload, 1) := by decide +kernel
theorem dX0_change_16 : decode cX0_change 16 = .ok (.invokestatic 50, 3) := by decide +kernel
theorem dX0_change_19 : decode cX0_change 19 = .ok (.ifCond .ne 5, 3) := by decide +kernel
theorem dX0_change_22 : decode cX0_change 22 = .ok (.iconst (-1), 1) := by decide +kernel
theorem dX0_change_23 : decode cX0_change 23 = .ok (.ireturn, 1) := by decide +kernel
theorem dX0_change_24 : decode cX0_change 24 = .ok (.aload_n 0, 1) := by decide +kernel
theorem dX0_change_25 : decode cX0_change 25 = .ok (.getfield 34, 3) := by decide +kernel
theorem dX0_change_28 : decode cX0_change 28 = .ok (.iload_n 1, 1) := by decide +kernel
theorem dX0_change_29 : decode cX0_change 29 = .ok (.iaload, 1) := by decide +kernel
theorem dX0_change_30 : decode cX0_change 30 = .ok (.istore_n 3, 1) := by decide +kernel
theorem dX0_change_31 : decode cX0_change 31 = .ok (.aload_n 0, 1) := by decide +kernel
theorem dX0_change_32 : decode cX0_change 32 = .ok (.getfield 34, 3) := by decide +kernel
theorem dX0_change_35 : decode cX0_change 35 = .ok (.iload_n 1, 1) := by decide +kernel
theorem dX0_change_36 : decode cX0_change 36 = .ok (.iload_n 2, 1) := by decide +kernel
theorem dX0_change_37 : decode cX0_change 37 = .ok (.iastore, 1) := by decide +kernel
theorem dX0_change_38 : decode cX0_change 38 = .ok (.iload_n 3, 1) := by decide +kernel
theorem dX0_change_39 : decode cX0_change 39 = .ok (.ireturn, 1) := by decide +kernel
theorem dX0_drive_0 : decode cX0_drive 0 = .ok (.iload_n 1, 1) := by decide +kernel
theorem dX0_drive_1 : decode cX0_drive 1 = .ok (.iconst 1, 1) := by decide +kernel
theorem dX0_drive_2 : decode cX0_drive 2 = .ok (.bipush 99, 2) := by decide +kernel
theorem dX0_drive_4 : decode cX0_drive 4 = .ok (.invokestatic 50, 3) := by decide +kernel
theorem dX0_drive_7 : decode cX0_drive 7 = .ok (.ifCond .ne 5, 3) := by decide +kernel
theorem dX0_drive_10 : decode cX0_drive 10 = .ok (.iconst (-1), 1) := by decide +kernel
theorem dX0_drive_11 : decode cX0_drive 11 = .ok (.ireturn, 1) := by decide +kernel
theorem dX0_drive_12 : decode cX0_drive 12 = .ok (.aload_n 0, 1) := by decide +kernel
theorem dX0_drive_13 : decode cX0_drive 13 = .ok (.getfield 41, 3) := by decide +kernel
theorem dX0_drive_16 : decode cX0_drive 16 = .ok (.iload_n 1, 1) := by decide +kernel
theorem dX0_drive_17 : decode cX0_drive 17 = .ok (.iadd, 1) := by decide +kernel
theorem dX0_drive_18 : decode cX0_drive 18 = .ok (.sipush 9999, 3) := by decide +kernel
theorem dX0_drive_21 : decode cX0_drive 21 = .ok (.if_icmp .le 6, 3) := by decide +kernel
theorem dX0_drive_24 : decode cX0_drive 24 = .ok (.bipush (-3), 2) := by decide +kernel
theorem dX0_drive_26 : decode cX0_drive 26 = .ok (.ireturn, 1) := by decide +kernel
theorem dX0_drive_27 : decode cX0_drive 27 = .ok (.aload_n 0, 1) := by decide +kernel
theorem dX0_drive_28 : decode cX0_drive 28 = .ok (.dup, 1) := by decide +kernel
theorem dX0_drive_29 : decode cX0_drive 29 = .ok (.getfield 41, 3) := by decide +kernel
theorem dX0_drive_32 : decode cX0_drive 32 = .ok (.iload_n 1, 1) := by decide +kernel
theorem dX0_drive_33 : decode cX0_drive 33 = .ok (.iadd, 1) := by decide +kernel
theorem dX0_drive_34 : decode cX0_drive 34 = .ok (.putfield 41, 3) := by decide +kernel
theorem dX0_drive_37 : decode cX0_drive 37 = .ok (.aload_n 0, 1) := by decide +kernel
theorem dX0_drive_38 : decode cX0_drive 38 = .ok (.invokevirtual 84, 3) := by decide +kernel
theorem dX0_drive_41 : decode cX0_drive 41 = .ok (.iconst 0, 1) := by decide +kernel
theorem dX0_drive_42 : decode cX0_drive 42 = .ok (.ireturn, 1) := by decide +kernel
theorem dX0_endDrive_0 : decode cX0_endDrive 0 = .ok (.iconst 0, 1) := by decide +kernel
theorem dX0_endDrive_1 : decode cX0_endDrive 1 = .ok (.istore_n 1, 1) := by decide +kernel
theorem dX0_endDrive_2 : decode cX0_endDrive 2 = .ok (.iload_n 1, 1) := by decide +kernel
theorem dX0_endDrive_3 : decode cX0_endDrive 3 = .ok (.aload_n 0, 1) := by decide +kernel
theorem dX0_endDrive_4 : decode cX0_endDrive 4 = .ok (.getfield 37, 3) := by decide +kernel
theorem dX0_endDrive_7 : decode cX0_endDrive 7 = .ok (.if_icmp .ge 70, 3) := by decide +kernel
theorem dX0_endDrive_10 : decode cX0_endDrive 10 = .ok (.aload_n 0, 1) := by decide +kernel
theorem dX0_endDrive_11 : decode cX0_endDrive 11 = .ok (.getfield 28, 3) := by decide +kernel
theorem dX0_endDrive_14 : decode cX0_endDrive 14 = .ok (.iload_n 1, 1) := by decide +kernel
theorem dX0_endDrive_15 : decode cX0_endDrive 15 = .ok (.iaload, 1) := by decide +kernel
theorem dX0_endDrive_16 : decode cX0_endDrive 16 = .ok (.iconst 1, 1) := by decide +kernel
theorem dX0_endDrive_17 : decode cX0_endDrive 17 = .ok (.if_icmp .ne 13, 3) := by decide +kernel
theorem dX0_endDrive_20 : decode cX0_endDrive 20 = .ok (.aload_n 0, 1) := by decide +kernel
theorem dX0_endDrive_21 : decode cX0_endDrive 21 = .ok (.getfield 28, 3) := by decide +kernel
theorem dX0_endDrive_24 : decode cX0_endDrive 24 = .ok (.iload_n 1, 1) := by decide +kernel
theorem dX0_endDrive_25 : decode cX0_endDrive 25 = .ok (.iconst 0, 1) := by decide +kernel
theorem dX0_endDrive_26 : decode cX0_endDrive 26 = .ok (.iastore, 1) := by decide +kernel
theorem dX0_endDrive_27 : decode cX0_endDrive 27 = .ok (.goto 44, 3) := by decide +kernel
theorem dX0_endDrive_30 : decode cX0_endDrive 30 = .ok (.aload_n 0, 1) := by decide +kernel
theorem dX0_endDrive_31 : decode cX0_endDrive 31 = .ok (.getfield 28, 3) := by decide +kernel
theorem dX0_endDrive_34 : decode cX0_endDrive 34 = .ok (.iload_n 1, 1) := by decide +kernel
theorem dX0_endDrive_35 : decode cX0_endDrive 35 = .ok (.iaload, 1) := by decide +kernel
theorem dX0_endDrive_36 : decode cX0_endDrive 36 = .ok (.iconst 2, 1) := by decide +kernel
theorem dX0_endDrive_37 : decode cX0_endDrive 37 = .ok (.if_icmp .ne 34, 3) := by decide +kernel
theorem dX0_endDrive_40 : decode cX0_endDrive 40 = .ok (.aload_n 0, 1) := by decide +kernel
theorem dX0_endDrive_41 : decode cX0_endDrive 41 = .ok (.getfield 31, 3) := by decide +kernel
theorem dX0_endDrive_44 : decode cX0_endDrive 44 = .ok (.iload_n 1, 1) := by decide +kernel
theorem dX0_endDrive_45 : decode cX0_endDrive 45 = .ok (.dup2, 1) := by decide +kernel
theorem dX0_endDrive_46 : decode cX0_endDrive 46 = .ok (.iaload, 1) := by decide +kernel
theorem dX0_endDrive_47 : decode cX0_endDrive 47 = .ok (.iconst 1, 1) := by decide +kernel
theorem dX0_endDrive_48 : decode cX0_endDrive 48 = .ok (.iadd, 1) := by decide +kernel
theorem dX0_endDrive_49 : decode cX0_endDrive 49 = .ok (.iastore, 1) := by decide +kernel
theorem dX0_endDrive_50 : decode cX0_endDrive 50 = .ok (.aload_n 0, 1) := by decide +kernel
theorem dX0_endDrive_51 : decode cX0_endDrive 51 = .ok (.getfield 28, 3) := by decide +kernel
theorem dX0_endDrive_54 : decode cX0_endDrive 54 = .ok (.iload_n 1, 1) := by decide +kernel
theorem dX0_endDrive_55 : decode cX0_endDrive 55 = .ok (.aload_n 0, 1) := by decide +kernel
theorem dX0_endDrive_56 : decode cX0_endDrive 56 = .ok (.getfield 31, 3) := by decide +kernel
theorem dX0_endDrive_59 : decode cX0_endDrive 59 = .ok (.iload_n 1, 1) := by decide +kernel
theorem dX0_endDrive_60 : decode cX0_endDrive 60 = .ok (.iaload, 1) := by decide +kernel
theorem dX0_endDrive_61 : decode cX0_endDrive 61 = .ok (.iconst 2, 1) := by decide +kernel
theorem dX0_endDrive_62 : decode cX0_endDrive 62 = .ok (.if_icmp .lt 7, 3) := by decide +kernel
theorem dX0_endDrive_65 : decode cX0_endDrive 65 = .ok (.iconst 0, 1) := by decide +kernel
theorem dX0_endDrive_66 : decode cX0_endDrive 66 = .ok (.goto 4, 3) := by decide +kernel
theorem dX0_endDrive_69 : decode cX0_endDrive 69 = .ok (.iconst 2, 1) := by decide +kernel
theorem dX0_endDrive_70 : decode cX0_endDrive 70 = .ok (.iastore, 1) := by decide +kernel
theorem dX0_endDrive_71 : decode cX0_endDrive 71 = .ok (.iinc 1 1, 3) := by decide +kernel
theorem dX0_endDrive_74 : decode cX0_endDrive 74 = .ok (.goto (-72), 3) := by decide +kernel
theorem dX0_endDrive_77 : decode cX0_endDrive 77 = .ok (.return_, 1) := by decide +kernel
theorem dX0_takeStates_0 : decode cX0_takeStates 0 = .ok (.iconst 0, 1) := by decide +kernel
theorem dX0_takeStates_1 : decode cX0_takeStates 1 = .ok (.istore_n 2, 1) := by decide +kernel
theorem dX0_takeStates_2 : decode cX0_takeStates 2 = .ok (.iload_n 2, 1) := by decide +kernel
theorem dX0_takeStates_3 : decode cX0_takeStates 3 = .ok (.aload_n 0, 1) := by decide +kernel
theorem dX0_takeStates_4 : decode cX0_takeStates 4 = .ok (.getfield 37, 3) := by decide +kernel
theorem dX0_takeStates_7 : decode cX0_takeStates 7 = .ok (.if_icmp .ge 37, 3) := by decide +kernel
theorem dX0_takeStates_10 : decode cX0_takeStates 10 = .ok (.iload_n 2, 1) := by decide +kernel
theorem dX0_takeStates_11 : decode cX0_takeStates 11 = .ok (.aload_n 1, 1) := by decide +kernel
theorem dX0_takeStates_12 : decode cX0_takeStates 12 = .ok (.getfield 87, 3) := by decide +kernel
theorem dX0_takeStates_15 : decode cX0_takeStates 15 = .ok (.if_icmp .ge 29, 3) := by decide +kernel
theorem dX0_takeStates_18 : decode cX0_takeStates 18 = .ok (.aload_n 1, 1) := by decide +kernel
theorem dX0_takeStates_19 : decode cX0_takeStates 19 = .ok (.iload_n 2, 1) := by decide +kernel
theorem dX0_takeStates_20 : decode cX0_takeStates 20 = .ok (.invokevirtual 92, 3) := by decide +kernel
theorem dX0_takeStates_23 : decode cX0_takeStates 23 = .ok (.ifCond .ne 15, 3) := by decide +kernel
theorem dX0_takeStates_26 : decode cX0_takeStates 26 = .ok (.aload_n 0, 1) := by decide +kernel
theorem dX0_takeStates_27 : decode cX0_takeStates 27 = .ok (.getfield 28, 3) := by decide +kernel
theorem dX0_takeStates_30 : decode cX0_takeStates 30 = .ok (.iload_n 2, 1) := by decide +kernel
theorem dX0_takeStates_31 : decode cX0_takeStates 31 = .ok (.aload_n 1, 1) := by decide +kernel
theorem dX0_takeStates_32 : decode cX0_takeStates 32 = .ok (.getfield 95, 3) := by decide +kernel
theorem dX0_takeStates_35 : decode cX0_takeStates 35 = .ok (.iload_n 2, 1) := by decide +kernel
theorem dX0_takeStates_36 : decode cX0_takeStates 36 = .ok (.iaload, 1) := by decide +kernel
theorem dX0_takeStates_37 : decode cX0_takeStates 37 = .ok (.iastore, 1) := by decide +kernel
theorem dX0_takeStates_38 : decode cX0_takeStates 38 = .ok (.iinc 2 1, 3) := by decide +kernel
theorem dX0_takeStates_41 : decode cX0_takeStates 41 = .ok (.goto (-39), 3) := by decide +kernel
theorem dX0_takeStates_44 : decode cX0_takeStates 44 = .ok (.return_, 1) := by decide +kernel
theorem dX0_kindOf_0 : decode cX0_kindOf 0 = .ok (.aload_n 0, 1) := by decide +kernel
theorem dX0_kindOf_1 : decode cX0_kindOf 1 = .ok (.getfield 9, 3) := by decide +kernel
theorem dX0_kindOf_4 : decode cX0_kindOf 4 = .ok (.aload_n 0, 1) := by decide +kernel
theorem dX0_kindOf_5 : decode cX0_kindOf 5 = .ok (.iload_n 1, 1) := by decide +kernel
theorem dX0_kindOf_6 : decode cX0_kindOf 6 = .ok (.invokevirtual 58, 3) := by decide +kernel
theorem dX0_kindOf_9 : decode cX0_kindOf 9 = .ok (.ifCond .eq 12, 3) := by decide +kernel
theorem dX0_kindOf_12 : decode cX0_kindOf 12 = .ok (.aload_n 0, 1) := by decide +kernel
theorem dX0_kindOf_13 : decode cX0_kindOf 13 = .ok (.getfield 15, 3) := by decide +kernel
theorem dX0_kindOf_16 : decode cX0_kindOf 16 = .ok (.iload_n 1, 1) := by decide +kernel
theorem dX0_kindOf_17 : decode cX0_kindOf 17 = .ok (.iaload, 1) := by decide +kernel
theorem dX0_kindOf_18 : decode cX0_kindOf 18 = .ok (.goto 4, 3) := by decide +kernel
theorem dX0_kindOf_21 : decode cX0_kindOf 21 = .ok (.iconst 0, 1) := by decide +kernel
theorem dX0_kindOf_22 : decode cX0_kindOf 22 = .ok (.aaload, 1) := by decide +kernel
theorem dX0_kindOf_23 : decode cX0_kindOf 23 = .ok (.areturn, 1) := by decide +kernel
theorem dX0_loudNow_0 : decode cX0_loudNow 0 = .ok (.aload_n 0, 1) := by decide +kernel
theorem dX0_loudNow_1 : decode cX0_loudNow 1 = .ok (.iload_n 1, 1) := by decide +kernel
theorem dX0_loudNow_2 : decode cX0_loudNow 2 = .ok (.invokevirtual 58, 3) := by decide +kernel
theorem dX0_loudNow_5 : decode cX0_loudNow 5 = .ok (.ifCond .eq 38, 3) := by decide +kernel
theorem dX0_loudNow_8 : decode cX0_loudNow 8 = .ok (.aload_n 0, 1) := by decide +kernel
theorem dX0_loudNow_9 : decode cX0_loudNow 9 = .ok (.iload_n 1, 1) := by decide +kernel
theorem dX0_loudNow_10 : decode cX0_loudNow 10 = .ok (.invokevirtual 61, 3) := by decide +kernel
theorem dX0_loudNow_13 : decode cX0_loudNow 13 = .ok (.aload_n 0, 1) := by decide +kernel
theorem dX0_loudNow_14 : decode cX0_loudNow 14 = .ok (.getfield 19, 3) := by decide +kernel
theorem dX0_loudNow_17 : decode cX0_loudNow 17 = .ok (.iload_n 1, 1) := by decide +kernel
theorem dX0_loudNow_18 : decode cX0_loudNow 18 = .ok (.iaload, 1) := by decide +kernel
theorem dX0_loudNow_19 : decode cX0_loudNow 19 = .ok (.aload_n 0, 1) := by decide +kernel
theorem dX0_loudNow_20 : decode cX0_loudNow 20 = .ok (.getfield 34, 3) := by decide +kernel
theorem dX0_loudNow_23 : decode cX0_loudNow 23 = .ok (.iconst 0, 1) := by decide +kernel
theorem dX0_loudNow_24 : decode cX0_loudNow 24 = .ok (.iaload, 1) := by decide +kernel
theorem dX0_loudNow_25 : decode cX0_loudNow 25 = .ok (.aload_n 0, 1) := by decide +kernel
theorem dX0_loudNow_26 : decode cX0_loudNow 26 = .ok (.getfield 34, 3) := by decide +kernel
theorem dX0_loudNow_29 : decode cX0_loudNow 29 = .ok (.iconst 1, 1) := by decide +kernel
theorem dX0_loudNow_30 : decode cX0_loudNow 30 = .ok (.iaload, 1) := by decide +kernel
theorem dX0_loudNow_31 : decode cX0_loudNow 31 = .ok (.aload_n 0, 1) := by decide +kernel
theorem dX0_loudNow_32 : decode cX0_loudNow 32 = .ok (.getfield 34, 3) := by decide +kernel
theorem dX0_loudNow_35 : decode cX0_loudNow 35 = .ok (.iconst 2, 1) := by decide +kernel
theorem dX0_loudNow_36 : decode cX0_loudNow 36 = .ok (.iaload, 1) := by decide +kernel
theorem dX0_loudNow_37 : decode cX0_loudNow 37 = .ok (.invokevirtual 98, 3) := by decide +kernel
theorem dX0_loudNow_40 : decode cX0_loudNow 40 = .ok (.goto 4, 3) := by decide +kernel
theorem dX0_loudNow_43 : decode cX0_loudNow 43 = .ok (.iconst 0, 1) := by decide +kernel
theorem dX0_loudNow_44 : decode cX0_loudNow 44 = .ok (.ireturn, 1) := by decide +kernel
theorem dX0_seconds_0 : decode cX0_seconds 0 = .ok (.aload_n 0, 1) := by decide +kernel
theorem dX0_seconds_1 : decode cX0_seconds 1 = .ok (.iload_n 1, 1) := by decide +kernel
theorem dX0_seconds_2 : decode cX0_seconds 2 = .ok (.invokevirtual 58, 3) := by decide +kernel
theorem dX0_seconds_5 : decode cX0_seconds 5 = .ok (.ifCond .eq 20, 3) := by decide +kernel
theorem dX0_seconds_8 : decode cX0_seconds 8 = .ok (.aload_n 0, 1) := by decide +kernel
theorem dX0_seconds_9 : decode cX0_seconds 9 = .ok (.iload_n 1, 1) := by decide +kernel
theorem dX0_seconds_10 : decode cX0_seconds 10 = .ok (.invokevirtual 61, 3) := by decide +kernel
theorem dX0_seconds_13 : decode cX0_seconds 13 = .ok (.aload_n 0, 1) := by decide +kernel
theorem dX0_seconds_14 : decode cX0_seconds 14 = .ok (.getfield 19, 3) := by decide +kernel
theorem dX0_seconds_17 : decode cX0_seconds 17 = .ok (.iload_n 1, 1) := by decide +kernel
theorem dX0_seconds_18 : decode cX0_seconds 18 = .ok (.iaload, 1) := by decide +kernel
theorem dX0_seconds_19 : decode cX0_seconds 19 = .ok (.invokevirtual 65, 3) := by decide +kernel
theorem dX0_seconds_22 : decode cX0_seconds 22 = .ok (.goto 4, 3) := by decide +kernel
theorem dX0_seconds_25 : decode cX0_seconds 25 = .ok (.iconst 0, 1) := by decide +kernel
theorem dX0_seconds_26 : decode cX0_seconds 26 = .ok (.ireturn, 1) := by decide +kernel
theorem dX0_loosening_0 : decode cX0_loosening 0 = .ok (.aload_n 0, 1) := by decide +kernel
theorem dX0_loosening_1 : decode cX0_loosening 1 = .ok (.iload_n 1, 1) := by decide +kernel
theorem dX0_loosening_2 : decode cX0_loosening 2 = .ok (.invokevirtual 61, 3) := by decide +kernel
theorem dX0_loosening_5 : decode cX0_loosening 5 = .ok (.invokevirtual 71, 3) := by decide +kernel
theorem dX0_loosening_8 : decode cX0_loosening 8 = .ok (.ireturn, 1) := by decide +kernel
theorem dX0_soundThere_0 : decode cX0_soundThere 0 = .ok (.aload_n 0, 1) := by decide +kernel
theorem dX0_soundThere_1 : decode cX0_soundThere 1 = .ok (.iload_n 1, 1) := by decide +kernel
theorem dX0_soundThere_2 : decode cX0_soundThere 2 = .ok (.invokevirtual 58, 3) := by decide +kernel
theorem dX0_soundThere_5 : decode cX0_soundThere 5 = .ok (.ifCond .eq 12, 3) := by decide +kernel
theorem dX0_soundThere_8 : decode cX0_soundThere 8 = .ok (.aload_n 0, 1) := by decide +kernel
theorem dX0_soundThere_9 : decode cX0_soundThere 9 = .ok (.getfield 28, 3) := by decide +kernel
theorem dX0_soundThere_12 : decode cX0_soundThere 12 = .ok (.iload_n 1, 1) := by decide +kernel
theorem dX0_soundThere_13 : decode cX0_soundThere 13 = .ok (.iaload, 1) := by decide +kernel
theorem dX0_soundThere_14 : decode cX0_soundThere 14 = .ok (.ifCond .eq 5, 3) := by decide +kernel
theorem dX0_soundThere_17 : decode cX0_soundThere 17 = .ok (.iconst 0, 1) := by decide +kernel
theorem dX0_soundThere_18 : decode cX0_soundThere 18 = .ok (.ireturn, 1) := by decide +kernel
theorem dX0_soundThere_19 : decode cX0_soundThere 19 = .ok (.aload_n 0, 1) := by decide +kernel
theorem dX0_soundThere_20 : decode cX0_soundThere 20 = .ok (.iload_n 1, 1) := by decide +kernel
theorem dX0_soundThere_21 : decode cX0_soundThere 21 = .ok (.invokevirtual 61, 3) := by decide +kernel
theorem dX0_soundThere_24 : decode cX0_soundThere 24 = .ok (.aload_n 0, 1) := by decide +kernel
theorem dX0_soundThere_25 : decode cX0_soundThere 25 = .ok (.getfield 19, 3) := by decide +kernel
theorem dX0_soundThere_28 : decode cX0_soundThere 28 = .ok (.iload_n 1, 1) := by decide +kernel
theorem dX0_soundThere_29 : decode cX0_soundThere 29 = .ok (.iaload, 1) := by decide +kernel
theorem dX0_soundThere_30 : decode cX0_soundThere 30 = .ok (.iload_n 3, 1) := by decide +kernel
theorem dX0_soundThere_31 : decode cX0_soundThere 31 = .ok (.aload_n 0, 1) := by decide +kernel
theorem dX0_soundThere_32 : decode cX0_soundThere 32 = .ok (.getfield 34, 3) := by decide +kernel
theorem dX0_soundThere_35 : decode cX0_soundThere 35 = .ok (.iconst 1, 1) := by decide +kernel
theorem dX0_soundThere_36 : decode cX0_soundThere 36 = .ok (.iaload, 1) := by decide +kernel
theorem dX0_soundThere_37 : decode cX0_soundThere 37 = .ok (.aload_n 0, 1) := by decide +kernel
theorem dX0_soundThere_38 : decode cX0_soundThere 38 = .ok (.getfield 34, 3) := by decide +kernel
theorem dX0_soundThere_41 : decode cX0_soundThere 41 = .ok (.iconst 2, 1) := by decide +kernel
theorem dX0_soundThere_42 : decode cX0_soundThere 42 = .ok (.iaload, 1) := by decide +kernel
theorem dX0_soundThere_43 : decode cX0_soundThere 43 = .ok (.invokevirtual 98, 3) := by decide +kernel
theorem dX0_soundThere_46 : decode cX0_soundThere 46 = .ok (.istore 4, 2) := by decide +kernel
theorem dX0_soundThere_48 : decode cX0_soundThere 48 = .ok (.iconst 0, 1) := by decide +kernel
theorem dX0_soundThere_49 : decode cX0_soundThere 49 = .ok (.iload 4, 2) := by decide +kernel
theorem dX0_soundThere_51 : decode cX0_soundThere 51 = .ok (.iload_n 2, 1) := by decide +kernel
theorem dX0_soundThere_52 : decode cX0_soundThere 52 = .ok (.aload_n 0, 1) := by decide +kernel
theorem dX0_soundThere_53 : decode cX0_soundThere 53 = .ok (.getfield 22, 3) := by decide +kernel
theorem dX0_soundThere_56 : decode cX0_soundThere 56 = .ok (.iload_n 1, 1) := by decide +kernel
theorem dX0_soundThere_57 : decode cX0_soundThere 57 = .ok (.iaload, 1) := by decide +kernel
theorem dX0_soundThere_58 : decode cX0_soundThere 58 = .ok (.isub, 1) := by decide +kernel
theorem dX0_soundThere_59 : decode cX0_soundThere 59 = .ok (.invokestatic 102, 3) := by decide +kernel
theorem dX0_soundThere_62 : decode cX0_soundThere 62 = .ok (.isub, 1) := by decide +kernel
theorem dX0_soundThere_63 : decode cX0_soundThere 63 = .ok (.invokestatic 105, 3) := by decide +kernel
theorem dX0_soundThere_66 : decode cX0_soundThere 66 = .ok (.ireturn, 1) := by decide +kernel
theorem dX0_soundOfAllBut_0 : decode cX0_soundOfAllBut 0 = .ok (.iconst 0, 1) := by decide +kernel
theorem dX0_soundOfAllBut_1 : decode cX0_soundOfAllBut 1 = .ok (.istore 4, 2) := by decide +kernel
theorem dX0_soundOfAllBut_3 : decode cX0_soundOfAllBut 3 = .ok (.iconst 0, 1) := by decide +kernel
theorem dX0_soundOfAllBut_4 : decode cX0_soundOfAllBut 4 = .ok (.istore 5, 2) := by decide +kernel
theorem dX0_soundOfAllBut_6 : decode cX0_soundOfAllBut 6 = .ok (.iload 5, 2) := by decide +kernel
theorem dX0_soundOfAllBut_8 : decode cX0_soundOfAllBut 8 = .ok (.aload_n 0, 1) := by decide +kernel
theorem dX0_soundOfAllBut_9 : decode cX0_soundOfAllBut 9 = .ok (.getfield 37, 3) := by decide +kernel
theorem dX0_soundOfAllBut_12 : decode cX0_soundOfAllBut 12 = .ok (.if_icmp .ge 31, 3) := by decide +kernel
theorem dX0_soundOfAllBut_15 : decode cX0_soundOfAllBut 15 = .ok (.iload_n 1, 1) := by decide +kernel
theorem dX0_soundOfAllBut_16 : decode cX0_soundOfAllBut 16 = .ok (.iload 5, 2) := by decide +kernel
theorem dX0_soundOfAllBut_18 : decode cX0_soundOfAllBut 18 = .ok (.ishr, 1) := by decide +kernel
theorem dX0_soundOfAllBut_19 : decode cX0_soundOfAllBut 19 = .ok (.iconst 1, 1) := by decide +kernel
theorem dX0_soundOfAllBut_20 : decode cX0_soundOfAllBut 20 = .ok (.iand, 1) := by decide +kernel
theorem dX0_soundOfAllBut_21 : decode cX0_soundOfAllBut 21 = .ok (.ifCond .ne 16, 3) := by decide +kernel
theorem dX0_soundOfAllBut_24 : decode cX0_soundOfAllBut 24 = .ok (.iload 4, 2) := by decide +kernel
theorem dX0_soundOfAllBut_26 : decode cX0_soundOfAllBut 26 = .ok (.aload_n 0, 1) := by decide +kernel
theorem dX0_soundOfAllBut_27 : decode cX0_soundOfAllBut 27 = .ok (.iload 5, 2) := by decide +kernel
theorem dX0_soundOfAllBut_29 : decode cX0_soundOfAllBut 29 = .ok (.iload_n 2, 1) := by decide +kernel
theorem dX0_soundOfAllBut_30 : decode cX0_soundOfAllBut 30 = .ok (.iload_n 3, 1) := by decide +kernel
theorem dX0_soundOfAllBut_31 : decode cX0_soundOfAllBut 31 = .ok (.invokevirtual 108, 3) := by decide +kernel
theorem dX0_soundOfAllBut_34 : decode cX0_soundOfAllBut 34 = .ok (.iadd, 1) := by decide +kernel
theorem dX0_soundOfAllBut_35 : decode cX0_soundOfAllBut 35 = .ok (.istore 4, 2) := by decide +kernel
theorem dX0_soundOfAllBut_37 : decode cX0_soundOfAllBut 37 = .ok (.iinc 5 1, 3) := by decide +kernel
theorem dX0_soundOfAllBut_40 : decode cX0_soundOfAllBut 40 = .ok (.goto (-34), 3) := by decide +kernel
theorem dX0_soundOfAllBut_43 : decode cX0_soundOfAllBut 43 = .ok (.iload 4, 2) := by decide +kernel
theorem dX0_soundOfAllBut_45 : decode cX0_soundOfAllBut 45 = .ok (.ireturn, 1) := by decide +kernel
theorem dX0_heardAt_0 : decode cX0_heardAt 0 = .ok (.iconst 0, 1) := by decide +kernel
theorem dX0_heardAt_1 : decode cX0_heardAt 1 = .ok (.aload_n 0, 1) := by decide +kernel
theorem dX0_heardAt_2 : decode cX0_heardAt 2 = .ok (.iconst 0, 1) := by decide +kernel
theorem dX0_heardAt_3 : decode cX0_heardAt 3 = .ok (.iload_n 1, 1) := by decide +kernel
theorem dX0_heardAt_4 : decode cX0_heardAt 4 = .ok (.iload_n 2, 1) := by decide +kernel
theorem dX0_heardAt_5 : decode cX0_heardAt 5 = .ok (.invokevirtual 112, 3) := by decide +kernel
theorem dX0_heardAt_8 : decode cX0_heardAt 8 = .ok (.aload_n 0, 1) := by decide +kernel
theorem dX0_heardAt_9 : decode cX0_heardAt 9 = .ok (.getfield 34, 3) := by decide +kernel
theorem dX0_heardAt_12 : decode cX0_heardAt 12 = .ok (.iconst 3, 1) := by decide +kernel
theorem dX0_heardAt_13 : decode cX0_heardAt 13 = .ok (.iaload, 1) := by decide +kernel
theorem dX0_heardAt_14 : decode cX0_heardAt 14 = .ok (.isub, 1) := by decide +kernel
theorem dX0_heardAt_15 : decode cX0_heardAt 15 = .ok (.invokestatic 105, 3) := by decide +kernel
theorem dX0_heardAt_18 : decode cX0_heardAt 18 = .ok (.ireturn, 1) := by decide +kernel
theorem dX0_heardNow_0 : decode cX0_heardNow 0 = .ok (.iconst 0, 1) := by decide +kernel
theorem dX0_heardNow_1 : decode cX0_heardNow 1 = .ok (.aload_n 0, 1) := by decide +kernel
theorem dX0_heardNow_2 : decode cX0_heardNow 2 = .ok (.iconst 0, 1) := by decide +kernel
theorem dX0_heardNow_3 : decode cX0_heardNow 3 = .ok (.iload_n 1, 1) := by decide +kernel
theorem dX0_heardNow_4 : decode cX0_heardNow 4 = .ok (.aload_n 0, 1) := by decide +kernel
theorem dX0_heardNow_5 : decode cX0_heardNow 5 = .ok (.getfield 34, 3) := by decide +kernel
theorem dX0_heardNow_8 : decode cX0_heardNow 8 = .ok (.iconst 0, 1) := by decide +kernel
theorem dX0_heardNow_9 : decode cX0_heardNow 9 = .ok (.iaload, 1) := by decide +kernel
theorem dX0_heardNow_10 : decode cX0_heardNow 10 = .ok (.invokevirtual 112, 3) := by decide +kernel
theorem dX0_heardNow_13 : decode cX0_heardNow 13 = .ok (.aload_n 0, 1) := by decide +kernel
theorem dX0_heardNow_14 : decode cX0_heardNow 14 = .ok (.getfield 34, 3) := by decide +kernel
theorem dX0_heardNow_17 : decode cX0_heardNow 17 = .ok (.iconst 3, 1) := by decide +kernel
theorem dX0_heardNow_18 : decode cX0_heardNow 18 = .ok (.iaload, 1) := by decide +kernel
theorem dX0_heardNow_19 : decode cX0_heardNow 19 = .ok (.isub, 1) := by decide +kernel
theorem dX0_heardNow_20 : decode cX0_heardNow 20 = .ok (.invokestatic 105, 3) := by decide +kernel
theorem dX0_heardNow_23 : decode cX0_heardNow 23 = .ok (.ireturn, 1) := by decide +kernel
theorem dX0_loudestAt_0 : decode cX0_loudestAt 0 = .ok (.bipush (-4), 2) := by decide +kernel
theorem dX0_loudestAt_2 : decode cX0_loudestAt 2 = .ok (.istore_n 2, 1) := by decide +kernel
theorem dX0_loudestAt_3 : decode cX0_loudestAt 3 = .ok (.iconst 0, 1) := by decide +kernel
theorem dX0_loudestAt_4 : decode cX0_loudestAt 4 = .ok (.istore_n 3, 1) := by decide +kernel
theorem dX0_loudestAt_5 : decode cX0_loudestAt 5 = .ok (.iconst 0, 1) := by decide +kernel
theorem dX0_loudestAt_6 : decode cX0_loudestAt 6 = .ok (.istore 4, 2) := by decide +kernel
theorem dX0_loudestAt_8 : decode cX0_loudestAt 8 = .ok (.iload 4, 2) := by decide +kernel
theorem dX0_loudestAt_10 : decode cX0_loudestAt 10 = .ok (.aload_n 0, 1) := by decide +kernel
theorem dX0_loudestAt_11 : decode cX0_loudestAt 11 = .ok (.getfield 37, 3) := by decide +kernel
theorem dX0_loudestAt_14 : decode cX0_loudestAt 14 = .ok (.if_icmp .ge 36, 3) := by decide +kernel
theorem dX0_loudestAt_17 : decode cX0_loudestAt 17 = .ok (.aload_n 0, 1) := by decide +kernel
theorem dX0_loudestAt_18 : decode cX0_loudestAt 18 = .ok (.iload 4, 2) := by decide +kernel
theorem dX0_loudestAt_20 : decode cX0_loudestAt 20 = .ok (.iload_n 1, 1) := by decide +kernel
theorem dX0_loudestAt_21 : decode cX0_loudestAt 21 = .ok (.aload_n 0, 1) := by decide +kernel
theorem dX0_loudestAt_22 : decode cX0_loudestAt 22 = .ok (.getfield 34, 3) := by decide +kernel
theorem dX0_loudestAt_25 : decode cX0_loudestAt 25 = .ok (.iconst 0, 1) := by decide +kernel
theorem dX0_loudestAt_26 : decode cX0_loudestAt 26 = .ok (.iaload, 1) := by decide +kernel
theorem dX0_loudestAt_27 : decode cX0_loudestAt 27 = .ok (.invokevirtual 108, 3) := by decide +kernel
theorem dX0_loudestAt_30 : decode cX0_loudestAt 30 = .ok (.istore 5, 2) := by decide +kernel
theorem dX0_loudestAt_32 : decode cX0_loudestAt 32 = .ok (.iload 5, 2) := by decide +kernel
theorem dX0_loudestAt_34 : decode cX0_loudestAt 34 = .ok (.iload_n 3, 1) := by decide +kernel
theorem dX0_loudestAt_35 : decode cX0_loudestAt 35 = .ok (.if_icmp .le 9, 3) := by decide +kernel
theorem dX0_loudestAt_38 : decode cX0_loudestAt 38 = .ok (.iload 5, 2) := by decide +kernel
theorem dX0_loudestAt_40 : decode cX0_loudestAt 40 = .ok (.istore_n 3, 1) := by decide +kernel
theorem dX0_loudestAt_41 : decode cX0_loudestAt 41 = .ok (.iload 4, 2) := by decide +kernel
theorem dX0_loudestAt_43 : decode cX0_loudestAt 43 = .ok (.istore_n 2, 1) := by decide +kernel
theorem dX0_loudestAt_44 : decode cX0_loudestAt 44 = .ok (.iinc 4 1, 3) := by decide +kernel
theorem dX0_loudestAt_47 : decode cX0_loudestAt 47 = .ok (.goto (-39), 3) := by decide +kernel
theorem dX0_loudestAt_50 : decode cX0_loudestAt 50 = .ok (.iload_n 2, 1) := by decide +kernel
theorem dX0_loudestAt_51 : decode cX0_loudestAt 51 = .ok (.ireturn, 1) := by decide +kernel
theorem dX0_fewestToHold_0 : decode cX0_fewestToHold 0 = .ok (.aload_n 0, 1) := by decide +kernel
theorem dX0_fewestToHold_1 : decode cX0_fewestToHold 1 = .ok (.invokevirtual 115, 3) := by decide +kernel
theorem dX0_fewestToHold_4 : decode cX0_fewestToHold 4 = .ok (.istore_n 1, 1) := by decide +kernel
theorem dX0_fewestToHold_5 : decode cX0_fewestToHold 5 = .ok (.iload_n 1, 1) := by decide +kernel
theorem dX0_fewestToHold_6 : decode cX0_fewestToHold 6 = .ok (.istore_n 2, 1) := by decide +kernel
theorem dX0_fewestToHold_7 : decode cX0_fewestToHold 7 = .ok (.iconst 0, 1) := by decide +kernel
theorem dX0_fewestToHold_8 : decode cX0_fewestToHold 8 = .ok (.istore_n 3, 1) := by decide +kernel
theorem dX0_fewestToHold_9 : decode cX0_fewestToHold 9 = .ok (.iload_n 3, 1) := by decide +kernel
theorem dX0_fewestToHold_10 : decode cX0_fewestToHold 10 = .ok (.iconst 1, 1) := by decide +kernel
theorem dX0_fewestToHold_11 : decode cX0_fewestToHold 11 = .ok (.aload_n 0, 1) := by decide +kernel
theorem dX0_fewestToHold_12 : decode cX0_fewestToHold 12 = .ok (.getfield 37, 3) := by decide +kernel
theorem dX0_fewestToHold_15 : decode cX0_fewestToHold 15 = .ok (.ishl, 1) := by decide +kernel
theorem dX0_fewestToHold_16 : decode cX0_fewestToHold 16 = .ok (.if_icmp .ge 51, 3) := by decide +kernel
theorem dX0_fewestToHold_19 : decode cX0_fewestToHold 19 = .ok (.iload_n 3, 1) := by decide +kernel
theorem dX0_fewestToHold_20 : decode cX0_fewestToHold 20 = .ok (.iload_n 1, 1) := by decide +kernel
theorem dX0_fewestToHold_21 : decode cX0_fewestToHold 21 = .ok (.iconst (-1), 1) := by decide +kernel
theorem dX0_fewestToHold_22 : decode cX0_fewestToHold 22 = .ok (.ixor, 1) := by decide +kernel
theorem dX0_fewestToHold_23 : decode cX0_fewestToHold 23 = .ok (.iand, 1) := by decide +kernel
theorem dX0_fewestToHold_24 : decode cX0_fewestToHold 24 = .ok (.ifCond .ne 37, 3) := by decide +kernel
theorem dX0_fewestToHold_27 : decode cX0_fewestToHold 27 = .ok (.iload_n 3, 1) := by decide +kernel
theorem dX0_fewestToHold_28 : decode cX0_fewestToHold 28 = .ok (.invokestatic 118, 3) := by decide +kernel
theorem dX0_fewestToHold_31 : decode cX0_fewestToHold 31 = .ok (.iload_n 2, 1) := by decide +kernel
theorem dX0_fewestToHold_32 : decode cX0_fewestToHold 32 = .ok (.invokestatic 118, 3) := by decide +kernel
theorem dX0_fewestToHold_35 : decode cX0_fewestToHold 35 = .ok (.if_icmp .ge 26, 3) := by decide +kernel
theorem dX0_fewestToHold_38 : decode cX0_fewestToHold 38 = .ok (.aload_n 0, 1) := by decide +kernel
theorem dX0_fewestToHold_39 : decode cX0_fewestToHold 39 = .ok (.iload_n 3, 1) := by decide +kernel
theorem dX0_fewestToHold_40 : decode cX0_fewestToHold 40 = .ok (.iconst 0, 1) := by decide +kernel
theorem dX0_fewestToHold_41 : decode cX0_fewestToHold 41 = .ok (.aload_n 0, 1) := by decide +kernel
theorem dX0_fewestToHold_42 : decode cX0_fewestToHold 42 = .ok (.getfield 34, 3) := by decide +kernel
theorem dX0_fewestToHold_45 : decode cX0_fewestToHold 45 = .ok (.iconst 0, 1) := by decide +kernel
theorem dX0_fewestToHold_46 : decode cX0_fewestToHold 46 = .ok (.iaload, 1) := by decide +kernel
theorem dX0_fewestToHold_47 : decode cX0_fewestToHold 47 = .ok (.invokevirtual 112, 3) := by decide +kernel
theorem dX0_fewestToHold_50 : decode cX0_fewestToHold 50 = .ok (.aload_n 0, 1) := by decide +kernel
theorem dX0_fewestToHold_51 : decode cX0_fewestToHold 51 = .ok (.getfield 34, 3) := by decide +kernel
theorem dX0_fewestToHold_54 : decode cX0_fewestToHold 54 = .ok (.iconst 3, 1) := by decide +kernel
theorem dX0_fewestToHold_55 : decode cX0_fewestToHold 55 = .ok (.iaload, 1) := by decide +kernel
theorem dX0_fewestToHold_56 : decode cX0_fewestToHold 56 = .ok (.if_icmp .gt 5, 3) := by decide +kernel
theorem dX0_fewestToHold_59 : decode cX0_fewestToHold 59 = .ok (.iload_n 3, 1) := by decide +kernel
theorem dX0_fewestToHold_60 : decode cX0_fewestToHold 60 = .ok (.istore_n 2, 1) := by decide +kernel
theorem dX0_fewestToHold_61 : decode cX0_fewestToHold 61 = .ok (.iinc 3 1, 3) := by decide +kernel
theorem dX0_fewestToHold_64 : decode cX0_fewestToHold 64 = .ok (.goto (-55), 3) := by decide +kernel
theorem dX0_fewestToHold_67 : decode cX0_fewestToHold 67 = .ok (.iload_n 2, 1) := by decide +kernel
theorem dX0_fewestToHold_68 : decode cX0_fewestToHold 68 = .ok (.ireturn, 1) := by decide +kernel
theorem dX0_secondsOf_0 : decode cX0_secondsOf 0 = .ok (.iconst 0, 1) := by decide +kernel
theorem dX0_secondsOf_1 : decode cX0_secondsOf 1 = .ok (.istore_n 2, 1) := by decide +kernel
theorem dX0_secondsOf_2 : decode cX0_secondsOf 2 = .ok (.iconst 0, 1) := by decide +kernel
theorem dX0_secondsOf_3 : decode cX0_secondsOf 3 = .ok (.istore_n 3, 1) := by decide +kernel
theorem dX0_secondsOf_4 : decode cX0_secondsOf 4 = .ok (.iload_n 3, 1) := by decide +kernel
theorem dX0_secondsOf_5 : decode cX0_secondsOf 5 = .ok (.aload_n 0, 1) := by decide +kernel
theorem dX0_secondsOf_6 : decode cX0_secondsOf 6 = .ok (.getfield 37, 3) := by decide +kernel
theorem dX0_secondsOf_9 : decode cX0_secondsOf 9 = .ok (.if_icmp .ge 30, 3) := by decide +kernel
theorem dX0_secondsOf_12 : decode cX0_secondsOf 12 = .ok (.iload_n 2, 1) := by decide +kernel
theorem dX0_secondsOf_13 : decode cX0_secondsOf 13 = .ok (.iload_n 1, 1) := by decide +kernel
theorem dX0_secondsOf_14 : decode cX0_secondsOf 14 = .ok (.iload_n 3, 1) := by decide +kernel
theorem dX0_secondsOf_15 : decode cX0_secondsOf 15 = .ok (.ishr, 1) := by decide +kernel
theorem dX0_secondsOf_16 : decode cX0_secondsOf 16 = .ok (.iconst 1, 1) := by decide +kernel
theorem dX0_secondsOf_17 : decode cX0_secondsOf 17 = .ok (.iand, 1) := by decide +kernel
theorem dX0_secondsOf_18 : decode cX0_secondsOf 18 = .ok (.iconst 1, 1) := by decide +kernel
theorem dX0_secondsOf_19 : decode cX0_secondsOf 19 = .ok (.if_icmp .ne 11, 3) := by decide +kernel
theorem dX0_secondsOf_22 : decode cX0_secondsOf 22 = .ok (.aload_n 0, 1) := by decide +kernel
theorem dX0_secondsOf_23 : decode cX0_secondsOf 23 = .ok (.iload_n 3, 1) := by decide +kernel
theorem dX0_secondsOf_24 : decode cX0_secondsOf 24 = .ok (.invokevirtual 123, 3) := by decide +kernel
theorem dX0_secondsOf_27 : decode cX0_secondsOf 27 = .ok (.goto 4, 3) := by decide +kernel
theorem dX0_secondsOf_30 : decode cX0_secondsOf 30 = .ok (.iconst 0, 1) := by decide +kernel
theorem dX0_secondsOf_31 : decode cX0_secondsOf 31 = .ok (.iadd, 1) := by decide +kernel
theorem dX0_secondsOf_32 : decode cX0_secondsOf 32 = .ok (.istore_n 2, 1) := by decide +kernel
theorem dX0_secondsOf_33 : decode cX0_secondsOf 33 = .ok (.iinc 3 1, 3) := by decide +kernel
theorem dX0_secondsOf_36 : decode cX0_secondsOf 36 = .ok (.goto (-32), 3) := by decide +kernel
theorem dX0_secondsOf_39 : decode cX0_secondsOf 39 = .ok (.iload_n 2, 1) := by decide +kernel
theorem dX0_secondsOf_40 : decode cX0_secondsOf 40 = .ok (.ireturn, 1) := by decide +kernel
theorem dX0_weightOf_0 : decode cX0_weightOf 0 = .ok (.iconst 0, 1) := by decide +kernel
theorem dX0_weightOf_1 : decode cX0_weightOf 1 = .ok (.istore_n 2, 1) := by decide +kernel
theorem dX0_weightOf_2 : decode cX0_weightOf 2 = .ok (.iconst 0, 1) := by decide +kernel
theorem dX0_weightOf_3 : decode cX0_weightOf 3 = .ok (.istore_n 3, 1) := by decide +kernel
theorem dX0_weightOf_4 : decode cX0_weightOf 4 = .ok (.iload_n 3, 1) := by decide +kernel
theorem dX0_weightOf_5 : decode cX0_weightOf 5 = .ok (.aload_n 0, 1) := by decide +kernel
theorem dX0_weightOf_6 : decode cX0_weightOf 6 = .ok (.getfield 37, 3) := by decide +kernel
theorem dX0_weightOf_9 : decode cX0_weightOf 9 = .ok (.if_icmp .ge 31, 3) := by decide +kernel
theorem dX0_weightOf_12 : decode cX0_weightOf 12 = .ok (.iload_n 2, 1) := by decide +kernel
theorem dX0_weightOf_13 : decode cX0_weightOf 13 = .ok (.iload_n 1, 1) := by decide +kernel
theorem dX0_weightOf_14 : decode cX0_weightOf 14 = .ok (.iload_n 3, 1) := by decide +kernel
theorem dX0_weightOf_15 : decode cX0_weightOf 15 = .ok (.ishr, 1) := by decide +kernel
theorem dX0_weightOf_16 : decode cX0_weightOf 16 = .ok (.iconst 1, 1) := by decide +kernel
theorem dX0_weightOf_17 : decode cX0_weightOf 17 = .ok (.iand, 1) := by decide +kernel
theorem dX0_weightOf_18 : decode cX0_weightOf 18 = .ok (.iconst 1, 1) := by decide +kernel
theorem dX0_weightOf_19 : decode cX0_weightOf 19 = .ok (.if_icmp .ne 12, 3) := by decide +kernel
theorem dX0_weightOf_22 : decode cX0_weightOf 22 = .ok (.aload_n 0, 1) := by decide +kernel
theorem dX0_weightOf_23 : decode cX0_weightOf 23 = .ok (.getfield 25, 3) := by decide +kernel
theorem dX0_weightOf_26 : decode cX0_weightOf 26 = .ok (.iload_n 3, 1) := by decide +kernel
theorem dX0_weightOf_27 : decode cX0_weightOf 27 = .ok (.iaload, 1) := by decide +kernel
theorem dX0_weightOf_28 : decode cX0_weightOf 28 = .ok (.goto 4, 3) := by decide +kernel
theorem dX0_weightOf_31 : decode cX0_weightOf 31 = .ok (.iconst 0, 1) := by decide +kernel
theorem dX0_weightOf_32 : decode cX0_weightOf 32 = .ok (.iadd, 1) := by decide +kernel
theorem dX0_weightOf_33 : decode cX0_weightOf 33 = .ok (.istore_n 2, 1) := by decide +kernel
theorem dX0_weightOf_34 : decode cX0_weightOf 34 = .ok (.iinc 3 1, 3) := by decide +kernel
theorem dX0_weightOf_37 : decode cX0_weightOf 37 = .ok (.goto (-33), 3) := by decide +kernel
theorem dX0_weightOf_40 : decode cX0_weightOf 40 = .ok (.iload_n 2, 1) := by decide +kernel
theorem dX0_weightOf_41 : decode cX0_weightOf 41 = .ok (.ireturn, 1) := by decide +kernel
theorem dX0_allFigures_0 : decode cX0_allFigures 0 = .ok (.iconst 0, 1) := by decide +kernel
theorem dX0_allFigures_1 : decode cX0_allFigures 1 = .ok (.istore_n 1, 1) := by decide +kernel
theorem dX0_allFigures_2 : decode cX0_allFigures 2 = .ok (.iconst 0, 1) := by decide +kernel
theorem dX0_allFigures_3 : decode cX0_allFigures 3 = .ok (.istore_n 2, 1) := by decide +kernel
theorem dX0_allFigures_4 : decode cX0_allFigures 4 = .ok (.iload_n 2, 1) := by decide +kernel
theorem dX0_allFigures_5 : decode cX0_allFigures 5 = .ok (.aload_n 0, 1) := by decide +kernel
theorem dX0_allFigures_6 : decode cX0_allFigures 6 = .ok (.getfield 37, 3) := by decide +kernel
theorem dX0_allFigures_9 : decode cX0_allFigures 9 = .ok (.if_icmp .ge 18, 3) := by decide +kernel
theorem dX0_allFigures_12 : decode cX0_allFigures 12 = .ok (.iload_n 1, 1) := by decide +kernel
theorem dX0_allFigures_13 : decode cX0_allFigures 13 = .ok (.aload_n 0, 1) := by decide +kernel
theorem dX0_allFigures_14 : decode cX0_allFigures 14 = .ok (.getfield 19, 3) := by decide +kernel
theorem dX0_allFigures_17 : decode cX0_allFigures 17 = .ok (.iload_n 2, 1) := by decide +kernel
theorem dX0_allFigures_18 : decode cX0_allFigures 18 = .ok (.iaload, 1) := by decide +kernel
theorem dX0_allFigures_19 : decode cX0_allFigures 19 = .ok (.iadd, 1) := by decide +kernel
theorem dX0_allFigures_20 : decode cX0_allFigures 20 = .ok (.istore_n 1, 1) := by decide +kernel
theorem dX0_allFigures_21 : decode cX0_allFigures 21 = .ok (.iinc 2 1, 3) := by decide +kernel
theorem dX0_allFigures_24 : decode cX0_allFigures 24 = .ok (.goto (-20), 3) := by decide +kernel
theorem dX0_allFigures_27 : decode cX0_allFigures 27 = .ok (.iload_n 1, 1) := by decide +kernel
theorem dX0_allFigures_28 : decode cX0_allFigures 28 = .ok (.ireturn, 1) := by decide +kernel
theorem dX0_freeOnes_0 : decode cX0_freeOnes 0 = .ok (.iconst 0, 1) := by decide +kernel
theorem dX0_freeOnes_1 : decode cX0_freeOnes 1 = .ok (.istore_n 1, 1) := by decide +kernel
theorem dX0_freeOnes_2 : decode cX0_freeOnes 2 = .ok (.iconst 0, 1) := by decide +kernel
theorem dX0_freeOnes_3 : decode cX0_freeOnes 3 = .ok (.istore_n 2, 1) := by decide +kernel
theorem dX0_freeOnes_4 : decode cX0_freeOnes 4 = .ok (.iload_n 2, 1) := by decide +kernel
theorem dX0_freeOnes_5 : decode cX0_freeOnes 5 = .ok (.aload_n 0, 1) := by decide +kernel
theorem dX0_freeOnes_6 : decode cX0_freeOnes 6 = .ok (.getfield 37, 3) := by decide +kernel
theorem dX0_freeOnes_9 : decode cX0_freeOnes 9 = .ok (.if_icmp .ge 28, 3) := by decide +kernel
theorem dX0_freeOnes_12 : decode cX0_freeOnes 12 = .ok (.iload_n 1, 1) := by decide +kernel
theorem dX0_freeOnes_13 : decode cX0_freeOnes 13 = .ok (.aload_n 0, 1) := by decide +kernel
theorem dX0_freeOnes_14 : decode cX0_freeOnes 14 = .ok (.getfield 28, 3) := by decide +kernel
theorem dX0_freeOnes_17 : decode cX0_freeOnes 17 = .ok (.iload_n 2, 1) := by decide +kernel
theorem dX0_freeOnes_18 : decode cX0_freeOnes 18 = .ok (.iaload, 1) := by decide +kernel
theorem dX0_freeOnes_19 : decode cX0_freeOnes 19 = .ok (.ifCond .ne 9, 3) := by decide +kernel
theorem dX0_freeOnes_22 : decode cX0_freeOnes 22 = .ok (.iconst 1, 1) := by decide +kernel
theorem dX0_freeOnes_23 : decode cX0_freeOnes 23 = .ok (.iload_n 2, 1) := by decide +kernel
theorem dX0_freeOnes_24 : decode cX0_freeOnes 24 = .ok (.ishl, 1) := by decide +kernel
theorem dX0_freeOnes_25 : decode cX0_freeOnes 25 = .ok (.goto 4, 3) := by decide +kernel
theorem dX0_freeOnes_28 : decode cX0_freeOnes 28 = .ok (.iconst 0, 1) := by decide +kernel
theorem dX0_freeOnes_29 : decode cX0_freeOnes 29 = .ok (.ior, 1) := by decide +kernel
theorem dX0_freeOnes_30 : decode cX0_freeOnes 30 = .ok (.istore_n 1, 1) := by decide +kernel
theorem dX0_freeOnes_31 : decode cX0_freeOnes 31 = .ok (.iinc 2 1, 3) := by decide +kernel
theorem dX0_freeOnes_34 : decode cX0_freeOnes 34 = .ok (.goto (-30), 3) := by decide +kernel
theorem dX0_freeOnes_37 : decode cX0_freeOnes 37 = .ok (.iload_n 1, 1) := by decide +kernel
theorem dX0_freeOnes_38 : decode cX0_freeOnes 38 = .ok (.ireturn, 1) := by decide +kernel
theorem dX0_rattlingAt_0 : decode cX0_rattlingAt 0 = .ok (.iconst 0, 1) := by decide +kernel
theorem dX0_rattlingAt_1 : decode cX0_rattlingAt 1 = .ok (.istore_n 2, 1) := by decide +kernel
theorem dX0_rattlingAt_2 : decode cX0_rattlingAt 2 = .ok (.iconst 0, 1) := by decide +kernel
theorem dX0_rattlingAt_3 : decode cX0_rattlingAt 3 = .ok (.istore_n 3, 1) := by decide +kernel
theorem dX0_rattlingAt_4 : decode cX0_rattlingAt 4 = .ok (.iload_n 3, 1) := by decide +kernel
theorem dX0_rattlingAt_5 : decode cX0_rattlingAt 5 = .ok (.aload_n 0, 1) := by decide +kernel
theorem dX0_rattlingAt_6 : decode cX0_rattlingAt 6 = .ok (.getfield 37, 3) := by decide +kernel
theorem dX0_rattlingAt_9 : decode cX0_rattlingAt 9 = .ok (.if_icmp .ge 53, 3) := by decide +kernel
theorem dX0_rattlingAt_12 : decode cX0_rattlingAt 12 = .ok (.aload_n 0, 1) := by decide +kernel
theorem dX0_rattlingAt_13 : decode cX0_rattlingAt 13 = .ok (.iload_n 3, 1) := by decide +kernel
theorem dX0_rattlingAt_14 : decode cX0_rattlingAt 14 = .ok (.invokevirtual 61, 3) := by decide +kernel
theorem dX0_rattlingAt_17 : decode cX0_rattlingAt 17 = .ok (.aload_n 0, 1) := by decide +kernel
theorem dX0_rattlingAt_18 : decode cX0_rattlingAt 18 = .ok (.getfield 19, 3) := by decide +kernel
theorem dX0_rattlingAt_21 : decode cX0_rattlingAt 21 = .ok (.iload_n 3, 1) := by decide +kernel
theorem dX0_rattlingAt_22 : decode cX0_rattlingAt 22 = .ok (.iaload, 1) := by decide +kernel
theorem dX0_rattlingAt_23 : decode cX0_rattlingAt 23 = .ok (.iload_n 1, 1) := by decide +kernel
theorem dX0_rattlingAt_24 : decode cX0_rattlingAt 24 = .ok (.aload_n 0, 1) := by decide +kernel
theorem dX0_rattlingAt_25 : decode cX0_rattlingAt 25 = .ok (.getfield 34, 3) := by decide +kernel
theorem dX0_rattlingAt_28 : decode cX0_rattlingAt 28 = .ok (.iconst 1, 1) := by decide +kernel
theorem dX0_rattlingAt_29 : decode cX0_rattlingAt 29 = .ok (.iaload, 1) := by decide +kernel
theorem dX0_rattlingAt_30 : decode cX0_rattlingAt 30 = .ok (.aload_n 0, 1) := by decide +kernel
theorem dX0_rattlingAt_31 : decode cX0_rattlingAt 31 = .ok (.getfield 34, 3) := by decide +kernel
theorem dX0_rattlingAt_34 : decode cX0_rattlingAt 34 = .ok (.iconst 2, 1) := by decide +kernel
theorem dX0_rattlingAt_35 : decode cX0_rattlingAt 35 = .ok (.iaload, 1) := by decide +kernel
theorem dX0_rattlingAt_36 : decode cX0_rattlingAt 36 = .ok (.invokevirtual 98, 3) := by decide +kernel
theorem dX0_rattlingAt_39 : decode cX0_rattlingAt 39 = .ok (.istore 4, 2) := by decide +kernel
theorem dX0_rattlingAt_41 : decode cX0_rattlingAt 41 = .ok (.iload_n 2, 1) := by decide +kernel
theorem dX0_rattlingAt_42 : decode cX0_rattlingAt 42 = .ok (.iload 4, 2) := by decide +kernel
theorem dX0_rattlingAt_44 : decode cX0_rattlingAt 44 = .ok (.ifCond .le 9, 3) := by decide +kernel
theorem dX0_rattlingAt_47 : decode cX0_rattlingAt 47 = .ok (.iconst 1, 1) := by decide +kernel
theorem dX0_rattlingAt_48 : decode cX0_rattlingAt 48 = .ok (.iload_n 3, 1) := by decide +kernel
theorem dX0_rattlingAt_49 : decode cX0_rattlingAt 49 = .ok (.ishl, 1) := by decide +kernel
theorem dX0_rattlingAt_50 : decode cX0_rattlingAt 50 = .ok (.goto 4, 3) := by decide +kernel
theorem dX0_rattlingAt_53 : decode cX0_rattlingAt 53 = .ok (.iconst 0, 1) := by decide +kernel
theorem dX0_rattlingAt_54 : decode cX0_rattlingAt 54 = .ok (.ior, 1) := by decide +kernel
theorem dX0_rattlingAt_55 : decode cX0_rattlingAt 55 = .ok (.istore_n 2, 1) := by decide +kernel
theorem dX0_rattlingAt_56 : decode cX0_rattlingAt 56 = .ok (.iinc 3 1, 3) := by decide +kernel
theorem dX0_rattlingAt_59 : decode cX0_rattlingAt 59 = .ok (.goto (-55), 3) := by decide +kernel
theorem dX0_rattlingAt_62 : decode cX0_rattlingAt 62 = .ok (.iload_n 2, 1) := by decide +kernel
theorem dX0_rattlingAt_63 : decode cX0_rattlingAt 63 = .ok (.ireturn, 1) := by decide +kernel
theorem dX0_doesJust_0 : decode cX0_doesJust 0 = .ok (.iconst 0, 1) := by decide +kernel
theorem dX0_doesJust_1 : decode cX0_doesJust 1 = .ok (.istore_n 3, 1) := by decide +kernel
theorem dX0_doesJust_2 : decode cX0_doesJust 2 = .ok (.iload_n 3, 1) := by decide +kernel
theorem dX0_doesJust_3 : decode cX0_doesJust 3 = .ok (.iconst 1, 1) := by decide +kernel
theorem dX0_doesJust_4 : decode cX0_doesJust 4 = .ok (.iadd, 1) := by decide +kernel
theorem dX0_doesJust_5 : decode cX0_doesJust 5 = .ok (.aload_n 1, 1) := by decide +kernel
theorem dX0_doesJust_6 : decode cX0_doesJust 6 = .ok (.getfield 87, 3) := by decide +kernel
theorem dX0_doesJust_9 : decode cX0_doesJust 9 = .ok (.if_icmp .ge 55, 3) := by decide +kernel
theorem dX0_doesJust_12 : decode cX0_doesJust 12 = .ok (.iload_n 2, 1) := by decide +kernel
theorem dX0_doesJust_13 : decode cX0_doesJust 13 = .ok (.aload_n 0, 1) := by decide +kernel
theorem dX0_doesJust_14 : decode cX0_doesJust 14 = .ok (.aload_n 1, 1) := by decide +kernel
theorem dX0_doesJust_15 : decode cX0_doesJust 15 = .ok (.getfield 95, 3) := by decide +kernel
theorem dX0_doesJust_18 : decode cX0_doesJust 18 = .ok (.iload_n 3, 1) := by decide +kernel
theorem dX0_doesJust_19 : decode cX0_doesJust 19 = .ok (.iaload, 1) := by decide +kernel
theorem dX0_doesJust_20 : decode cX0_doesJust 20 = .ok (.invokevirtual 126, 3) := by decide +kernel
theorem dX0_doesJust_23 : decode cX0_doesJust 23 = .ok (.iand, 1) := by decide +kernel
theorem dX0_doesJust_24 : decode cX0_doesJust 24 = .ok (.ifCond .eq 7, 3) := by decide +kernel
theorem dX0_doesJust_27 : decode cX0_doesJust 27 = .ok (.iconst 1, 1) := by decide +kernel
theorem dX0_doesJust_28 : decode cX0_doesJust 28 = .ok (.goto 4, 3) := by decide +kernel
theorem dX0_doesJust_31 : decode cX0_doesJust 31 = .ok (.iconst 0, 1) := by decide +kernel
theorem dX0_doesJust_32 : decode cX0_doesJust 32 = .ok (.istore 4, 2) := by decide +kernel
theorem dX0_doesJust_34 : decode cX0_doesJust 34 = .ok (.iload 4, 2) := by decide +kernel
theorem dX0_doesJust_36 : decode cX0_doesJust 36 = .ok (.aload_n 1, 1) := by decide +kernel
theorem dX0_doesJust_37 : decode cX0_doesJust 37 = .ok (.getfield 95, 3) := by decide +kernel
theorem dX0_doesJust_40 : decode cX0_doesJust 40 = .ok (.iload_n 3, 1) := by decide +kernel
theorem dX0_doesJust_41 : decode cX0_doesJust 41 = .ok (.iconst 1, 1) := by decide +kernel
theorem dX0_doesJust_42 : decode cX0_doesJust 42 = .ok (.iadd, 1) := by decide +kernel
theorem dX0_doesJust_43 : decode cX0_doesJust 43 = .ok (.iaload, 1) := by decide +kernel
theorem dX0_doesJust_44 : decode cX0_doesJust 44 = .ok (.iconst 1, 1) := by decide +kernel
theorem dX0_doesJust_45 : decode cX0_doesJust 45 = .ok (.if_icmp .ne 7, 3) := by decide +kernel
theorem dX0_doesJust_48 : decode cX0_doesJust 48 = .ok (.iconst 1, 1) := by decide +kernel
theorem dX0_doesJust_49 : decode cX0_doesJust 49 = .ok (.goto 4, 3) := by decide +kernel
theorem dX0_doesJust_52 : decode cX0_doesJust 52 = .ok (.iconst 0, 1) := by decide +kernel
theorem dX0_doesJust_53 : decode cX0_doesJust 53 = .ok (.if_icmp .eq 5, 3) := by decide +kernel
theorem dX0_doesJust_56 : decode cX0_doesJust 56 = .ok (.iconst 0, 1) := by decide +kernel
theorem dX0_doesJust_57 : decode cX0_doesJust 57 = .ok (.ireturn, 1) := by decide +kernel
theorem dX0_doesJust_58 : decode cX0_doesJust 58 = .ok (.iinc 3 2, 3) := by decide +kernel
theorem dX0_doesJust_61 : decode cX0_doesJust 61 = .ok (.goto (-59), 3) := by decide +kernel
theorem dX0_doesJust_64 : decode cX0_doesJust 64 = .ok (.iconst 1, 1) := by decide +kernel
theorem dX0_doesJust_65 : decode cX0_doesJust 65 = .ok (.ireturn, 1) := by decide +kernel
theorem dX1_init_0 : decode cX1_init 0 = .ok (.aload_n 0, 1) := by decide +kernel
theorem dX1_init_1 : decode cX1_init 1 = .ok (.invokespecial 1, 3) := by decide +kernel
theorem dX1_init_4 : decode cX1_init 4 = .ok (.return_, 1) := by decide +kernel
theorem dX1_loudness_0 : decode cX1_loudness 0 = .ok (.iconst 0, 1) := by decide +kernel
theorem dX1_loudness_1 : decode cX1_loudness 1 = .ok (.ireturn, 1) := by decide +kernel
theorem dX1_loosensBy_0 : decode cX1_loosensBy 0 = .ok (.iconst 0, 1) := by decide +kernel
theorem dX1_loosensBy_1 : decode cX1_loosensBy 1 = .ok (.ireturn, 1) := by decide +kernel
theorem dX1_price_0 : decode cX1_price 0 = .ok (.aload_n 0, 1) := by decide +kernel
theorem dX1_price_1 : decode cX1_price 1 = .ok (.iload_n 1, 1) := by decide +kernel
theorem dX1_price_2 : decode cX1_price 2 = .ok (.invokespecial 7, 3) := by decide +kernel
theorem dX1_price_5 : decode cX1_price 5 = .ok (.iconst 1, 1) := by decide +kernel
theorem dX1_price_6 : decode cX1_price 6 = .ok (.iadd, 1) := by decide +kernel
theorem dX1_price_7 : decode cX1_price 7 = .ok (.ireturn, 1) := by decide +kernel
theorem dX1_fail_0 : decode cX1_fail 0 = .ok (.return_, 1) := by decide +kernel
theorem dX2_init_0 : decode cX2_init 0 = .ok (.aload_n 0, 1) := by decide +kernel
theorem dX2_init_1 : decode cX2_init 1 = .ok (.invokespecial 1, 3) := by decide +kernel
theorem dX2_init_4 : decode cX2_init 4 = .ok (.return_, 1) := by decide +kernel
theorem dX2_loudness_0 : decode cX2_loudness 0 = .ok (.iconst 2, 1) := by decide +kernel
theorem dX2_loudness_1 : decode cX2_loudness 1 = .ok (.aload_n 0, 1) := by decide +kernel
theorem dX2_loudness_2 : decode cX2_loudness 2 = .ok (.iload_n 1, 1) := by decide +kernel
theorem dX2_loudness_3 : decode cX2_loudness 3 = .ok (.iload_n 2, 1) := by decide +kernel
theorem dX2_loudness_4 : decode cX2_loudness 4 = .ok (.iload_n 3, 1) := by decide +kernel
theorem dX2_loudness_5 : decode cX2_loudness 5 = .ok (.iload 4, 2) := by decide +kernel
theorem dX2_loudness_7 : decode cX2_loudness 7 = .ok (.invokespecial 7, 3) := by decide +kernel
theorem dX2_loudness_10 : decode cX2_loudness 10 = .ok (.imul, 1) := by decide +kernel
theorem dX2_loudness_11 : decode cX2_loudness 11 = .ok (.ireturn, 1) := by decide +kernel
theorem dX2_price_0 : decode cX2_price 0 = .ok (.aload_n 0, 1) := by decide +kernel
theorem dX2_price_1 : decode cX2_price 1 = .ok (.iload_n 1, 1) := by decide +kernel
theorem dX2_price_2 : decode cX2_price 2 = .ok (.invokespecial 11, 3) := by decide +kernel
theorem dX2_price_5 : decode cX2_price 5 = .ok (.iload_n 1, 1) := by decide +kernel
theorem dX2_price_6 : decode cX2_price 6 = .ok (.iadd, 1) := by decide +kernel
theorem dX2_price_7 : decode cX2_price 7 = .ok (.ireturn, 1) := by decide +kernel
theorem dX3_init_0 : decode cX3_init 0 = .ok (.aload_n 0, 1) := by decide +kernel
theorem dX3_init_1 : decode cX3_init 1 = .ok (.invokespecial 1, 3) := by decide +kernel
theorem dX3_init_4 : decode cX3_init 4 = .ok (.return_, 1) := by decide +kernel
theorem dX3_loudness_0 : decode cX3_loudness 0 = .ok (.aload_n 0, 1) := by decide +kernel
theorem dX3_loudness_1 : decode cX3_loudness 1 = .ok (.iload_n 1, 1) := by decide +kernel
theorem dX3_loudness_2 : decode cX3_loudness 2 = .ok (.iload_n 2, 1) := by decide +kernel
theorem dX3_loudness_3 : decode cX3_loudness 3 = .ok (.iload_n 3, 1) := by decide +kernel
theorem dX3_loudness_4 : decode cX3_loudness 4 = .ok (.iload 4, 2) := by decide +kernel
theorem dX3_loudness_6 : decode cX3_loudness 6 = .ok (.invokespecial 7, 3) := by decide +kernel
theorem dX3_loudness_9 : decode cX3_loudness 9 = .ok (.istore 5, 2) := by decide +kernel
theorem dX3_loudness_11 : decode cX3_loudness 11 = .ok (.iload 5, 2) := by decide +kernel
theorem dX3_loudness_13 : decode cX3_loudness 13 = .ok (.ifCond .le 16, 3) := by decide +kernel
theorem dX3_loudness_16 : decode cX3_loudness 16 = .ok (.iload_n 2, 1) := by decide +kernel
theorem dX3_loudness_17 : decode cX3_loudness 17 = .ok (.iconst 2, 1) := by decide +kernel
theorem dX3_loudness_18 : decode cX3_loudness 18 = .ok (.irem, 1) := by decide +kernel
theorem dX3_loudness_19 : decode cX3_loudness 19 = .ok (.ifCond .ne 10, 3) := by decide +kernel
theorem dX3_loudness_22 : decode cX3_loudness 22 = .ok (.iload 5, 2) := by decide +kernel
theorem dX3_loudness_24 : decode cX3_loudness 24 = .ok (.iconst 3, 1) := by decide +kernel
theorem dX3_loudness_25 : decode cX3_loudness 25 = .ok (.iadd, 1) := by decide +kernel
theorem dX3_loudness_26 : decode cX3_loudness 26 = .ok (.goto 5, 3) := by decide +kernel
theorem dX3_loudness_29 : decode cX3_loudness 29 = .ok (.iload 5, 2) := by decide +kernel
theorem dX3_loudness_31 : decode cX3_loudness 31 = .ok (.ireturn, 1) := by decide +kernel
theorem dX3_secondsToHold_0 : decode cX3_secondsToHold 0 = .ok (.aload_n 0, 1) := by decide +kernel
theorem dX3_secondsToHold_1 : decode cX3_secondsToHold 1 = .ok (.iload_n 1, 1) := by decide +kernel
theorem dX3_secondsToHold_2 : decode cX3_secondsToHold 2 = .ok (.invokespecial 11, 3) := by decide +kernel
theorem dX3_secondsToHold_5 : decode cX3_secondsToHold 5 = .ok (.iconst 2, 1) := by decide +kernel
theorem dX3_secondsToHold_6 : decode cX3_secondsToHold 6 = .ok (.iadd, 1) := by decide +kernel
theorem dX3_secondsToHold_7 : decode cX3_secondsToHold 7 = .ok (.ireturn, 1) := by decide +kernel
theorem dX3_price_0 : decode cX3_price 0 = .ok (.aload_n 0, 1) := by decide +kernel
theorem dX3_price_1 : decode cX3_price 1 = .ok (.iload_n 1, 1) := by decide +kernel
theorem dX3_price_2 : decode cX3_price 2 = .ok (.invokespecial 15, 3) := by decide +kernel
theorem dX3_price_5 : decode cX3_price 5 = .ok (.iconst 2, 1) := by decide +kernel
theorem dX3_price_6 : decode cX3_price 6 = .ok (.iadd, 1) := by decide +kernel
theorem dX3_price_7 : decode cX3_price 7 = .ok (.ireturn, 1) := by decide +kernel
theorem dX3_fail_0 : decode cX3_fail 0 = .ok (.iload_n 1, 1) := by decide +kernel
theorem dX3_fail_1 : decode cX3_fail 1 = .ok (.ifCond .le 11, 3) := by decide +kernel
theorem dX3_fail_4 : decode cX3_fail 4 = .ok (.new 18, 3) := by decide +kernel
theorem dX3_fail_7 : decode cX3_fail 7 = .ok (.dup, 1) := by decide +kernel
theorem dX3_fail_8 : decode cX3_fail 8 = .ok (.invokespecial 20, 3) := by decide +kernel
theorem dX3_fail_11 : decode cX3_fail 11 = .ok (.athrow, 1) := by decide +kernel
theorem dX3_fail_12 : decode cX3_fail 12 = .ok (.return_, 1) := by decide +kernel
theorem dX4_init_0 : decode cX4_init 0 = .ok (.aload_n 0, 1) := by decide +kernel
theorem dX4_init_1 : decode cX4_init 1 = .ok (.invokespecial 1, 3) := by decide +kernel
theorem dX4_init_4 : decode cX4_init 4 = .ok (.return_, 1) := by decide +kernel
theorem dX4_loudness_0 : decode cX4_loudness 0 = .ok (.iload_n 3, 1) := by decide +kernel
theorem dX4_loudness_1 : decode cX4_loudness 1 = .ok (.iconst 5, 1) := by decide +kernel
theorem dX4_loudness_2 : decode cX4_loudness 2 = .ok (.if_icmp .lt 15, 3) := by decide +kernel
theorem dX4_loudness_5 : decode cX4_loudness 5 = .ok (.aload_n 0, 1) := by decide +kernel
theorem dX4_loudness_6 : decode cX4_loudness 6 = .ok (.iload_n 1, 1) := by decide +kernel
theorem dX4_loudness_7 : decode cX4_loudness 7 = .ok (.iload_n 2, 1) := by decide +kernel
theorem dX4_loudness_8 : decode cX4_loudness 8 = .ok (.iload_n 3, 1) := by decide +kernel
theorem dX4_loudness_9 : decode cX4_loudness 9 = .ok (.iload 4, 2) := by decide +kernel
theorem dX4_loudness_11 : decode cX4_loudness 11 = .ok (.invokespecial 7, 3) := by decide +kernel
theorem dX4_loudness_14 : decode cX4_loudness 14 = .ok (.goto 4, 3) := by decide +kernel
theorem dX4_loudness_17 : decode cX4_loudness 17 = .ok (.iconst 0, 1) := by decide +kernel
theorem dX4_loudness_18 : decode cX4_loudness 18 = .ok (.ireturn, 1) := by decide +kernel
theorem dX4_secondsToHold_0 : decode cX4_secondsToHold 0 = .ok (.iconst 2, 1) := by decide +kernel
theorem dX4_secondsToHold_1 : decode cX4_secondsToHold 1 = .ok (.aload_n 0, 1) := by decide +kernel
theorem dX4_secondsToHold_2 : decode cX4_secondsToHold 2 = .ok (.iload_n 1, 1) := by decide +kernel
theorem dX4_secondsToHold_3 : decode cX4_secondsToHold 3 = .ok (.invokespecial 11, 3) := by decide +kernel
theorem dX4_secondsToHold_6 : decode cX4_secondsToHold 6 = .ok (.imul, 1) := by decide +kernel
theorem dX4_secondsToHold_7 : decode cX4_secondsToHold 7 = .ok (.ireturn, 1) := by decide +kernel
theorem dX4_price_0 : decode cX4_price 0 = .ok (.iconst 2, 1) := by decide +kernel
theorem dX4_price_1 : decode cX4_price 1 = .ok (.aload_n 0, 1) := by decide +kernel
theorem dX4_price_2 : decode cX4_price 2 = .ok (.iload_n 1, 1) := by decide +kernel
theorem dX4_price_3 : decode cX4_price 3 = .ok (.invokespecial 15, 3) := by decide +kernel
theorem dX4_price_6 : decode cX4_price 6 = .ok (.imul, 1) := by decide +kernel
theorem dX4_price_7 : decode cX4_price 7 = .ok (.ireturn, 1) := by decide +kernel
theorem dX5_init_0 : decode cX5_init 0 = .ok (.aload_n 0, 1) := by decide +kernel
theorem dX5_init_1 : decode cX5_init 1 = .ok (.invokespecial 1, 3) := by decide +kernel
theorem dX5_init_4 : decode cX5_init 4 = .ok (.return_, 1) := by decide +kernel
theorem dX5_loudness_0 : decode cX5_loudness 0 = .ok (.iconst 0, 1) := by decide +kernel
theorem dX5_loudness_1 : decode cX5_loudness 1 = .ok (.aload_n 0, 1) := by decide +kernel
theorem dX5_loudness_2 : decode cX5_loudness 2 = .ok (.iload_n 1, 1) := by decide +kernel
theorem dX5_loudness_3 : decode cX5_loudness 3 = .ok (.iload_n 2, 1) := by decide +kernel
theorem dX5_loudness_4 : decode cX5_loudness 4 = .ok (.iload_n 3, 1) := by decide +kernel
theorem dX5_loudness_5 : decode cX5_loudness 5 = .ok (.iload 4, 2) := by decide +kernel
theorem dX5_loudness_7 : decode cX5_loudness 7 = .ok (.invokespecial 7, 3) := by decide +kernel
theorem dX5_loudness_10 : decode cX5_loudness 10 = .ok (.iload 4, 2) := by decide +kernel
theorem dX5_loudness_12 : decode cX5_loudness 12 = .ok (.isub, 1) := by decide +kernel
theorem dX5_loudness_13 : decode cX5_loudness 13 = .ok (.invokestatic 11, 3) := by decide +kernel
theorem dX5_loudness_16 : decode cX5_loudness 16 = .ok (.ireturn, 1) := by decide +kernel
theorem dX5_secondsToHold_0 : decode cX5_secondsToHold 0 = .ok (.aload_n 0, 1) := by decide +kernel
theorem dX5_secondsToHold_1 : decode cX5_secondsToHold 1 = .ok (.iload_n 1, 1) := by decide +kernel
theorem dX5_secondsToHold_2 : decode cX5_secondsToHold 2 = .ok (.invokespecial 17, 3) := by decide +kernel
theorem dX5_secondsToHold_5 : decode cX5_secondsToHold 5 = .ok (.iconst 5, 1) := by decide +kernel
theorem dX5_secondsToHold_6 : decode cX5_secondsToHold 6 = .ok (.iadd, 1) := by decide +kernel
theorem dX5_secondsToHold_7 : decode cX5_secondsToHold 7 = .ok (.ireturn, 1) := by decide +kernel
theorem dX5_price_0 : decode cX5_price 0 = .ok (.aload_n 0, 1) := by decide +kernel
theorem dX5_price_1 : decode cX5_price 1 = .ok (.iload_n 1, 1) := by decide +kernel
theorem dX5_price_2 : decode cX5_price 2 = .ok (.invokespecial 21, 3) := by decide +kernel
theorem dX5_price_5 : decode cX5_price 5 = .ok (.bipush 6, 2) := by decide +kernel
theorem dX5_price_7 : decode cX5_price 7 = .ok (.iadd, 1) := by decide +kernel
theorem dX5_price_8 : decode cX5_price 8 = .ok (.ireturn, 1) := by decide +kernel
theorem dX6_init_0 : decode cX6_init 0 = .ok (.aload_n 0, 1) := by decide +kernel
theorem dX6_init_1 : decode cX6_init 1 = .ok (.invokespecial 1, 3) := by decide +kernel
theorem dX6_init_4 : decode cX6_init 4 = .ok (.return_, 1) := by decide +kernel
theorem dX6_loudness_0 : decode cX6_loudness 0 = .ok (.iload_n 2, 1) := by decide +kernel
theorem dX6_loudness_1 : decode cX6_loudness 1 = .ok (.bipush 30, 2) := by decide +kernel
theorem dX6_loudness_3 : decode cX6_loudness 3 = .ok (.if_icmp .lt 7, 3) := by decide +kernel
theorem dX6_loudness_6 : decode cX6_loudness 6 = .ok (.iload_n 1, 1) := by decide +kernel
theorem dX6_loudness_7 : decode cX6_loudness 7 = .ok (.goto 4, 3) := by decide +kernel
theorem dX6_loudness_10 : decode cX6_loudness 10 = .ok (.iconst 0, 1) := by decide +kernel
theorem dX6_loudness_11 : decode cX6_loudness 11 = .ok (.ireturn, 1) := by decide +kernel
theorem dX6_secondsToHold_0 : decode cX6_secondsToHold 0 = .ok (.aload_n 0, 1) := by decide +kernel
theorem dX6_secondsToHold_1 : decode cX6_secondsToHold 1 = .ok (.iload_n 1, 1) := by decide +kernel
theorem dX6_secondsToHold_2 : decode cX6_secondsToHold 2 = .ok (.invokespecial 7, 3) := by decide +kernel
theorem dX6_secondsToHold_5 : decode cX6_secondsToHold 5 = .ok (.iconst 4, 1) := by decide +kernel
theorem dX6_secondsToHold_6 : decode cX6_secondsToHold 6 = .ok (.isub, 1) := by decide +kernel
theorem dX6_secondsToHold_7 : decode cX6_secondsToHold 7 = .ok (.ireturn, 1) := by decide +kernel
theorem dX6_loosensBy_0 : decode cX6_loosensBy 0 = .ok (.aload_n 0, 1) := by decide +kernel
theorem dX6_loosensBy_1 : decode cX6_loosensBy 1 = .ok (.invokespecial 11, 3) := by decide +kernel
theorem dX6_loosensBy_4 : decode cX6_loosensBy 4 = .ok (.iconst 2, 1) := by decide +kernel
theorem dX6_loosensBy_5 : decode cX6_loosensBy 5 = .ok (.iadd, 1) := by decide +kernel
theorem dX6_loosensBy_6 : decode cX6_loosensBy 6 = .ok (.ireturn, 1) := by decide +kernel
theorem dX6_price_0 : decode cX6_price 0 = .ok (.aload_n 0, 1) := by decide +kernel
theorem dX6_price_1 : decode cX6_price 1 = .ok (.iload_n 1, 1) := by decide +kernel
theorem dX6_price_2 : decode cX6_price 2 = .ok (.invokespecial 15, 3) := by decide +kernel
theorem dX6_price_5 : decode cX6_price 5 = .ok (.iconst 1, 1) := by decide +kernel
theorem dX6_price_6 : decode cX6_price 6 = .ok (.isub, 1) := by decide +kernel
theorem dX6_price_7 : decode cX6_price 7 = .ok (.ireturn, 1) := by decide +kernel
theorem dX7_init_0 : decode cX7_init 0 = .ok (.aload_n 0, 1) := by decide +kernel
theorem dX7_init_1 : decode cX7_init 1 = .ok (.invokespecial 1, 3) := by decide +kernel
theorem dX7_init_4 : decode cX7_init 4 = .ok (.return_, 1) := by decide +kernel
theorem dX7_loudness_0 : decode cX7_loudness 0 = .ok (.iload_n 2, 1) := by decide +kernel
theorem dX7_loudness_1 : decode cX7_loudness 1 = .ok (.bipush 48, 2) := by decide +kernel
theorem dX7_loudness_3 : decode cX7_loudness 3 = .ok (.if_icmp .lt 13, 3) := by decide +kernel
theorem dX7_loudness_6 : decode cX7_loudness 6 = .ok (.iload_n 2, 1) := by decide +kernel
theorem dX7_loudness_7 : decode cX7_loudness 7 = .ok (.bipush 53, 2) := by decide +kernel
theorem dX7_loudness_9 : decode cX7_loudness 9 = .ok (.if_icmp .gt 7, 3) := by decide +kernel
theorem dX7_loudness_12 : decode cX7_loudness 12 = .ok (.iload_n 1, 1) := by decide +kernel
theorem dX7_loudness_13 : decode cX7_loudness 13 = .ok (.goto 4, 3) := by decide +kernel
theorem dX7_loudness_16 : decode cX7_loudness 16 = .ok (.iconst 0, 1) := by decide +kernel
theorem dX7_loudness_17 : decode cX7_loudness 17 = .ok (.ireturn, 1) := by decide +kernel
theorem dX7_secondsToHold_0 : decode cX7_secondsToHold 0 = .ok (.bipush 10, 2) := by decide +kernel
theorem dX7_secondsToHold_2 : decode cX7_secondsToHold 2 = .ok (.ireturn, 1) := by decide +kernel
theorem dX7_loosensBy_0 : decode cX7_loosensBy 0 = .ok (.iconst 1, 1) := by decide +kernel
theorem dX7_loosensBy_1 : decode cX7_loosensBy 1 = .ok (.ireturn, 1) := by decide +kernel
theorem dX7_price_0 : decode cX7_price 0 = .ok (.iconst 3, 1) := by decide +kernel
theorem dX7_price_1 : decode cX7_price 1 = .ok (.ireturn, 1) := by decide +kernel
theorem dX7_fail_0 : decode cX7_fail 0 = .ok (.iload_n 1, 1) := by decide +kernel
theorem dX7_fail_1 : decode cX7_fail 1 = .ok (.ifCond .le 11, 3) := by decide +kernel
theorem dX7_fail_4 : decode cX7_fail 4 = .ok (.new 7, 3) := by decide +kernel
theorem dX7_fail_7 : decode cX7_fail 7 = .ok (.dup, 1) := by decide +kernel
theorem dX7_fail_8 : decode cX7_fail 8 = .ok (.invokespecial 9, 3) := by decide +kernel
theorem dX7_fail_11 : decode cX7_fail 11 = .ok (.athrow, 1) := by decide +kernel
theorem dX7_fail_12 : decode cX7_fail 12 = .ok (.return_, 1) := by decide +kernel
theorem dX8_digitsBehind_0 : decode cX8_digitsBehind 0 = .ok (.iload_n 0, 1) := by decide +kernel
theorem dX8_digitsBehind_1 : decode cX8_digitsBehind 1 = .ok (.tableswitch 105 99 119 #[103, 101, 105, 105, 105, 103, 105, 105, 105, 103, 105, 105, 103, 99, 105, 101, 101, 103, 105, 105, 103], 99) := by decide +kernel
theorem dX8_digitsBehind_100 : decode cX8_digitsBehind 100 = .ok (.iconst 4, 1) := by decide +kernel
theorem dX8_digitsBehind_101 : decode cX8_digitsBehind 101 = .ok (.ireturn, 1) := by decide +kernel
theorem dX8_digitsBehind_102 : decode cX8_digitsBehind 102 = .ok (.iconst 2, 1) := by decide +kernel
theorem dX8_digitsBehind_103 : decode cX8_digitsBehind 103 = .ok (.ireturn, 1) := by decide +kernel
theorem dX8_digitsBehind_104 : decode cX8_digitsBehind 104 = .ok (.iconst 1, 1) := by decide +kernel
theorem dX8_digitsBehind_105 : decode cX8_digitsBehind 105 = .ok (.ireturn, 1) := by decide +kernel
theorem dX8_digitsBehind_106 : decode cX8_digitsBehind 106 = .ok (.iconst 0, 1) := by decide +kernel
theorem dX8_digitsBehind_107 : decode cX8_digitsBehind 107 = .ok (.ireturn, 1) := by decide +kernel
theorem dX8_placeOfFormFault_0 : decode cX8_placeOfFormFault 0 = .ok (.iconst 0, 1) := by decide +kernel
theorem dX8_placeOfFormFault_1 : decode cX8_placeOfFormFault 1 = .ok (.istore_n 1, 1) := by decide +kernel
theorem dX8_placeOfFormFault_2 : decode cX8_placeOfFormFault 2 = .ok (.iconst 0, 1) := by decide +kernel
theorem dX8_placeOfFormFault_3 : decode cX8_placeOfFormFault 3 = .ok (.istore_n 2, 1) := by decide +kernel
theorem dX8_placeOfFormFault_4 : decode cX8_placeOfFormFault 4 = .ok (.iconst 0, 1) := by decide +kernel
theorem dX8_placeOfFormFault_5 : decode cX8_placeOfFormFault 5 = .ok (.istore_n 3, 1) := by decide +kernel
theorem dX8_placeOfFormFault_6 : decode cX8_placeOfFormFault 6 = .ok (.iload_n 3, 1) := by decide +kernel
theorem dX8_placeOfFormFault_7 : decode cX8_placeOfFormFault 7 = .ok (.aload_n 0, 1) := by decide +kernel
theorem dX8_placeOfFormFault_8 : decode cX8_placeOfFormFault 8 = .ok (.getfield 9, 3) := by decide +kernel
theorem dX8_placeOfFormFault_11 : decode cX8_placeOfFormFault 11 = .ok (.if_icmp .ge 77, 3) := by decide +kernel
theorem dX8_placeOfFormFault_14 : decode cX8_placeOfFormFault 14 = .ok (.iload_n 1, 1) := by decide +kernel
theorem dX8_placeOfFormFault_15 : decode cX8_placeOfFormFault 15 = .ok (.ifCond .ne 29, 3) := by decide +kernel
theorem dX8_placeOfFormFault_18 : decode cX8_placeOfFormFault 18 = .ok (.aload_n 0, 1) := by decide +kernel
theorem dX8_placeOfFormFault_19 : decode cX8_placeOfFormFault 19 = .ok (.getfield 15, 3) := by decide +kernel
theorem dX8_placeOfFormFault_22 : decode cX8_placeOfFormFault 22 = .ok (.iload_n 3, 1) := by decide +kernel
theorem dX8_placeOfFormFault_23 : decode cX8_placeOfFormFault 23 = .ok (.iaload, 1) := by decide +kernel
theorem dX8_placeOfFormFault_24 : decode cX8_placeOfFormFault 24 = .ok (.invokestatic 19, 3) := by decide +kernel
theorem dX8_placeOfFormFault_27 : decode cX8_placeOfFormFault 27 = .ok (.istore_n 2, 1) := by decide +kernel
theorem dX8_placeOfFormFault_28 : decode cX8_placeOfFormFault 28 = .ok (.iload_n 2, 1) := by decide +kernel
theorem dX8_placeOfFormFault_29 : decode cX8_placeOfFormFault 29 = .ok (.ifCond .le 7, 3) := by decide +kernel
theorem dX8_placeOfFormFault_32 : decode cX8_placeOfFormFault 32 = .ok (.iconst 1, 1) := by decide +kernel
theorem dX8_placeOfFormFault_33 : decode cX8_placeOfFormFault 33 = .ok (.goto 4, 3) := by decide +kernel
theorem dX8_placeOfFormFault_36 : decode cX8_placeOfFormFault 36 = .ok (.iconst 0, 1) := by decide +kernel
theorem dX8_placeOfFormFault_37 : decode cX8_placeOfFormFault 37 = .ok (.istore_n 1, 1) := by decide +kernel
theorem dX8_placeOfFormFault_38 : decode cX8_placeOfFormFault 38 = .ok (.iload_n 1, 1) := by decide +kernel
theorem dX8_placeOfFormFault_39 : decode cX8_placeOfFormFault 39 = .ok (.ifCond .ne 43, 3) := by decide +kernel
theorem dX8_placeOfFormFault_42 : decode cX8_placeOfFormFault 42 = .ok (.iload_n 3, 1) := by decide +kernel
theorem dX8_placeOfFormFault_43 : decode cX8_placeOfFormFault 43 = .ok (.ireturn, 1) := by decide +kernel
theorem dX8_placeOfFormFault_44 : decode cX8_placeOfFormFault 44 = .ok (.iload_n 2, 1) := by decide +kernel
theorem dX8_placeOfFormFault_45 : decode cX8_placeOfFormFault 45 = .ok (.ifCond .le 19, 3) := by decide +kernel
theorem dX8_placeOfFormFault_48 : decode cX8_placeOfFormFault 48 = .ok (.aload_n 0, 1) := by decide +kernel
theorem dX8_placeOfFormFault_49 : decode cX8_placeOfFormFault 49 = .ok (.iload_n 3, 1) := by decide +kernel
theorem dX8_placeOfFormFault_50 : decode cX8_placeOfFormFault 50 = .ok (.invokevirtual 25, 3) := by decide +kernel
theorem dX8_placeOfFormFault_53 : decode cX8_placeOfFormFault 53 = .ok (.ifCond .ne 5, 3) := by decide +kernel
theorem dX8_placeOfFormFault_56 : decode cX8_placeOfFormFault 56 = .ok (.iload_n 3, 1) := by decide +kernel
theorem dX8_placeOfFormFault_57 : decode cX8_placeOfFormFault 57 = .ok (.ireturn, 1) := by decide +kernel
theorem dX8_placeOfFormFault_58 : decode cX8_placeOfFormFault 58 = .ok (.iinc 2 (-1), 3) := by decide +kernel
theorem dX8_placeOfFormFault_61 : decode cX8_placeOfFormFault 61 = .ok (.goto 21, 3) := by decide +kernel
theorem dX8_placeOfFormFault_64 : decode cX8_placeOfFormFault 64 = .ok (.aload_n 0, 1) := by decide +kernel
theorem dX8_placeOfFormFault_65 : decode cX8_placeOfFormFault 65 = .ok (.getfield 15, 3) := by decide +kernel
theorem dX8_placeOfFormFault_68 : decode cX8_placeOfFormFault 68 = .ok (.iload_n 3, 1) := by decide +kernel
theorem dX8_placeOfFormFault_69 : decode cX8_placeOfFormFault 69 = .ok (.iaload, 1) := by decide +kernel
theorem dX8_placeOfFormFault_70 : decode cX8_placeOfFormFault 70 = .ok (.bipush 59, 2) := by decide +kernel
theorem dX8_placeOfFormFault_72 : decode cX8_placeOfFormFault 72 = .ok (.if_icmp .ne 8, 3) := by decide +kernel
theorem dX8_placeOfFormFault_75 : decode cX8_placeOfFormFault 75 = .ok (.iconst 0, 1) := by decide +kernel
theorem dX8_placeOfFormFault_76 : decode cX8_placeOfFormFault 76 = .ok (.istore_n 1, 1) := by decide +kernel
theorem dX8_placeOfFormFault_77 : decode cX8_placeOfFormFault 77 = .ok (.goto 5, 3) := by decide +kernel
theorem dX8_placeOfFormFault_80 : decode cX8_placeOfFormFault 80 = .ok (.iload_n 3, 1) := by decide +kernel
theorem dX8_placeOfFormFault_81 : decode cX8_placeOfFormFault 81 = .ok (.ireturn, 1) := by decide +kernel
theorem dX8_placeOfFormFault_82 : decode cX8_placeOfFormFault 82 = .ok (.iinc 3 1, 3) := by decide +kernel
theorem dX8_placeOfFormFault_85 : decode cX8_placeOfFormFault 85 = .ok (.goto (-79), 3) := by decide +kernel
theorem dX8_placeOfFormFault_88 : decode cX8_placeOfFormFault 88 = .ok (.iload_n 1, 1) := by decide +kernel
theorem dX8_placeOfFormFault_89 : decode cX8_placeOfFormFault 89 = .ok (.ifCond .ne 10, 3) := by decide +kernel
theorem dX8_placeOfFormFault_92 : decode cX8_placeOfFormFault 92 = .ok (.aload_n 0, 1) := by decide +kernel
theorem dX8_placeOfFormFault_93 : decode cX8_placeOfFormFault 93 = .ok (.getfield 9, 3) := by decide +kernel
theorem dX8_placeOfFormFault_96 : decode cX8_placeOfFormFault 96 = .ok (.ifCond .ne 10, 3) := by decide +kernel
theorem dX8_placeOfFormFault_99 : decode cX8_placeOfFormFault 99 = .ok (.aload_n 0, 1) := by decide +kernel
theorem dX8_placeOfFormFault_100 : decode cX8_placeOfFormFault 100 = .ok (.getfield 9, 3) := by decide +kernel
theorem dX8_placeOfFormFault_103 : decode cX8_placeOfFormFault 103 = .ok (.goto 4, 3) := by decide +kernel
theorem dX8_placeOfFormFault_106 : decode cX8_placeOfFormFault 106 = .ok (.iconst (-1), 1) := by decide +kernel
theorem dX8_placeOfFormFault_107 : decode cX8_placeOfFormFault 107 = .ok (.ireturn, 1) := by decide +kernel
theorem dX8_follow_0 : decode cX8_follow 0 = .ok (.iconst 0, 1) := by decide +kernel
theorem dX8_follow_1 : decode cX8_follow 1 = .ok (.istore_n 2, 1) := by decide +kernel
theorem dX8_follow_2 : decode cX8_follow 2 = .ok (.iconst 0, 1) := by decide +kernel
theorem dX8_follow_3 : decode cX8_follow 3 = .ok (.istore_n 3, 1) := by decide +kernel
theorem dX8_follow_4 : decode cX8_follow 4 = .ok (.iload_n 3, 1) := by decide +kernel
theorem dX8_follow_5 : decode cX8_follow 5 = .ok (.aload_n 0, 1) := by decide +kernel
theorem dX8_follow_6 : decode cX8_follow 6 = .ok (.getfield 9, 3) := by decide +kernel
theorem dX8_follow_9 : decode cX8_follow 9 = .ok (.if_icmp .ge 38, 3) := by decide +kernel
theorem dX8_follow_12 : decode cX8_follow 12 = .ok (.aload_n 0, 1) := by decide +kernel
theorem dX8_follow_13 : decode cX8_follow 13 = .ok (.iload_n 3, 1) := by decide +kernel
theorem dX8_follow_14 : decode cX8_follow 14 = .ok (.aload_n 1, 1) := by decide +kernel
theorem dX8_follow_15 : decode cX8_follow 15 = .ok (.invokestatic 29, 3) := by decide +kernel
theorem dX8_follow_18 : decode cX8_follow 18 = .ok (.ifCond .ne 9, 3) := by decide +kernel
theorem dX8_follow_21 : decode cX8_follow 21 = .ok (.sipush (-2000), 3) := by decide +kernel
theorem dX8_follow_24 : decode cX8_follow 24 = .ok (.iload_n 3, 1) := by decide +kernel
theorem dX8_follow_25 : decode cX8_follow 25 = .ok (.isub, 1) := by decide +kernel
theorem dX8_follow_26 : decode cX8_follow 26 = .ok (.ireturn, 1) := by decide +kernel
theorem dX8_follow_27 : decode cX8_follow 27 = .ok (.iinc 2 1, 3) := by decide +kernel
theorem dX8_follow_30 : decode cX8_follow 30 = .ok (.iload_n 3, 1) := by decide +kernel
theorem dX8_follow_31 : decode cX8_follow 31 = .ok (.aload_n 0, 1) := by decide +kernel
theorem dX8_follow_32 : decode cX8_follow 32 = .ok (.getfield 15, 3) := by decide +kernel
theorem dX8_follow_35 : decode cX8_follow 35 = .ok (.iload_n 3, 1) := by decide +kernel
theorem dX8_follow_36 : decode cX8_follow 36 = .ok (.iaload, 1) := by decide +kernel
theorem dX8_follow_37 : decode cX8_follow 37 = .ok (.invokestatic 19, 3) := by decide +kernel
theorem dX8_follow_40 : decode cX8_follow 40 = .ok (.iconst 2, 1) := by decide +kernel
theorem dX8_follow_41 : decode cX8_follow 41 = .ok (.iadd, 1) := by decide +kernel
theorem dX8_follow_42 : decode cX8_follow 42 = .ok (.iadd, 1) := by decide +kernel
theorem dX8_follow_43 : decode cX8_follow 43 = .ok (.istore_n 3, 1) := by decide +kernel
theorem dX8_follow_44 : decode cX8_follow 44 = .ok (.goto (-40), 3) := by decide +kernel
theorem dX8_follow_47 : decode cX8_follow 47 = .ok (.iload_n 2, 1) := by decide +kernel
theorem dX8_follow_48 : decode cX8_follow 48 = .ok (.ireturn, 1) := by decide +kernel
theorem dX8_can_0 : decode cX8_can 0 = .ok (.aload_n 0, 1) := by decide +kernel
theorem dX8_can_1 : decode cX8_can 1 = .ok (.iload_n 1, 1) := by decide +kernel
theorem dX8_can_2 : decode cX8_can 2 = .ok (.iconst 1, 1) := by decide +kernel
theorem dX8_can_3 : decode cX8_can 3 = .ok (.iadd, 1) := by decide +kernel
theorem dX8_can_4 : decode cX8_can 4 = .ok (.aload_n 0, 1) := by decide +kernel
theorem dX8_can_5 : decode cX8_can 5 = .ok (.getfield 15, 3) := by decide +kernel
theorem dX8_can_8 : decode cX8_can 8 = .ok (.iload_n 1, 1) := by decide +kernel
theorem dX8_can_9 : decode cX8_can 9 = .ok (.iaload, 1) := by decide +kernel
theorem dX8_can_10 : decode cX8_can 10 = .ok (.invokestatic 19, 3) := by decide +kernel
theorem dX8_can_13 : decode cX8_can 13 = .ok (.invokevirtual 33, 3) := by decide +kernel
theorem dX8_can_16 : decode cX8_can 16 = .ok (.istore_n 3, 1) := by decide +kernel
theorem dX8_can_17 : decode cX8_can 17 = .ok (.aload_n 0, 1) := by decide +kernel
theorem dX8_can_18 : decode cX8_can 18 = .ok (.getfield 15, 3) := by decide +kernel
theorem dX8_can_21 : decode cX8_can 21 = .ok (.iload_n 1, 1) := by decide +kernel
theorem dX8_can_22 : decode cX8_can 22 = .ok (.iaload, 1) := by decide +kernel
theorem dX8_can_23 : decode cX8_can 23 = .ok (.tableswitch 263 99 119 #[148, 249, 263, 263, 263, 193, 263, 263, 263, 163, 263, 263, 221, 97, 263, 178, 133, 235, 263, 263, 207], 97) := by decide +kernel
theorem dX8_can_120 : decode cX8_can 120 = .ok (.aload_n 2, 1) := by decide +kernel
theorem dX8_can_121 : decode cX8_can 121 = .ok (.iload_n 3, 1) := by decide +kernel
theorem dX8_can_122 : decode cX8_can 122 = .ok (.sipush 1000, 3) := by decide +kernel
theorem dX8_can_125 : decode cX8_can 125 = .ok (.idiv, 1) := by decide +kernel
theorem dX8_can_126 : decode cX8_can 126 = .ok (.iload_n 3, 1) := by decide +kernel
theorem dX8_can_127 : decode cX8_can 127 = .ok (.bipush 100, 2) := by decide +kernel
theorem dX8_can_129 : decode cX8_can 129 = .ok (.idiv, 1) := by decide +kernel
theorem dX8_can_130 : decode cX8_can 130 = .ok (.bipush 10, 2) := by decide +kernel
theorem dX8_can_132 : decode cX8_can 132 = .ok (.irem, 1) := by decide +kernel
theorem dX8_can_133 : decode cX8_can 133 = .ok (.iload_n 3, 1) := by decide +kernel
theorem dX8_can_134 : decode cX8_can 134 = .ok (.bipush 10, 2) := by decide +kernel
theorem dX8_can_136 : decode cX8_can 136 = .ok (.idiv, 1) := by decide +kernel
theorem dX8_can_137 : decode cX8_can 137 = .ok (.bipush 10, 2) := by decide +kernel
theorem dX8_can_139 : decode cX8_can 139 = .ok (.irem, 1) := by decide +kernel
theorem dX8_can_140 : decode cX8_can 140 = .ok (.iload_n 3, 1) := by decide +kernel
theorem dX8_can_141 : decode cX8_can 141 = .ok (.bipush 10, 2) := by decide +kernel
theorem dX8_can_143 : decode cX8_can 143 = .ok (.irem, 1) := by decide +kernel
theorem dX8_can_144 : decode cX8_can 144 = .ok (.invokevirtual 37, 3) := by decide +kernel
theorem dX8_can_147 : decode cX8_can 147 = .ok (.ifCond .lt 7, 3) := by decide +kernel
theorem dX8_can_150 : decode cX8_can 150 = .ok (.iconst 1, 1) := by decide +kernel
theorem dX8_can_151 : decode cX8_can 151 = .ok (.goto 4, 3) := by decide +kernel
theorem dX8_can_154 : decode cX8_can 154 = .ok (.iconst 0, 1) := by decide +kernel
theorem dX8_can_155 : decode cX8_can 155 = .ok (.ireturn, 1) := by decide +kernel
theorem dX8_can_156 : decode cX8_can 156 = .ok (.aload_n 2, 1) := by decide +kernel
theorem dX8_can_157 : decode cX8_can 157 = .ok (.iconst 0, 1) := by decide +kernel
theorem dX8_can_158 : decode cX8_can 158 = .ok (.iload_n 3, 1) := by decide +kernel
theorem dX8_can_159 : decode cX8_can 159 = .ok (.invokevirtual 43, 3) := by decide +kernel
theorem dX8_can_162 : decode cX8_can 162 = .ok (.ifCond .lt 7, 3) := by decide +kernel
theorem dX8_can_165 : decode cX8_can 165 = .ok (.iconst 1, 1) := by decide +kernel
theorem dX8_can_166 : decode cX8_can 166 = .ok (.goto 4, 3) := by decide +kernel
theorem dX8_can_169 : decode cX8_can 169 = .ok (.iconst 0, 1) := by decide +kernel
theorem dX8_can_170 : decode cX8_can 170 = .ok (.ireturn, 1) := by decide +kernel
theorem dX8_can_171 : decode cX8_can 171 = .ok (.aload_n 2, 1) := by decide +kernel
theorem dX8_can_172 : decode cX8_can 172 = .ok (.iconst 1, 1) := by decide +kernel
theorem dX8_can_173 : decode cX8_can 173 = .ok (.iload_n 3, 1) := by decide +kernel
theorem dX8_can_174 : decode cX8_can 174 = .ok (.invokevirtual 43, 3) := by decide +kernel
theorem dX8_can_177 : decode cX8_can 177 = .ok (.ifCond .lt 7, 3) := by decide +kernel
theorem dX8_can_180 : decode cX8_can 180 = .ok (.iconst 1, 1) := by decide +kernel
theorem dX8_can_181 : decode cX8_can 181 = .ok (.goto 4, 3) := by decide +kernel
theorem dX8_can_184 : decode cX8_can 184 = .ok (.iconst 0, 1) := by decide +kernel
theorem dX8_can_185 : decode cX8_can 185 = .ok (.ireturn, 1) := by decide +kernel
theorem dX8_can_186 : decode cX8_can 186 = .ok (.aload_n 2, 1) := by decide +kernel
theorem dX8_can_187 : decode cX8_can 187 = .ok (.iconst 2, 1) := by decide +kernel
theorem dX8_can_188 : decode cX8_can 188 = .ok (.iload_n 3, 1) := by decide +kernel
theorem dX8_can_189 : decode cX8_can 189 = .ok (.invokevirtual 43, 3) := by decide +kernel
theorem dX8_can_192 : decode cX8_can 192 = .ok (.ifCond .lt 7, 3) := by decide +kernel
theorem dX8_can_195 : decode cX8_can 195 = .ok (.iconst 1, 1) := by decide +kernel
theorem dX8_can_196 : decode cX8_can 196 = .ok (.goto 4, 3) := by decide +kernel
theorem dX8_can_199 : decode cX8_can 199 = .ok (.iconst 0, 1) := by decide +kernel
theorem dX8_can_200 : decode cX8_can 200 = .ok (.ireturn, 1) := by decide +kernel
theorem dX8_can_201 : decode cX8_can 201 = .ok (.aload_n 2, 1) := by decide +kernel
theorem dX8_can_202 : decode cX8_can 202 = .ok (.iconst 3, 1) := by decide +kernel
theorem dX8_can_203 : decode cX8_can 203 = .ok (.iload_n 3, 1) := by decide +kernel
theorem dX8_can_204 : decode cX8_can 204 = .ok (.invokevirtual 43, 3) := by decide +kernel
theorem dX8_can_207 : decode cX8_can 207 = .ok (.ifCond .lt 7, 3) := by decide +kernel
theorem dX8_can_210 : decode cX8_can 210 = .ok (.iconst 1, 1) := by decide +kernel
theorem dX8_can_211 : decode cX8_can 211 = .ok (.goto 4, 3) := by decide +kernel
theorem dX8_can_214 : decode cX8_can 214 = .ok (.iconst 0, 1) := by decide +kernel
theorem dX8_can_215 : decode cX8_can 215 = .ok (.ireturn, 1) := by decide +kernel
theorem dX8_can_216 : decode cX8_can 216 = .ok (.aload_n 2, 1) := by decide +kernel
theorem dX8_can_217 : decode cX8_can 217 = .ok (.iload_n 3, 1) := by decide +kernel
theorem dX8_can_218 : decode cX8_can 218 = .ok (.invokevirtual 46, 3) := by decide +kernel
theorem dX8_can_221 : decode cX8_can 221 = .ok (.ifCond .lt 7, 3) := by decide +kernel
theorem dX8_can_224 : decode cX8_can 224 = .ok (.iconst 1, 1) := by decide +kernel
theorem dX8_can_225 : decode cX8_can 225 = .ok (.goto 4, 3) := by decide +kernel
theorem dX8_can_228 : decode cX8_can 228 = .ok (.iconst 0, 1) := by decide +kernel
theorem dX8_can_229 : decode cX8_can 229 = .ok (.ireturn, 1) := by decide +kernel
theorem dX8_can_230 : decode cX8_can 230 = .ok (.aload_n 2, 1) := by decide +kernel
theorem dX8_can_231 : decode cX8_can 231 = .ok (.iload_n 3, 1) := by decide +kernel
theorem dX8_can_232 : decode cX8_can 232 = .ok (.invokevirtual 49, 3) := by decide +kernel
theorem dX8_can_235 : decode cX8_can 235 = .ok (.ifCond .lt 7, 3) := by decide +kernel
theorem dX8_can_238 : decode cX8_can 238 = .ok (.iconst 1, 1) := by decide +kernel
theorem dX8_can_239 : decode cX8_can 239 = .ok (.goto 4, 3) := by decide +kernel
theorem dX8_can_242 : decode cX8_can 242 = .ok (.iconst 0, 1) := by decide +kernel
theorem dX8_can_243 : decode cX8_can 243 = .ok (.ireturn, 1) := by decide +kernel
theorem dX8_can_244 : decode cX8_can 244 = .ok (.aload_n 2, 1) := by decide +kernel
theorem dX8_can_245 : decode cX8_can 245 = .ok (.iload_n 3, 1) := by decide +kernel
theorem dX8_can_246 : decode cX8_can 246 = .ok (.invokevirtual 52, 3) := by decide +kernel
theorem dX8_can_249 : decode cX8_can 249 = .ok (.ifCond .lt 7, 3) := by decide +kernel
theorem dX8_can_252 : decode cX8_can 252 = .ok (.iconst 1, 1) := by decide +kernel
theorem dX8_can_253 : decode cX8_can 253 = .ok (.goto 4, 3) := by decide +kernel
theorem dX8_can_256 : decode cX8_can 256 = .ok (.iconst 0, 1) := by decide +kernel
theorem dX8_can_257 : decode cX8_can 257 = .ok (.ireturn, 1) := by decide +kernel
theorem dX8_can_258 : decode cX8_can 258 = .ok (.aload_n 2, 1) := by decide +kernel
theorem dX8_can_259 : decode cX8_can 259 = .ok (.iload_n 3, 1) := by decide +kernel
theorem dX8_can_260 : decode cX8_can 260 = .ok (.invokevirtual 55, 3) := by decide +kernel
theorem dX8_can_263 : decode cX8_can 263 = .ok (.ifCond .lt 7, 3) := by decide +kernel
theorem dX8_can_266 : decode cX8_can 266 = .ok (.iconst 1, 1) := by decide +kernel
theorem dX8_can_267 : decode cX8_can 267 = .ok (.goto 4, 3) := by decide +kernel
theorem dX8_can_270 : decode cX8_can 270 = .ok (.iconst 0, 1) := by decide +kernel
theorem dX8_can_271 : decode cX8_can 271 = .ok (.ireturn, 1) := by decide +kernel
theorem dX8_can_272 : decode cX8_can 272 = .ok (.aload_n 2, 1) := by decide +kernel
theorem dX8_can_273 : decode cX8_can 273 = .ok (.iload_n 3, 1) := by decide +kernel
theorem dX8_can_274 : decode cX8_can 274 = .ok (.invokevirtual 58, 3) := by decide +kernel
theorem dX8_can_277 : decode cX8_can 277 = .ok (.ifCond .lt 7, 3) := by decide +kernel
theorem dX8_can_280 : decode cX8_can 280 = .ok (.iconst 1, 1) := by decide +kernel
theorem dX8_can_281 : decode cX8_can 281 = .ok (.goto 4, 3) := by decide +kernel
theorem dX8_can_284 : decode cX8_can 284 = .ok (.iconst 0, 1) := by decide +kernel
theorem dX8_can_285 : decode cX8_can 285 = .ok (.ireturn, 1) := by decide +kernel
theorem dX8_can_286 : decode cX8_can 286 = .ok (.iconst 0, 1) := by decide +kernel
theorem dX8_can_287 : decode cX8_can 287 = .ok (.ireturn, 1) := by decide +kernel
theorem dX9_init_0 : decode cX9_init 0 = .ok (.aload_n 0, 1) := by decide +kernel
theorem dX9_init_1 : decode cX9_init 1 = .ok (.invokespecial 3, 3) := by decide +kernel
theorem dX9_init_4 : decode cX9_init 4 = .ok (.aload_n 0, 1) := by decide +kernel
theorem dX9_init_5 : decode cX9_init 5 = .ok (.iconst 0, 1) := by decide +kernel
theorem dX9_init_6 : decode cX9_init 6 = .ok (.putfield 11, 3) := by decide +kernel
theorem dX9_init_9 : decode cX9_init 9 = .ok (.aload_n 0, 1) := by decide +kernel
theorem dX9_init_10 : decode cX9_init 10 = .ok (.iconst 0, 1) := by decide +kernel
theorem dX9_init_11 : decode cX9_init 11 = .ok (.putfield 15, 3) := by decide +kernel
theorem dX9_init_14 : decode cX9_init 14 = .ok (.aload_n 0, 1) := by decide +kernel
theorem dX9_init_15 : decode cX9_init 15 = .ok (.iconst 0, 1) := by decide +kernel
theorem dX9_init_16 : decode cX9_init 16 = .ok (.putfield 18, 3) := by decide +kernel
theorem dX9_init_19 : decode cX9_init 19 = .ok (.aload_n 0, 1) := by decide +kernel
theorem dX9_init_20 : decode cX9_init 20 = .ok (.iconst 0, 1) := by decide +kernel
theorem dX9_init_21 : decode cX9_init 21 = .ok (.putfield 21, 3) := by decide +kernel
theorem dX9_init_24 : decode cX9_init 24 = .ok (.aload_n 0, 1) := by decide +kernel
theorem dX9_init_25 : decode cX9_init 25 = .ok (.iconst 0, 1) := by decide +kernel
theorem dX9_init_26 : decode cX9_init 26 = .ok (.putfield 24, 3) := by decide +kernel
theorem dX9_init_29 : decode cX9_init 29 = .ok (.aload_n 0, 1) := by decide +kernel
theorem dX9_init_30 : decode cX9_init 30 = .ok (.bipush 100, 2) := by decide +kernel
theorem dX9_init_32 : decode cX9_init 32 = .ok (.newarray .int, 2) := by decide +kernel
theorem dX9_init_34 : decode cX9_init 34 = .ok (.putfield 27, 3) := by decide +kernel
theorem dX9_init_37 : decode cX9_init 37 = .ok (.return_, 1) := by decide +kernel
theorem dX9_clear_0 : decode cX9_clear 0 = .ok (.aload_n 0, 1) := by decide +kernel
theorem dX9_clear_1 : decode cX9_clear 1 = .ok (.iconst 0, 1) := by decide +kernel
theorem dX9_clear_2 : decode cX9_clear 2 = .ok (.putfield 11, 3) := by decide +kernel
theorem dX9_clear_5 : decode cX9_clear 5 = .ok (.aload_n 0, 1) := by decide +kernel
theorem dX9_clear_6 : decode cX9_clear 6 = .ok (.iconst 0, 1) := by decide +kernel
theorem dX9_clear_7 : decode cX9_clear 7 = .ok (.putfield 24, 3) := by decide +kernel
theorem dX9_clear_10 : decode cX9_clear 10 = .ok (.return_, 1) := by decide +kernel
theorem dX9_takeKind_0 : decode cX9_takeKind 0 = .ok (.aload_n 0, 1) := by decide +kernel
theorem dX9_takeKind_1 : decode cX9_takeKind 1 = .ok (.iconst 1, 1) := by decide +kernel
theorem dX9_takeKind_2 : decode cX9_takeKind 2 = .ok (.putfield 11, 3) := by decide +kernel
theorem dX9_takeKind_5 : decode cX9_takeKind 5 = .ok (.aload_n 0, 1) := by decide +kernel
theorem dX9_takeKind_6 : decode cX9_takeKind 6 = .ok (.iload_n 1, 1) := by decide +kernel
theorem dX9_takeKind_7 : decode cX9_takeKind 7 = .ok (.putfield 15, 3) := by decide +kernel
theorem dX9_takeKind_10 : decode cX9_takeKind 10 = .ok (.aload_n 0, 1) := by decide +kernel
theorem dX9_takeKind_11 : decode cX9_takeKind 11 = .ok (.iload_n 2, 1) := by decide +kernel
theorem dX9_takeKind_12 : decode cX9_takeKind 12 = .ok (.putfield 18, 3) := by decide +kernel
theorem dX9_takeKind_15 : decode cX9_takeKind 15 = .ok (.aload_n 0, 1) := by decide +kernel
theorem dX9_takeKind_16 : decode cX9_takeKind 16 = .ok (.iconst 0, 1) := by decide +kernel
theorem dX9_takeKind_17 : decode cX9_takeKind 17 = .ok (.putfield 24, 3) := by decide +kernel
theorem dX9_takeKind_20 : decode cX9_takeKind 20 = .ok (.return_, 1) := by decide +kernel
theorem dX9_takeRow_0 : decode cX9_takeRow 0 = .ok (.aload_n 0, 1) := by decide +kernel
theorem dX9_takeRow_1 : decode cX9_takeRow 1 = .ok (.iconst 2, 1) := by decide +kernel
theorem dX9_takeRow_2 : decode cX9_takeRow 2 = .ok (.putfield 11, 3) := by decide +kernel
theorem dX9_takeRow_5 : decode cX9_takeRow 5 = .ok (.aload_n 0, 1) := by decide +kernel
theorem dX9_takeRow_6 : decode cX9_takeRow 6 = .ok (.iload_n 1, 1) := by decide +kernel
theorem dX9_takeRow_7 : decode cX9_takeRow 7 = .ok (.putfield 21, 3) := by decide +kernel
theorem dX9_takeRow_10 : decode cX9_takeRow 10 = .ok (.aload_n 0, 1) := by decide +kernel
theorem dX9_takeRow_11 : decode cX9_takeRow 11 = .ok (.iload_n 2, 1) := by decide +kernel
theorem dX9_takeRow_12 : decode cX9_takeRow 12 = .ok (.putfield 24, 3) := by decide +kernel
theorem dX9_takeRow_15 : decode cX9_takeRow 15 = .ok (.iconst 0, 1) := by decide +kernel
theorem dX9_takeRow_16 : decode cX9_takeRow 16 = .ok (.istore_n 3, 1) := by decide +kernel
theorem dX9_takeRow_17 : decode cX9_takeRow 17 = .ok (.iload_n 3, 1) := by decide +kernel
theorem dX9_takeRow_18 : decode cX9_takeRow 18 = .ok (.aload_n 0, 1) := by decide +kernel
theorem dX9_takeRow_19 : decode cX9_takeRow 19 = .ok (.getfield 27, 3) := by decide +kernel
theorem dX9_takeRow_22 : decode cX9_takeRow 22 = .ok (.arraylength, 1) := by decide +kernel
theorem dX9_takeRow_23 : decode cX9_takeRow 23 = .ok (.if_icmp .ge 16, 3) := by decide +kernel
theorem dX9_takeRow_26 : decode cX9_takeRow 26 = .ok (.aload_n 0, 1) := by decide +kernel
theorem dX9_takeRow_27 : decode cX9_takeRow 27 = .ok (.getfield 27, 3) := by decide +kernel
theorem dX9_takeRow_30 : decode cX9_takeRow 30 = .ok (.iload_n 3, 1) := by decide +kernel
theorem dX9_takeRow_31 : decode cX9_takeRow 31 = .ok (.iconst 0, 1) := by decide +kernel
theorem dX9_takeRow_32 : decode cX9_takeRow 32 = .ok (.iastore, 1) := by decide +kernel
theorem dX9_takeRow_33 : decode cX9_takeRow 33 = .ok (.iinc 3 1, 3) := by decide +kernel
theorem dX9_takeRow_36 : decode cX9_takeRow 36 = .ok (.goto (-19), 3) := by decide +kernel
theorem dX9_takeRow_39 : decode cX9_takeRow 39 = .ok (.return_, 1) := by decide +kernel
theorem dX9_isEmpty_0 : decode cX9_isEmpty 0 = .ok (.aload_n 0, 1) := by decide +kernel
theorem dX9_isEmpty_1 : decode cX9_isEmpty 1 = .ok (.getfield 11, 3) := by decide +kernel
theorem dX9_isEmpty_4 : decode cX9_isEmpty 4 = .ok (.ifCond .ne 7, 3) := by decide +kernel
theorem dX9_isEmpty_7 : decode cX9_isEmpty 7 = .ok (.iconst 1, 1) := by decide +kernel
theorem dX9_isEmpty_8 : decode cX9_isEmpty 8 = .ok (.goto 4, 3) := by decide +kernel
theorem dX9_isEmpty_11 : decode cX9_isEmpty 11 = .ok (.iconst 0, 1) := by decide +kernel
theorem dX9_isEmpty_12 : decode cX9_isEmpty 12 = .ok (.ireturn, 1) := by decide +kernel
theorem dX9_refusalAsKind_0 : decode cX9_refusalAsKind 0 = .ok (.aload_n 0, 1) := by decide +kernel
theorem dX9_refusalAsKind_1 : decode cX9_refusalAsKind 1 = .ok (.getfield 11, 3) := by decide +kernel
theorem dX9_refusalAsKind_4 : decode cX9_refusalAsKind 4 = .ok (.ifCond .ne 8, 3) := by decide +kernel
theorem dX9_refusalAsKind_7 : decode cX9_refusalAsKind 7 = .ok (.bipush (-11), 2) := by decide +kernel
theorem dX9_refusalAsKind_9 : decode cX9_refusalAsKind 9 = .ok (.goto 17, 3) := by decide +kernel
theorem dX9_refusalAsKind_12 : decode cX9_refusalAsKind 12 = .ok (.aload_n 0, 1) := by decide +kernel
theorem dX9_refusalAsKind_13 : decode cX9_refusalAsKind 13 = .ok (.getfield 11, 3) := by decide +kernel
theorem dX9_refusalAsKind_16 : decode cX9_refusalAsKind 16 = .ok (.iconst 1, 1) := by decide +kernel
theorem dX9_refusalAsKind_17 : decode cX9_refusalAsKind 17 = .ok (.if_icmp .ne 7, 3) := by decide +kernel
theorem dX9_refusalAsKind_20 : decode cX9_refusalAsKind 20 = .ok (.iconst 0, 1) := by decide +kernel
theorem dX9_refusalAsKind_21 : decode cX9_refusalAsKind 21 = .ok (.goto 5, 3) := by decide +kernel
theorem dX9_refusalAsKind_24 : decode cX9_refusalAsKind 24 = .ok (.bipush (-12), 2) := by decide +kernel
theorem dX9_refusalAsKind_26 : decode cX9_refusalAsKind 26 = .ok (.ireturn, 1) := by decide +kernel
theorem dX9_refusalAsRow_0 : decode cX9_refusalAsRow 0 = .ok (.aload_n 0, 1) := by decide +kernel
theorem dX9_refusalAsRow_1 : decode cX9_refusalAsRow 1 = .ok (.getfield 11, 3) := by decide +kernel
theorem dX9_refusalAsRow_4 : decode cX9_refusalAsRow 4 = .ok (.ifCond .ne 8, 3) := by decide +kernel
theorem dX9_refusalAsRow_7 : decode cX9_refusalAsRow 7 = .ok (.bipush (-11), 2) := by decide +kernel
theorem dX9_refusalAsRow_9 : decode cX9_refusalAsRow 9 = .ok (.goto 17, 3) := by decide +kernel
theorem dX9_refusalAsRow_12 : decode cX9_refusalAsRow 12 = .ok (.aload_n 0, 1) := by decide +kernel
theorem dX9_refusalAsRow_13 : decode cX9_refusalAsRow 13 = .ok (.getfield 11, 3) := by decide +kernel
theorem dX9_refusalAsRow_16 : decode cX9_refusalAsRow 16 = .ok (.iconst 2, 1) := by decide +kernel
theorem dX9_refusalAsRow_17 : decode cX9_refusalAsRow 17 = .ok (.if_icmp .ne 7, 3) := by decide +kernel
theorem dX9_refusalAsRow_20 : decode cX9_refusalAsRow 20 = .ok (.iconst 0, 1) := by decide +kernel
theorem dX9_refusalAsRow_21 : decode cX9_refusalAsRow 21 = .ok (.goto 5, 3) := by decide +kernel
theorem dX9_refusalAsRow_24 : decode cX9_refusalAsRow 24 = .ok (.bipush (-12), 2) := by decide +kernel
theorem dX9_refusalAsRow_26 : decode cX9_refusalAsRow 26 = .ok (.ireturn, 1) := by decide +kernel
theorem dX9_hasPlace_0 : decode cX9_hasPlace 0 = .ok (.iload_n 1, 1) := by decide +kernel
theorem dX9_hasPlace_1 : decode cX9_hasPlace 1 = .ok (.ifCond .lt 15, 3) := by decide +kernel
theorem dX9_hasPlace_4 : decode cX9_hasPlace 4 = .ok (.iload_n 1, 1) := by decide +kernel
theorem dX9_hasPlace_5 : decode cX9_hasPlace 5 = .ok (.aload_n 0, 1) := by decide +kernel
theorem dX9_hasPlace_6 : decode cX9_hasPlace 6 = .ok (.getfield 24, 3) := by decide +kernel
theorem dX9_hasPlace_9 : decode cX9_hasPlace 9 = .ok (.if_icmp .ge 7, 3) := by decide +kernel
theorem dX9_hasPlace_12 : decode cX9_hasPlace 12 = .ok (.iconst 1, 1) := by decide +kernel
theorem dX9_hasPlace_13 : decode cX9_hasPlace 13 = .ok (.goto 4, 3) := by decide +kernel
theorem dX9_hasPlace_16 : decode cX9_hasPlace 16 = .ok (.iconst 0, 1) := by decide +kernel
theorem dX9_hasPlace_17 : decode cX9_hasPlace 17 = .ok (.ireturn, 1) := by decide +kernel
theorem dX9_hasStretch_0 : decode cX9_hasStretch 0 = .ok (.iload_n 1, 1) := by decide +kernel
theorem dX9_hasStretch_1 : decode cX9_hasStretch 1 = .ok (.ifCond .lt 29, 3) := by decide +kernel
theorem dX9_hasStretch_4 : decode cX9_hasStretch 4 = .ok (.iload_n 2, 1) := by decide +kernel
theorem dX9_hasStretch_5 : decode cX9_hasStretch 5 = .ok (.ifCond .lt 25, 3) := by decide +kernel
theorem dX9_hasStretch_8 : decode cX9_hasStretch 8 = .ok (.iload_n 1, 1) := by decide +kernel
theorem dX9_hasStretch_9 : decode cX9_hasStretch 9 = .ok (.aload_n 0, 1) := by decide +kernel
theorem dX9_hasStretch_10 : decode cX9_hasStretch 10 = .ok (.getfield 24, 3) := by decide +kernel
theorem dX9_hasStretch_13 : decode cX9_hasStretch 13 = .ok (.if_icmp .gt 17, 3) := by decide +kernel
theorem dX9_hasStretch_16 : decode cX9_hasStretch 16 = .ok (.iload_n 2, 1) := by decide +kernel
theorem dX9_hasStretch_17 : decode cX9_hasStretch 17 = .ok (.aload_n 0, 1) := by decide +kernel
theorem dX9_hasStretch_18 : decode cX9_hasStretch 18 = .ok (.getfield 24, 3) := by decide +kernel
theorem dX9_hasStretch_21 : decode cX9_hasStretch 21 = .ok (.iload_n 1, 1) := by decide +kernel
theorem dX9_hasStretch_22 : decode cX9_hasStretch 22 = .ok (.isub, 1) := by decide +kernel
theorem dX9_hasStretch_23 : decode cX9_hasStretch 23 = .ok (.if_icmp .gt 7, 3) := by decide +kernel
theorem dX9_hasStretch_26 : decode cX9_hasStretch 26 = .ok (.iconst 1, 1) := by decide +kernel
theorem dX9_hasStretch_27 : decode cX9_hasStretch 27 = .ok (.goto 4, 3) := by decide +kernel
theorem dX9_hasStretch_30 : decode cX9_hasStretch 30 = .ok (.iconst 0, 1) := by decide +kernel
theorem dX9_hasStretch_31 : decode cX9_hasStretch 31 = .ok (.ireturn, 1) := by decide +kernel
theorem dX9_store_0 : decode cX9_store 0 = .ok (.aload_n 0, 1) := by decide +kernel
theorem dX9_store_1 : decode cX9_store 1 = .ok (.iload_n 1, 1) := by decide +kernel
theorem dX9_store_2 : decode cX9_store 2 = .ok (.invokevirtual 31, 3) := by decide +kernel
theorem dX9_store_5 : decode cX9_store 5 = .ok (.ifCond .eq 35, 3) := by decide +kernel
theorem dX9_store_8 : decode cX9_store 8 = .ok (.aload_n 0, 1) := by decide +kernel
theorem dX9_store_9 : decode cX9_store 9 = .ok (.getfield 27, 3) := by decide +kernel
theorem dX9_store_12 : decode cX9_store 12 = .ok (.iload_n 1, 1) := by decide +kernel
theorem dX9_store_13 : decode cX9_store 13 = .ok (.aload_n 0, 1) := by decide +kernel
theorem dX9_store_14 : decode cX9_store 14 = .ok (.getfield 21, 3) := by decide +kernel
theorem dX9_store_17 : decode cX9_store 17 = .ok (.ifCond .ne 8, 3) := by decide +kernel
theorem dX9_store_20 : decode cX9_store 20 = .ok (.iload_n 2, 1) := by decide +kernel
theorem dX9_store_21 : decode cX9_store 21 = .ok (.i2b, 1) := by decide +kernel
theorem dX9_store_22 : decode cX9_store 22 = .ok (.goto 17, 3) := by decide +kernel
theorem dX9_store_25 : decode cX9_store 25 = .ok (.aload_n 0, 1) := by decide +kernel
theorem dX9_store_26 : decode cX9_store 26 = .ok (.getfield 21, 3) := by decide +kernel
theorem dX9_store_29 : decode cX9_store 29 = .ok (.iconst 1, 1) := by decide +kernel
theorem dX9_store_30 : decode cX9_store 30 = .ok (.if_icmp .ne 8, 3) := by decide +kernel
theorem dX9_store_33 : decode cX9_store 33 = .ok (.iload_n 2, 1) := by decide +kernel
theorem dX9_store_34 : decode cX9_store 34 = .ok (.i2s, 1) := by decide +kernel
theorem dX9_store_35 : decode cX9_store 35 = .ok (.goto 4, 3) := by decide +kernel
theorem dX9_store_38 : decode cX9_store 38 = .ok (.iload_n 2, 1) := by decide +kernel
theorem dX9_store_39 : decode cX9_store 39 = .ok (.iastore, 1) := by decide +kernel
theorem dX9_store_40 : decode cX9_store 40 = .ok (.return_, 1) := by decide +kernel
theorem dX9_skips_0 : decode cX9_skips 0 = .ok (.aload_n 0, 1) := by decide +kernel
theorem dX9_skips_1 : decode cX9_skips 1 = .ok (.getfield 21, 3) := by decide +kernel
theorem dX9_skips_4 : decode cX9_skips 4 = .ok (.ifCond .ne 8, 3) := by decide +kernel
theorem dX9_skips_7 : decode cX9_skips 7 = .ok (.bipush (-128), 2) := by decide +kernel
theorem dX9_skips_9 : decode cX9_skips 9 = .ok (.goto 19, 3) := by decide +kernel
theorem dX9_skips_12 : decode cX9_skips 12 = .ok (.aload_n 0, 1) := by decide +kernel
theorem dX9_skips_13 : decode cX9_skips 13 = .ok (.getfield 21, 3) := by decide +kernel
theorem dX9_skips_16 : decode cX9_skips 16 = .ok (.iconst 1, 1) := by decide +kernel
theorem dX9_skips_17 : decode cX9_skips 17 = .ok (.if_icmp .ne 9, 3) := by decide +kernel
theorem dX9_skips_20 : decode cX9_skips 20 = .ok (.sipush (-32768), 3) := by decide +kernel
theorem dX9_skips_23 : decode cX9_skips 23 = .ok (.goto 5, 3) := by decide +kernel
theorem dX9_skips_26 : decode cX9_skips 26 = .ok (.ldc 35, 2) := by decide +kernel
theorem dX9_skips_28 : decode cX9_skips 28 = .ok (.istore_n 2, 1) := by decide +kernel
theorem dX9_skips_29 : decode cX9_skips 29 = .ok (.aload_n 0, 1) := by decide +kernel
theorem dX9_skips_30 : decode cX9_skips 30 = .ok (.iload_n 1, 1) := by decide +kernel
theorem dX9_skips_31 : decode cX9_skips 31 = .ok (.invokevirtual 31, 3) := by decide +kernel
theorem dX9_skips_34 : decode cX9_skips 34 = .ok (.ifCond .eq 17, 3) := by decide +kernel
theorem dX9_skips_37 : decode cX9_skips 37 = .ok (.aload_n 0, 1) := by decide +kernel
theorem dX9_skips_38 : decode cX9_skips 38 = .ok (.getfield 27, 3) := by decide +kernel
theorem dX9_skips_41 : decode cX9_skips 41 = .ok (.iload_n 1, 1) := by decide +kernel
theorem dX9_skips_42 : decode cX9_skips 42 = .ok (.iaload, 1) := by decide +kernel
theorem dX9_skips_43 : decode cX9_skips 43 = .ok (.iload_n 2, 1) := by decide +kernel
theorem dX9_skips_44 : decode cX9_skips 44 = .ok (.if_icmp .ne 7, 3) := by decide +kernel
theorem dX9_skips_47 : decode cX9_skips 47 = .ok (.iconst 1, 1) := by decide +kernel
theorem dX9_skips_48 : decode cX9_skips 48 = .ok (.goto 4, 3) := by decide +kernel
theorem dX9_skips_51 : decode cX9_skips 51 = .ok (.iconst 0, 1) := by decide +kernel
theorem dX9_skips_52 : decode cX9_skips 52 = .ok (.ireturn, 1) := by decide +kernel
theorem dX9_isOfPairs_0 : decode cX9_isOfPairs 0 = .ok (.aload_n 0, 1) := by decide +kernel
theorem dX9_isOfPairs_1 : decode cX9_isOfPairs 1 = .ok (.getfield 24, 3) := by decide +kernel
theorem dX9_isOfPairs_4 : decode cX9_isOfPairs 4 = .ok (.iconst 2, 1) := by decide +kernel
theorem dX9_isOfPairs_5 : decode cX9_isOfPairs 5 = .ok (.irem, 1) := by decide +kernel
theorem dX9_isOfPairs_6 : decode cX9_isOfPairs 6 = .ok (.ifCond .eq 5, 3) := by decide +kernel
theorem dX9_isOfPairs_9 : decode cX9_isOfPairs 9 = .ok (.iconst 0, 1) := by decide +kernel
theorem dX9_isOfPairs_10 : decode cX9_isOfPairs 10 = .ok (.ireturn, 1) := by decide +kernel
theorem dX9_isOfPairs_11 : decode cX9_isOfPairs 11 = .ok (.iconst 0, 1) := by decide +kernel
theorem dX9_isOfPairs_12 : decode cX9_isOfPairs 12 = .ok (.istore_n 1, 1) := by decide +kernel
theorem dX9_isOfPairs_13 : decode cX9_isOfPairs 13 = .ok (.iload_n 1, 1) := by decide +kernel
theorem dX9_isOfPairs_14 : decode cX9_isOfPairs 14 = .ok (.iconst 1, 1) := by decide +kernel
theorem dX9_isOfPairs_15 : decode cX9_isOfPairs 15 = .ok (.iadd, 1) := by decide +kernel
theorem dX9_isOfPairs_16 : decode cX9_isOfPairs 16 = .ok (.aload_n 0, 1) := by decide +kernel
theorem dX9_isOfPairs_17 : decode cX9_isOfPairs 17 = .ok (.getfield 24, 3) := by decide +kernel
theorem dX9_isOfPairs_20 : decode cX9_isOfPairs 20 = .ok (.if_icmp .ge 37, 3) := by decide +kernel
theorem dX9_isOfPairs_23 : decode cX9_isOfPairs 23 = .ok (.aload_n 0, 1) := by decide +kernel
theorem dX9_isOfPairs_24 : decode cX9_isOfPairs 24 = .ok (.getfield 27, 3) := by decide +kernel
theorem dX9_isOfPairs_27 : decode cX9_isOfPairs 27 = .ok (.iload_n 1, 1) := by decide +kernel
theorem dX9_isOfPairs_28 : decode cX9_isOfPairs 28 = .ok (.iaload, 1) := by decide +kernel
theorem dX9_isOfPairs_29 : decode cX9_isOfPairs 29 = .ok (.invokestatic 36, 3) := by decide +kernel
theorem dX9_isOfPairs_32 : decode cX9_isOfPairs 32 = .ok (.ifCond .eq 17, 3) := by decide +kernel
theorem dX9_isOfPairs_35 : decode cX9_isOfPairs 35 = .ok (.aload_n 0, 1) := by decide +kernel
theorem dX9_isOfPairs_36 : decode cX9_isOfPairs 36 = .ok (.getfield 27, 3) := by decide +kernel
theorem dX9_isOfPairs_39 : decode cX9_isOfPairs 39 = .ok (.iload_n 1, 1) := by decide +kernel
theorem dX9_isOfPairs_40 : decode cX9_isOfPairs 40 = .ok (.iconst 1, 1) := by decide +kernel
theorem dX9_isOfPairs_41 : decode cX9_isOfPairs 41 = .ok (.iadd, 1) := by decide +kernel
theorem dX9_isOfPairs_42 : decode cX9_isOfPairs 42 = .ok (.iaload, 1) := by decide +kernel
theorem dX9_isOfPairs_43 : decode cX9_isOfPairs 43 = .ok (.invokestatic 39, 3) := by decide +kernel
theorem dX9_isOfPairs_46 : decode cX9_isOfPairs 46 = .ok (.ifCond .ne 5, 3) := by decide +kernel
theorem dX9_isOfPairs_49 : decode cX9_isOfPairs 49 = .ok (.iconst 0, 1) := by decide +kernel
theorem dX9_isOfPairs_50 : decode cX9_isOfPairs 50 = .ok (.ireturn, 1) := by decide +kernel
theorem dX9_isOfPairs_51 : decode cX9_isOfPairs 51 = .ok (.iinc 1 2, 3) := by decide +kernel
theorem dX9_isOfPairs_54 : decode cX9_isOfPairs 54 = .ok (.goto (-41), 3) := by decide +kernel
theorem dX9_isOfPairs_57 : decode cX9_isOfPairs 57 = .ok (.iconst 1, 1) := by decide +kernel
theorem dX9_isOfPairs_58 : decode cX9_isOfPairs 58 = .ok (.ireturn, 1) := by decide +kernel
theorem dX9_hasDigit_0 : decode cX9_hasDigit 0 = .ok (.aload_n 0, 1) := by decide +kernel
theorem dX9_hasDigit_1 : decode cX9_hasDigit 1 = .ok (.iload_n 1, 1) := by decide +kernel
theorem dX9_hasDigit_2 : decode cX9_hasDigit 2 = .ok (.invokevirtual 31, 3) := by decide +kernel
theorem dX9_hasDigit_5 : decode cX9_hasDigit 5 = .ok (.ifCond .eq 23, 3) := by decide +kernel
theorem dX9_hasDigit_8 : decode cX9_hasDigit 8 = .ok (.aload_n 0, 1) := by decide +kernel
theorem dX9_hasDigit_9 : decode cX9_hasDigit 9 = .ok (.getfield 27, 3) := by decide +kernel
theorem dX9_hasDigit_12 : decode cX9_hasDigit 12 = .ok (.iload_n 1, 1) := by decide +kernel
theorem dX9_hasDigit_13 : decode cX9_hasDigit 13 = .ok (.iaload, 1) := by decide +kernel
theorem dX9_hasDigit_14 : decode cX9_hasDigit 14 = .ok (.bipush 48, 2) := by decide +kernel
theorem dX9_hasDigit_16 : decode cX9_hasDigit 16 = .ok (.bipush 57, 2) := by decide +kernel
theorem dX9_hasDigit_18 : decode cX9_hasDigit 18 = .ok (.invokestatic 42, 3) := by decide +kernel
theorem dX9_hasDigit_21 : decode cX9_hasDigit 21 = .ok (.ifCond .eq 7, 3) := by decide +kernel
theorem dX9_hasDigit_24 : decode cX9_hasDigit 24 = .ok (.iconst 1, 1) := by decide +kernel
theorem dX9_hasDigit_25 : decode cX9_hasDigit 25 = .ok (.goto 4, 3) := by decide +kernel
theorem dX9_hasDigit_28 : decode cX9_hasDigit 28 = .ok (.iconst 0, 1) := by decide +kernel
theorem dX9_hasDigit_29 : decode cX9_hasDigit 29 = .ok (.ireturn, 1) := by decide +kernel
theorem dX9_number_0 : decode cX9_number 0 = .ok (.iconst 0, 1) := by decide +kernel
theorem dX9_number_1 : decode cX9_number 1 = .ok (.istore_n 3, 1) := by decide +kernel
theorem dX9_number_2 : decode cX9_number 2 = .ok (.iload_n 1, 1) := by decide +kernel
theorem dX9_number_3 : decode cX9_number 3 = .ok (.istore 4, 2) := by decide +kernel
theorem dX9_number_5 : decode cX9_number 5 = .ok (.iload 4, 2) := by decide +kernel
theorem dX9_number_7 : decode cX9_number 7 = .ok (.iload_n 1, 1) := by decide +kernel
theorem dX9_number_8 : decode cX9_number 8 = .ok (.iload_n 2, 1) := by decide +kernel
theorem dX9_number_9 : decode cX9_number 9 = .ok (.iadd, 1) := by decide +kernel
theorem dX9_number_10 : decode cX9_number 10 = .ok (.if_icmp .ge 34, 3) := by decide +kernel
theorem dX9_number_13 : decode cX9_number 13 = .ok (.aload_n 0, 1) := by decide +kernel
theorem dX9_number_14 : decode cX9_number 14 = .ok (.iload 4, 2) := by decide +kernel
theorem dX9_number_16 : decode cX9_number 16 = .ok (.invokevirtual 46, 3) := by decide +kernel
theorem dX9_number_19 : decode cX9_number 19 = .ok (.ifCond .eq 25, 3) := by decide +kernel
theorem dX9_number_22 : decode cX9_number 22 = .ok (.bipush 10, 2) := by decide +kernel
theorem dX9_number_24 : decode cX9_number 24 = .ok (.iload_n 3, 1) := by decide +kernel
theorem dX9_number_25 : decode cX9_number 25 = .ok (.imul, 1) := by decide +kernel
theorem dX9_number_26 : decode cX9_number 26 = .ok (.aload_n 0, 1) := by decide +kernel
theorem dX9_number_27 : decode cX9_number 27 = .ok (.getfield 27, 3) := by decide +kernel
theorem dX9_number_30 : decode cX9_number 30 = .ok (.iload 4, 2) := by decide +kernel
theorem dX9_number_32 : decode cX9_number 32 = .ok (.iaload, 1) := by decide +kernel
theorem dX9_number_33 : decode cX9_number 33 = .ok (.iadd, 1) := by decide +kernel
theorem dX9_number_34 : decode cX9_number 34 = .ok (.bipush 48, 2) := by decide +kernel
theorem dX9_number_36 : decode cX9_number 36 = .ok (.isub, 1) := by decide +kernel
theorem dX9_number_37 : decode cX9_number 37 = .ok (.istore_n 3, 1) := by decide +kernel
theorem dX9_number_38 : decode cX9_number 38 = .ok (.iinc 4 1, 3) := by decide +kernel
theorem dX9_number_41 : decode cX9_number 41 = .ok (.goto (-36), 3) := by decide +kernel
theorem dX9_number_44 : decode cX9_number 44 = .ok (.iload_n 3, 1) := by decide +kernel
theorem dX9_number_45 : decode cX9_number 45 = .ok (.ireturn, 1) := by decide +kernel
theorem dX10_init_0 : decode cX10_init 0 = .ok (.aload_n 0, 1) := by decide +kernel
theorem dX10_init_1 : decode cX10_init 1 = .ok (.invokespecial 1, 3) := by decide +kernel
theorem dX10_init_4 : decode cX10_init 4 = .ok (.return_, 1) := by decide +kernel
theorem dX10_loudness_0 : decode cX10_loudness 0 = .ok (.iconst 2, 1) := by decide +kernel
theorem dX10_loudness_1 : decode cX10_loudness 1 = .ok (.aload_n 0, 1) := by decide +kernel
theorem dX10_loudness_2 : decode cX10_loudness 2 = .ok (.iload_n 1, 1) := by decide +kernel
theorem dX10_loudness_3 : decode cX10_loudness 3 = .ok (.iload_n 2, 1) := by decide +kernel
theorem dX10_loudness_4 : decode cX10_loudness 4 = .ok (.iload_n 3, 1) := by decide +kernel
theorem dX10_loudness_5 : decode cX10_loudness 5 = .ok (.iload 4, 2) := by decide +kernel
theorem dX10_loudness_7 : decode cX10_loudness 7 = .ok (.invokespecial 7, 3) := by decide +kernel
theorem dX10_loudness_10 : decode cX10_loudness 10 = .ok (.imul, 1) := by decide +kernel
theorem dX10_loudness_11 : decode cX10_loudness 11 = .ok (.ireturn, 1) := by decide +kernel
theorem dX10_secondsToHold_0 : decode cX10_secondsToHold 0 = .ok (.aload_n 0, 1) := by decide +kernel
theorem dX10_secondsToHold_1 : decode cX10_secondsToHold 1 = .ok (.iload_n 1, 1) := by decide +kernel
theorem dX10_secondsToHold_2 : decode cX10_secondsToHold 2 = .ok (.invokespecial 11, 3) := by decide +kernel
theorem dX10_secondsToHold_5 : decode cX10_secondsToHold 5 = .ok (.iload_n 1, 1) := by decide +kernel
theorem dX10_secondsToHold_6 : decode cX10_secondsToHold 6 = .ok (.iadd, 1) := by decide +kernel
theorem dX10_secondsToHold_7 : decode cX10_secondsToHold 7 = .ok (.ireturn, 1) := by decide +kernel
theorem dX10_price_0 : decode cX10_price 0 = .ok (.aload_n 0, 1) := by decide +kernel
theorem dX10_price_1 : decode cX10_price 1 = .ok (.iload_n 1, 1) := by decide +kernel
theorem dX10_price_2 : decode cX10_price 2 = .ok (.invokespecial 15, 3) := by decide +kernel
theorem dX10_price_5 : decode cX10_price 5 = .ok (.iload_n 1, 1) := by decide +kernel
theorem dX10_price_6 : decode cX10_price 6 = .ok (.iadd, 1) := by decide +kernel
theorem dX10_price_7 : decode cX10_price 7 = .ok (.ireturn, 1) := by decide +kernel
theorem dX10_fail_0 : decode cX10_fail 0 = .ok (.iload_n 1, 1) := by decide +kernel
theorem dX10_fail_1 : decode cX10_fail 1 = .ok (.ifCond .le 11, 3) := by decide +kernel
theorem dX10_fail_4 : decode cX10_fail 4 = .ok (.new 18, 3) := by decide +kernel
theorem dX10_fail_7 : decode cX10_fail 7 = .ok (.dup, 1) := by decide +kernel
theorem dX10_fail_8 : decode cX10_fail 8 = .ok (.invokespecial 20, 3) := by decide +kernel
theorem dX10_fail_11 : decode cX10_fail 11 = .ok (.athrow, 1) := by decide +kernel
theorem dX10_fail_12 : decode cX10_fail 12 = .ok (.return_, 1) := by decide +kernel
theorem dJ6_bitCount_0f7a4_0 : decode cJ6_bitCount_0f7a4 0 = .ok (.iload_n 0, 1) := by decide +kernel
theorem dJ6_bitCount_0f7a4_1 : decode cJ6_bitCount_0f7a4 1 = .ok (.iload_n 0, 1) := by decide +kernel
theorem dJ6_bitCount_0f7a4_2 : decode cJ6_bitCount_0f7a4 2 = .ok (.iconst 1, 1) := by decide +kernel
theorem dJ6_bitCount_0f7a4_3 : decode cJ6_bitCount_0f7a4 3 = .ok (.iushr, 1) := by decide +kernel
theorem dJ6_bitCount_0f7a4_4 : decode cJ6_bitCount_0f7a4 4 = .ok (.ldc_w 265, 3) := by decide +kernel
theorem dJ6_bitCount_0f7a4_7 : decode cJ6_bitCount_0f7a4 7 = .ok (.iand, 1) := by decide +kernel
theorem dJ6_bitCount_0f7a4_8 : decode cJ6_bitCount_0f7a4 8 = .ok (.isub, 1) := by decide +kernel
theorem dJ6_bitCount_0f7a4_9 : decode cJ6_bitCount_0f7a4 9 = .ok (.istore_n 0, 1) := by decide +kernel
theorem dJ6_bitCount_0f7a4_10 : decode cJ6_bitCount_0f7a4 10 = .ok (.iload_n 0, 1) := by decide +kernel
theorem dJ6_bitCount_0f7a4_11 : decode cJ6_bitCount_0f7a4 11 = .ok (.ldc_w 266, 3) := by decide +kernel
theorem dJ6_bitCount_0f7a4_14 : decode cJ6_bitCount_0f7a4 14 = .ok (.iand, 1) := by decide +kernel
theorem dJ6_bitCount_0f7a4_15 : decode cJ6_bitCount_0f7a4 15 = .ok (.iload_n 0, 1) := by decide +kernel
theorem dJ6_bitCount_0f7a4_16 : decode cJ6_bitCount_0f7a4 16 = .ok (.iconst 2, 1) := by decide +kernel
theorem dJ6_bitCount_0f7a4_17 : decode cJ6_bitCount_0f7a4 17 = .ok (.iushr, 1) := by decide +kernel
theorem dJ6_bitCount_0f7a4_18 : decode cJ6_bitCount_0f7a4 18 = .ok (.ldc_w 266, 3) := by decide +kernel
theorem dJ6_bitCount_0f7a4_21 : decode cJ6_bitCount_0f7a4 21 = .ok (.iand, 1) := by decide +kernel
theorem dJ6_bitCount_0f7a4_22 : decode cJ6_bitCount_0f7a4 22 = .ok (.iadd, 1) := by decide +kernel
theorem dJ6_bitCount_0f7a4_23 : decode cJ6_bitCount_0f7a4 23 = .ok (.istore_n 0, 1) := by decide +kernel
theorem dJ6_bitCount_0f7a4_24 : decode cJ6_bitCount_0f7a4 24 = .ok (.iload_n 0, 1) := by decide +kernel
theorem dJ6_bitCount_0f7a4_25 : decode cJ6_bitCount_0f7a4 25 = .ok (.iload_n 0, 1) := by decide +kernel
theorem dJ6_bitCount_0f7a4_26 : decode cJ6_bitCount_0f7a4 26 = .ok (.iconst 4, 1) := by decide +kernel
theorem dJ6_bitCount_0f7a4_27 : decode cJ6_bitCount_0f7a4 27 = .ok (.iushr, 1) := by decide +kernel
theorem dJ6_bitCount_0f7a4_28 : decode cJ6_bitCount_0f7a4 28 = .ok (.iadd, 1) := by decide +kernel
theorem dJ6_bitCount_0f7a4_29 : decode cJ6_bitCount_0f7a4 29 = .ok (.ldc_w 267, 3) := by decide +kernel
theorem dJ6_bitCount_0f7a4_32 : decode cJ6_bitCount_0f7a4 32 = .ok (.iand, 1) := by decide +kernel
theorem dJ6_bitCount_0f7a4_33 : decode cJ6_bitCount_0f7a4 33 = .ok (.istore_n 0, 1) := by decide +kernel
theorem dJ6_bitCount_0f7a4_34 : decode cJ6_bitCount_0f7a4 34 = .ok (.iload_n 0, 1) := by decide +kernel
theorem dJ6_bitCount_0f7a4_35 : decode cJ6_bitCount_0f7a4 35 = .ok (.iload_n 0, 1) := by decide +kernel
theorem dJ6_bitCount_0f7a4_36 : decode cJ6_bitCount_0f7a4 36 = .ok (.bipush 8, 2) := by decide +kernel
theorem dJ6_bitCount_0f7a4_38 : decode cJ6_bitCount_0f7a4 38 = .ok (.iushr, 1) := by decide +kernel
theorem dJ6_bitCount_0f7a4_39 : decode cJ6_bitCount_0f7a4 39 = .ok (.iadd, 1) := by decide +kernel
theorem dJ6_bitCount_0f7a4_40 : decode cJ6_bitCount_0f7a4 40 = .ok (.istore_n 0, 1) := by decide +kernel
theorem dJ6_bitCount_0f7a4_41 : decode cJ6_bitCount_0f7a4 41 = .ok (.iload_n 0, 1) := by decide +kernel
theorem dJ6_bitCount_0f7a4_42 : decode cJ6_bitCount_0f7a4 42 = .ok (.iload_n 0, 1) := by decide +kernel
theorem dJ6_bitCount_0f7a4_43 : decode cJ6_bitCount_0f7a4 43 = .ok (.bipush 16, 2) := by decide +kernel
theorem dJ6_bitCount_0f7a4_45 : decode cJ6_bitCount_0f7a4 45 = .ok (.iushr, 1) := by decide +kernel
theorem dJ6_bitCount_0f7a4_46 : decode cJ6_bitCount_0f7a4 46 = .ok (.iadd, 1) := by decide +kernel
theorem dJ6_bitCount_0f7a4_47 : decode cJ6_bitCount_0f7a4 47 = .ok (.istore_n 0, 1) := by decide +kernel
theorem dJ6_bitCount_0f7a4_48 : decode cJ6_bitCount_0f7a4 48 = .ok (.iload_n 0, 1) := by decide +kernel
theorem dJ6_bitCount_0f7a4_49 : decode cJ6_bitCount_0f7a4 49 = .ok (.bipush 63, 2) := by decide +kernel
theorem dJ6_bitCount_0f7a4_51 : decode cJ6_bitCount_0f7a4 51 = .ok (.iand, 1) := by decide +kernel
theorem dJ6_bitCount_0f7a4_52 : decode cJ6_bitCount_0f7a4 52 = .ok (.ireturn, 1) := by decide +kernel
theorem dJ9_abs_0f7a4_0 : decode cJ9_abs_0f7a4 0 = .ok (.iload_n 0, 1) := by decide +kernel
theorem dJ9_abs_0f7a4_1 : decode cJ9_abs_0f7a4 1 = .ok (.ifCond .ge 8, 3) := by decide +kernel
theorem dJ9_abs_0f7a4_4 : decode cJ9_abs_0f7a4 4 = .ok (.iload_n 0, 1) := by decide +kernel
theorem dJ9_abs_0f7a4_5 : decode cJ9_abs_0f7a4 5 = .ok (.ineg, 1) := by decide +kernel
theorem dJ9_abs_0f7a4_6 : decode cJ9_abs_0f7a4 6 = .ok (.goto 4, 3) := by decide +kernel
theorem dJ9_abs_0f7a4_9 : decode cJ9_abs_0f7a4 9 = .ok (.iload_n 0, 1) := by decide +kernel
theorem dJ9_abs_0f7a4_10 : decode cJ9_abs_0f7a4 10 = .ok (.ireturn, 1) := by decide +kernel
theorem dJ9_max_7cf53_0 : decode cJ9_max_7cf53 0 = .ok (.iload_n 0, 1) := by decide +kernel
theorem dJ9_max_7cf53_1 : decode cJ9_max_7cf53 1 = .ok (.iload_n 1, 1) := by decide +kernel
theorem dJ9_max_7cf53_2 : decode cJ9_max_7cf53 2 = .ok (.if_icmp .lt 7, 3) := by decide +kernel
theorem dJ9_max_7cf53_5 : decode cJ9_max_7cf53 5 = .ok (.iload_n 0, 1) := by decide +kernel
theorem dJ9_max_7cf53_6 : decode cJ9_max_7cf53 6 = .ok (.goto 4, 3) := by decide +kernel
theorem dJ9_max_7cf53_9 : decode cJ9_max_7cf53 9 = .ok (.iload_n 1, 1) := by decide +kernel
theorem dJ9_max_7cf53_10 : decode cJ9_max_7cf53 10 = .ok (.ireturn, 1) := by decide +kernel
theorem dJ9_min_7cf53_0 : decode cJ9_min_7cf53 0 = .ok (.iload_n 0, 1) := by decide +kernel
theorem dJ9_min_7cf53_1 : decode cJ9_min_7cf53 1 = .ok (.iload_n 1, 1) := by decide +kernel
theorem dJ9_min_7cf53_2 : decode cJ9_min_7cf53 2 = .ok (.if_icmp .gt 7, 3) := by decide +kernel
theorem dJ9_min_7cf53_5 : decode cJ9_min_7cf53 5 = .ok (.iload_n 0, 1) := by decide +kernel
theorem dJ9_min_7cf53_6 : decode cJ9_min_7cf53 6 = .ok (.goto 4, 3) := by decide +kernel
theorem dJ9_min_7cf53_9 : decode cJ9_min_7cf53 9 = .ok (.iload_n 1, 1) := by decide +kernel
theorem dJ9_min_7cf53_10 : decode cJ9_min_7cf53 10 = .ok (.ireturn, 1) := by decide +kernel
end
section
theorem dX11_init_0 : decode cX11_init 0 = .ok (.aload_n 0, 1) := by decide +kernel
theorem dX11_init_1 : decode cX11_init 1 = .ok (.invokespecial 1, 3) := by decide +kernel
theorem dX11_init_4 : decode cX11_init 4 = .ok (.aload_n 0, 1) := by decide +kernel
theorem dX11_init_5 : decode cX11_init 5 = .ok (.bipush 8, 2) := by decide +kernel
theorem dX11_init_7 : decode cX11_init 7 = .ok (.anewarray 7, 3) := by decide +kernel
theorem dX11_init_10 : decode cX11_init 10 = .ok (.dup, 1) := by decide +kernel
theorem dX11_init_11 : decode cX11_init 11 = .ok (.iconst 0, 1) := by decide +kernel
theorem dX11_init_12 : decode cX11_init 12 = .ok (.new 7, 3) := by decide +kernel
theorem dX11_init_15 : decode cX11_init 15 = .ok (.dup, 1) := by decide +kernel
theorem dX11_init_16 : decode cX11_init 16 = .ok (.invokespecial 9, 3) := by decide +kernel
theorem dX11_init_19 : decode cX11_init 19 = .ok (.aastore, 1) := by decide +kernel
theorem dX11_init_20 : decode cX11_init 20 = .ok (.dup, 1) := by decide +kernel
theorem dX11_init_21 : decode cX11_init 21 = .ok (.iconst 1, 1) := by decide +kernel
theorem dX11_init_22 : decode cX11_init 22 = .ok (.new 10, 3) := by decide +kernel
theorem dX11_init_25 : decode cX11_init 25 = .ok (.dup, 1) := by decide +kernel
theorem dX11_init_26 : decode cX11_init 26 = .ok (.invokespecial 12, 3) := by decide +kernel
theorem dX11_init_29 : decode cX11_init 29 = .ok (.aastore, 1) := by decide +kernel
theorem dX11_init_30 : decode cX11_init 30 = .ok (.dup, 1) := by decide +kernel
theorem dX11_init_31 : decode cX11_init 31 = .ok (.iconst 2, 1) := by decide +kernel
theorem dX11_init_32 : decode cX11_init 32 = .ok (.new 13, 3) := by decide +kernel
theorem dX11_init_35 : decode cX11_init 35 = .ok (.dup, 1) := by decide +kernel
theorem dX11_init_36 : decode cX11_init 36 = .ok (.invokespecial 15, 3) := by decide +kernel
theorem dX11_init_39 : decode cX11_init 39 = .ok (.aastore, 1) := by decide +kernel
theorem dX11_init_40 : decode cX11_init 40 = .ok (.dup, 1) := by decide +kernel
theorem dX11_init_41 : decode cX11_init 41 = .ok (.iconst 3, 1) := by decide +kernel
theorem dX11_init_42 : decode cX11_init 42 = .ok (.new 16, 3) := by decide +kernel
theorem dX11_init_45 : decode cX11_init 45 = .ok (.dup, 1) := by decide +kernel
theorem dX11_init_46 : decode cX11_init 46 = .ok (.invokespecial 18, 3) := by decide +kernel
theorem dX11_init_49 : decode cX11_init 49 = .ok (.aastore, 1) := by decide +kernel
theorem dX11_init_50 : decode cX11_init 50 = .ok (.dup, 1) := by decide +kernel
theorem dX11_init_51 : decode cX11_init 51 = .ok (.iconst 4, 1) := by decide +kernel
theorem dX11_init_52 : decode cX11_init 52 = .ok (.new 19, 3) := by decide +kernel
theorem dX11_init_55 : decode cX11_init 55 = .ok (.dup, 1) := by decide +kernel
theorem dX11_init_56 : decode cX11_init 56 = .ok (.invokespecial 21, 3) := by decide +kernel
theorem dX11_init_59 : decode cX11_init 59 = .ok (.aastore, 1) := by decide +kernel
theorem dX11_init_60 : decode cX11_init 60 = .ok (.dup, 1) := by decide +kernel
theorem dX11_init_61 : decode cX11_init 61 = .ok (.iconst 5, 1) := by decide +kernel
theorem dX11_init_62 : decode cX11_init 62 = .ok (.new 22, 3) := by decide +kernel
theorem dX11_init_65 : decode cX11_init 65 = .ok (.dup, 1) := by decide +kernel
theorem dX11_init_66 : decode cX11_init 66 = .ok (.invokespecial 24, 3) := by decide +kernel
theorem dX11_init_69 : decode cX11_init 69 = .ok (.aastore, 1) := by decide +kernel
theorem dX11_init_70 : decode cX11_init 70 = .ok (.dup, 1) := by decide +kernel
theorem dX11_init_71 : decode cX11_init 71 = .ok (.bipush 6, 2) := by decide +kernel
theorem dX11_init_73 : decode cX11_init 73 = .ok (.new 25, 3) := by decide +kernel
theorem dX11_init_76 : decode cX11_init 76 = .ok (.dup, 1) := by decide +kernel
theorem dX11_init_77 : decode cX11_init 77 = .ok (.invokespecial 27, 3) := by decide +kernel
theorem dX11_init_80 : decode cX11_init 80 = .ok (.aastore, 1) := by decide +kernel
theorem dX11_init_81 : decode cX11_init 81 = .ok (.dup, 1) := by decide +kernel
theorem dX11_init_82 : decode cX11_init 82 = .ok (.bipush 7, 2) := by decide +kernel
theorem dX11_init_84 : decode cX11_init 84 = .ok (.new 28, 3) := by decide +kernel
theorem dX11_init_87 : decode cX11_init 87 = .ok (.dup, 1) := by decide +kernel
theorem dX11_init_88 : decode cX11_init 88 = .ok (.invokespecial 30, 3) := by decide +kernel
theorem dX11_init_91 : decode cX11_init 91 = .ok (.aastore, 1) := by decide +kernel
theorem dX11_init_92 : decode cX11_init 92 = .ok (.putfield 31, 3) := by decide +kernel
theorem dX11_init_95 : decode cX11_init 95 = .ok (.aload_n 0, 1) := by decide +kernel
theorem dX11_init_96 : decode cX11_init 96 = .ok (.new 37, 3) := by decide +kernel
theorem dX11_init_99 : decode cX11_init 99 = .ok (.dup, 1) := by decide +kernel
theorem dX11_init_100 : decode cX11_init 100 = .ok (.aload_n 0, 1) := by decide +kernel
theorem dX11_init_101 : decode cX11_init 101 = .ok (.getfield 31, 3) := by decide +kernel
theorem dX11_init_104 : decode cX11_init 104 = .ok (.invokespecial 39, 3) := by decide +kernel
theorem dX11_init_107 : decode cX11_init 107 = .ok (.putfield 42, 3) := by decide +kernel
theorem dX11_init_110 : decode cX11_init 110 = .ok (.aload_n 0, 1) := by decide +kernel
theorem dX11_init_111 : decode cX11_init 111 = .ok (.new 37, 3) := by decide +kernel
theorem dX11_init_114 : decode cX11_init 114 = .ok (.dup, 1) := by decide +kernel
theorem dX11_init_115 : decode cX11_init 115 = .ok (.aload_n 0, 1) := by decide +kernel
theorem dX11_init_116 : decode cX11_init 116 = .ok (.getfield 31, 3) := by decide +kernel
theorem dX11_init_119 : decode cX11_init 119 = .ok (.invokespecial 39, 3) := by decide +kernel
theorem dX11_init_122 : decode cX11_init 122 = .ok (.putfield 46, 3) := by decide +kernel
theorem dX11_init_125 : decode cX11_init 125 = .ok (.aload_n 0, 1) := by decide +kernel
theorem dX11_init_126 : decode cX11_init 126 = .ok (.new 37, 3) := by decide +kernel
theorem dX11_init_129 : decode cX11_init 129 = .ok (.dup, 1) := by decide +kernel
theorem dX11_init_130 : decode cX11_init 130 = .ok (.aload_n 0, 1) := by decide +kernel
theorem dX11_init_131 : decode cX11_init 131 = .ok (.getfield 31, 3) := by decide +kernel
theorem dX11_init_134 : decode cX11_init 134 = .ok (.invokespecial 39, 3) := by decide +kernel
theorem dX11_init_137 : decode cX11_init 137 = .ok (.putfield 49, 3) := by decide +kernel
theorem dX11_init_140 : decode cX11_init 140 = .ok (.aload_n 0, 1) := by decide +kernel
theorem dX11_init_141 : decode cX11_init 141 = .ok (.iconst 0, 1) := by decide +kernel
theorem dX11_init_142 : decode cX11_init 142 = .ok (.putfield 52, 3) := by decide +kernel
theorem dX11_init_145 : decode cX11_init 145 = .ok (.aload_n 0, 1) := by decide +kernel
theorem dX11_init_146 : decode cX11_init 146 = .ok (.bipush 8, 2) := by decide +kernel
theorem dX11_init_148 : decode cX11_init 148 = .ok (.anewarray 56, 3) := by decide +kernel
theorem dX11_init_151 : decode cX11_init 151 = .ok (.putfield 58, 3) := by decide +kernel
theorem dX11_init_154 : decode cX11_init 154 = .ok (.iconst 0, 1) := by decide +kernel
theorem dX11_init_155 : decode cX11_init 155 = .ok (.istore_n 1, 1) := by decide +kernel
theorem dX11_init_156 : decode cX11_init 156 = .ok (.iload_n 1, 1) := by decide +kernel
theorem dX11_init_157 : decode cX11_init 157 = .ok (.bipush 8, 2) := by decide +kernel
theorem dX11_init_159 : decode cX11_init 159 = .ok (.if_icmp .ge 22, 3) := by decide +kernel
theorem dX11_init_162 : decode cX11_init 162 = .ok (.aload_n 0, 1) := by decide +kernel
theorem dX11_init_163 : decode cX11_init 163 = .ok (.getfield 58, 3) := by decide +kernel
theorem dX11_init_166 : decode cX11_init 166 = .ok (.iload_n 1, 1) := by decide +kernel
theorem dX11_init_167 : decode cX11_init 167 = .ok (.new 56, 3) := by decide +kernel
theorem dX11_init_170 : decode cX11_init 170 = .ok (.dup, 1) := by decide +kernel
theorem dX11_init_171 : decode cX11_init 171 = .ok (.invokespecial 62, 3) := by decide +kernel
theorem dX11_init_174 : decode cX11_init 174 = .ok (.aastore, 1) := by decide +kernel
theorem dX11_init_175 : decode cX11_init 175 = .ok (.iinc 1 1, 3) := by decide +kernel
theorem dX11_init_178 : decode cX11_init 178 = .ok (.goto (-22), 3) := by decide +kernel
theorem dX11_init_181 : decode cX11_init 181 = .ok (.aload_n 0, 1) := by decide +kernel
theorem dX11_init_182 : decode cX11_init 182 = .ok (.bipush 7, 2) := by decide +kernel
theorem dX11_init_184 : decode cX11_init 184 = .ok (.newarray .int, 2) := by decide +kernel
theorem dX11_init_186 : decode cX11_init 186 = .ok (.putfield 63, 3) := by decide +kernel
theorem dX11_init_189 : decode cX11_init 189 = .ok (.aload_n 0, 1) := by decide +kernel
theorem dX11_init_190 : decode cX11_init 190 = .ok (.bipush 64, 2) := by decide +kernel
theorem dX11_init_192 : decode cX11_init 192 = .ok (.newarray .int, 2) := by decide +kernel
theorem dX11_init_194 : decode cX11_init 194 = .ok (.putfield 67, 3) := by decide +kernel
theorem dX11_init_197 : decode cX11_init 197 = .ok (.return_, 1) := by decide +kernel
theorem dX11_road_0 : decode cX11_road 0 = .ok (.aload_n 0, 1) := by decide +kernel
theorem dX11_road_1 : decode cX11_road 1 = .ok (.iload_n 1, 1) := by decide +kernel
theorem dX11_road_2 : decode cX11_road 2 = .ok (.invokevirtual 70, 3) := by decide +kernel
theorem dX11_road_5 : decode cX11_road 5 = .ok (.istore_n 2, 1) := by decide +kernel
theorem dX11_road_6 : decode cX11_road 6 = .ok (.iload_n 2, 1) := by decide +kernel
theorem dX11_road_7 : decode cX11_road 7 = .ok (.ifCond .eq 5, 3) := by decide +kernel
theorem dX11_road_10 : decode cX11_road 10 = .ok (.iload_n 2, 1) := by decide +kernel
theorem dX11_road_11 : decode cX11_road 11 = .ok (.ireturn, 1) := by decide +kernel
theorem dX11_road_12 : decode cX11_road 12 = .ok (.aload_n 0, 1) := by decide +kernel
theorem dX11_road_13 : decode cX11_road 13 = .ok (.getfield 58, 3) := by decide +kernel
theorem dX11_road_16 : decode cX11_road 16 = .ok (.iload_n 1, 1) := by decide +kernel
theorem dX11_road_17 : decode cX11_road 17 = .ok (.aaload, 1) := by decide +kernel
theorem dX11_road_18 : decode cX11_road 18 = .ok (.astore_n 3, 1) := by decide +kernel
theorem dX11_road_19 : decode cX11_road 19 = .ok (.aload_n 3, 1) := by decide +kernel
theorem dX11_road_20 : decode cX11_road 20 = .ok (.getfield 74, 3) := by decide +kernel
theorem dX11_road_23 : decode cX11_road 23 = .ok (.ifCond .eq 6, 3) := by decide +kernel
theorem dX11_road_26 : decode cX11_road 26 = .ok (.bipush (-12), 2) := by decide +kernel
theorem dX11_road_28 : decode cX11_road 28 = .ok (.ireturn, 1) := by decide +kernel
theorem dX11_road_29 : decode cX11_road 29 = .ok (.aload_n 3, 1) := by decide +kernel
theorem dX11_road_30 : decode cX11_road 30 = .ok (.invokestatic 78, 3) := by decide +kernel
theorem dX11_road_33 : decode cX11_road 33 = .ok (.istore 4, 2) := by decide +kernel
theorem dX11_road_35 : decode cX11_road 35 = .ok (.iload 4, 2) := by decide +kernel
theorem dX11_road_37 : decode cX11_road 37 = .ok (.ifCond .lt 10, 3) := by decide +kernel
theorem dX11_road_40 : decode cX11_road 40 = .ok (.sipush (-1000), 3) := by decide +kernel
theorem dX11_road_43 : decode cX11_road 43 = .ok (.iload 4, 2) := by decide +kernel
theorem dX11_road_45 : decode cX11_road 45 = .ok (.isub, 1) := by decide +kernel
theorem dX11_road_46 : decode cX11_road 46 = .ok (.ireturn, 1) := by decide +kernel
theorem dX11_road_47 : decode cX11_road 47 = .ok (.aload_n 0, 1) := by decide +kernel
theorem dX11_road_48 : decode cX11_road 48 = .ok (.getfield 46, 3) := by decide +kernel
theorem dX11_road_51 : decode cX11_road 51 = .ok (.aload_n 0, 1) := by decide +kernel
theorem dX11_road_52 : decode cX11_road 52 = .ok (.getfield 42, 3) := by decide +kernel
theorem dX11_road_55 : decode cX11_road 55 = .ok (.invokevirtual 84, 3) := by decide +kernel
theorem dX11_road_58 : decode cX11_road 58 = .ok (.aload_n 3, 1) := by decide +kernel
theorem dX11_road_59 : decode cX11_road 59 = .ok (.aload_n 0, 1) := by decide +kernel
theorem dX11_road_60 : decode cX11_road 60 = .ok (.getfield 46, 3) := by decide +kernel
theorem dX11_road_63 : decode cX11_road 63 = .ok (.invokestatic 88, 3) := by decide +kernel
theorem dX11_road_66 : decode cX11_road 66 = .ok (.istore 5, 2) := by decide +kernel
theorem dX11_road_68 : decode cX11_road 68 = .ok (.iload 5, 2) := by decide +kernel
theorem dX11_road_70 : decode cX11_road 70 = .ok (.ifCond .lt 14, 3) := by decide +kernel
theorem dX11_road_73 : decode cX11_road 73 = .ok (.aload_n 0, 1) := by decide +kernel
theorem dX11_road_74 : decode cX11_road 74 = .ok (.getfield 42, 3) := by decide +kernel
theorem dX11_road_77 : decode cX11_road 77 = .ok (.aload_n 0, 1) := by decide +kernel
theorem dX11_road_78 : decode cX11_road 78 = .ok (.getfield 46, 3) := by decide +kernel
theorem dX11_road_81 : decode cX11_road 81 = .ok (.invokevirtual 84, 3) := by decide +kernel
theorem dX11_road_84 : decode cX11_road 84 = .ok (.iload 5, 2) := by decide +kernel
theorem dX11_road_86 : decode cX11_road 86 = .ok (.ireturn, 1) := by decide +kernel
theorem dX11_part_0 : decode cX11_part 0 = .ok (.aload_n 0, 1) := by decide +kernel
theorem dX11_part_1 : decode cX11_part 1 = .ok (.getfield 42, 3) := by decide +kernel
theorem dX11_part_4 : decode cX11_part 4 = .ok (.iload_n 1, 1) := by decide +kernel
theorem dX11_part_5 : decode cX11_part 5 = .ok (.invokevirtual 92, 3) := by decide +kernel
theorem dX11_part_8 : decode cX11_part 8 = .ok (.ifCond .ne 5, 3) := by decide +kernel
theorem dX11_part_11 : decode cX11_part 11 = .ok (.iconst (-1), 1) := by decide +kernel
theorem dX11_part_12 : decode cX11_part 12 = .ok (.ireturn, 1) := by decide +kernel
theorem dX11_part_13 : decode cX11_part 13 = .ok (.iload_n 2, 1) := by decide +kernel
theorem dX11_part_14 : decode cX11_part 14 = .ok (.tableswitch 123 0 7 #[46, 56, 66, 76, 86, 96, 105, 114], 46) := by decide +kernel
theorem dX11_part_60 : decode cX11_part 60 = .ok (.aload_n 0, 1) := by decide +kernel
theorem dX11_part_61 : decode cX11_part 61 = .ok (.getfield 42, 3) := by decide +kernel
theorem dX11_part_64 : decode cX11_part 64 = .ok (.getfield 96, 3) := by decide +kernel
theorem dX11_part_67 : decode cX11_part 67 = .ok (.iload_n 1, 1) := by decide +kernel
theorem dX11_part_68 : decode cX11_part 68 = .ok (.iaload, 1) := by decide +kernel
theorem dX11_part_69 : decode cX11_part 69 = .ok (.ireturn, 1) := by decide +kernel
theorem dX11_part_70 : decode cX11_part 70 = .ok (.aload_n 0, 1) := by decide +kernel
theorem dX11_part_71 : decode cX11_part 71 = .ok (.getfield 42, 3) := by decide +kernel
theorem dX11_part_74 : decode cX11_part 74 = .ok (.getfield 99, 3) := by decide +kernel
theorem dX11_part_77 : decode cX11_part 77 = .ok (.iload_n 1, 1) := by decide +kernel
theorem dX11_part_78 : decode cX11_part 78 = .ok (.iaload, 1) := by decide +kernel
theorem dX11_part_79 : decode cX11_part 79 = .ok (.ireturn, 1) := by decide +kernel
theorem dX11_part_80 : decode cX11_part 80 = .ok (.aload_n 0, 1) := by decide +kernel
theorem dX11_part_81 : decode cX11_part 81 = .ok (.getfield 42, 3) := by decide +kernel
theorem dX11_part_84 : decode cX11_part 84 = .ok (.getfield 102, 3) := by decide +kernel
theorem dX11_part_87 : decode cX11_part 87 = .ok (.iload_n 1, 1) := by decide +kernel
theorem dX11_part_88 : decode cX11_part 88 = .ok (.iaload, 1) := by decide +kernel
theorem dX11_part_89 : decode cX11_part 89 = .ok (.ireturn, 1) := by decide +kernel
theorem dX11_part_90 : decode cX11_part 90 = .ok (.aload_n 0, 1) := by decide +kernel
theorem dX11_part_91 : decode cX11_part 91 = .ok (.getfield 42, 3) := by decide +kernel
theorem dX11_part_94 : decode cX11_part 94 = .ok (.getfield 105, 3) := by decide +kernel
theorem dX11_part_97 : decode cX11_part 97 = .ok (.iload_n 1, 1) := by decide +kernel
theorem dX11_part_98 : decode cX11_part 98 = .ok (.iaload, 1) := by decide +kernel
theorem dX11_part_99 : decode cX11_part 99 = .ok (.ireturn, 1) := by decide +kernel
theorem dX11_part_100 : decode cX11_part 100 = .ok (.aload_n 0, 1) := by decide +kernel
theorem dX11_part_101 : decode cX11_part 101 = .ok (.getfield 42, 3) := by decide +kernel
theorem dX11_part_104 : decode cX11_part 104 = .ok (.getfield 108, 3) := by decide +kernel
theorem dX11_part_107 : decode cX11_part 107 = .ok (.iload_n 1, 1) := by decide +kernel
theorem dX11_part_108 : decode cX11_part 108 = .ok (.iaload, 1) := by decide +kernel
theorem dX11_part_109 : decode cX11_part 109 = .ok (.ireturn, 1) := by decide +kernel
theorem dX11_part_110 : decode cX11_part 110 = .ok (.aload_n 0, 1) := by decide +kernel
theorem dX11_part_111 : decode cX11_part 111 = .ok (.getfield 42, 3) := by decide +kernel
theorem dX11_part_114 : decode cX11_part 114 = .ok (.iload_n 1, 1) := by decide +kernel
theorem dX11_part_115 : decode cX11_part 115 = .ok (.invokevirtual 111, 3) := by decide +kernel
theorem dX11_part_118 : decode cX11_part 118 = .ok (.ireturn, 1) := by decide +kernel
theorem dX11_part_119 : decode cX11_part 119 = .ok (.aload_n 0, 1) := by decide +kernel
theorem dX11_part_120 : decode cX11_part 120 = .ok (.getfield 42, 3) := by decide +kernel
theorem dX11_part_123 : decode cX11_part 123 = .ok (.iload_n 1, 1) := by decide +kernel
theorem dX11_part_124 : decode cX11_part 124 = .ok (.invokevirtual 114, 3) := by decide +kernel
theorem dX11_part_127 : decode cX11_part 127 = .ok (.ireturn, 1) := by decide +kernel
theorem dX11_part_128 : decode cX11_part 128 = .ok (.aload_n 0, 1) := by decide +kernel
theorem dX11_part_129 : decode cX11_part 129 = .ok (.getfield 42, 3) := by decide +kernel
theorem dX11_part_132 : decode cX11_part 132 = .ok (.iload_n 1, 1) := by decide +kernel
theorem dX11_part_133 : decode cX11_part 133 = .ok (.invokevirtual 117, 3) := by decide +kernel
theorem dX11_part_136 : decode cX11_part 136 = .ok (.ireturn, 1) := by decide +kernel
theorem dX11_part_137 : decode cX11_part 137 = .ok (.iconst (-1), 1) := by decide +kernel
theorem dX11_part_138 : decode cX11_part 138 = .ok (.ireturn, 1) := by decide +kernel
theorem dX11_adds_0 : decode cX11_adds 0 = .ok (.iload_n 1, 1) := by decide +kernel
theorem dX11_adds_1 : decode cX11_adds 1 = .ok (.invokestatic 120, 3) := by decide +kernel
theorem dX11_adds_4 : decode cX11_adds 4 = .ok (.ifCond .eq 20, 3) := by decide +kernel
theorem dX11_adds_7 : decode cX11_adds 7 = .ok (.iload_n 2, 1) := by decide +kernel
theorem dX11_adds_8 : decode cX11_adds 8 = .ok (.invokestatic 123, 3) := by decide +kernel
theorem dX11_adds_11 : decode cX11_adds 11 = .ok (.ifCond .eq 13, 3) := by decide +kernel
theorem dX11_adds_14 : decode cX11_adds 14 = .ok (.iload_n 3, 1) := by decide +kernel
theorem dX11_adds_15 : decode cX11_adds 15 = .ok (.iconst 1, 1) := by decide +kernel
theorem dX11_adds_16 : decode cX11_adds 16 = .ok (.bipush 9, 2) := by decide +kernel
theorem dX11_adds_18 : decode cX11_adds 18 = .ok (.invokestatic 126, 3) := by decide +kernel
theorem dX11_adds_21 : decode cX11_adds 21 = .ok (.ifCond .ne 5, 3) := by decide +kernel
theorem dX11_adds_24 : decode cX11_adds 24 = .ok (.iconst (-1), 1) := by decide +kernel
theorem dX11_adds_25 : decode cX11_adds 25 = .ok (.ireturn, 1) := by decide +kernel
theorem dX11_adds_26 : decode cX11_adds 26 = .ok (.aload_n 0, 1) := by decide +kernel
theorem dX11_adds_27 : decode cX11_adds 27 = .ok (.getfield 58, 3) := by decide +kernel
theorem dX11_adds_30 : decode cX11_adds 30 = .ok (.iload_n 1, 1) := by decide +kernel
theorem dX11_adds_31 : decode cX11_adds 31 = .ok (.aaload, 1) := by decide +kernel
theorem dX11_adds_32 : decode cX11_adds 32 = .ok (.invokevirtual 130, 3) := by decide +kernel
theorem dX11_adds_35 : decode cX11_adds 35 = .ok (.istore 4, 2) := by decide +kernel
theorem dX11_adds_37 : decode cX11_adds 37 = .ok (.iload 4, 2) := by decide +kernel
theorem dX11_adds_39 : decode cX11_adds 39 = .ok (.ifCond .eq 6, 3) := by decide +kernel
theorem dX11_adds_42 : decode cX11_adds 42 = .ok (.iload 4, 2) := by decide +kernel
theorem dX11_adds_44 : decode cX11_adds 44 = .ok (.ireturn, 1) := by decide +kernel
theorem dX11_adds_45 : decode cX11_adds 45 = .ok (.aload_n 0, 1) := by decide +kernel
theorem dX11_adds_46 : decode cX11_adds 46 = .ok (.getfield 42, 3) := by decide +kernel
theorem dX11_adds_49 : decode cX11_adds 49 = .ok (.aload_n 0, 1) := by decide +kernel
theorem dX11_adds_50 : decode cX11_adds 50 = .ok (.getfield 58, 3) := by decide +kernel
theorem dX11_adds_53 : decode cX11_adds 53 = .ok (.iload_n 1, 1) := by decide +kernel
theorem dX11_adds_54 : decode cX11_adds 54 = .ok (.aaload, 1) := by decide +kernel
theorem dX11_adds_55 : decode cX11_adds 55 = .ok (.getfield 134, 3) := by decide +kernel
theorem dX11_adds_58 : decode cX11_adds 58 = .ok (.aload_n 0, 1) := by decide +kernel
theorem dX11_adds_59 : decode cX11_adds 59 = .ok (.getfield 58, 3) := by decide +kernel
theorem dX11_adds_62 : decode cX11_adds 62 = .ok (.iload_n 1, 1) := by decide +kernel
theorem dX11_adds_63 : decode cX11_adds 63 = .ok (.aaload, 1) := by decide +kernel
theorem dX11_adds_64 : decode cX11_adds 64 = .ok (.getfield 136, 3) := by decide +kernel
theorem dX11_adds_67 : decode cX11_adds 67 = .ok (.iload_n 2, 1) := by decide +kernel
theorem dX11_adds_68 : decode cX11_adds 68 = .ok (.iload_n 3, 1) := by decide +kernel
theorem dX11_adds_69 : decode cX11_adds 69 = .ok (.invokevirtual 138, 3) := by decide +kernel
theorem dX11_adds_72 : decode cX11_adds 72 = .ok (.ireturn, 1) := by decide +kernel
theorem dX11_holds_0 : decode cX11_holds 0 = .ok (.aload_n 0, 1) := by decide +kernel
theorem dX11_holds_1 : decode cX11_holds 1 = .ok (.getfield 42, 3) := by decide +kernel
theorem dX11_holds_4 : decode cX11_holds 4 = .ok (.iload_n 1, 1) := by decide +kernel
theorem dX11_holds_5 : decode cX11_holds 5 = .ok (.invokevirtual 142, 3) := by decide +kernel
theorem dX11_holds_8 : decode cX11_holds 8 = .ok (.ireturn, 1) := by decide +kernel
theorem dX11_wedges_0 : decode cX11_wedges 0 = .ok (.aload_n 0, 1) := by decide +kernel
theorem dX11_wedges_1 : decode cX11_wedges 1 = .ok (.getfield 42, 3) := by decide +kernel
theorem dX11_wedges_4 : decode cX11_wedges 4 = .ok (.iload_n 1, 1) := by decide +kernel
theorem dX11_wedges_5 : decode cX11_wedges 5 = .ok (.invokevirtual 145, 3) := by decide +kernel
theorem dX11_wedges_8 : decode cX11_wedges 8 = .ok (.ireturn, 1) := by decide +kernel
theorem dX11_outs_0 : decode cX11_outs 0 = .ok (.aload_n 0, 1) := by decide +kernel
theorem dX11_outs_1 : decode cX11_outs 1 = .ok (.getfield 42, 3) := by decide +kernel
theorem dX11_outs_4 : decode cX11_outs 4 = .ok (.iload_n 1, 1) := by decide +kernel
theorem dX11_outs_5 : decode cX11_outs 5 = .ok (.invokevirtual 148, 3) := by decide +kernel
theorem dX11_outs_8 : decode cX11_outs 8 = .ok (.ireturn, 1) := by decide +kernel
theorem dX11_screws_0 : decode cX11_screws 0 = .ok (.aload_n 0, 1) := by decide +kernel
theorem dX11_screws_1 : decode cX11_screws 1 = .ok (.getfield 42, 3) := by decide +kernel
theorem dX11_screws_4 : decode cX11_screws 4 = .ok (.iload_n 1, 1) := by decide +kernel
theorem dX11_screws_5 : decode cX11_screws 5 = .ok (.invokevirtual 151, 3) := by decide +kernel
theorem dX11_screws_8 : decode cX11_screws 8 = .ok (.ireturn, 1) := by decide +kernel
theorem dX11_set_0 : decode cX11_set 0 = .ok (.aload_n 0, 1) := by decide +kernel
theorem dX11_set_1 : decode cX11_set 1 = .ok (.getfield 42, 3) := by decide +kernel
theorem dX11_set_4 : decode cX11_set 4 = .ok (.iload_n 1, 1) := by decide +kernel
theorem dX11_set_5 : decode cX11_set 5 = .ok (.iload_n 2, 1) := by decide +kernel
theorem dX11_set_6 : decode cX11_set 6 = .ok (.invokevirtual 154, 3) := by decide +kernel
theorem dX11_set_9 : decode cX11_set 9 = .ok (.ireturn, 1) := by decide +kernel
theorem dX11_drives_0 : decode cX11_drives 0 = .ok (.aload_n 0, 1) := by decide +kernel
theorem dX11_drives_1 : decode cX11_drives 1 = .ok (.getfield 42, 3) := by decide +kernel
theorem dX11_drives_4 : decode cX11_drives 4 = .ok (.iconst 0, 1) := by decide +kernel
theorem dX11_drives_5 : decode cX11_drives 5 = .ok (.invokevirtual 158, 3) := by decide +kernel
theorem dX11_drives_8 : decode cX11_drives 8 = .ok (.istore_n 2, 1) := by decide +kernel
theorem dX11_drives_9 : decode cX11_drives 9 = .ok (.aload_n 0, 1) := by decide +kernel
theorem dX11_drives_10 : decode cX11_drives 10 = .ok (.getfield 42, 3) := by decide +kernel
theorem dX11_drives_13 : decode cX11_drives 13 = .ok (.iload_n 1, 1) := by decide +kernel
theorem dX11_drives_14 : decode cX11_drives 14 = .ok (.invokevirtual 161, 3) := by decide +kernel
theorem dX11_drives_17 : decode cX11_drives 17 = .ok (.istore_n 3, 1) := by decide +kernel
theorem dX11_drives_18 : decode cX11_drives 18 = .ok (.iload_n 3, 1) := by decide +kernel
theorem dX11_drives_19 : decode cX11_drives 19 = .ok (.ifCond .eq 7, 3) := by decide +kernel
theorem dX11_drives_22 : decode cX11_drives 22 = .ok (.iload_n 3, 1) := by decide +kernel
theorem dX11_drives_23 : decode cX11_drives 23 = .ok (.goto 4, 3) := by decide +kernel
theorem dX11_drives_26 : decode cX11_drives 26 = .ok (.iload_n 2, 1) := by decide +kernel
theorem dX11_drives_27 : decode cX11_drives 27 = .ok (.ireturn, 1) := by decide +kernel
theorem dX11_heard_0 : decode cX11_heard 0 = .ok (.iload_n 1, 1) := by decide +kernel
theorem dX11_heard_1 : decode cX11_heard 1 = .ok (.invokestatic 123, 3) := by decide +kernel
theorem dX11_heard_4 : decode cX11_heard 4 = .ok (.ifCond .eq 10, 3) := by decide +kernel
theorem dX11_heard_7 : decode cX11_heard 7 = .ok (.iload_n 2, 1) := by decide +kernel
theorem dX11_heard_8 : decode cX11_heard 8 = .ok (.invokestatic 164, 3) := by decide +kernel
theorem dX11_heard_11 : decode cX11_heard 11 = .ok (.ifCond .ne 5, 3) := by decide +kernel
theorem dX11_heard_14 : decode cX11_heard 14 = .ok (.iconst (-1), 1) := by decide +kernel
theorem dX11_heard_15 : decode cX11_heard 15 = .ok (.ireturn, 1) := by decide +kernel
theorem dX11_heard_16 : decode cX11_heard 16 = .ok (.aload_n 0, 1) := by decide +kernel
theorem dX11_heard_17 : decode cX11_heard 17 = .ok (.getfield 42, 3) := by decide +kernel
theorem dX11_heard_20 : decode cX11_heard 20 = .ok (.iload_n 1, 1) := by decide +kernel
theorem dX11_heard_21 : decode cX11_heard 21 = .ok (.iload_n 2, 1) := by decide +kernel
theorem dX11_heard_22 : decode cX11_heard 22 = .ok (.invokevirtual 167, 3) := by decide +kernel
theorem dX11_heard_25 : decode cX11_heard 25 = .ok (.ireturn, 1) := by decide +kernel
theorem dX11_loudest_0 : decode cX11_loudest 0 = .ok (.iload_n 1, 1) := by decide +kernel
theorem dX11_loudest_1 : decode cX11_loudest 1 = .ok (.invokestatic 123, 3) := by decide +kernel
theorem dX11_loudest_4 : decode cX11_loudest 4 = .ok (.ifCond .eq 14, 3) := by decide +kernel
theorem dX11_loudest_7 : decode cX11_loudest 7 = .ok (.aload_n 0, 1) := by decide +kernel
theorem dX11_loudest_8 : decode cX11_loudest 8 = .ok (.getfield 42, 3) := by decide +kernel
theorem dX11_loudest_11 : decode cX11_loudest 11 = .ok (.iload_n 1, 1) := by decide +kernel
theorem dX11_loudest_12 : decode cX11_loudest 12 = .ok (.invokevirtual 170, 3) := by decide +kernel
theorem dX11_loudest_15 : decode cX11_loudest 15 = .ok (.goto 4, 3) := by decide +kernel
theorem dX11_loudest_18 : decode cX11_loudest 18 = .ok (.iconst (-1), 1) := by decide +kernel
theorem dX11_loudest_19 : decode cX11_loudest 19 = .ok (.ireturn, 1) := by decide +kernel
theorem dX11_paces_0 : decode cX11_paces 0 = .ok (.iload_n 1, 1) := by decide +kernel
theorem dX11_paces_1 : decode cX11_paces 1 = .ok (.invokestatic 123, 3) := by decide +kernel
theorem dX11_paces_4 : decode cX11_paces 4 = .ok (.ifCond .eq 12, 3) := by decide +kernel
theorem dX11_paces_7 : decode cX11_paces 7 = .ok (.iload_n 2, 1) := by decide +kernel
theorem dX11_paces_8 : decode cX11_paces 8 = .ok (.iconst 0, 1) := by decide +kernel
theorem dX11_paces_9 : decode cX11_paces 9 = .ok (.iconst 2, 1) := by decide +kernel
theorem dX11_paces_10 : decode cX11_paces 10 = .ok (.invokestatic 126, 3) := by decide +kernel
theorem dX11_paces_13 : decode cX11_paces 13 = .ok (.ifCond .ne 5, 3) := by decide +kernel
theorem dX11_paces_16 : decode cX11_paces 16 = .ok (.iconst (-1), 1) := by decide +kernel
theorem dX11_paces_17 : decode cX11_paces 17 = .ok (.ireturn, 1) := by decide +kernel
theorem dX11_paces_18 : decode cX11_paces 18 = .ok (.iconst 0, 1) := by decide +kernel
theorem dX11_paces_19 : decode cX11_paces 19 = .ok (.istore_n 3, 1) := by decide +kernel
theorem dX11_paces_20 : decode cX11_paces 20 = .ok (.bipush (-4), 2) := by decide +kernel
theorem dX11_paces_22 : decode cX11_paces 22 = .ok (.istore 4, 2) := by decide +kernel
theorem dX11_paces_24 : decode cX11_paces 24 = .ok (.bipush (-4), 2) := by decide +kernel
theorem dX11_paces_26 : decode cX11_paces 26 = .ok (.istore 5, 2) := by decide +kernel
theorem dX11_paces_28 : decode cX11_paces 28 = .ok (.iconst 0, 1) := by decide +kernel
theorem dX11_paces_29 : decode cX11_paces 29 = .ok (.istore 6, 2) := by decide +kernel
theorem dX11_paces_31 : decode cX11_paces 31 = .ok (.iload 6, 2) := by decide +kernel
theorem dX11_paces_33 : decode cX11_paces 33 = .ok (.bipush 100, 2) := by decide +kernel
theorem dX11_paces_35 : decode cX11_paces 35 = .ok (.if_icmp .ge 45, 3) := by decide +kernel
theorem dX11_paces_38 : decode cX11_paces 38 = .ok (.aload_n 0, 1) := by decide +kernel
theorem dX11_paces_39 : decode cX11_paces 39 = .ok (.getfield 42, 3) := by decide +kernel
theorem dX11_paces_42 : decode cX11_paces 42 = .ok (.iload_n 1, 1) := by decide +kernel
theorem dX11_paces_43 : decode cX11_paces 43 = .ok (.iload 6, 2) := by decide +kernel
theorem dX11_paces_45 : decode cX11_paces 45 = .ok (.invokevirtual 167, 3) := by decide +kernel
theorem dX11_paces_48 : decode cX11_paces 48 = .ok (.ifCond .le 26, 3) := by decide +kernel
theorem dX11_paces_51 : decode cX11_paces 51 = .ok (.iinc 3 1, 3) := by decide +kernel
theorem dX11_paces_54 : decode cX11_paces 54 = .ok (.iload 4, 2) := by decide +kernel
theorem dX11_paces_56 : decode cX11_paces 56 = .ok (.bipush (-4), 2) := by decide +kernel
theorem dX11_paces_58 : decode cX11_paces 58 = .ok (.if_icmp .ne 8, 3) := by decide +kernel
theorem dX11_paces_61 : decode cX11_paces 61 = .ok (.iload 6, 2) := by decide +kernel
theorem dX11_paces_63 : decode cX11_paces 63 = .ok (.goto 5, 3) := by decide +kernel
theorem dX11_paces_66 : decode cX11_paces 66 = .ok (.iload 4, 2) := by decide +kernel
theorem dX11_paces_68 : decode cX11_paces 68 = .ok (.istore 4, 2) := by decide +kernel
theorem dX11_paces_70 : decode cX11_paces 70 = .ok (.iload 6, 2) := by decide +kernel
theorem dX11_paces_72 : decode cX11_paces 72 = .ok (.istore 5, 2) := by decide +kernel
theorem dX11_paces_74 : decode cX11_paces 74 = .ok (.iinc 6 1, 3) := by decide +kernel
theorem dX11_paces_77 : decode cX11_paces 77 = .ok (.goto (-46), 3) := by decide +kernel
theorem dX11_paces_80 : decode cX11_paces 80 = .ok (.iload_n 2, 1) := by decide +kernel
theorem dX11_paces_81 : decode cX11_paces 81 = .ok (.ifCond .ne 7, 3) := by decide +kernel
theorem dX11_paces_84 : decode cX11_paces 84 = .ok (.iload_n 3, 1) := by decide +kernel
theorem dX11_paces_85 : decode cX11_paces 85 = .ok (.goto 15, 3) := by decide +kernel
theorem dX11_paces_88 : decode cX11_paces 88 = .ok (.iload_n 2, 1) := by decide +kernel
theorem dX11_paces_89 : decode cX11_paces 89 = .ok (.iconst 1, 1) := by decide +kernel
theorem dX11_paces_90 : decode cX11_paces 90 = .ok (.if_icmp .ne 8, 3) := by decide +kernel
theorem dX11_paces_93 : decode cX11_paces 93 = .ok (.iload 4, 2) := by decide +kernel
theorem dX11_paces_95 : decode cX11_paces 95 = .ok (.goto 5, 3) := by decide +kernel
theorem dX11_paces_98 : decode cX11_paces 98 = .ok (.iload 5, 2) := by decide +kernel
theorem dX11_paces_100 : decode cX11_paces 100 = .ok (.ireturn, 1) := by decide +kernel
theorem dX11_silentFrom_0 : decode cX11_silentFrom 0 = .ok (.iload_n 1, 1) := by decide +kernel
theorem dX11_silentFrom_1 : decode cX11_silentFrom 1 = .ok (.invokestatic 123, 3) := by decide +kernel
theorem dX11_silentFrom_4 : decode cX11_silentFrom 4 = .ok (.ifCond .eq 10, 3) := by decide +kernel
theorem dX11_silentFrom_7 : decode cX11_silentFrom 7 = .ok (.iload_n 2, 1) := by decide +kernel
theorem dX11_silentFrom_8 : decode cX11_silentFrom 8 = .ok (.invokestatic 164, 3) := by decide +kernel
theorem dX11_silentFrom_11 : decode cX11_silentFrom 11 = .ok (.ifCond .ne 5, 3) := by decide +kernel
theorem dX11_silentFrom_14 : decode cX11_silentFrom 14 = .ok (.iconst (-1), 1) := by decide +kernel
theorem dX11_silentFrom_15 : decode cX11_silentFrom 15 = .ok (.ireturn, 1) := by decide +kernel
theorem dX11_silentFrom_16 : decode cX11_silentFrom 16 = .ok (.iload_n 2, 1) := by decide +kernel
theorem dX11_silentFrom_17 : decode cX11_silentFrom 17 = .ok (.istore_n 3, 1) := by decide +kernel
theorem dX11_silentFrom_18 : decode cX11_silentFrom 18 = .ok (.iload_n 3, 1) := by decide +kernel
theorem dX11_silentFrom_19 : decode cX11_silentFrom 19 = .ok (.bipush 100, 2) := by decide +kernel
theorem dX11_silentFrom_21 : decode cX11_silentFrom 21 = .ok (.if_icmp .ge 23, 3) := by decide +kernel
theorem dX11_silentFrom_24 : decode cX11_silentFrom 24 = .ok (.aload_n 0, 1) := by decide +kernel
theorem dX11_silentFrom_25 : decode cX11_silentFrom 25 = .ok (.getfield 42, 3) := by decide +kernel
theorem dX11_silentFrom_28 : decode cX11_silentFrom 28 = .ok (.iload_n 1, 1) := by decide +kernel
theorem dX11_silentFrom_29 : decode cX11_silentFrom 29 = .ok (.iload_n 3, 1) := by decide +kernel
theorem dX11_silentFrom_30 : decode cX11_silentFrom 30 = .ok (.invokevirtual 167, 3) := by decide +kernel
theorem dX11_silentFrom_33 : decode cX11_silentFrom 33 = .ok (.ifCond .ne 5, 3) := by decide +kernel
theorem dX11_silentFrom_36 : decode cX11_silentFrom 36 = .ok (.iload_n 3, 1) := by decide +kernel
theorem dX11_silentFrom_37 : decode cX11_silentFrom 37 = .ok (.ireturn, 1) := by decide +kernel
theorem dX11_silentFrom_38 : decode cX11_silentFrom 38 = .ok (.iinc 3 1, 3) := by decide +kernel
theorem dX11_silentFrom_41 : decode cX11_silentFrom 41 = .ok (.goto (-23), 3) := by decide +kernel
theorem dX11_silentFrom_44 : decode cX11_silentFrom 44 = .ok (.bipush (-4), 2) := by decide +kernel
theorem dX11_silentFrom_46 : decode cX11_silentFrom 46 = .ok (.ireturn, 1) := by decide +kernel
theorem dX11_holdAll_0 : decode cX11_holdAll 0 = .ok (.iload_n 1, 1) := by decide +kernel
theorem dX11_holdAll_1 : decode cX11_holdAll 1 = .ok (.invokestatic 173, 3) := by decide +kernel
theorem dX11_holdAll_4 : decode cX11_holdAll 4 = .ok (.ifCond .ne 5, 3) := by decide +kernel
theorem dX11_holdAll_7 : decode cX11_holdAll 7 = .ok (.iconst (-1), 1) := by decide +kernel
theorem dX11_holdAll_8 : decode cX11_holdAll 8 = .ok (.ireturn, 1) := by decide +kernel
theorem dX11_holdAll_9 : decode cX11_holdAll 9 = .ok (.aload_n 0, 1) := by decide +kernel
theorem dX11_holdAll_10 : decode cX11_holdAll 10 = .ok (.getfield 42, 3) := by decide +kernel
theorem dX11_holdAll_13 : decode cX11_holdAll 13 = .ok (.invokevirtual 176, 3) := by decide +kernel
theorem dX11_holdAll_16 : decode cX11_holdAll 16 = .ok (.istore_n 2, 1) := by decide +kernel
theorem dX11_holdAll_17 : decode cX11_holdAll 17 = .ok (.iload_n 1, 1) := by decide +kernel
theorem dX11_holdAll_18 : decode cX11_holdAll 18 = .ok (.ifCond .ne 7, 3) := by decide +kernel
theorem dX11_holdAll_21 : decode cX11_holdAll 21 = .ok (.iload_n 2, 1) := by decide +kernel
theorem dX11_holdAll_22 : decode cX11_holdAll 22 = .ok (.goto 11, 3) := by decide +kernel
theorem dX11_holdAll_25 : decode cX11_holdAll 25 = .ok (.aload_n 0, 1) := by decide +kernel
theorem dX11_holdAll_26 : decode cX11_holdAll 26 = .ok (.getfield 42, 3) := by decide +kernel
theorem dX11_holdAll_29 : decode cX11_holdAll 29 = .ok (.iload_n 2, 1) := by decide +kernel
theorem dX11_holdAll_30 : decode cX11_holdAll 30 = .ok (.invokevirtual 179, 3) := by decide +kernel
theorem dX11_holdAll_33 : decode cX11_holdAll 33 = .ok (.ireturn, 1) := by decide +kernel
theorem dX11_radio_0 : decode cX11_radio 0 = .ok (.iload_n 1, 1) := by decide +kernel
theorem dX11_radio_1 : decode cX11_radio 1 = .ok (.invokestatic 123, 3) := by decide +kernel
theorem dX11_radio_4 : decode cX11_radio 4 = .ok (.ifCond .ne 5, 3) := by decide +kernel
theorem dX11_radio_7 : decode cX11_radio 7 = .ok (.iconst (-1), 1) := by decide +kernel
theorem dX11_radio_8 : decode cX11_radio 8 = .ok (.ireturn, 1) := by decide +kernel
theorem dX11_radio_9 : decode cX11_radio 9 = .ok (.aload_n 0, 1) := by decide +kernel
theorem dX11_radio_10 : decode cX11_radio 10 = .ok (.getfield 42, 3) := by decide +kernel
theorem dX11_radio_13 : decode cX11_radio 13 = .ok (.iconst 0, 1) := by decide +kernel
theorem dX11_radio_14 : decode cX11_radio 14 = .ok (.iload_n 1, 1) := by decide +kernel
theorem dX11_radio_15 : decode cX11_radio 15 = .ok (.aload_n 0, 1) := by decide +kernel
theorem dX11_radio_16 : decode cX11_radio 16 = .ok (.getfield 42, 3) := by decide +kernel
theorem dX11_radio_19 : decode cX11_radio 19 = .ok (.getfield 182, 3) := by decide +kernel
theorem dX11_radio_22 : decode cX11_radio 22 = .ok (.iconst 0, 1) := by decide +kernel
theorem dX11_radio_23 : decode cX11_radio 23 = .ok (.iaload, 1) := by decide +kernel
theorem dX11_radio_24 : decode cX11_radio 24 = .ok (.invokevirtual 185, 3) := by decide +kernel
theorem dX11_radio_27 : decode cX11_radio 27 = .ok (.istore_n 2, 1) := by decide +kernel
theorem dX11_radio_28 : decode cX11_radio 28 = .ok (.iload_n 2, 1) := by decide +kernel
theorem dX11_radio_29 : decode cX11_radio 29 = .ok (.bipush 40, 2) := by decide +kernel
theorem dX11_radio_31 : decode cX11_radio 31 = .ok (.if_icmp .gt 7, 3) := by decide +kernel
theorem dX11_radio_34 : decode cX11_radio 34 = .ok (.iload_n 2, 1) := by decide +kernel
theorem dX11_radio_35 : decode cX11_radio 35 = .ok (.goto 5, 3) := by decide +kernel
theorem dX11_radio_38 : decode cX11_radio 38 = .ok (.bipush (-4), 2) := by decide +kernel
theorem dX11_radio_40 : decode cX11_radio 40 = .ok (.ireturn, 1) := by decide +kernel
theorem dX11_wanted_0 : decode cX11_wanted 0 = .ok (.iload_n 1, 1) := by decide +kernel
theorem dX11_wanted_1 : decode cX11_wanted 1 = .ok (.invokestatic 173, 3) := by decide +kernel
theorem dX11_wanted_4 : decode cX11_wanted 4 = .ok (.ifCond .ne 5, 3) := by decide +kernel
theorem dX11_wanted_7 : decode cX11_wanted 7 = .ok (.iconst (-1), 1) := by decide +kernel
theorem dX11_wanted_8 : decode cX11_wanted 8 = .ok (.ireturn, 1) := by decide +kernel
theorem dX11_wanted_9 : decode cX11_wanted 9 = .ok (.iload_n 1, 1) := by decide +kernel
theorem dX11_wanted_10 : decode cX11_wanted 10 = .ok (.ifCond .ne 7, 3) := by decide +kernel
theorem dX11_wanted_13 : decode cX11_wanted 13 = .ok (.iconst 2, 1) := by decide +kernel
theorem dX11_wanted_14 : decode cX11_wanted 14 = .ok (.goto 4, 3) := by decide +kernel
theorem dX11_wanted_17 : decode cX11_wanted 17 = .ok (.iconst 1, 1) := by decide +kernel
theorem dX11_wanted_18 : decode cX11_wanted 18 = .ok (.istore_n 2, 1) := by decide +kernel
theorem dX11_wanted_19 : decode cX11_wanted 19 = .ok (.getstatic 189, 3) := by decide +kernel
theorem dX11_wanted_22 : decode cX11_wanted 22 = .ok (.iload_n 2, 1) := by decide +kernel
theorem dX11_wanted_23 : decode cX11_wanted 23 = .ok (.iaload, 1) := by decide +kernel
theorem dX11_wanted_24 : decode cX11_wanted 24 = .ok (.istore_n 3, 1) := by decide +kernel
theorem dX11_wanted_25 : decode cX11_wanted 25 = .ok (.aload_n 0, 1) := by decide +kernel
theorem dX11_wanted_26 : decode cX11_wanted 26 = .ok (.getfield 46, 3) := by decide +kernel
theorem dX11_wanted_29 : decode cX11_wanted 29 = .ok (.aload_n 0, 1) := by decide +kernel
theorem dX11_wanted_30 : decode cX11_wanted 30 = .ok (.getfield 42, 3) := by decide +kernel
theorem dX11_wanted_33 : decode cX11_wanted 33 = .ok (.invokevirtual 84, 3) := by decide +kernel
theorem dX11_wanted_36 : decode cX11_wanted 36 = .ok (.iconst 0, 1) := by decide +kernel
theorem dX11_wanted_37 : decode cX11_wanted 37 = .ok (.istore 4, 2) := by decide +kernel
theorem dX11_wanted_39 : decode cX11_wanted 39 = .ok (.iload 4, 2) := by decide +kernel
theorem dX11_wanted_41 : decode cX11_wanted 41 = .ok (.iload_n 3, 1) := by decide +kernel
theorem dX11_wanted_42 : decode cX11_wanted 42 = .ok (.if_icmp .gt 49, 3) := by decide +kernel
theorem dX11_wanted_45 : decode cX11_wanted 45 = .ok (.iload_n 1, 1) := by decide +kernel
theorem dX11_wanted_46 : decode cX11_wanted 46 = .ok (.ifCond .ne 8, 3) := by decide +kernel
theorem dX11_wanted_49 : decode cX11_wanted 49 = .ok (.iload 4, 2) := by decide +kernel
theorem dX11_wanted_51 : decode cX11_wanted 51 = .ok (.goto 7, 3) := by decide +kernel
theorem dX11_wanted_54 : decode cX11_wanted 54 = .ok (.iload_n 3, 1) := by decide +kernel
theorem dX11_wanted_55 : decode cX11_wanted 55 = .ok (.iload 4, 2) := by decide +kernel
theorem dX11_wanted_57 : decode cX11_wanted 57 = .ok (.isub, 1) := by decide +kernel
theorem dX11_wanted_58 : decode cX11_wanted 58 = .ok (.istore 5, 2) := by decide +kernel
theorem dX11_wanted_60 : decode cX11_wanted 60 = .ok (.aload_n 0, 1) := by decide +kernel
theorem dX11_wanted_61 : decode cX11_wanted 61 = .ok (.getfield 46, 3) := by decide +kernel
theorem dX11_wanted_64 : decode cX11_wanted 64 = .ok (.iload_n 2, 1) := by decide +kernel
theorem dX11_wanted_65 : decode cX11_wanted 65 = .ok (.iload 5, 2) := by decide +kernel
theorem dX11_wanted_67 : decode cX11_wanted 67 = .ok (.invokevirtual 154, 3) := by decide +kernel
theorem dX11_wanted_70 : decode cX11_wanted 70 = .ok (.pop, 1) := by decide +kernel
theorem dX11_wanted_71 : decode cX11_wanted 71 = .ok (.aload_n 0, 1) := by decide +kernel
theorem dX11_wanted_72 : decode cX11_wanted 72 = .ok (.getfield 46, 3) := by decide +kernel
theorem dX11_wanted_75 : decode cX11_wanted 75 = .ok (.iconst 0, 1) := by decide +kernel
theorem dX11_wanted_76 : decode cX11_wanted 76 = .ok (.invokevirtual 158, 3) := by decide +kernel
theorem dX11_wanted_79 : decode cX11_wanted 79 = .ok (.ifCond .ne 6, 3) := by decide +kernel
theorem dX11_wanted_82 : decode cX11_wanted 82 = .ok (.iload 5, 2) := by decide +kernel
theorem dX11_wanted_84 : decode cX11_wanted 84 = .ok (.ireturn, 1) := by decide +kernel
theorem dX11_wanted_85 : decode cX11_wanted 85 = .ok (.iinc 4 1, 3) := by decide +kernel
theorem dX11_wanted_88 : decode cX11_wanted 88 = .ok (.goto (-49), 3) := by decide +kernel
theorem dX11_wanted_91 : decode cX11_wanted 91 = .ok (.bipush (-4), 2) := by decide +kernel
theorem dX11_wanted_93 : decode cX11_wanted 93 = .ok (.ireturn, 1) := by decide +kernel
theorem dX11_bestSeat_0 : decode cX11_bestSeat 0 = .ok (.iconst 0, 1) := by decide +kernel
theorem dX11_bestSeat_1 : decode cX11_bestSeat 1 = .ok (.istore_n 1, 1) := by decide +kernel
theorem dX11_bestSeat_2 : decode cX11_bestSeat 2 = .ok (.iconst 1, 1) := by decide +kernel
theorem dX11_bestSeat_3 : decode cX11_bestSeat 3 = .ok (.istore_n 2, 1) := by decide +kernel
theorem dX11_bestSeat_4 : decode cX11_bestSeat 4 = .ok (.iload_n 2, 1) := by decide +kernel
theorem dX11_bestSeat_5 : decode cX11_bestSeat 5 = .ok (.iconst 4, 1) := by decide +kernel
theorem dX11_bestSeat_6 : decode cX11_bestSeat 6 = .ok (.if_icmp .ge 30, 3) := by decide +kernel
theorem dX11_bestSeat_9 : decode cX11_bestSeat 9 = .ok (.aload_n 0, 1) := by decide +kernel
theorem dX11_bestSeat_10 : decode cX11_bestSeat 10 = .ok (.getfield 42, 3) := by decide +kernel
theorem dX11_bestSeat_13 : decode cX11_bestSeat 13 = .ok (.iload_n 2, 1) := by decide +kernel
theorem dX11_bestSeat_14 : decode cX11_bestSeat 14 = .ok (.invokevirtual 158, 3) := by decide +kernel
theorem dX11_bestSeat_17 : decode cX11_bestSeat 17 = .ok (.aload_n 0, 1) := by decide +kernel
theorem dX11_bestSeat_18 : decode cX11_bestSeat 18 = .ok (.getfield 42, 3) := by decide +kernel
theorem dX11_bestSeat_21 : decode cX11_bestSeat 21 = .ok (.iload_n 1, 1) := by decide +kernel
theorem dX11_bestSeat_22 : decode cX11_bestSeat 22 = .ok (.invokevirtual 158, 3) := by decide +kernel
theorem dX11_bestSeat_25 : decode cX11_bestSeat 25 = .ok (.if_icmp .le 5, 3) := by decide +kernel
theorem dX11_bestSeat_28 : decode cX11_bestSeat 28 = .ok (.iload_n 2, 1) := by decide +kernel
theorem dX11_bestSeat_29 : decode cX11_bestSeat 29 = .ok (.istore_n 1, 1) := by decide +kernel
theorem dX11_bestSeat_30 : decode cX11_bestSeat 30 = .ok (.iinc 2 1, 3) := by decide +kernel
theorem dX11_bestSeat_33 : decode cX11_bestSeat 33 = .ok (.goto (-29), 3) := by decide +kernel
theorem dX11_bestSeat_36 : decode cX11_bestSeat 36 = .ok (.iload_n 1, 1) := by decide +kernel
theorem dX11_bestSeat_37 : decode cX11_bestSeat 37 = .ok (.ireturn, 1) := by decide +kernel
theorem dX11_which_0 : decode cX11_which 0 = .ok (.iload_n 2, 1) := by decide +kernel
theorem dX11_which_1 : decode cX11_which 1 = .ok (.invokestatic 173, 3) := by decide +kernel
theorem dX11_which_4 : decode cX11_which 4 = .ok (.ifCond .eq 11, 3) := by decide +kernel
theorem dX11_which_7 : decode cX11_which 7 = .ok (.aload_n 0, 1) := by decide +kernel
theorem dX11_which_8 : decode cX11_which 8 = .ok (.iload_n 1, 1) := by decide +kernel
theorem dX11_which_9 : decode cX11_which 9 = .ok (.invokevirtual 192, 3) := by decide +kernel
theorem dX11_which_12 : decode cX11_which 12 = .ok (.goto 4, 3) := by decide +kernel
theorem dX11_which_15 : decode cX11_which 15 = .ok (.iconst (-1), 1) := by decide +kernel
theorem dX11_which_16 : decode cX11_which 16 = .ok (.istore_n 3, 1) := by decide +kernel
theorem dX11_which_17 : decode cX11_which 17 = .ok (.iload_n 3, 1) := by decide +kernel
theorem dX11_which_18 : decode cX11_which 18 = .ok (.ifCond .eq 5, 3) := by decide +kernel
theorem dX11_which_21 : decode cX11_which 21 = .ok (.iload_n 3, 1) := by decide +kernel
theorem dX11_which_22 : decode cX11_which 22 = .ok (.ireturn, 1) := by decide +kernel
theorem dX11_which_23 : decode cX11_which 23 = .ok (.aload_n 0, 1) := by decide +kernel
theorem dX11_which_24 : decode cX11_which 24 = .ok (.aload_n 0, 1) := by decide +kernel
theorem dX11_which_25 : decode cX11_which 25 = .ok (.getfield 58, 3) := by decide +kernel
theorem dX11_which_28 : decode cX11_which 28 = .ok (.iload_n 1, 1) := by decide +kernel
theorem dX11_which_29 : decode cX11_which 29 = .ok (.aaload, 1) := by decide +kernel
theorem dX11_which_30 : decode cX11_which 30 = .ok (.invokevirtual 195, 3) := by decide +kernel
theorem dX11_which_33 : decode cX11_which 33 = .ok (.istore 4, 2) := by decide +kernel
theorem dX11_which_35 : decode cX11_which 35 = .ok (.iload_n 2, 1) := by decide +kernel
theorem dX11_which_36 : decode cX11_which 36 = .ok (.ifCond .ne 8, 3) := by decide +kernel
theorem dX11_which_39 : decode cX11_which 39 = .ok (.iload 4, 2) := by decide +kernel
theorem dX11_which_41 : decode cX11_which 41 = .ok (.goto 8, 3) := by decide +kernel
theorem dX11_which_44 : decode cX11_which 44 = .ok (.iload 4, 2) := by decide +kernel
theorem dX11_which_46 : decode cX11_which 46 = .ok (.invokestatic 198, 3) := by decide +kernel
theorem dX11_which_49 : decode cX11_which 49 = .ok (.ireturn, 1) := by decide +kernel
theorem dX11_two_0 : decode cX11_two 0 = .ok (.iload_n 2, 1) := by decide +kernel
theorem dX11_two_1 : decode cX11_two 1 = .ok (.invokestatic 173, 3) := by decide +kernel
theorem dX11_two_4 : decode cX11_two 4 = .ok (.ifCond .eq 11, 3) := by decide +kernel
theorem dX11_two_7 : decode cX11_two 7 = .ok (.aload_n 0, 1) := by decide +kernel
theorem dX11_two_8 : decode cX11_two 8 = .ok (.iload_n 1, 1) := by decide +kernel
theorem dX11_two_9 : decode cX11_two 9 = .ok (.invokevirtual 192, 3) := by decide +kernel
theorem dX11_two_12 : decode cX11_two 12 = .ok (.goto 4, 3) := by decide +kernel
theorem dX11_two_15 : decode cX11_two 15 = .ok (.iconst (-1), 1) := by decide +kernel
theorem dX11_two_16 : decode cX11_two 16 = .ok (.istore_n 3, 1) := by decide +kernel
theorem dX11_two_17 : decode cX11_two 17 = .ok (.iload_n 3, 1) := by decide +kernel
theorem dX11_two_18 : decode cX11_two 18 = .ok (.ifCond .eq 5, 3) := by decide +kernel
theorem dX11_two_21 : decode cX11_two 21 = .ok (.iload_n 3, 1) := by decide +kernel
theorem dX11_two_22 : decode cX11_two 22 = .ok (.ireturn, 1) := by decide +kernel
theorem dX11_two_23 : decode cX11_two 23 = .ok (.aload_n 0, 1) := by decide +kernel
theorem dX11_two_24 : decode cX11_two 24 = .ok (.aload_n 0, 1) := by decide +kernel
theorem dX11_two_25 : decode cX11_two 25 = .ok (.getfield 58, 3) := by decide +kernel
theorem dX11_two_28 : decode cX11_two 28 = .ok (.iload_n 1, 1) := by decide +kernel
theorem dX11_two_29 : decode cX11_two 29 = .ok (.aaload, 1) := by decide +kernel
theorem dX11_two_30 : decode cX11_two 30 = .ok (.invokevirtual 195, 3) := by decide +kernel
theorem dX11_two_33 : decode cX11_two 33 = .ok (.istore 4, 2) := by decide +kernel
theorem dX11_two_35 : decode cX11_two 35 = .ok (.iconst 0, 1) := by decide +kernel
theorem dX11_two_36 : decode cX11_two 36 = .ok (.istore 5, 2) := by decide +kernel
theorem dX11_two_38 : decode cX11_two 38 = .ok (.bipush (-4), 2) := by decide +kernel
theorem dX11_two_40 : decode cX11_two 40 = .ok (.istore 6, 2) := by decide +kernel
theorem dX11_two_42 : decode cX11_two 42 = .ok (.iconst 0, 1) := by decide +kernel
theorem dX11_two_43 : decode cX11_two 43 = .ok (.istore 7, 2) := by decide +kernel
theorem dX11_two_45 : decode cX11_two 45 = .ok (.iload 7, 2) := by decide +kernel
theorem dX11_two_47 : decode cX11_two 47 = .ok (.aload_n 0, 1) := by decide +kernel
theorem dX11_two_48 : decode cX11_two 48 = .ok (.getfield 42, 3) := by decide +kernel
theorem dX11_two_51 : decode cX11_two 51 = .ok (.getfield 203, 3) := by decide +kernel
theorem dX11_two_54 : decode cX11_two 54 = .ok (.if_icmp .ge 95, 3) := by decide +kernel
theorem dX11_two_57 : decode cX11_two 57 = .ok (.iload 7, 2) := by decide +kernel
theorem dX11_two_59 : decode cX11_two 59 = .ok (.iconst 1, 1) := by decide +kernel
theorem dX11_two_60 : decode cX11_two 60 = .ok (.iadd, 1) := by decide +kernel
theorem dX11_two_61 : decode cX11_two 61 = .ok (.istore 8, 2) := by decide +kernel
theorem dX11_two_63 : decode cX11_two 63 = .ok (.iload 8, 2) := by decide +kernel
theorem dX11_two_65 : decode cX11_two 65 = .ok (.aload_n 0, 1) := by decide +kernel
theorem dX11_two_66 : decode cX11_two 66 = .ok (.getfield 42, 3) := by decide +kernel
theorem dX11_two_69 : decode cX11_two 69 = .ok (.getfield 203, 3) := by decide +kernel
theorem dX11_two_72 : decode cX11_two 72 = .ok (.if_icmp .ge 71, 3) := by decide +kernel
theorem dX11_two_75 : decode cX11_two 75 = .ok (.iconst 1, 1) := by decide +kernel
theorem dX11_two_76 : decode cX11_two 76 = .ok (.iload 7, 2) := by decide +kernel
theorem dX11_two_78 : decode cX11_two 78 = .ok (.ishl, 1) := by decide +kernel
theorem dX11_two_79 : decode cX11_two 79 = .ok (.iconst 1, 1) := by decide +kernel
theorem dX11_two_80 : decode cX11_two 80 = .ok (.iload 8, 2) := by decide +kernel
theorem dX11_two_82 : decode cX11_two 82 = .ok (.ishl, 1) := by decide +kernel
theorem dX11_two_83 : decode cX11_two 83 = .ok (.ior, 1) := by decide +kernel
theorem dX11_two_84 : decode cX11_two 84 = .ok (.istore 9, 2) := by decide +kernel
theorem dX11_two_86 : decode cX11_two 86 = .ok (.iload 9, 2) := by decide +kernel
theorem dX11_two_88 : decode cX11_two 88 = .ok (.iload 4, 2) := by decide +kernel
theorem dX11_two_90 : decode cX11_two 90 = .ok (.iand, 1) := by decide +kernel
theorem dX11_two_91 : decode cX11_two 91 = .ok (.ifCond .ne 46, 3) := by decide +kernel
theorem dX11_two_94 : decode cX11_two 94 = .ok (.aload_n 0, 1) := by decide +kernel
theorem dX11_two_95 : decode cX11_two 95 = .ok (.getfield 42, 3) := by decide +kernel
theorem dX11_two_98 : decode cX11_two 98 = .ok (.aload_n 0, 1) := by decide +kernel
theorem dX11_two_99 : decode cX11_two 99 = .ok (.getfield 58, 3) := by decide +kernel
theorem dX11_two_102 : decode cX11_two 102 = .ok (.iload_n 1, 1) := by decide +kernel
theorem dX11_two_103 : decode cX11_two 103 = .ok (.aaload, 1) := by decide +kernel
theorem dX11_two_104 : decode cX11_two 104 = .ok (.iload 9, 2) := by decide +kernel
theorem dX11_two_106 : decode cX11_two 106 = .ok (.invokevirtual 206, 3) := by decide +kernel
theorem dX11_two_109 : decode cX11_two 109 = .ok (.ifCond .eq 28, 3) := by decide +kernel
theorem dX11_two_112 : decode cX11_two 112 = .ok (.iinc 5 1, 3) := by decide +kernel
theorem dX11_two_115 : decode cX11_two 115 = .ok (.iload 6, 2) := by decide +kernel
theorem dX11_two_117 : decode cX11_two 117 = .ok (.bipush (-4), 2) := by decide +kernel
theorem dX11_two_119 : decode cX11_two 119 = .ok (.if_icmp .ne 14, 3) := by decide +kernel
theorem dX11_two_122 : decode cX11_two 122 = .ok (.bipush 10, 2) := by decide +kernel
theorem dX11_two_124 : decode cX11_two 124 = .ok (.iload 7, 2) := by decide +kernel
theorem dX11_two_126 : decode cX11_two 126 = .ok (.imul, 1) := by decide +kernel
theorem dX11_two_127 : decode cX11_two 127 = .ok (.iload 8, 2) := by decide +kernel
theorem dX11_two_129 : decode cX11_two 129 = .ok (.iadd, 1) := by decide +kernel
theorem dX11_two_130 : decode cX11_two 130 = .ok (.goto 5, 3) := by decide +kernel
theorem dX11_two_133 : decode cX11_two 133 = .ok (.iload 6, 2) := by decide +kernel
theorem dX11_two_135 : decode cX11_two 135 = .ok (.istore 6, 2) := by decide +kernel
theorem dX11_two_137 : decode cX11_two 137 = .ok (.iinc 8 1, 3) := by decide +kernel
theorem dX11_two_140 : decode cX11_two 140 = .ok (.goto (-77), 3) := by decide +kernel
theorem dX11_two_143 : decode cX11_two 143 = .ok (.iinc 7 1, 3) := by decide +kernel
theorem dX11_two_146 : decode cX11_two 146 = .ok (.goto (-101), 3) := by decide +kernel
theorem dX11_two_149 : decode cX11_two 149 = .ok (.iload_n 2, 1) := by decide +kernel
theorem dX11_two_150 : decode cX11_two 150 = .ok (.ifCond .ne 8, 3) := by decide +kernel
theorem dX11_two_153 : decode cX11_two 153 = .ok (.iload 5, 2) := by decide +kernel
theorem dX11_two_155 : decode cX11_two 155 = .ok (.goto 5, 3) := by decide +kernel
theorem dX11_two_158 : decode cX11_two 158 = .ok (.iload 6, 2) := by decide +kernel
theorem dX11_two_160 : decode cX11_two 160 = .ok (.ireturn, 1) := by decide +kernel
theorem dX11_tryNext_0 : decode cX11_tryNext 0 = .ok (.aload_n 0, 1) := by decide +kernel
theorem dX11_tryNext_1 : decode cX11_tryNext 1 = .ok (.iload_n 1, 1) := by decide +kernel
theorem dX11_tryNext_2 : decode cX11_tryNext 2 = .ok (.invokevirtual 192, 3) := by decide +kernel
theorem dX11_tryNext_5 : decode cX11_tryNext 5 = .ok (.istore_n 2, 1) := by decide +kernel
theorem dX11_tryNext_6 : decode cX11_tryNext 6 = .ok (.iload_n 2, 1) := by decide +kernel
theorem dX11_tryNext_7 : decode cX11_tryNext 7 = .ok (.ifCond .eq 5, 3) := by decide +kernel
theorem dX11_tryNext_10 : decode cX11_tryNext 10 = .ok (.iload_n 2, 1) := by decide +kernel
theorem dX11_tryNext_11 : decode cX11_tryNext 11 = .ok (.ireturn, 1) := by decide +kernel
theorem dX11_tryNext_12 : decode cX11_tryNext 12 = .ok (.aload_n 0, 1) := by decide +kernel
theorem dX11_tryNext_13 : decode cX11_tryNext 13 = .ok (.aload_n 0, 1) := by decide +kernel
theorem dX11_tryNext_14 : decode cX11_tryNext 14 = .ok (.getfield 58, 3) := by decide +kernel
theorem dX11_tryNext_17 : decode cX11_tryNext 17 = .ok (.iload_n 1, 1) := by decide +kernel
theorem dX11_tryNext_18 : decode cX11_tryNext 18 = .ok (.aaload, 1) := by decide +kernel
theorem dX11_tryNext_19 : decode cX11_tryNext 19 = .ok (.invokevirtual 195, 3) := by decide +kernel
theorem dX11_tryNext_22 : decode cX11_tryNext 22 = .ok (.istore_n 3, 1) := by decide +kernel
theorem dX11_tryNext_23 : decode cX11_tryNext 23 = .ok (.iload_n 3, 1) := by decide +kernel
theorem dX11_tryNext_24 : decode cX11_tryNext 24 = .ok (.invokestatic 198, 3) := by decide +kernel
theorem dX11_tryNext_27 : decode cX11_tryNext 27 = .ok (.iconst 2, 1) := by decide +kernel
theorem dX11_tryNext_28 : decode cX11_tryNext 28 = .ok (.if_icmp .ge 6, 3) := by decide +kernel
theorem dX11_tryNext_31 : decode cX11_tryNext 31 = .ok (.bipush (-4), 2) := by decide +kernel
theorem dX11_tryNext_33 : decode cX11_tryNext 33 = .ok (.ireturn, 1) := by decide +kernel
theorem dX11_tryNext_34 : decode cX11_tryNext 34 = .ok (.aload_n 0, 1) := by decide +kernel
theorem dX11_tryNext_35 : decode cX11_tryNext 35 = .ok (.getfield 42, 3) := by decide +kernel
theorem dX11_tryNext_38 : decode cX11_tryNext 38 = .ok (.iload_n 3, 1) := by decide +kernel
theorem dX11_tryNext_39 : decode cX11_tryNext 39 = .ok (.invokevirtual 210, 3) := by decide +kernel
theorem dX11_tryNext_42 : decode cX11_tryNext 42 = .ok (.istore 4, 2) := by decide +kernel
theorem dX11_tryNext_44 : decode cX11_tryNext 44 = .ok (.iconst 0, 1) := by decide +kernel
theorem dX11_tryNext_45 : decode cX11_tryNext 45 = .ok (.istore 5, 2) := by decide +kernel
theorem dX11_tryNext_47 : decode cX11_tryNext 47 = .ok (.iconst (-1), 1) := by decide +kernel
theorem dX11_tryNext_48 : decode cX11_tryNext 48 = .ok (.istore 6, 2) := by decide +kernel
theorem dX11_tryNext_50 : decode cX11_tryNext 50 = .ok (.iconst 0, 1) := by decide +kernel
theorem dX11_tryNext_51 : decode cX11_tryNext 51 = .ok (.istore 7, 2) := by decide +kernel
theorem dX11_tryNext_53 : decode cX11_tryNext 53 = .ok (.iload 7, 2) := by decide +kernel
theorem dX11_tryNext_55 : decode cX11_tryNext 55 = .ok (.bipush 100, 2) := by decide +kernel
theorem dX11_tryNext_57 : decode cX11_tryNext 57 = .ok (.if_icmp .ge 56, 3) := by decide +kernel
theorem dX11_tryNext_60 : decode cX11_tryNext 60 = .ok (.aload_n 0, 1) := by decide +kernel
theorem dX11_tryNext_61 : decode cX11_tryNext 61 = .ok (.getfield 42, 3) := by decide +kernel
theorem dX11_tryNext_64 : decode cX11_tryNext 64 = .ok (.iload_n 3, 1) := by decide +kernel
theorem dX11_tryNext_65 : decode cX11_tryNext 65 = .ok (.aload_n 0, 1) := by decide +kernel
theorem dX11_tryNext_66 : decode cX11_tryNext 66 = .ok (.getfield 42, 3) := by decide +kernel
theorem dX11_tryNext_69 : decode cX11_tryNext 69 = .ok (.iload 7, 2) := by decide +kernel
theorem dX11_tryNext_71 : decode cX11_tryNext 71 = .ok (.invokevirtual 213, 3) := by decide +kernel
theorem dX11_tryNext_74 : decode cX11_tryNext 74 = .ok (.iand, 1) := by decide +kernel
theorem dX11_tryNext_75 : decode cX11_tryNext 75 = .ok (.invokevirtual 210, 3) := by decide +kernel
theorem dX11_tryNext_78 : decode cX11_tryNext 78 = .ok (.istore 8, 2) := by decide +kernel
theorem dX11_tryNext_80 : decode cX11_tryNext 80 = .ok (.iload 8, 2) := by decide +kernel
theorem dX11_tryNext_82 : decode cX11_tryNext 82 = .ok (.iload 4, 2) := by decide +kernel
theorem dX11_tryNext_84 : decode cX11_tryNext 84 = .ok (.iload 8, 2) := by decide +kernel
theorem dX11_tryNext_86 : decode cX11_tryNext 86 = .ok (.isub, 1) := by decide +kernel
theorem dX11_tryNext_87 : decode cX11_tryNext 87 = .ok (.invokestatic 216, 3) := by decide +kernel
theorem dX11_tryNext_90 : decode cX11_tryNext 90 = .ok (.istore 9, 2) := by decide +kernel
theorem dX11_tryNext_92 : decode cX11_tryNext 92 = .ok (.iload 9, 2) := by decide +kernel
theorem dX11_tryNext_94 : decode cX11_tryNext 94 = .ok (.iload 6, 2) := by decide +kernel
theorem dX11_tryNext_96 : decode cX11_tryNext 96 = .ok (.if_icmp .le 11, 3) := by decide +kernel
theorem dX11_tryNext_99 : decode cX11_tryNext 99 = .ok (.iload 9, 2) := by decide +kernel
theorem dX11_tryNext_101 : decode cX11_tryNext 101 = .ok (.istore 6, 2) := by decide +kernel
theorem dX11_tryNext_103 : decode cX11_tryNext 103 = .ok (.iload 7, 2) := by decide +kernel
theorem dX11_tryNext_105 : decode cX11_tryNext 105 = .ok (.istore 5, 2) := by decide +kernel
theorem dX11_tryNext_107 : decode cX11_tryNext 107 = .ok (.iinc 7 1, 3) := by decide +kernel
theorem dX11_tryNext_110 : decode cX11_tryNext 110 = .ok (.goto (-57), 3) := by decide +kernel
theorem dX11_tryNext_113 : decode cX11_tryNext 113 = .ok (.iload 5, 2) := by decide +kernel
theorem dX11_tryNext_115 : decode cX11_tryNext 115 = .ok (.ireturn, 1) := by decide +kernel
theorem dX11_halves_0 : decode cX11_halves 0 = .ok (.aload_n 0, 1) := by decide +kernel
theorem dX11_halves_1 : decode cX11_halves 1 = .ok (.iload_n 1, 1) := by decide +kernel
theorem dX11_halves_2 : decode cX11_halves 2 = .ok (.invokevirtual 221, 3) := by decide +kernel
theorem dX11_halves_5 : decode cX11_halves 5 = .ok (.ifCond .eq 10, 3) := by decide +kernel
theorem dX11_halves_8 : decode cX11_halves 8 = .ok (.iload_n 2, 1) := by decide +kernel
theorem dX11_halves_9 : decode cX11_halves 9 = .ok (.invokestatic 173, 3) := by decide +kernel
theorem dX11_halves_12 : decode cX11_halves 12 = .ok (.ifCond .ne 8, 3) := by decide +kernel
theorem dX11_halves_15 : decode cX11_halves 15 = .ok (.iconst (-1), 1) := by decide +kernel
theorem dX11_halves_16 : decode cX11_halves 16 = .ok (.invokestatic 224, 3) := by decide +kernel
theorem dX11_halves_19 : decode cX11_halves 19 = .ok (.lreturn, 1) := by decide +kernel
theorem dX11_halves_20 : decode cX11_halves 20 = .ok (.aload_n 0, 1) := by decide +kernel
theorem dX11_halves_21 : decode cX11_halves 21 = .ok (.iload_n 1, 1) := by decide +kernel
theorem dX11_halves_22 : decode cX11_halves 22 = .ok (.invokevirtual 228, 3) := by decide +kernel
theorem dX11_halves_25 : decode cX11_halves 25 = .ok (.i2l, 1) := by decide +kernel
theorem dX11_halves_26 : decode cX11_halves 26 = .ok (.aload_n 0, 1) := by decide +kernel
theorem dX11_halves_27 : decode cX11_halves 27 = .ok (.getfield 42, 3) := by decide +kernel
theorem dX11_halves_30 : decode cX11_halves 30 = .ok (.iload_n 1, 1) := by decide +kernel
theorem dX11_halves_31 : decode cX11_halves 31 = .ok (.invokevirtual 210, 3) := by decide +kernel
theorem dX11_halves_34 : decode cX11_halves 34 = .ok (.i2l, 1) := by decide +kernel
theorem dX11_halves_35 : decode cX11_halves 35 = .ok (.iload_n 2, 1) := by decide +kernel
theorem dX11_halves_36 : decode cX11_halves 36 = .ok (.invokestatic 231, 3) := by decide +kernel
theorem dX11_halves_39 : decode cX11_halves 39 = .ok (.lreturn, 1) := by decide +kernel
theorem dX11_oneByOne_0 : decode cX11_oneByOne 0 = .ok (.aload_n 0, 1) := by decide +kernel
theorem dX11_oneByOne_1 : decode cX11_oneByOne 1 = .ok (.iload_n 1, 1) := by decide +kernel
theorem dX11_oneByOne_2 : decode cX11_oneByOne 2 = .ok (.invokevirtual 221, 3) := by decide +kernel
theorem dX11_oneByOne_5 : decode cX11_oneByOne 5 = .ok (.ifCond .eq 10, 3) := by decide +kernel
theorem dX11_oneByOne_8 : decode cX11_oneByOne 8 = .ok (.iload_n 2, 1) := by decide +kernel
theorem dX11_oneByOne_9 : decode cX11_oneByOne 9 = .ok (.invokestatic 173, 3) := by decide +kernel
theorem dX11_oneByOne_12 : decode cX11_oneByOne 12 = .ok (.ifCond .ne 8, 3) := by decide +kernel
theorem dX11_oneByOne_15 : decode cX11_oneByOne 15 = .ok (.iconst (-1), 1) := by decide +kernel
theorem dX11_oneByOne_16 : decode cX11_oneByOne 16 = .ok (.invokestatic 224, 3) := by decide +kernel
theorem dX11_oneByOne_19 : decode cX11_oneByOne 19 = .ok (.lreturn, 1) := by decide +kernel
theorem dX11_oneByOne_20 : decode cX11_oneByOne 20 = .ok (.aload_n 0, 1) := by decide +kernel
theorem dX11_oneByOne_21 : decode cX11_oneByOne 21 = .ok (.iload_n 1, 1) := by decide +kernel
theorem dX11_oneByOne_22 : decode cX11_oneByOne 22 = .ok (.invokevirtual 235, 3) := by decide +kernel
theorem dX11_oneByOne_25 : decode cX11_oneByOne 25 = .ok (.i2l, 1) := by decide +kernel
theorem dX11_oneByOne_26 : decode cX11_oneByOne 26 = .ok (.aload_n 0, 1) := by decide +kernel
theorem dX11_oneByOne_27 : decode cX11_oneByOne 27 = .ok (.getfield 42, 3) := by decide +kernel
theorem dX11_oneByOne_30 : decode cX11_oneByOne 30 = .ok (.iload_n 1, 1) := by decide +kernel
theorem dX11_oneByOne_31 : decode cX11_oneByOne 31 = .ok (.invokevirtual 210, 3) := by decide +kernel
theorem dX11_oneByOne_34 : decode cX11_oneByOne 34 = .ok (.i2l, 1) := by decide +kernel
theorem dX11_oneByOne_35 : decode cX11_oneByOne 35 = .ok (.iload_n 2, 1) := by decide +kernel
theorem dX11_oneByOne_36 : decode cX11_oneByOne 36 = .ok (.invokestatic 231, 3) := by decide +kernel
theorem dX11_oneByOne_39 : decode cX11_oneByOne 39 = .ok (.lreturn, 1) := by decide +kernel
theorem dX11_worse_0 : decode cX11_worse 0 = .ok (.aload_n 0, 1) := by decide +kernel
theorem dX11_worse_1 : decode cX11_worse 1 = .ok (.iload_n 1, 1) := by decide +kernel
theorem dX11_worse_2 : decode cX11_worse 2 = .ok (.invokevirtual 221, 3) := by decide +kernel
theorem dX11_worse_5 : decode cX11_worse 5 = .ok (.ifCond .ne 5, 3) := by decide +kernel
theorem dX11_worse_8 : decode cX11_worse 8 = .ok (.iconst (-1), 1) := by decide +kernel
theorem dX11_worse_9 : decode cX11_worse 9 = .ok (.ireturn, 1) := by decide +kernel
theorem dX11_worse_10 : decode cX11_worse 10 = .ok (.aload_n 0, 1) := by decide +kernel
theorem dX11_worse_11 : decode cX11_worse 11 = .ok (.iload_n 1, 1) := by decide +kernel
theorem dX11_worse_12 : decode cX11_worse 12 = .ok (.invokevirtual 235, 3) := by decide +kernel
theorem dX11_worse_15 : decode cX11_worse 15 = .ok (.aload_n 0, 1) := by decide +kernel
theorem dX11_worse_16 : decode cX11_worse 16 = .ok (.iload_n 1, 1) := by decide +kernel
theorem dX11_worse_17 : decode cX11_worse 17 = .ok (.invokevirtual 228, 3) := by decide +kernel
theorem dX11_worse_20 : decode cX11_worse 20 = .ok (.isub, 1) := by decide +kernel
theorem dX11_worse_21 : decode cX11_worse 21 = .ok (.ireturn, 1) := by decide +kernel
theorem dX11_gone_0 : decode cX11_gone 0 = .ok (.iload_n 1, 1) := by decide +kernel
theorem dX11_gone_1 : decode cX11_gone 1 = .ok (.iconst 1, 1) := by decide +kernel
theorem dX11_gone_2 : decode cX11_gone 2 = .ok (.bipush 9, 2) := by decide +kernel
theorem dX11_gone_4 : decode cX11_gone 4 = .ok (.invokestatic 126, 3) := by decide +kernel
theorem dX11_gone_7 : decode cX11_gone 7 = .ok (.ifCond .eq 13, 3) := by decide +kernel
theorem dX11_gone_10 : decode cX11_gone 10 = .ok (.iload_n 2, 1) := by decide +kernel
theorem dX11_gone_11 : decode cX11_gone 11 = .ok (.iconst 2, 1) := by decide +kernel
theorem dX11_gone_12 : decode cX11_gone 12 = .ok (.bipush 50, 2) := by decide +kernel
theorem dX11_gone_14 : decode cX11_gone 14 = .ok (.invokestatic 126, 3) := by decide +kernel
theorem dX11_gone_17 : decode cX11_gone 17 = .ok (.ifCond .ne 5, 3) := by decide +kernel
theorem dX11_gone_20 : decode cX11_gone 20 = .ok (.iconst (-1), 1) := by decide +kernel
theorem dX11_gone_21 : decode cX11_gone 21 = .ok (.ireturn, 1) := by decide +kernel
theorem dX11_gone_22 : decode cX11_gone 22 = .ok (.aload_n 0, 1) := by decide +kernel
theorem dX11_gone_23 : decode cX11_gone 23 = .ok (.iload_n 2, 1) := by decide +kernel
theorem dX11_gone_24 : decode cX11_gone 24 = .ok (.iconst 1, 1) := by decide +kernel
theorem dX11_gone_25 : decode cX11_gone 25 = .ok (.isub, 1) := by decide +kernel
theorem dX11_gone_26 : decode cX11_gone 26 = .ok (.invokevirtual 238, 3) := by decide +kernel
theorem dX11_gone_29 : decode cX11_gone 29 = .ok (.iconst 0, 1) := by decide +kernel
theorem dX11_gone_30 : decode cX11_gone 30 = .ok (.istore_n 3, 1) := by decide +kernel
theorem dX11_gone_31 : decode cX11_gone 31 = .ok (.iload_n 3, 1) := by decide +kernel
theorem dX11_gone_32 : decode cX11_gone 32 = .ok (.bipush 60, 2) := by decide +kernel
theorem dX11_gone_34 : decode cX11_gone 34 = .ok (.if_icmp .gt 27, 3) := by decide +kernel
theorem dX11_gone_37 : decode cX11_gone 37 = .ok (.aload_n 0, 1) := by decide +kernel
theorem dX11_gone_38 : decode cX11_gone 38 = .ok (.iload_n 3, 1) := by decide +kernel
theorem dX11_gone_39 : decode cX11_gone 39 = .ok (.invokevirtual 242, 3) := by decide +kernel
theorem dX11_gone_42 : decode cX11_gone 42 = .ok (.ifCond .eq 5, 3) := by decide +kernel
theorem dX11_gone_45 : decode cX11_gone 45 = .ok (.iload_n 3, 1) := by decide +kernel
theorem dX11_gone_46 : decode cX11_gone 46 = .ok (.ireturn, 1) := by decide +kernel
theorem dX11_gone_47 : decode cX11_gone 47 = .ok (.aload_n 0, 1) := by decide +kernel
theorem dX11_gone_48 : decode cX11_gone 48 = .ok (.bipush 10, 2) := by decide +kernel
theorem dX11_gone_50 : decode cX11_gone 50 = .ok (.iload_n 1, 1) := by decide +kernel
theorem dX11_gone_51 : decode cX11_gone 51 = .ok (.isub, 1) := by decide +kernel
theorem dX11_gone_52 : decode cX11_gone 52 = .ok (.invokevirtual 245, 3) := by decide +kernel
theorem dX11_gone_55 : decode cX11_gone 55 = .ok (.iinc 3 1, 3) := by decide +kernel
theorem dX11_gone_58 : decode cX11_gone 58 = .ok (.goto (-27), 3) := by decide +kernel
theorem dX11_gone_61 : decode cX11_gone 61 = .ok (.bipush (-4), 2) := by decide +kernel
theorem dX11_gone_63 : decode cX11_gone 63 = .ok (.ireturn, 1) := by decide +kernel
theorem dX11_ear_0 : decode cX11_ear 0 = .ok (.iload_n 2, 1) := by decide +kernel
theorem dX11_ear_1 : decode cX11_ear 1 = .ok (.iconst 0, 1) := by decide +kernel
theorem dX11_ear_2 : decode cX11_ear 2 = .ok (.bipush 9, 2) := by decide +kernel
theorem dX11_ear_4 : decode cX11_ear 4 = .ok (.invokestatic 126, 3) := by decide +kernel
theorem dX11_ear_7 : decode cX11_ear 7 = .ok (.ifCond .eq 22, 3) := by decide +kernel
theorem dX11_ear_10 : decode cX11_ear 10 = .ok (.iload_n 3, 1) := by decide +kernel
theorem dX11_ear_11 : decode cX11_ear 11 = .ok (.invokestatic 123, 3) := by decide +kernel
theorem dX11_ear_14 : decode cX11_ear 14 = .ok (.ifCond .eq 15, 3) := by decide +kernel
theorem dX11_ear_17 : decode cX11_ear 17 = .ok (.iload 4, 2) := by decide +kernel
theorem dX11_ear_19 : decode cX11_ear 19 = .ok (.invokestatic 173, 3) := by decide +kernel
theorem dX11_ear_22 : decode cX11_ear 22 = .ok (.ifCond .eq 7, 3) := by decide +kernel
theorem dX11_ear_25 : decode cX11_ear 25 = .ok (.iconst 1, 1) := by decide +kernel
theorem dX11_ear_26 : decode cX11_ear 26 = .ok (.goto 4, 3) := by decide +kernel
theorem dX11_ear_29 : decode cX11_ear 29 = .ok (.iconst 0, 1) := by decide +kernel
theorem dX11_ear_30 : decode cX11_ear 30 = .ok (.istore 5, 2) := by decide +kernel
theorem dX11_ear_32 : decode cX11_ear 32 = .ok (.iload 5, 2) := by decide +kernel
theorem dX11_ear_34 : decode cX11_ear 34 = .ok (.ifCond .eq 11, 3) := by decide +kernel
theorem dX11_ear_37 : decode cX11_ear 37 = .ok (.aload_n 0, 1) := by decide +kernel
theorem dX11_ear_38 : decode cX11_ear 38 = .ok (.iload_n 1, 1) := by decide +kernel
theorem dX11_ear_39 : decode cX11_ear 39 = .ok (.invokevirtual 248, 3) := by decide +kernel
theorem dX11_ear_42 : decode cX11_ear 42 = .ok (.goto 4, 3) := by decide +kernel
theorem dX11_ear_45 : decode cX11_ear 45 = .ok (.iconst (-1), 1) := by decide +kernel
theorem dX11_ear_46 : decode cX11_ear 46 = .ok (.istore 6, 2) := by decide +kernel
theorem dX11_ear_48 : decode cX11_ear 48 = .ok (.iload 6, 2) := by decide +kernel
theorem dX11_ear_50 : decode cX11_ear 50 = .ok (.ifCond .eq 9, 3) := by decide +kernel
theorem dX11_ear_53 : decode cX11_ear 53 = .ok (.iload 6, 2) := by decide +kernel
theorem dX11_ear_55 : decode cX11_ear 55 = .ok (.invokestatic 224, 3) := by decide +kernel
theorem dX11_ear_58 : decode cX11_ear 58 = .ok (.lreturn, 1) := by decide +kernel
theorem dX11_ear_59 : decode cX11_ear 59 = .ok (.lconst 0, 1) := by decide +kernel
theorem dX11_ear_60 : decode cX11_ear 60 = .ok (.lstore 7, 2) := by decide +kernel
theorem dX11_ear_62 : decode cX11_ear 62 = .ok (.iconst 0, 1) := by decide +kernel
theorem dX11_ear_63 : decode cX11_ear 63 = .ok (.istore 9, 2) := by decide +kernel
theorem dX11_ear_65 : decode cX11_ear 65 = .ok (.iload 9, 2) := by decide +kernel
theorem dX11_ear_67 : decode cX11_ear 67 = .ok (.iconst 4, 1) := by decide +kernel
theorem dX11_ear_68 : decode cX11_ear 68 = .ok (.if_icmp .ge 26, 3) := by decide +kernel
theorem dX11_ear_71 : decode cX11_ear 71 = .ok (.lload 7, 2) := by decide +kernel
theorem dX11_ear_73 : decode cX11_ear 73 = .ok (.aload_n 0, 1) := by decide +kernel
theorem dX11_ear_74 : decode cX11_ear 74 = .ok (.getfield 58, 3) := by decide +kernel
theorem dX11_ear_77 : decode cX11_ear 77 = .ok (.iload_n 1, 1) := by decide +kernel
theorem dX11_ear_78 : decode cX11_ear 78 = .ok (.aaload, 1) := by decide +kernel
theorem dX11_ear_79 : decode cX11_ear 79 = .ok (.iload_n 2, 1) := by decide +kernel
theorem dX11_ear_80 : decode cX11_ear 80 = .ok (.iload 9, 2) := by decide +kernel
theorem dX11_ear_82 : decode cX11_ear 82 = .ok (.invokestatic 251, 3) := by decide +kernel
theorem dX11_ear_85 : decode cX11_ear 85 = .ok (.ladd, 1) := by decide +kernel
theorem dX11_ear_86 : decode cX11_ear 86 = .ok (.lstore 7, 2) := by decide +kernel
theorem dX11_ear_88 : decode cX11_ear 88 = .ok (.iinc 9 1, 3) := by decide +kernel
theorem dX11_ear_91 : decode cX11_ear 91 = .ok (.goto (-26), 3) := by decide +kernel
theorem dX11_ear_94 : decode cX11_ear 94 = .ok (.aload_n 0, 1) := by decide +kernel
theorem dX11_ear_95 : decode cX11_ear 95 = .ok (.getfield 58, 3) := by decide +kernel
theorem dX11_ear_98 : decode cX11_ear 98 = .ok (.iload_n 1, 1) := by decide +kernel
theorem dX11_ear_99 : decode cX11_ear 99 = .ok (.aaload, 1) := by decide +kernel
theorem dX11_ear_100 : decode cX11_ear 100 = .ok (.iload_n 2, 1) := by decide +kernel
theorem dX11_ear_101 : decode cX11_ear 101 = .ok (.iload_n 3, 1) := by decide +kernel
theorem dX11_ear_102 : decode cX11_ear 102 = .ok (.invokestatic 251, 3) := by decide +kernel
theorem dX11_ear_105 : decode cX11_ear 105 = .ok (.lload 7, 2) := by decide +kernel
theorem dX11_ear_107 : decode cX11_ear 107 = .ok (.iload 4, 2) := by decide +kernel
theorem dX11_ear_109 : decode cX11_ear 109 = .ok (.invokestatic 231, 3) := by decide +kernel
theorem dX11_ear_112 : decode cX11_ear 112 = .ok (.lreturn, 1) := by decide +kernel
theorem dX11_likeliest_0 : decode cX11_likeliest 0 = .ok (.iload_n 2, 1) := by decide +kernel
theorem dX11_likeliest_1 : decode cX11_likeliest 1 = .ok (.iconst 0, 1) := by decide +kernel
theorem dX11_likeliest_2 : decode cX11_likeliest 2 = .ok (.bipush 9, 2) := by decide +kernel
theorem dX11_likeliest_4 : decode cX11_likeliest 4 = .ok (.invokestatic 126, 3) := by decide +kernel
theorem dX11_likeliest_7 : decode cX11_likeliest 7 = .ok (.ifCond .eq 11, 3) := by decide +kernel
theorem dX11_likeliest_10 : decode cX11_likeliest 10 = .ok (.aload_n 0, 1) := by decide +kernel
theorem dX11_likeliest_11 : decode cX11_likeliest 11 = .ok (.iload_n 1, 1) := by decide +kernel
theorem dX11_likeliest_12 : decode cX11_likeliest 12 = .ok (.invokevirtual 248, 3) := by decide +kernel
theorem dX11_likeliest_15 : decode cX11_likeliest 15 = .ok (.goto 4, 3) := by decide +kernel
theorem dX11_likeliest_18 : decode cX11_likeliest 18 = .ok (.iconst (-1), 1) := by decide +kernel
theorem dX11_likeliest_19 : decode cX11_likeliest 19 = .ok (.istore_n 3, 1) := by decide +kernel
theorem dX11_likeliest_20 : decode cX11_likeliest 20 = .ok (.iload_n 3, 1) := by decide +kernel
theorem dX11_likeliest_21 : decode cX11_likeliest 21 = .ok (.ifCond .eq 5, 3) := by decide +kernel
theorem dX11_likeliest_24 : decode cX11_likeliest 24 = .ok (.iload_n 3, 1) := by decide +kernel
theorem dX11_likeliest_25 : decode cX11_likeliest 25 = .ok (.ireturn, 1) := by decide +kernel
theorem dX11_likeliest_26 : decode cX11_likeliest 26 = .ok (.iconst 0, 1) := by decide +kernel
theorem dX11_likeliest_27 : decode cX11_likeliest 27 = .ok (.istore 4, 2) := by decide +kernel
theorem dX11_likeliest_29 : decode cX11_likeliest 29 = .ok (.iconst 1, 1) := by decide +kernel
theorem dX11_likeliest_30 : decode cX11_likeliest 30 = .ok (.istore 5, 2) := by decide +kernel
theorem dX11_likeliest_32 : decode cX11_likeliest 32 = .ok (.iload 5, 2) := by decide +kernel
theorem dX11_likeliest_34 : decode cX11_likeliest 34 = .ok (.iconst 4, 1) := by decide +kernel
theorem dX11_likeliest_35 : decode cX11_likeliest 35 = .ok (.if_icmp .ge 41, 3) := by decide +kernel
theorem dX11_likeliest_38 : decode cX11_likeliest 38 = .ok (.aload_n 0, 1) := by decide +kernel
theorem dX11_likeliest_39 : decode cX11_likeliest 39 = .ok (.getfield 58, 3) := by decide +kernel
theorem dX11_likeliest_42 : decode cX11_likeliest 42 = .ok (.iload_n 1, 1) := by decide +kernel
theorem dX11_likeliest_43 : decode cX11_likeliest 43 = .ok (.aaload, 1) := by decide +kernel
theorem dX11_likeliest_44 : decode cX11_likeliest 44 = .ok (.iload_n 2, 1) := by decide +kernel
theorem dX11_likeliest_45 : decode cX11_likeliest 45 = .ok (.iload 5, 2) := by decide +kernel
theorem dX11_likeliest_47 : decode cX11_likeliest 47 = .ok (.invokestatic 251, 3) := by decide +kernel
theorem dX11_likeliest_50 : decode cX11_likeliest 50 = .ok (.aload_n 0, 1) := by decide +kernel
theorem dX11_likeliest_51 : decode cX11_likeliest 51 = .ok (.getfield 58, 3) := by decide +kernel
theorem dX11_likeliest_54 : decode cX11_likeliest 54 = .ok (.iload_n 1, 1) := by decide +kernel
theorem dX11_likeliest_55 : decode cX11_likeliest 55 = .ok (.aaload, 1) := by decide +kernel
theorem dX11_likeliest_56 : decode cX11_likeliest 56 = .ok (.iload_n 2, 1) := by decide +kernel
theorem dX11_likeliest_57 : decode cX11_likeliest 57 = .ok (.iload 4, 2) := by decide +kernel
theorem dX11_likeliest_59 : decode cX11_likeliest 59 = .ok (.invokestatic 251, 3) := by decide +kernel
theorem dX11_likeliest_62 : decode cX11_likeliest 62 = .ok (.lcmp, 1) := by decide +kernel
theorem dX11_likeliest_63 : decode cX11_likeliest 63 = .ok (.ifCond .le 7, 3) := by decide +kernel
theorem dX11_likeliest_66 : decode cX11_likeliest 66 = .ok (.iload 5, 2) := by decide +kernel
theorem dX11_likeliest_68 : decode cX11_likeliest 68 = .ok (.istore 4, 2) := by decide +kernel
theorem dX11_likeliest_70 : decode cX11_likeliest 70 = .ok (.iinc 5 1, 3) := by decide +kernel
theorem dX11_likeliest_73 : decode cX11_likeliest 73 = .ok (.goto (-41), 3) := by decide +kernel
theorem dX11_likeliest_76 : decode cX11_likeliest 76 = .ok (.iload 4, 2) := by decide +kernel
theorem dX11_likeliest_78 : decode cX11_likeliest 78 = .ok (.ireturn, 1) := by decide +kernel
theorem dX11_suspectsBy_0 : decode cX11_suspectsBy 0 = .ok (.iconst 0, 1) := by decide +kernel
theorem dX11_suspectsBy_1 : decode cX11_suspectsBy 1 = .ok (.istore_n 2, 1) := by decide +kernel
theorem dX11_suspectsBy_2 : decode cX11_suspectsBy 2 = .ok (.iconst 0, 1) := by decide +kernel
theorem dX11_suspectsBy_3 : decode cX11_suspectsBy 3 = .ok (.istore_n 3, 1) := by decide +kernel
theorem dX11_suspectsBy_4 : decode cX11_suspectsBy 4 = .ok (.iload_n 3, 1) := by decide +kernel
theorem dX11_suspectsBy_5 : decode cX11_suspectsBy 5 = .ok (.aload_n 0, 1) := by decide +kernel
theorem dX11_suspectsBy_6 : decode cX11_suspectsBy 6 = .ok (.getfield 42, 3) := by decide +kernel
theorem dX11_suspectsBy_9 : decode cX11_suspectsBy 9 = .ok (.getfield 203, 3) := by decide +kernel
theorem dX11_suspectsBy_12 : decode cX11_suspectsBy 12 = .ok (.if_icmp .ge 29, 3) := by decide +kernel
theorem dX11_suspectsBy_15 : decode cX11_suspectsBy 15 = .ok (.aload_n 0, 1) := by decide +kernel
theorem dX11_suspectsBy_16 : decode cX11_suspectsBy 16 = .ok (.getfield 42, 3) := by decide +kernel
theorem dX11_suspectsBy_19 : decode cX11_suspectsBy 19 = .ok (.aload_n 1, 1) := by decide +kernel
theorem dX11_suspectsBy_20 : decode cX11_suspectsBy 20 = .ok (.iconst 1, 1) := by decide +kernel
theorem dX11_suspectsBy_21 : decode cX11_suspectsBy 21 = .ok (.iload_n 3, 1) := by decide +kernel
theorem dX11_suspectsBy_22 : decode cX11_suspectsBy 22 = .ok (.ishl, 1) := by decide +kernel
theorem dX11_suspectsBy_23 : decode cX11_suspectsBy 23 = .ok (.invokevirtual 206, 3) := by decide +kernel
theorem dX11_suspectsBy_26 : decode cX11_suspectsBy 26 = .ok (.ifCond .eq 9, 3) := by decide +kernel
theorem dX11_suspectsBy_29 : decode cX11_suspectsBy 29 = .ok (.iload_n 2, 1) := by decide +kernel
theorem dX11_suspectsBy_30 : decode cX11_suspectsBy 30 = .ok (.iconst 1, 1) := by decide +kernel
theorem dX11_suspectsBy_31 : decode cX11_suspectsBy 31 = .ok (.iload_n 3, 1) := by decide +kernel
theorem dX11_suspectsBy_32 : decode cX11_suspectsBy 32 = .ok (.ishl, 1) := by decide +kernel
theorem dX11_suspectsBy_33 : decode cX11_suspectsBy 33 = .ok (.ior, 1) := by decide +kernel
theorem dX11_suspectsBy_34 : decode cX11_suspectsBy 34 = .ok (.istore_n 2, 1) := by decide +kernel
theorem dX11_suspectsBy_35 : decode cX11_suspectsBy 35 = .ok (.iinc 3 1, 3) := by decide +kernel
theorem dX11_suspectsBy_38 : decode cX11_suspectsBy 38 = .ok (.goto (-34), 3) := by decide +kernel
theorem dX11_suspectsBy_41 : decode cX11_suspectsBy 41 = .ok (.iload_n 2, 1) := by decide +kernel
theorem dX11_suspectsBy_42 : decode cX11_suspectsBy 42 = .ok (.ireturn, 1) := by decide +kernel
theorem dX11_pairsRefusal_0 : decode cX11_pairsRefusal 0 = .ok (.aload_n 0, 1) := by decide +kernel
theorem dX11_pairsRefusal_1 : decode cX11_pairsRefusal 1 = .ok (.iload_n 1, 1) := by decide +kernel
theorem dX11_pairsRefusal_2 : decode cX11_pairsRefusal 2 = .ok (.invokevirtual 70, 3) := by decide +kernel
theorem dX11_pairsRefusal_5 : decode cX11_pairsRefusal 5 = .ok (.istore_n 2, 1) := by decide +kernel
theorem dX11_pairsRefusal_6 : decode cX11_pairsRefusal 6 = .ok (.iload_n 2, 1) := by decide +kernel
theorem dX11_pairsRefusal_7 : decode cX11_pairsRefusal 7 = .ok (.ifCond .eq 5, 3) := by decide +kernel
theorem dX11_pairsRefusal_10 : decode cX11_pairsRefusal 10 = .ok (.iload_n 2, 1) := by decide +kernel
theorem dX11_pairsRefusal_11 : decode cX11_pairsRefusal 11 = .ok (.ireturn, 1) := by decide +kernel
theorem dX11_pairsRefusal_12 : decode cX11_pairsRefusal 12 = .ok (.aload_n 0, 1) := by decide +kernel
theorem dX11_pairsRefusal_13 : decode cX11_pairsRefusal 13 = .ok (.getfield 58, 3) := by decide +kernel
theorem dX11_pairsRefusal_16 : decode cX11_pairsRefusal 16 = .ok (.iload_n 1, 1) := by decide +kernel
theorem dX11_pairsRefusal_17 : decode cX11_pairsRefusal 17 = .ok (.aaload, 1) := by decide +kernel
theorem dX11_pairsRefusal_18 : decode cX11_pairsRefusal 18 = .ok (.invokevirtual 255, 3) := by decide +kernel
theorem dX11_pairsRefusal_21 : decode cX11_pairsRefusal 21 = .ok (.ifCond .eq 7, 3) := by decide +kernel
theorem dX11_pairsRefusal_24 : decode cX11_pairsRefusal 24 = .ok (.iconst 0, 1) := by decide +kernel
theorem dX11_pairsRefusal_25 : decode cX11_pairsRefusal 25 = .ok (.goto 5, 3) := by decide +kernel
theorem dX11_pairsRefusal_28 : decode cX11_pairsRefusal 28 = .ok (.bipush (-13), 2) := by decide +kernel
theorem dX11_pairsRefusal_30 : decode cX11_pairsRefusal 30 = .ok (.ireturn, 1) := by decide +kernel
theorem dX11_toldSeatsRefusal_0 : decode cX11_toldSeatsRefusal 0 = .ok (.aload_n 0, 1) := by decide +kernel
theorem dX11_toldSeatsRefusal_1 : decode cX11_toldSeatsRefusal 1 = .ok (.iload_n 1, 1) := by decide +kernel
theorem dX11_toldSeatsRefusal_2 : decode cX11_toldSeatsRefusal 2 = .ok (.invokevirtual 70, 3) := by decide +kernel
theorem dX11_toldSeatsRefusal_5 : decode cX11_toldSeatsRefusal 5 = .ok (.istore_n 2, 1) := by decide +kernel
theorem dX11_toldSeatsRefusal_6 : decode cX11_toldSeatsRefusal 6 = .ok (.iload_n 2, 1) := by decide +kernel
theorem dX11_toldSeatsRefusal_7 : decode cX11_toldSeatsRefusal 7 = .ok (.ifCond .eq 5, 3) := by decide +kernel
theorem dX11_toldSeatsRefusal_10 : decode cX11_toldSeatsRefusal 10 = .ok (.iload_n 2, 1) := by decide +kernel
theorem dX11_toldSeatsRefusal_11 : decode cX11_toldSeatsRefusal 11 = .ok (.ireturn, 1) := by decide +kernel
theorem dX11_toldSeatsRefusal_12 : decode cX11_toldSeatsRefusal 12 = .ok (.aload_n 0, 1) := by decide +kernel
theorem dX11_toldSeatsRefusal_13 : decode cX11_toldSeatsRefusal 13 = .ok (.getfield 58, 3) := by decide +kernel
theorem dX11_toldSeatsRefusal_16 : decode cX11_toldSeatsRefusal 16 = .ok (.iload_n 1, 1) := by decide +kernel
theorem dX11_toldSeatsRefusal_17 : decode cX11_toldSeatsRefusal 17 = .ok (.aaload, 1) := by decide +kernel
theorem dX11_toldSeatsRefusal_18 : decode cX11_toldSeatsRefusal 18 = .ok (.astore_n 3, 1) := by decide +kernel
theorem dX11_toldSeatsRefusal_19 : decode cX11_toldSeatsRefusal 19 = .ok (.aload_n 3, 1) := by decide +kernel
theorem dX11_toldSeatsRefusal_20 : decode cX11_toldSeatsRefusal 20 = .ok (.getfield 259, 3) := by decide +kernel
theorem dX11_toldSeatsRefusal_23 : decode cX11_toldSeatsRefusal 23 = .ok (.bipush 8, 2) := by decide +kernel
theorem dX11_toldSeatsRefusal_25 : decode cX11_toldSeatsRefusal 25 = .ok (.if_icmp .le 6, 3) := by decide +kernel
theorem dX11_toldSeatsRefusal_28 : decode cX11_toldSeatsRefusal 28 = .ok (.bipush (-13), 2) := by decide +kernel
theorem dX11_toldSeatsRefusal_30 : decode cX11_toldSeatsRefusal 30 = .ok (.ireturn, 1) := by decide +kernel
theorem dX11_toldSeatsRefusal_31 : decode cX11_toldSeatsRefusal 31 = .ok (.iconst 0, 1) := by decide +kernel
theorem dX11_toldSeatsRefusal_32 : decode cX11_toldSeatsRefusal 32 = .ok (.istore 4, 2) := by decide +kernel
theorem dX11_toldSeatsRefusal_34 : decode cX11_toldSeatsRefusal 34 = .ok (.iload 4, 2) := by decide +kernel
theorem dX11_toldSeatsRefusal_36 : decode cX11_toldSeatsRefusal 36 = .ok (.aload_n 3, 1) := by decide +kernel
theorem dX11_toldSeatsRefusal_37 : decode cX11_toldSeatsRefusal 37 = .ok (.getfield 259, 3) := by decide +kernel
theorem dX11_toldSeatsRefusal_40 : decode cX11_toldSeatsRefusal 40 = .ok (.if_icmp .ge 25, 3) := by decide +kernel
theorem dX11_toldSeatsRefusal_43 : decode cX11_toldSeatsRefusal 43 = .ok (.aload_n 3, 1) := by decide +kernel
theorem dX11_toldSeatsRefusal_44 : decode cX11_toldSeatsRefusal 44 = .ok (.getfield 262, 3) := by decide +kernel
theorem dX11_toldSeatsRefusal_47 : decode cX11_toldSeatsRefusal 47 = .ok (.iload 4, 2) := by decide +kernel
theorem dX11_toldSeatsRefusal_49 : decode cX11_toldSeatsRefusal 49 = .ok (.iaload, 1) := by decide +kernel
theorem dX11_toldSeatsRefusal_50 : decode cX11_toldSeatsRefusal 50 = .ok (.invokestatic 123, 3) := by decide +kernel
theorem dX11_toldSeatsRefusal_53 : decode cX11_toldSeatsRefusal 53 = .ok (.ifCond .ne 6, 3) := by decide +kernel
theorem dX11_toldSeatsRefusal_56 : decode cX11_toldSeatsRefusal 56 = .ok (.bipush (-13), 2) := by decide +kernel
theorem dX11_toldSeatsRefusal_58 : decode cX11_toldSeatsRefusal 58 = .ok (.ireturn, 1) := by decide +kernel
theorem dX11_toldSeatsRefusal_59 : decode cX11_toldSeatsRefusal 59 = .ok (.iinc 4 1, 3) := by decide +kernel
theorem dX11_toldSeatsRefusal_62 : decode cX11_toldSeatsRefusal 62 = .ok (.goto (-28), 3) := by decide +kernel
theorem dX11_toldSeatsRefusal_65 : decode cX11_toldSeatsRefusal 65 = .ok (.iconst 0, 1) := by decide +kernel
theorem dX11_toldSeatsRefusal_66 : decode cX11_toldSeatsRefusal 66 = .ok (.ireturn, 1) := by decide +kernel
theorem dX11_likelihood_0 : decode cX11_likelihood 0 = .ok (.lconst 1, 1) := by decide +kernel
theorem dX11_likelihood_1 : decode cX11_likelihood 1 = .ok (.lstore_n 3, 1) := by decide +kernel
theorem dX11_likelihood_2 : decode cX11_likelihood 2 = .ok (.iconst 0, 1) := by decide +kernel
theorem dX11_likelihood_3 : decode cX11_likelihood 3 = .ok (.istore 5, 2) := by decide +kernel
theorem dX11_likelihood_5 : decode cX11_likelihood 5 = .ok (.iload 5, 2) := by decide +kernel
theorem dX11_likelihood_7 : decode cX11_likelihood 7 = .ok (.aload_n 0, 1) := by decide +kernel
theorem dX11_likelihood_8 : decode cX11_likelihood 8 = .ok (.getfield 259, 3) := by decide +kernel
theorem dX11_likelihood_11 : decode cX11_likelihood 11 = .ok (.if_icmp .ge 35, 3) := by decide +kernel
theorem dX11_likelihood_14 : decode cX11_likelihood 14 = .ok (.lload_n 3, 1) := by decide +kernel
theorem dX11_likelihood_15 : decode cX11_likelihood 15 = .ok (.aload_n 0, 1) := by decide +kernel
theorem dX11_likelihood_16 : decode cX11_likelihood 16 = .ok (.getfield 262, 3) := by decide +kernel
theorem dX11_likelihood_19 : decode cX11_likelihood 19 = .ok (.iload 5, 2) := by decide +kernel
theorem dX11_likelihood_21 : decode cX11_likelihood 21 = .ok (.iaload, 1) := by decide +kernel
theorem dX11_likelihood_22 : decode cX11_likelihood 22 = .ok (.iload_n 2, 1) := by decide +kernel
theorem dX11_likelihood_23 : decode cX11_likelihood 23 = .ok (.if_icmp .ne 10, 3) := by decide +kernel
theorem dX11_likelihood_26 : decode cX11_likelihood 26 = .ok (.iconst 3, 1) := by decide +kernel
theorem dX11_likelihood_27 : decode cX11_likelihood 27 = .ok (.iload_n 1, 1) := by decide +kernel
theorem dX11_likelihood_28 : decode cX11_likelihood 28 = .ok (.imul, 1) := by decide +kernel
theorem dX11_likelihood_29 : decode cX11_likelihood 29 = .ok (.i2l, 1) := by decide +kernel
theorem dX11_likelihood_30 : decode cX11_likelihood 30 = .ok (.goto 8, 3) := by decide +kernel
theorem dX11_likelihood_33 : decode cX11_likelihood 33 = .ok (.bipush 10, 2) := by decide +kernel
theorem dX11_likelihood_35 : decode cX11_likelihood 35 = .ok (.iload_n 1, 1) := by decide +kernel
theorem dX11_likelihood_36 : decode cX11_likelihood 36 = .ok (.isub, 1) := by decide +kernel
theorem dX11_likelihood_37 : decode cX11_likelihood 37 = .ok (.i2l, 1) := by decide +kernel
theorem dX11_likelihood_38 : decode cX11_likelihood 38 = .ok (.lmul, 1) := by decide +kernel
theorem dX11_likelihood_39 : decode cX11_likelihood 39 = .ok (.lstore_n 3, 1) := by decide +kernel
theorem dX11_likelihood_40 : decode cX11_likelihood 40 = .ok (.iinc 5 1, 3) := by decide +kernel
theorem dX11_likelihood_43 : decode cX11_likelihood 43 = .ok (.goto (-38), 3) := by decide +kernel
theorem dX11_likelihood_46 : decode cX11_likelihood 46 = .ok (.lload_n 3, 1) := by decide +kernel
theorem dX11_likelihood_47 : decode cX11_likelihood 47 = .ok (.lreturn, 1) := by decide +kernel
theorem dX11_drivesByHalves_0 : decode cX11_drivesByHalves 0 = .ok (.iconst 0, 1) := by decide +kernel
theorem dX11_drivesByHalves_1 : decode cX11_drivesByHalves 1 = .ok (.istore_n 2, 1) := by decide +kernel
theorem dX11_drivesByHalves_2 : decode cX11_drivesByHalves 2 = .ok (.aload_n 0, 1) := by decide +kernel
theorem dX11_drivesByHalves_3 : decode cX11_drivesByHalves 3 = .ok (.iload_n 1, 1) := by decide +kernel
theorem dX11_drivesByHalves_4 : decode cX11_drivesByHalves 4 = .ok (.invokevirtual 265, 3) := by decide +kernel
theorem dX11_drivesByHalves_7 : decode cX11_drivesByHalves 7 = .ok (.istore_n 3, 1) := by decide +kernel
theorem dX11_drivesByHalves_8 : decode cX11_drivesByHalves 8 = .ok (.iload_n 3, 1) := by decide +kernel
theorem dX11_drivesByHalves_9 : decode cX11_drivesByHalves 9 = .ok (.iconst 1, 1) := by decide +kernel
theorem dX11_drivesByHalves_10 : decode cX11_drivesByHalves 10 = .ok (.if_icmp .le 51, 3) := by decide +kernel
theorem dX11_drivesByHalves_13 : decode cX11_drivesByHalves 13 = .ok (.aload_n 0, 1) := by decide +kernel
theorem dX11_drivesByHalves_14 : decode cX11_drivesByHalves 14 = .ok (.iload_n 3, 1) := by decide +kernel
theorem dX11_drivesByHalves_15 : decode cX11_drivesByHalves 15 = .ok (.invokevirtual 268, 3) := by decide +kernel
theorem dX11_drivesByHalves_18 : decode cX11_drivesByHalves 18 = .ok (.aload_n 0, 1) := by decide +kernel
theorem dX11_drivesByHalves_19 : decode cX11_drivesByHalves 19 = .ok (.iload_n 3, 1) := by decide +kernel
theorem dX11_drivesByHalves_20 : decode cX11_drivesByHalves 20 = .ok (.iconst 1, 1) := by decide +kernel
theorem dX11_drivesByHalves_21 : decode cX11_drivesByHalves 21 = .ok (.isub, 1) := by decide +kernel
theorem dX11_drivesByHalves_22 : decode cX11_drivesByHalves 22 = .ok (.invokevirtual 268, 3) := by decide +kernel
theorem dX11_drivesByHalves_25 : decode cX11_drivesByHalves 25 = .ok (.aload_n 0, 1) := by decide +kernel
theorem dX11_drivesByHalves_26 : decode cX11_drivesByHalves 26 = .ok (.getfield 63, 3) := by decide +kernel
theorem dX11_drivesByHalves_29 : decode cX11_drivesByHalves 29 = .ok (.iload_n 3, 1) := by decide +kernel
theorem dX11_drivesByHalves_30 : decode cX11_drivesByHalves 30 = .ok (.iconst 2, 1) := by decide +kernel
theorem dX11_drivesByHalves_31 : decode cX11_drivesByHalves 31 = .ok (.isub, 1) := by decide +kernel
theorem dX11_drivesByHalves_32 : decode cX11_drivesByHalves 32 = .ok (.dup2, 1) := by decide +kernel
theorem dX11_drivesByHalves_33 : decode cX11_drivesByHalves 33 = .ok (.iaload, 1) := by decide +kernel
theorem dX11_drivesByHalves_34 : decode cX11_drivesByHalves 34 = .ok (.aload_n 0, 1) := by decide +kernel
theorem dX11_drivesByHalves_35 : decode cX11_drivesByHalves 35 = .ok (.getfield 63, 3) := by decide +kernel
theorem dX11_drivesByHalves_38 : decode cX11_drivesByHalves 38 = .ok (.iload_n 3, 1) := by decide +kernel
theorem dX11_drivesByHalves_39 : decode cX11_drivesByHalves 39 = .ok (.iconst 1, 1) := by decide +kernel
theorem dX11_drivesByHalves_40 : decode cX11_drivesByHalves 40 = .ok (.isub, 1) := by decide +kernel
theorem dX11_drivesByHalves_41 : decode cX11_drivesByHalves 41 = .ok (.iaload, 1) := by decide +kernel
theorem dX11_drivesByHalves_42 : decode cX11_drivesByHalves 42 = .ok (.iadd, 1) := by decide +kernel
theorem dX11_drivesByHalves_43 : decode cX11_drivesByHalves 43 = .ok (.iastore, 1) := by decide +kernel
theorem dX11_drivesByHalves_44 : decode cX11_drivesByHalves 44 = .ok (.iload_n 2, 1) := by decide +kernel
theorem dX11_drivesByHalves_45 : decode cX11_drivesByHalves 45 = .ok (.aload_n 0, 1) := by decide +kernel
theorem dX11_drivesByHalves_46 : decode cX11_drivesByHalves 46 = .ok (.getfield 63, 3) := by decide +kernel
theorem dX11_drivesByHalves_49 : decode cX11_drivesByHalves 49 = .ok (.iload_n 3, 1) := by decide +kernel
theorem dX11_drivesByHalves_50 : decode cX11_drivesByHalves 50 = .ok (.iconst 2, 1) := by decide +kernel
theorem dX11_drivesByHalves_51 : decode cX11_drivesByHalves 51 = .ok (.isub, 1) := by decide +kernel
theorem dX11_drivesByHalves_52 : decode cX11_drivesByHalves 52 = .ok (.iaload, 1) := by decide +kernel
theorem dX11_drivesByHalves_53 : decode cX11_drivesByHalves 53 = .ok (.iadd, 1) := by decide +kernel
theorem dX11_drivesByHalves_54 : decode cX11_drivesByHalves 54 = .ok (.istore_n 2, 1) := by decide +kernel
theorem dX11_drivesByHalves_55 : decode cX11_drivesByHalves 55 = .ok (.iinc 3 (-1), 3) := by decide +kernel
theorem dX11_drivesByHalves_58 : decode cX11_drivesByHalves 58 = .ok (.goto (-50), 3) := by decide +kernel
theorem dX11_drivesByHalves_61 : decode cX11_drivesByHalves 61 = .ok (.iload_n 2, 1) := by decide +kernel
theorem dX11_drivesByHalves_62 : decode cX11_drivesByHalves 62 = .ok (.ireturn, 1) := by decide +kernel
theorem dX11_drivesOneByOne_0 : decode cX11_drivesOneByOne 0 = .ok (.aload_n 0, 1) := by decide +kernel
theorem dX11_drivesOneByOne_1 : decode cX11_drivesOneByOne 1 = .ok (.getfield 42, 3) := by decide +kernel
theorem dX11_drivesOneByOne_4 : decode cX11_drivesOneByOne 4 = .ok (.iload_n 1, 1) := by decide +kernel
theorem dX11_drivesOneByOne_5 : decode cX11_drivesOneByOne 5 = .ok (.invokevirtual 210, 3) := by decide +kernel
theorem dX11_drivesOneByOne_8 : decode cX11_drivesOneByOne 8 = .ok (.istore_n 2, 1) := by decide +kernel
theorem dX11_drivesOneByOne_9 : decode cX11_drivesOneByOne 9 = .ok (.iconst 0, 1) := by decide +kernel
theorem dX11_drivesOneByOne_10 : decode cX11_drivesOneByOne 10 = .ok (.istore_n 3, 1) := by decide +kernel
theorem dX11_drivesOneByOne_11 : decode cX11_drivesOneByOne 11 = .ok (.aload_n 0, 1) := by decide +kernel
theorem dX11_drivesOneByOne_12 : decode cX11_drivesOneByOne 12 = .ok (.iload_n 1, 1) := by decide +kernel
theorem dX11_drivesOneByOne_13 : decode cX11_drivesOneByOne 13 = .ok (.invokevirtual 265, 3) := by decide +kernel
theorem dX11_drivesOneByOne_16 : decode cX11_drivesOneByOne 16 = .ok (.istore 4, 2) := by decide +kernel
theorem dX11_drivesOneByOne_18 : decode cX11_drivesOneByOne 18 = .ok (.iload 4, 2) := by decide +kernel
theorem dX11_drivesOneByOne_20 : decode cX11_drivesOneByOne 20 = .ok (.iconst 1, 1) := by decide +kernel
theorem dX11_drivesOneByOne_21 : decode cX11_drivesOneByOne 21 = .ok (.if_icmp .le 31, 3) := by decide +kernel
theorem dX11_drivesOneByOne_24 : decode cX11_drivesOneByOne 24 = .ok (.iload_n 3, 1) := by decide +kernel
theorem dX11_drivesOneByOne_25 : decode cX11_drivesOneByOne 25 = .ok (.iload_n 2, 1) := by decide +kernel
theorem dX11_drivesOneByOne_26 : decode cX11_drivesOneByOne 26 = .ok (.iadd, 1) := by decide +kernel
theorem dX11_drivesOneByOne_27 : decode cX11_drivesOneByOne 27 = .ok (.istore_n 3, 1) := by decide +kernel
theorem dX11_drivesOneByOne_28 : decode cX11_drivesOneByOne 28 = .ok (.aload_n 0, 1) := by decide +kernel
theorem dX11_drivesOneByOne_29 : decode cX11_drivesOneByOne 29 = .ok (.iload 4, 2) := by decide +kernel
theorem dX11_drivesOneByOne_31 : decode cX11_drivesOneByOne 31 = .ok (.invokevirtual 271, 3) := by decide +kernel
theorem dX11_drivesOneByOne_34 : decode cX11_drivesOneByOne 34 = .ok (.iload_n 2, 1) := by decide +kernel
theorem dX11_drivesOneByOne_35 : decode cX11_drivesOneByOne 35 = .ok (.aload_n 0, 1) := by decide +kernel
theorem dX11_drivesOneByOne_36 : decode cX11_drivesOneByOne 36 = .ok (.getfield 63, 3) := by decide +kernel
theorem dX11_drivesOneByOne_39 : decode cX11_drivesOneByOne 39 = .ok (.iload 4, 2) := by decide +kernel
theorem dX11_drivesOneByOne_41 : decode cX11_drivesOneByOne 41 = .ok (.iconst 1, 1) := by decide +kernel
theorem dX11_drivesOneByOne_42 : decode cX11_drivesOneByOne 42 = .ok (.isub, 1) := by decide +kernel
theorem dX11_drivesOneByOne_43 : decode cX11_drivesOneByOne 43 = .ok (.iaload, 1) := by decide +kernel
theorem dX11_drivesOneByOne_44 : decode cX11_drivesOneByOne 44 = .ok (.isub, 1) := by decide +kernel
theorem dX11_drivesOneByOne_45 : decode cX11_drivesOneByOne 45 = .ok (.istore_n 2, 1) := by decide +kernel
theorem dX11_drivesOneByOne_46 : decode cX11_drivesOneByOne 46 = .ok (.iinc 4 (-1), 3) := by decide +kernel
theorem dX11_drivesOneByOne_49 : decode cX11_drivesOneByOne 49 = .ok (.goto (-31), 3) := by decide +kernel
theorem dX11_drivesOneByOne_52 : decode cX11_drivesOneByOne 52 = .ok (.iload_n 3, 1) := by decide +kernel
theorem dX11_drivesOneByOne_53 : decode cX11_drivesOneByOne 53 = .ok (.ireturn, 1) := by decide +kernel
theorem dX11_fillPool_0 : decode cX11_fillPool 0 = .ok (.iconst 0, 1) := by decide +kernel
theorem dX11_fillPool_1 : decode cX11_fillPool 1 = .ok (.istore_n 2, 1) := by decide +kernel
theorem dX11_fillPool_2 : decode cX11_fillPool 2 = .ok (.iconst 0, 1) := by decide +kernel
theorem dX11_fillPool_3 : decode cX11_fillPool 3 = .ok (.istore_n 3, 1) := by decide +kernel
theorem dX11_fillPool_4 : decode cX11_fillPool 4 = .ok (.iload_n 3, 1) := by decide +kernel
theorem dX11_fillPool_5 : decode cX11_fillPool 5 = .ok (.aload_n 0, 1) := by decide +kernel
theorem dX11_fillPool_6 : decode cX11_fillPool 6 = .ok (.getfield 42, 3) := by decide +kernel
theorem dX11_fillPool_9 : decode cX11_fillPool 9 = .ok (.getfield 203, 3) := by decide +kernel
theorem dX11_fillPool_12 : decode cX11_fillPool 12 = .ok (.if_icmp .ge 36, 3) := by decide +kernel
theorem dX11_fillPool_15 : decode cX11_fillPool 15 = .ok (.iload_n 1, 1) := by decide +kernel
theorem dX11_fillPool_16 : decode cX11_fillPool 16 = .ok (.iload_n 3, 1) := by decide +kernel
theorem dX11_fillPool_17 : decode cX11_fillPool 17 = .ok (.ishr, 1) := by decide +kernel
theorem dX11_fillPool_18 : decode cX11_fillPool 18 = .ok (.iconst 1, 1) := by decide +kernel
theorem dX11_fillPool_19 : decode cX11_fillPool 19 = .ok (.iand, 1) := by decide +kernel
theorem dX11_fillPool_20 : decode cX11_fillPool 20 = .ok (.iconst 1, 1) := by decide +kernel
theorem dX11_fillPool_21 : decode cX11_fillPool 21 = .ok (.if_icmp .ne 21, 3) := by decide +kernel
theorem dX11_fillPool_24 : decode cX11_fillPool 24 = .ok (.aload_n 0, 1) := by decide +kernel
theorem dX11_fillPool_25 : decode cX11_fillPool 25 = .ok (.getfield 63, 3) := by decide +kernel
theorem dX11_fillPool_28 : decode cX11_fillPool 28 = .ok (.iload_n 2, 1) := by decide +kernel
theorem dX11_fillPool_29 : decode cX11_fillPool 29 = .ok (.aload_n 0, 1) := by decide +kernel
theorem dX11_fillPool_30 : decode cX11_fillPool 30 = .ok (.getfield 42, 3) := by decide +kernel
theorem dX11_fillPool_33 : decode cX11_fillPool 33 = .ok (.getfield 105, 3) := by decide +kernel
theorem dX11_fillPool_36 : decode cX11_fillPool 36 = .ok (.iload_n 3, 1) := by decide +kernel
theorem dX11_fillPool_37 : decode cX11_fillPool 37 = .ok (.iaload, 1) := by decide +kernel
theorem dX11_fillPool_38 : decode cX11_fillPool 38 = .ok (.iastore, 1) := by decide +kernel
theorem dX11_fillPool_39 : decode cX11_fillPool 39 = .ok (.iinc 2 1, 3) := by decide +kernel
theorem dX11_fillPool_42 : decode cX11_fillPool 42 = .ok (.iinc 3 1, 3) := by decide +kernel
theorem dX11_fillPool_45 : decode cX11_fillPool 45 = .ok (.goto (-41), 3) := by decide +kernel
theorem dX11_fillPool_48 : decode cX11_fillPool 48 = .ok (.iload_n 2, 1) := by decide +kernel
theorem dX11_fillPool_49 : decode cX11_fillPool 49 = .ok (.ireturn, 1) := by decide +kernel
theorem dX11_moveLeastToEnd_0 : decode cX11_moveLeastToEnd 0 = .ok (.iconst 1, 1) := by decide +kernel
theorem dX11_moveLeastToEnd_1 : decode cX11_moveLeastToEnd 1 = .ok (.istore_n 2, 1) := by decide +kernel
theorem dX11_moveLeastToEnd_2 : decode cX11_moveLeastToEnd 2 = .ok (.iload_n 2, 1) := by decide +kernel
theorem dX11_moveLeastToEnd_3 : decode cX11_moveLeastToEnd 3 = .ok (.iload_n 1, 1) := by decide +kernel
theorem dX11_moveLeastToEnd_4 : decode cX11_moveLeastToEnd 4 = .ok (.if_icmp .ge 40, 3) := by decide +kernel
theorem dX11_moveLeastToEnd_7 : decode cX11_moveLeastToEnd 7 = .ok (.iload_n 2, 1) := by decide +kernel
theorem dX11_moveLeastToEnd_8 : decode cX11_moveLeastToEnd 8 = .ok (.aload_n 0, 1) := by decide +kernel
theorem dX11_moveLeastToEnd_9 : decode cX11_moveLeastToEnd 9 = .ok (.getfield 63, 3) := by decide +kernel
theorem dX11_moveLeastToEnd_12 : decode cX11_moveLeastToEnd 12 = .ok (.arraylength, 1) := by decide +kernel
theorem dX11_moveLeastToEnd_13 : decode cX11_moveLeastToEnd 13 = .ok (.if_icmp .ge 31, 3) := by decide +kernel
theorem dX11_moveLeastToEnd_16 : decode cX11_moveLeastToEnd 16 = .ok (.aload_n 0, 1) := by decide +kernel
theorem dX11_moveLeastToEnd_17 : decode cX11_moveLeastToEnd 17 = .ok (.getfield 63, 3) := by decide +kernel
theorem dX11_moveLeastToEnd_20 : decode cX11_moveLeastToEnd 20 = .ok (.iload_n 2, 1) := by decide +kernel
theorem dX11_moveLeastToEnd_21 : decode cX11_moveLeastToEnd 21 = .ok (.iconst 1, 1) := by decide +kernel
theorem dX11_moveLeastToEnd_22 : decode cX11_moveLeastToEnd 22 = .ok (.isub, 1) := by decide +kernel
theorem dX11_moveLeastToEnd_23 : decode cX11_moveLeastToEnd 23 = .ok (.iaload, 1) := by decide +kernel
theorem dX11_moveLeastToEnd_24 : decode cX11_moveLeastToEnd 24 = .ok (.aload_n 0, 1) := by decide +kernel
theorem dX11_moveLeastToEnd_25 : decode cX11_moveLeastToEnd 25 = .ok (.getfield 63, 3) := by decide +kernel
theorem dX11_moveLeastToEnd_28 : decode cX11_moveLeastToEnd 28 = .ok (.iload_n 2, 1) := by decide +kernel
theorem dX11_moveLeastToEnd_29 : decode cX11_moveLeastToEnd 29 = .ok (.iaload, 1) := by decide +kernel
theorem dX11_moveLeastToEnd_30 : decode cX11_moveLeastToEnd 30 = .ok (.if_icmp .ge 8, 3) := by decide +kernel
theorem dX11_moveLeastToEnd_33 : decode cX11_moveLeastToEnd 33 = .ok (.aload_n 0, 1) := by decide +kernel
theorem dX11_moveLeastToEnd_34 : decode cX11_moveLeastToEnd 34 = .ok (.iload_n 2, 1) := by decide +kernel
theorem dX11_moveLeastToEnd_35 : decode cX11_moveLeastToEnd 35 = .ok (.invokevirtual 274, 3) := by decide +kernel
theorem dX11_moveLeastToEnd_38 : decode cX11_moveLeastToEnd 38 = .ok (.iinc 2 1, 3) := by decide +kernel
theorem dX11_moveLeastToEnd_41 : decode cX11_moveLeastToEnd 41 = .ok (.goto (-39), 3) := by decide +kernel
theorem dX11_moveLeastToEnd_44 : decode cX11_moveLeastToEnd 44 = .ok (.return_, 1) := by decide +kernel
theorem dX11_moveGreatestToEnd_0 : decode cX11_moveGreatestToEnd 0 = .ok (.iconst 1, 1) := by decide +kernel
theorem dX11_moveGreatestToEnd_1 : decode cX11_moveGreatestToEnd 1 = .ok (.istore_n 2, 1) := by decide +kernel
theorem dX11_moveGreatestToEnd_2 : decode cX11_moveGreatestToEnd 2 = .ok (.iload_n 2, 1) := by decide +kernel
theorem dX11_moveGreatestToEnd_3 : decode cX11_moveGreatestToEnd 3 = .ok (.iload_n 1, 1) := by decide +kernel
theorem dX11_moveGreatestToEnd_4 : decode cX11_moveGreatestToEnd 4 = .ok (.if_icmp .ge 40, 3) := by decide +kernel
theorem dX11_moveGreatestToEnd_7 : decode cX11_moveGreatestToEnd 7 = .ok (.iload_n 2, 1) := by decide +kernel
theorem dX11_moveGreatestToEnd_8 : decode cX11_moveGreatestToEnd 8 = .ok (.aload_n 0, 1) := by decide +kernel
theorem dX11_moveGreatestToEnd_9 : decode cX11_moveGreatestToEnd 9 = .ok (.getfield 63, 3) := by decide +kernel
theorem dX11_moveGreatestToEnd_12 : decode cX11_moveGreatestToEnd 12 = .ok (.arraylength, 1) := by decide +kernel
theorem dX11_moveGreatestToEnd_13 : decode cX11_moveGreatestToEnd 13 = .ok (.if_icmp .ge 31, 3) := by decide +kernel
theorem dX11_moveGreatestToEnd_16 : decode cX11_moveGreatestToEnd 16 = .ok (.aload_n 0, 1) := by decide +kernel
theorem dX11_moveGreatestToEnd_17 : decode cX11_moveGreatestToEnd 17 = .ok (.getfield 63, 3) := by decide +kernel
theorem dX11_moveGreatestToEnd_20 : decode cX11_moveGreatestToEnd 20 = .ok (.iload_n 2, 1) := by decide +kernel
theorem dX11_moveGreatestToEnd_21 : decode cX11_moveGreatestToEnd 21 = .ok (.iconst 1, 1) := by decide +kernel
theorem dX11_moveGreatestToEnd_22 : decode cX11_moveGreatestToEnd 22 = .ok (.isub, 1) := by decide +kernel
theorem dX11_moveGreatestToEnd_23 : decode cX11_moveGreatestToEnd 23 = .ok (.iaload, 1) := by decide +kernel
theorem dX11_moveGreatestToEnd_24 : decode cX11_moveGreatestToEnd 24 = .ok (.aload_n 0, 1) := by decide +kernel
theorem dX11_moveGreatestToEnd_25 : decode cX11_moveGreatestToEnd 25 = .ok (.getfield 63, 3) := by decide +kernel
theorem dX11_moveGreatestToEnd_28 : decode cX11_moveGreatestToEnd 28 = .ok (.iload_n 2, 1) := by decide +kernel
theorem dX11_moveGreatestToEnd_29 : decode cX11_moveGreatestToEnd 29 = .ok (.iaload, 1) := by decide +kernel
theorem dX11_moveGreatestToEnd_30 : decode cX11_moveGreatestToEnd 30 = .ok (.if_icmp .le 8, 3) := by decide +kernel
theorem dX11_moveGreatestToEnd_33 : decode cX11_moveGreatestToEnd 33 = .ok (.aload_n 0, 1) := by decide +kernel
theorem dX11_moveGreatestToEnd_34 : decode cX11_moveGreatestToEnd 34 = .ok (.iload_n 2, 1) := by decide +kernel
theorem dX11_moveGreatestToEnd_35 : decode cX11_moveGreatestToEnd 35 = .ok (.invokevirtual 274, 3) := by decide +kernel
theorem dX11_moveGreatestToEnd_38 : decode cX11_moveGreatestToEnd 38 = .ok (.iinc 2 1, 3) := by decide +kernel
theorem dX11_moveGreatestToEnd_41 : decode cX11_moveGreatestToEnd 41 = .ok (.goto (-39), 3) := by decide +kernel
theorem dX11_moveGreatestToEnd_44 : decode cX11_moveGreatestToEnd 44 = .ok (.return_, 1) := by decide +kernel
theorem dX11_swapInPool_0 : decode cX11_swapInPool 0 = .ok (.iload_n 1, 1) := by decide +kernel
theorem dX11_swapInPool_1 : decode cX11_swapInPool 1 = .ok (.iconst 1, 1) := by decide +kernel
theorem dX11_swapInPool_2 : decode cX11_swapInPool 2 = .ok (.aload_n 0, 1) := by decide +kernel
theorem dX11_swapInPool_3 : decode cX11_swapInPool 3 = .ok (.getfield 63, 3) := by decide +kernel
theorem dX11_swapInPool_6 : decode cX11_swapInPool 6 = .ok (.arraylength, 1) := by decide +kernel
theorem dX11_swapInPool_7 : decode cX11_swapInPool 7 = .ok (.iconst 1, 1) := by decide +kernel
theorem dX11_swapInPool_8 : decode cX11_swapInPool 8 = .ok (.isub, 1) := by decide +kernel
theorem dX11_swapInPool_9 : decode cX11_swapInPool 9 = .ok (.invokestatic 126, 3) := by decide +kernel
theorem dX11_swapInPool_12 : decode cX11_swapInPool 12 = .ok (.ifCond .eq 33, 3) := by decide +kernel
theorem dX11_swapInPool_15 : decode cX11_swapInPool 15 = .ok (.aload_n 0, 1) := by decide +kernel
theorem dX11_swapInPool_16 : decode cX11_swapInPool 16 = .ok (.getfield 63, 3) := by decide +kernel
theorem dX11_swapInPool_19 : decode cX11_swapInPool 19 = .ok (.iload_n 1, 1) := by decide +kernel
theorem dX11_swapInPool_20 : decode cX11_swapInPool 20 = .ok (.iconst 1, 1) := by decide +kernel
theorem dX11_swapInPool_21 : decode cX11_swapInPool 21 = .ok (.isub, 1) := by decide +kernel
theorem dX11_swapInPool_22 : decode cX11_swapInPool 22 = .ok (.iaload, 1) := by decide +kernel
theorem dX11_swapInPool_23 : decode cX11_swapInPool 23 = .ok (.istore_n 2, 1) := by decide +kernel
theorem dX11_swapInPool_24 : decode cX11_swapInPool 24 = .ok (.aload_n 0, 1) := by decide +kernel
theorem dX11_swapInPool_25 : decode cX11_swapInPool 25 = .ok (.getfield 63, 3) := by decide +kernel
theorem dX11_swapInPool_28 : decode cX11_swapInPool 28 = .ok (.iload_n 1, 1) := by decide +kernel
theorem dX11_swapInPool_29 : decode cX11_swapInPool 29 = .ok (.iconst 1, 1) := by decide +kernel
theorem dX11_swapInPool_30 : decode cX11_swapInPool 30 = .ok (.isub, 1) := by decide +kernel
theorem dX11_swapInPool_31 : decode cX11_swapInPool 31 = .ok (.aload_n 0, 1) := by decide +kernel
theorem dX11_swapInPool_32 : decode cX11_swapInPool 32 = .ok (.getfield 63, 3) := by decide +kernel
theorem dX11_swapInPool_35 : decode cX11_swapInPool 35 = .ok (.iload_n 1, 1) := by decide +kernel
theorem dX11_swapInPool_36 : decode cX11_swapInPool 36 = .ok (.iaload, 1) := by decide +kernel
theorem dX11_swapInPool_37 : decode cX11_swapInPool 37 = .ok (.iastore, 1) := by decide +kernel
theorem dX11_swapInPool_38 : decode cX11_swapInPool 38 = .ok (.aload_n 0, 1) := by decide +kernel
theorem dX11_swapInPool_39 : decode cX11_swapInPool 39 = .ok (.getfield 63, 3) := by decide +kernel
theorem dX11_swapInPool_42 : decode cX11_swapInPool 42 = .ok (.iload_n 1, 1) := by decide +kernel
theorem dX11_swapInPool_43 : decode cX11_swapInPool 43 = .ok (.iload_n 2, 1) := by decide +kernel
theorem dX11_swapInPool_44 : decode cX11_swapInPool 44 = .ok (.iastore, 1) := by decide +kernel
theorem dX11_swapInPool_45 : decode cX11_swapInPool 45 = .ok (.return_, 1) := by decide +kernel
theorem dX11_startDigits_0 : decode cX11_startDigits 0 = .ok (.iload_n 1, 1) := by decide +kernel
theorem dX11_startDigits_1 : decode cX11_startDigits 1 = .ok (.istore_n 2, 1) := by decide +kernel
theorem dX11_startDigits_2 : decode cX11_startDigits 2 = .ok (.iconst 0, 1) := by decide +kernel
theorem dX11_startDigits_3 : decode cX11_startDigits 3 = .ok (.istore_n 3, 1) := by decide +kernel
theorem dX11_startDigits_4 : decode cX11_startDigits 4 = .ok (.iload_n 3, 1) := by decide +kernel
theorem dX11_startDigits_5 : decode cX11_startDigits 5 = .ok (.aload_n 0, 1) := by decide +kernel
theorem dX11_startDigits_6 : decode cX11_startDigits 6 = .ok (.getfield 67, 3) := by decide +kernel
theorem dX11_startDigits_9 : decode cX11_startDigits 9 = .ok (.arraylength, 1) := by decide +kernel
theorem dX11_startDigits_10 : decode cX11_startDigits 10 = .ok (.if_icmp .ge 24, 3) := by decide +kernel
theorem dX11_startDigits_13 : decode cX11_startDigits 13 = .ok (.aload_n 0, 1) := by decide +kernel
theorem dX11_startDigits_14 : decode cX11_startDigits 14 = .ok (.getfield 67, 3) := by decide +kernel
theorem dX11_startDigits_17 : decode cX11_startDigits 17 = .ok (.iload_n 3, 1) := by decide +kernel
theorem dX11_startDigits_18 : decode cX11_startDigits 18 = .ok (.iload_n 2, 1) := by decide +kernel
theorem dX11_startDigits_19 : decode cX11_startDigits 19 = .ok (.bipush 10, 2) := by decide +kernel
theorem dX11_startDigits_21 : decode cX11_startDigits 21 = .ok (.irem, 1) := by decide +kernel
theorem dX11_startDigits_22 : decode cX11_startDigits 22 = .ok (.iastore, 1) := by decide +kernel
theorem dX11_startDigits_23 : decode cX11_startDigits 23 = .ok (.iload_n 2, 1) := by decide +kernel
theorem dX11_startDigits_24 : decode cX11_startDigits 24 = .ok (.bipush 10, 2) := by decide +kernel
theorem dX11_startDigits_26 : decode cX11_startDigits 26 = .ok (.idiv, 1) := by decide +kernel
theorem dX11_startDigits_27 : decode cX11_startDigits 27 = .ok (.istore_n 2, 1) := by decide +kernel
theorem dX11_startDigits_28 : decode cX11_startDigits 28 = .ok (.iinc 3 1, 3) := by decide +kernel
theorem dX11_startDigits_31 : decode cX11_startDigits 31 = .ok (.goto (-27), 3) := by decide +kernel
theorem dX11_startDigits_34 : decode cX11_startDigits 34 = .ok (.return_, 1) := by decide +kernel
theorem dX11_multiplyDigits_0 : decode cX11_multiplyDigits 0 = .ok (.iconst 0, 1) := by decide +kernel
theorem dX11_multiplyDigits_1 : decode cX11_multiplyDigits 1 = .ok (.istore_n 2, 1) := by decide +kernel
theorem dX11_multiplyDigits_2 : decode cX11_multiplyDigits 2 = .ok (.iconst 0, 1) := by decide +kernel
theorem dX11_multiplyDigits_3 : decode cX11_multiplyDigits 3 = .ok (.istore_n 3, 1) := by decide +kernel
theorem dX11_multiplyDigits_4 : decode cX11_multiplyDigits 4 = .ok (.iload_n 3, 1) := by decide +kernel
theorem dX11_multiplyDigits_5 : decode cX11_multiplyDigits 5 = .ok (.aload_n 0, 1) := by decide +kernel
theorem dX11_multiplyDigits_6 : decode cX11_multiplyDigits 6 = .ok (.getfield 67, 3) := by decide +kernel
theorem dX11_multiplyDigits_9 : decode cX11_multiplyDigits 9 = .ok (.arraylength, 1) := by decide +kernel
theorem dX11_multiplyDigits_10 : decode cX11_multiplyDigits 10 = .ok (.if_icmp .ge 38, 3) := by decide +kernel
theorem dX11_multiplyDigits_13 : decode cX11_multiplyDigits 13 = .ok (.aload_n 0, 1) := by decide +kernel
theorem dX11_multiplyDigits_14 : decode cX11_multiplyDigits 14 = .ok (.getfield 67, 3) := by decide +kernel
theorem dX11_multiplyDigits_17 : decode cX11_multiplyDigits 17 = .ok (.iload_n 3, 1) := by decide +kernel
theorem dX11_multiplyDigits_18 : decode cX11_multiplyDigits 18 = .ok (.iaload, 1) := by decide +kernel
theorem dX11_multiplyDigits_19 : decode cX11_multiplyDigits 19 = .ok (.iload_n 1, 1) := by decide +kernel
theorem dX11_multiplyDigits_20 : decode cX11_multiplyDigits 20 = .ok (.imul, 1) := by decide +kernel
theorem dX11_multiplyDigits_21 : decode cX11_multiplyDigits 21 = .ok (.iload_n 2, 1) := by decide +kernel
theorem dX11_multiplyDigits_22 : decode cX11_multiplyDigits 22 = .ok (.iadd, 1) := by decide +kernel
theorem dX11_multiplyDigits_23 : decode cX11_multiplyDigits 23 = .ok (.istore 4, 2) := by decide +kernel
theorem dX11_multiplyDigits_25 : decode cX11_multiplyDigits 25 = .ok (.aload_n 0, 1) := by decide +kernel
theorem dX11_multiplyDigits_26 : decode cX11_multiplyDigits 26 = .ok (.getfield 67, 3) := by decide +kernel
theorem dX11_multiplyDigits_29 : decode cX11_multiplyDigits 29 = .ok (.iload_n 3, 1) := by decide +kernel
theorem dX11_multiplyDigits_30 : decode cX11_multiplyDigits 30 = .ok (.iload 4, 2) := by decide +kernel
theorem dX11_multiplyDigits_32 : decode cX11_multiplyDigits 32 = .ok (.bipush 10, 2) := by decide +kernel
theorem dX11_multiplyDigits_34 : decode cX11_multiplyDigits 34 = .ok (.irem, 1) := by decide +kernel
theorem dX11_multiplyDigits_35 : decode cX11_multiplyDigits 35 = .ok (.iastore, 1) := by decide +kernel
theorem dX11_multiplyDigits_36 : decode cX11_multiplyDigits 36 = .ok (.iload 4, 2) := by decide +kernel
theorem dX11_multiplyDigits_38 : decode cX11_multiplyDigits 38 = .ok (.bipush 10, 2) := by decide +kernel
theorem dX11_multiplyDigits_40 : decode cX11_multiplyDigits 40 = .ok (.idiv, 1) := by decide +kernel
theorem dX11_multiplyDigits_41 : decode cX11_multiplyDigits 41 = .ok (.istore_n 2, 1) := by decide +kernel
theorem dX11_multiplyDigits_42 : decode cX11_multiplyDigits 42 = .ok (.iinc 3 1, 3) := by decide +kernel
theorem dX11_multiplyDigits_45 : decode cX11_multiplyDigits 45 = .ok (.goto (-41), 3) := by decide +kernel
theorem dX11_multiplyDigits_48 : decode cX11_multiplyDigits 48 = .ok (.return_, 1) := by decide +kernel
theorem dX11_digitsAtMostPowerOfTen_0 : decode cX11_digitsAtMostPowerOfTen 0 = .ok (.iconst 1, 1) := by decide +kernel
theorem dX11_digitsAtMostPowerOfTen_1 : decode cX11_digitsAtMostPowerOfTen 1 = .ok (.istore_n 2, 1) := by decide +kernel
theorem dX11_digitsAtMostPowerOfTen_2 : decode cX11_digitsAtMostPowerOfTen 2 = .ok (.iconst 0, 1) := by decide +kernel
theorem dX11_digitsAtMostPowerOfTen_3 : decode cX11_digitsAtMostPowerOfTen 3 = .ok (.istore_n 3, 1) := by decide +kernel
theorem dX11_digitsAtMostPowerOfTen_4 : decode cX11_digitsAtMostPowerOfTen 4 = .ok (.iload_n 3, 1) := by decide +kernel
theorem dX11_digitsAtMostPowerOfTen_5 : decode cX11_digitsAtMostPowerOfTen 5 = .ok (.aload_n 0, 1) := by decide +kernel
theorem dX11_digitsAtMostPowerOfTen_6 : decode cX11_digitsAtMostPowerOfTen 6 = .ok (.getfield 67, 3) := by decide +kernel
theorem dX11_digitsAtMostPowerOfTen_9 : decode cX11_digitsAtMostPowerOfTen 9 = .ok (.arraylength, 1) := by decide +kernel
theorem dX11_digitsAtMostPowerOfTen_10 : decode cX11_digitsAtMostPowerOfTen 10 = .ok (.if_icmp .ge 78, 3) := by decide +kernel
theorem dX11_digitsAtMostPowerOfTen_13 : decode cX11_digitsAtMostPowerOfTen 13 = .ok (.iload_n 3, 1) := by decide +kernel
theorem dX11_digitsAtMostPowerOfTen_14 : decode cX11_digitsAtMostPowerOfTen 14 = .ok (.iload_n 1, 1) := by decide +kernel
theorem dX11_digitsAtMostPowerOfTen_15 : decode cX11_digitsAtMostPowerOfTen 15 = .ok (.if_icmp .ge 25, 3) := by decide +kernel
theorem dX11_digitsAtMostPowerOfTen_18 : decode cX11_digitsAtMostPowerOfTen 18 = .ok (.iload_n 2, 1) := by decide +kernel
theorem dX11_digitsAtMostPowerOfTen_19 : decode cX11_digitsAtMostPowerOfTen 19 = .ok (.ifCond .eq 16, 3) := by decide +kernel
theorem dX11_digitsAtMostPowerOfTen_22 : decode cX11_digitsAtMostPowerOfTen 22 = .ok (.aload_n 0, 1) := by decide +kernel
theorem dX11_digitsAtMostPowerOfTen_23 : decode cX11_digitsAtMostPowerOfTen 23 = .ok (.getfield 67, 3) := by decide +kernel
theorem dX11_digitsAtMostPowerOfTen_26 : decode cX11_digitsAtMostPowerOfTen 26 = .ok (.iload_n 3, 1) := by decide +kernel
theorem dX11_digitsAtMostPowerOfTen_27 : decode cX11_digitsAtMostPowerOfTen 27 = .ok (.iaload, 1) := by decide +kernel
theorem dX11_digitsAtMostPowerOfTen_28 : decode cX11_digitsAtMostPowerOfTen 28 = .ok (.ifCond .ne 7, 3) := by decide +kernel
theorem dX11_digitsAtMostPowerOfTen_31 : decode cX11_digitsAtMostPowerOfTen 31 = .ok (.iconst 1, 1) := by decide +kernel
theorem dX11_digitsAtMostPowerOfTen_32 : decode cX11_digitsAtMostPowerOfTen 32 = .ok (.goto 4, 3) := by decide +kernel
theorem dX11_digitsAtMostPowerOfTen_35 : decode cX11_digitsAtMostPowerOfTen 35 = .ok (.iconst 0, 1) := by decide +kernel
theorem dX11_digitsAtMostPowerOfTen_36 : decode cX11_digitsAtMostPowerOfTen 36 = .ok (.istore_n 2, 1) := by decide +kernel
theorem dX11_digitsAtMostPowerOfTen_37 : decode cX11_digitsAtMostPowerOfTen 37 = .ok (.goto 45, 3) := by decide +kernel
theorem dX11_digitsAtMostPowerOfTen_40 : decode cX11_digitsAtMostPowerOfTen 40 = .ok (.iload_n 3, 1) := by decide +kernel
theorem dX11_digitsAtMostPowerOfTen_41 : decode cX11_digitsAtMostPowerOfTen 41 = .ok (.iload_n 1, 1) := by decide +kernel
theorem dX11_digitsAtMostPowerOfTen_42 : decode cX11_digitsAtMostPowerOfTen 42 = .ok (.if_icmp .ne 29, 3) := by decide +kernel
theorem dX11_digitsAtMostPowerOfTen_45 : decode cX11_digitsAtMostPowerOfTen 45 = .ok (.aload_n 0, 1) := by decide +kernel
theorem dX11_digitsAtMostPowerOfTen_46 : decode cX11_digitsAtMostPowerOfTen 46 = .ok (.getfield 67, 3) := by decide +kernel
theorem dX11_digitsAtMostPowerOfTen_49 : decode cX11_digitsAtMostPowerOfTen 49 = .ok (.iload_n 3, 1) := by decide +kernel
theorem dX11_digitsAtMostPowerOfTen_50 : decode cX11_digitsAtMostPowerOfTen 50 = .ok (.iaload, 1) := by decide +kernel
theorem dX11_digitsAtMostPowerOfTen_51 : decode cX11_digitsAtMostPowerOfTen 51 = .ok (.iconst 1, 1) := by decide +kernel
theorem dX11_digitsAtMostPowerOfTen_52 : decode cX11_digitsAtMostPowerOfTen 52 = .ok (.if_icmp .gt 17, 3) := by decide +kernel
theorem dX11_digitsAtMostPowerOfTen_55 : decode cX11_digitsAtMostPowerOfTen 55 = .ok (.aload_n 0, 1) := by decide +kernel
theorem dX11_digitsAtMostPowerOfTen_56 : decode cX11_digitsAtMostPowerOfTen 56 = .ok (.getfield 67, 3) := by decide +kernel
theorem dX11_digitsAtMostPowerOfTen_59 : decode cX11_digitsAtMostPowerOfTen 59 = .ok (.iload_n 3, 1) := by decide +kernel
theorem dX11_digitsAtMostPowerOfTen_60 : decode cX11_digitsAtMostPowerOfTen 60 = .ok (.iaload, 1) := by decide +kernel
theorem dX11_digitsAtMostPowerOfTen_61 : decode cX11_digitsAtMostPowerOfTen 61 = .ok (.iconst 1, 1) := by decide +kernel
theorem dX11_digitsAtMostPowerOfTen_62 : decode cX11_digitsAtMostPowerOfTen 62 = .ok (.if_icmp .ne 20, 3) := by decide +kernel
theorem dX11_digitsAtMostPowerOfTen_65 : decode cX11_digitsAtMostPowerOfTen 65 = .ok (.iload_n 2, 1) := by decide +kernel
theorem dX11_digitsAtMostPowerOfTen_66 : decode cX11_digitsAtMostPowerOfTen 66 = .ok (.ifCond .ne 16, 3) := by decide +kernel
theorem dX11_digitsAtMostPowerOfTen_69 : decode cX11_digitsAtMostPowerOfTen 69 = .ok (.iconst 0, 1) := by decide +kernel
theorem dX11_digitsAtMostPowerOfTen_70 : decode cX11_digitsAtMostPowerOfTen 70 = .ok (.ireturn, 1) := by decide +kernel
theorem dX11_digitsAtMostPowerOfTen_71 : decode cX11_digitsAtMostPowerOfTen 71 = .ok (.aload_n 0, 1) := by decide +kernel
theorem dX11_digitsAtMostPowerOfTen_72 : decode cX11_digitsAtMostPowerOfTen 72 = .ok (.getfield 67, 3) := by decide +kernel
theorem dX11_digitsAtMostPowerOfTen_75 : decode cX11_digitsAtMostPowerOfTen 75 = .ok (.iload_n 3, 1) := by decide +kernel
theorem dX11_digitsAtMostPowerOfTen_76 : decode cX11_digitsAtMostPowerOfTen 76 = .ok (.iaload, 1) := by decide +kernel
theorem dX11_digitsAtMostPowerOfTen_77 : decode cX11_digitsAtMostPowerOfTen 77 = .ok (.ifCond .eq 5, 3) := by decide +kernel
theorem dX11_digitsAtMostPowerOfTen_80 : decode cX11_digitsAtMostPowerOfTen 80 = .ok (.iconst 0, 1) := by decide +kernel
theorem dX11_digitsAtMostPowerOfTen_81 : decode cX11_digitsAtMostPowerOfTen 81 = .ok (.ireturn, 1) := by decide +kernel
theorem dX11_digitsAtMostPowerOfTen_82 : decode cX11_digitsAtMostPowerOfTen 82 = .ok (.iinc 3 1, 3) := by decide +kernel
theorem dX11_digitsAtMostPowerOfTen_85 : decode cX11_digitsAtMostPowerOfTen 85 = .ok (.goto (-81), 3) := by decide +kernel
theorem dX11_digitsAtMostPowerOfTen_88 : decode cX11_digitsAtMostPowerOfTen 88 = .ok (.iconst 1, 1) := by decide +kernel
theorem dX11_digitsAtMostPowerOfTen_89 : decode cX11_digitsAtMostPowerOfTen 89 = .ok (.ireturn, 1) := by decide +kernel
theorem dX11_inLeastTerms_0 : decode cX11_inLeastTerms 0 = .ok (.lload_n 0, 1) := by decide +kernel
theorem dX11_inLeastTerms_1 : decode cX11_inLeastTerms 1 = .ok (.lload_n 2, 1) := by decide +kernel
theorem dX11_inLeastTerms_2 : decode cX11_inLeastTerms 2 = .ok (.invokestatic 277, 3) := by decide +kernel
theorem dX11_inLeastTerms_5 : decode cX11_inLeastTerms 5 = .ok (.lstore 5, 2) := by decide +kernel
theorem dX11_inLeastTerms_7 : decode cX11_inLeastTerms 7 = .ok (.lload_n 2, 1) := by decide +kernel
theorem dX11_inLeastTerms_8 : decode cX11_inLeastTerms 8 = .ok (.lconst 0, 1) := by decide +kernel
theorem dX11_inLeastTerms_9 : decode cX11_inLeastTerms 9 = .ok (.lcmp, 1) := by decide +kernel
theorem dX11_inLeastTerms_10 : decode cX11_inLeastTerms 10 = .ok (.ifCond .eq 10, 3) := by decide +kernel
theorem dX11_inLeastTerms_13 : decode cX11_inLeastTerms 13 = .ok (.lload 5, 2) := by decide +kernel
theorem dX11_inLeastTerms_15 : decode cX11_inLeastTerms 15 = .ok (.lconst 0, 1) := by decide +kernel
theorem dX11_inLeastTerms_16 : decode cX11_inLeastTerms 16 = .ok (.lcmp, 1) := by decide +kernel
theorem dX11_inLeastTerms_17 : decode cX11_inLeastTerms 17 = .ok (.ifCond .ne 14, 3) := by decide +kernel
theorem dX11_inLeastTerms_20 : decode cX11_inLeastTerms 20 = .ok (.iload 4, 2) := by decide +kernel
theorem dX11_inLeastTerms_22 : decode cX11_inLeastTerms 22 = .ok (.ifCond .ne 7, 3) := by decide +kernel
theorem dX11_inLeastTerms_25 : decode cX11_inLeastTerms 25 = .ok (.lconst 0, 1) := by decide +kernel
theorem dX11_inLeastTerms_26 : decode cX11_inLeastTerms 26 = .ok (.goto 4, 3) := by decide +kernel
theorem dX11_inLeastTerms_29 : decode cX11_inLeastTerms 29 = .ok (.lconst 1, 1) := by decide +kernel
theorem dX11_inLeastTerms_30 : decode cX11_inLeastTerms 30 = .ok (.lreturn, 1) := by decide +kernel
theorem dX11_inLeastTerms_31 : decode cX11_inLeastTerms 31 = .ok (.iload 4, 2) := by decide +kernel
theorem dX11_inLeastTerms_33 : decode cX11_inLeastTerms 33 = .ok (.ifCond .ne 10, 3) := by decide +kernel
theorem dX11_inLeastTerms_36 : decode cX11_inLeastTerms 36 = .ok (.lload_n 0, 1) := by decide +kernel
theorem dX11_inLeastTerms_37 : decode cX11_inLeastTerms 37 = .ok (.lload 5, 2) := by decide +kernel
theorem dX11_inLeastTerms_39 : decode cX11_inLeastTerms 39 = .ok (.ldiv, 1) := by decide +kernel
theorem dX11_inLeastTerms_40 : decode cX11_inLeastTerms 40 = .ok (.goto 7, 3) := by decide +kernel
theorem dX11_inLeastTerms_43 : decode cX11_inLeastTerms 43 = .ok (.lload_n 2, 1) := by decide +kernel
theorem dX11_inLeastTerms_44 : decode cX11_inLeastTerms 44 = .ok (.lload 5, 2) := by decide +kernel
theorem dX11_inLeastTerms_46 : decode cX11_inLeastTerms 46 = .ok (.ldiv, 1) := by decide +kernel
theorem dX11_inLeastTerms_47 : decode cX11_inLeastTerms 47 = .ok (.lreturn, 1) := by decide +kernel
theorem dX11_greatestCommonDivisor_0 : decode cX11_greatestCommonDivisor 0 = .ok (.lload_n 0, 1) := by decide +kernel
theorem dX11_greatestCommonDivisor_1 : decode cX11_greatestCommonDivisor 1 = .ok (.lstore 4, 2) := by decide +kernel
theorem dX11_greatestCommonDivisor_3 : decode cX11_greatestCommonDivisor 3 = .ok (.lload_n 2, 1) := by decide +kernel
theorem dX11_greatestCommonDivisor_4 : decode cX11_greatestCommonDivisor 4 = .ok (.lstore 6, 2) := by decide +kernel
theorem dX11_greatestCommonDivisor_6 : decode cX11_greatestCommonDivisor 6 = .ok (.iconst 0, 1) := by decide +kernel
theorem dX11_greatestCommonDivisor_7 : decode cX11_greatestCommonDivisor 7 = .ok (.istore 8, 2) := by decide +kernel
theorem dX11_greatestCommonDivisor_9 : decode cX11_greatestCommonDivisor 9 = .ok (.iload 8, 2) := by decide +kernel
theorem dX11_greatestCommonDivisor_11 : decode cX11_greatestCommonDivisor 11 = .ok (.bipush 100, 2) := by decide +kernel
theorem dX11_greatestCommonDivisor_13 : decode cX11_greatestCommonDivisor 13 = .ok (.if_icmp .ge 31, 3) := by decide +kernel
theorem dX11_greatestCommonDivisor_16 : decode cX11_greatestCommonDivisor 16 = .ok (.lload 6, 2) := by decide +kernel
theorem dX11_greatestCommonDivisor_18 : decode cX11_greatestCommonDivisor 18 = .ok (.lconst 0, 1) := by decide +kernel
theorem dX11_greatestCommonDivisor_19 : decode cX11_greatestCommonDivisor 19 = .ok (.lcmp, 1) := by decide +kernel
theorem dX11_greatestCommonDivisor_20 : decode cX11_greatestCommonDivisor 20 = .ok (.ifCond .eq 24, 3) := by decide +kernel
theorem dX11_greatestCommonDivisor_23 : decode cX11_greatestCommonDivisor 23 = .ok (.lload 4, 2) := by decide +kernel
theorem dX11_greatestCommonDivisor_25 : decode cX11_greatestCommonDivisor 25 = .ok (.lload 6, 2) := by decide +kernel
theorem dX11_greatestCommonDivisor_27 : decode cX11_greatestCommonDivisor 27 = .ok (.lrem, 1) := by decide +kernel
theorem dX11_greatestCommonDivisor_28 : decode cX11_greatestCommonDivisor 28 = .ok (.lstore 9, 2) := by decide +kernel
theorem dX11_greatestCommonDivisor_30 : decode cX11_greatestCommonDivisor 30 = .ok (.lload 6, 2) := by decide +kernel
theorem dX11_greatestCommonDivisor_32 : decode cX11_greatestCommonDivisor 32 = .ok (.lstore 4, 2) := by decide +kernel
theorem dX11_greatestCommonDivisor_34 : decode cX11_greatestCommonDivisor 34 = .ok (.lload 9, 2) := by decide +kernel
theorem dX11_greatestCommonDivisor_36 : decode cX11_greatestCommonDivisor 36 = .ok (.lstore 6, 2) := by decide +kernel
theorem dX11_greatestCommonDivisor_38 : decode cX11_greatestCommonDivisor 38 = .ok (.iinc 8 1, 3) := by decide +kernel
theorem dX11_greatestCommonDivisor_41 : decode cX11_greatestCommonDivisor 41 = .ok (.goto (-32), 3) := by decide +kernel
theorem dX11_greatestCommonDivisor_44 : decode cX11_greatestCommonDivisor 44 = .ok (.lload 4, 2) := by decide +kernel
theorem dX11_greatestCommonDivisor_46 : decode cX11_greatestCommonDivisor 46 = .ok (.lreturn, 1) := by decide +kernel
theorem dX11_mends_0 : decode cX11_mends 0 = .ok (.iload_n 1, 1) := by decide +kernel
theorem dX11_mends_1 : decode cX11_mends 1 = .ok (.invokestatic 173, 3) := by decide +kernel
theorem dX11_mends_4 : decode cX11_mends 4 = .ok (.ifCond .ne 5, 3) := by decide +kernel
theorem dX11_mends_7 : decode cX11_mends 7 = .ok (.iconst (-1), 1) := by decide +kernel
theorem dX11_mends_8 : decode cX11_mends 8 = .ok (.ireturn, 1) := by decide +kernel
theorem dX11_mends_9 : decode cX11_mends 9 = .ok (.aload_n 0, 1) := by decide +kernel
theorem dX11_mends_10 : decode cX11_mends 10 = .ok (.getfield 46, 3) := by decide +kernel
theorem dX11_mends_13 : decode cX11_mends 13 = .ok (.aload_n 0, 1) := by decide +kernel
theorem dX11_mends_14 : decode cX11_mends 14 = .ok (.getfield 42, 3) := by decide +kernel
theorem dX11_mends_17 : decode cX11_mends 17 = .ok (.invokevirtual 84, 3) := by decide +kernel
theorem dX11_mends_20 : decode cX11_mends 20 = .ok (.iconst 0, 1) := by decide +kernel
theorem dX11_mends_21 : decode cX11_mends 21 = .ok (.istore_n 2, 1) := by decide +kernel
theorem dX11_mends_22 : decode cX11_mends 22 = .ok (.iload_n 2, 1) := by decide +kernel
theorem dX11_mends_23 : decode cX11_mends 23 = .ok (.bipush 60, 2) := by decide +kernel
theorem dX11_mends_25 : decode cX11_mends 25 = .ok (.if_icmp .ge 38, 3) := by decide +kernel
theorem dX11_mends_28 : decode cX11_mends 28 = .ok (.aload_n 0, 1) := by decide +kernel
theorem dX11_mends_29 : decode cX11_mends 29 = .ok (.getfield 46, 3) := by decide +kernel
theorem dX11_mends_32 : decode cX11_mends 32 = .ok (.iconst 0, 1) := by decide +kernel
theorem dX11_mends_33 : decode cX11_mends 33 = .ok (.invokevirtual 170, 3) := by decide +kernel
theorem dX11_mends_36 : decode cX11_mends 36 = .ok (.bipush (-4), 2) := by decide +kernel
theorem dX11_mends_38 : decode cX11_mends 38 = .ok (.if_icmp .eq 25, 3) := by decide +kernel
theorem dX11_mends_41 : decode cX11_mends 41 = .ok (.aload_n 0, 1) := by decide +kernel
theorem dX11_mends_42 : decode cX11_mends 42 = .ok (.getfield 46, 3) := by decide +kernel
theorem dX11_mends_45 : decode cX11_mends 45 = .ok (.aload_n 0, 1) := by decide +kernel
theorem dX11_mends_46 : decode cX11_mends 46 = .ok (.getfield 46, 3) := by decide +kernel
theorem dX11_mends_49 : decode cX11_mends 49 = .ok (.iconst 0, 1) := by decide +kernel
theorem dX11_mends_50 : decode cX11_mends 50 = .ok (.invokevirtual 170, 3) := by decide +kernel
theorem dX11_mends_53 : decode cX11_mends 53 = .ok (.invokevirtual 151, 3) := by decide +kernel
theorem dX11_mends_56 : decode cX11_mends 56 = .ok (.pop, 1) := by decide +kernel
theorem dX11_mends_57 : decode cX11_mends 57 = .ok (.iinc 2 1, 3) := by decide +kernel
theorem dX11_mends_60 : decode cX11_mends 60 = .ok (.goto (-38), 3) := by decide +kernel
theorem dX11_mends_63 : decode cX11_mends 63 = .ok (.iload_n 1, 1) := by decide +kernel
theorem dX11_mends_64 : decode cX11_mends 64 = .ok (.iconst 1, 1) := by decide +kernel
theorem dX11_mends_65 : decode cX11_mends 65 = .ok (.if_icmp .ne 11, 3) := by decide +kernel
theorem dX11_mends_68 : decode cX11_mends 68 = .ok (.aload_n 0, 1) := by decide +kernel
theorem dX11_mends_69 : decode cX11_mends 69 = .ok (.getfield 46, 3) := by decide +kernel
theorem dX11_mends_72 : decode cX11_mends 72 = .ok (.invokevirtual 281, 3) := by decide +kernel
theorem dX11_mends_75 : decode cX11_mends 75 = .ok (.ireturn, 1) := by decide +kernel
theorem dX11_mends_76 : decode cX11_mends 76 = .ok (.aload_n 0, 1) := by decide +kernel
theorem dX11_mends_77 : decode cX11_mends 77 = .ok (.getfield 46, 3) := by decide +kernel
theorem dX11_mends_80 : decode cX11_mends 80 = .ok (.iconst 0, 1) := by decide +kernel
theorem dX11_mends_81 : decode cX11_mends 81 = .ok (.invokevirtual 170, 3) := by decide +kernel
theorem dX11_mends_84 : decode cX11_mends 84 = .ok (.bipush (-4), 2) := by decide +kernel
theorem dX11_mends_86 : decode cX11_mends 86 = .ok (.if_icmp .ne 7, 3) := by decide +kernel
theorem dX11_mends_89 : decode cX11_mends 89 = .ok (.iload_n 2, 1) := by decide +kernel
theorem dX11_mends_90 : decode cX11_mends 90 = .ok (.goto 5, 3) := by decide +kernel
theorem dX11_mends_93 : decode cX11_mends 93 = .ok (.bipush (-4), 2) := by decide +kernel
theorem dX11_mends_95 : decode cX11_mends 95 = .ok (.ireturn, 1) := by decide +kernel
theorem dX11_mechanic_0 : decode cX11_mechanic 0 = .ok (.iload_n 1, 1) := by decide +kernel
theorem dX11_mechanic_1 : decode cX11_mechanic 1 = .ok (.iconst 0, 1) := by decide +kernel
theorem dX11_mechanic_2 : decode cX11_mechanic 2 = .ok (.bipush 9, 2) := by decide +kernel
theorem dX11_mechanic_4 : decode cX11_mechanic 4 = .ok (.invokestatic 126, 3) := by decide +kernel
theorem dX11_mechanic_7 : decode cX11_mechanic 7 = .ok (.ifCond .eq 31, 3) := by decide +kernel
theorem dX11_mechanic_10 : decode cX11_mechanic 10 = .ok (.iload_n 2, 1) := by decide +kernel
theorem dX11_mechanic_11 : decode cX11_mechanic 11 = .ok (.iconst 1, 1) := by decide +kernel
theorem dX11_mechanic_12 : decode cX11_mechanic 12 = .ok (.bipush 9, 2) := by decide +kernel
theorem dX11_mechanic_14 : decode cX11_mechanic 14 = .ok (.invokestatic 126, 3) := by decide +kernel
theorem dX11_mechanic_17 : decode cX11_mechanic 17 = .ok (.ifCond .eq 21, 3) := by decide +kernel
theorem dX11_mechanic_20 : decode cX11_mechanic 20 = .ok (.iload_n 3, 1) := by decide +kernel
theorem dX11_mechanic_21 : decode cX11_mechanic 21 = .ok (.iconst 0, 1) := by decide +kernel
theorem dX11_mechanic_22 : decode cX11_mechanic 22 = .ok (.bipush 99, 2) := by decide +kernel
theorem dX11_mechanic_24 : decode cX11_mechanic 24 = .ok (.invokestatic 126, 3) := by decide +kernel
theorem dX11_mechanic_27 : decode cX11_mechanic 27 = .ok (.ifCond .eq 11, 3) := by decide +kernel
theorem dX11_mechanic_30 : decode cX11_mechanic 30 = .ok (.iload 4, 2) := by decide +kernel
theorem dX11_mechanic_32 : decode cX11_mechanic 32 = .ok (.invokestatic 173, 3) := by decide +kernel
theorem dX11_mechanic_35 : decode cX11_mechanic 35 = .ok (.ifCond .ne 5, 3) := by decide +kernel
theorem dX11_mechanic_38 : decode cX11_mechanic 38 = .ok (.iconst (-1), 1) := by decide +kernel
theorem dX11_mechanic_39 : decode cX11_mechanic 39 = .ok (.ireturn, 1) := by decide +kernel
theorem dX11_mechanic_40 : decode cX11_mechanic 40 = .ok (.lconst 1, 1) := by decide +kernel
theorem dX11_mechanic_41 : decode cX11_mechanic 41 = .ok (.lstore 5, 2) := by decide +kernel
theorem dX11_mechanic_43 : decode cX11_mechanic 43 = .ok (.lconst 1, 1) := by decide +kernel
theorem dX11_mechanic_44 : decode cX11_mechanic 44 = .ok (.lstore 7, 2) := by decide +kernel
theorem dX11_mechanic_46 : decode cX11_mechanic 46 = .ok (.iconst 0, 1) := by decide +kernel
theorem dX11_mechanic_47 : decode cX11_mechanic 47 = .ok (.istore 9, 2) := by decide +kernel
theorem dX11_mechanic_49 : decode cX11_mechanic 49 = .ok (.iload 9, 2) := by decide +kernel
theorem dX11_mechanic_51 : decode cX11_mechanic 51 = .ok (.bipush 9, 2) := by decide +kernel
theorem dX11_mechanic_53 : decode cX11_mechanic 53 = .ok (.if_icmp .gt 60, 3) := by decide +kernel
theorem dX11_mechanic_56 : decode cX11_mechanic 56 = .ok (.ldc2_w 284, 3) := by decide +kernel
theorem dX11_mechanic_59 : decode cX11_mechanic 59 = .ok (.lload 5, 2) := by decide +kernel
theorem dX11_mechanic_61 : decode cX11_mechanic 61 = .ok (.lload 7, 2) := by decide +kernel
theorem dX11_mechanic_63 : decode cX11_mechanic 63 = .ok (.lsub, 1) := by decide +kernel
theorem dX11_mechanic_64 : decode cX11_mechanic 64 = .ok (.lmul, 1) := by decide +kernel
theorem dX11_mechanic_65 : decode cX11_mechanic 65 = .ok (.iload_n 2, 1) := by decide +kernel
theorem dX11_mechanic_66 : decode cX11_mechanic 66 = .ok (.i2l, 1) := by decide +kernel
theorem dX11_mechanic_67 : decode cX11_mechanic 67 = .ok (.lload 5, 2) := by decide +kernel
theorem dX11_mechanic_69 : decode cX11_mechanic 69 = .ok (.lmul, 1) := by decide +kernel
theorem dX11_mechanic_70 : decode cX11_mechanic 70 = .ok (.lcmp, 1) := by decide +kernel
theorem dX11_mechanic_71 : decode cX11_mechanic 71 = .ok (.ifCond .lt 18, 3) := by decide +kernel
theorem dX11_mechanic_74 : decode cX11_mechanic 74 = .ok (.iload 4, 2) := by decide +kernel
theorem dX11_mechanic_76 : decode cX11_mechanic 76 = .ok (.ifCond .ne 8, 3) := by decide +kernel
theorem dX11_mechanic_79 : decode cX11_mechanic 79 = .ok (.iload 9, 2) := by decide +kernel
theorem dX11_mechanic_81 : decode cX11_mechanic 81 = .ok (.goto 7, 3) := by decide +kernel
theorem dX11_mechanic_84 : decode cX11_mechanic 84 = .ok (.iload 9, 2) := by decide +kernel
theorem dX11_mechanic_86 : decode cX11_mechanic 86 = .ok (.iload_n 3, 1) := by decide +kernel
theorem dX11_mechanic_87 : decode cX11_mechanic 87 = .ok (.imul, 1) := by decide +kernel
theorem dX11_mechanic_88 : decode cX11_mechanic 88 = .ok (.ireturn, 1) := by decide +kernel
theorem dX11_mechanic_89 : decode cX11_mechanic 89 = .ok (.lload 5, 2) := by decide +kernel
theorem dX11_mechanic_91 : decode cX11_mechanic 91 = .ok (.ldc2_w 284, 3) := by decide +kernel
theorem dX11_mechanic_94 : decode cX11_mechanic 94 = .ok (.lmul, 1) := by decide +kernel
theorem dX11_mechanic_95 : decode cX11_mechanic 95 = .ok (.lstore 5, 2) := by decide +kernel
theorem dX11_mechanic_97 : decode cX11_mechanic 97 = .ok (.lload 7, 2) := by decide +kernel
theorem dX11_mechanic_99 : decode cX11_mechanic 99 = .ok (.bipush 10, 2) := by decide +kernel
theorem dX11_mechanic_101 : decode cX11_mechanic 101 = .ok (.iload_n 1, 1) := by decide +kernel
theorem dX11_mechanic_102 : decode cX11_mechanic 102 = .ok (.isub, 1) := by decide +kernel
theorem dX11_mechanic_103 : decode cX11_mechanic 103 = .ok (.i2l, 1) := by decide +kernel
theorem dX11_mechanic_104 : decode cX11_mechanic 104 = .ok (.lmul, 1) := by decide +kernel
theorem dX11_mechanic_105 : decode cX11_mechanic 105 = .ok (.lstore 7, 2) := by decide +kernel
theorem dX11_mechanic_107 : decode cX11_mechanic 107 = .ok (.iinc 9 1, 3) := by decide +kernel
theorem dX11_mechanic_110 : decode cX11_mechanic 110 = .ok (.goto (-61), 3) := by decide +kernel
theorem dX11_mechanic_113 : decode cX11_mechanic 113 = .ok (.bipush (-4), 2) := by decide +kernel
theorem dX11_mechanic_115 : decode cX11_mechanic 115 = .ok (.ireturn, 1) := by decide +kernel
theorem dX11_worth_0 : decode cX11_worth 0 = .ok (.iload_n 1, 1) := by decide +kernel
theorem dX11_worth_1 : decode cX11_worth 1 = .ok (.iconst 0, 1) := by decide +kernel
theorem dX11_worth_2 : decode cX11_worth 2 = .ok (.sipush 9999, 3) := by decide +kernel
theorem dX11_worth_5 : decode cX11_worth 5 = .ok (.invokestatic 126, 3) := by decide +kernel
theorem dX11_worth_8 : decode cX11_worth 8 = .ok (.ifCond .ne 5, 3) := by decide +kernel
theorem dX11_worth_11 : decode cX11_worth 11 = .ok (.iconst (-1), 1) := by decide +kernel
theorem dX11_worth_12 : decode cX11_worth 12 = .ok (.ireturn, 1) := by decide +kernel
theorem dX11_worth_13 : decode cX11_worth 13 = .ok (.aload_n 0, 1) := by decide +kernel
theorem dX11_worth_14 : decode cX11_worth 14 = .ok (.getfield 42, 3) := by decide +kernel
theorem dX11_worth_17 : decode cX11_worth 17 = .ok (.iconst 0, 1) := by decide +kernel
theorem dX11_worth_18 : decode cX11_worth 18 = .ok (.invokevirtual 158, 3) := by decide +kernel
theorem dX11_worth_21 : decode cX11_worth 21 = .ok (.istore_n 2, 1) := by decide +kernel
theorem dX11_worth_22 : decode cX11_worth 22 = .ok (.iload_n 2, 1) := by decide +kernel
theorem dX11_worth_23 : decode cX11_worth 23 = .ok (.ifCond .gt 6, 3) := by decide +kernel
theorem dX11_worth_26 : decode cX11_worth 26 = .ok (.bipush (-4), 2) := by decide +kernel
theorem dX11_worth_28 : decode cX11_worth 28 = .ok (.ireturn, 1) := by decide +kernel
theorem dX11_worth_29 : decode cX11_worth 29 = .ok (.iload_n 1, 1) := by decide +kernel
theorem dX11_worth_30 : decode cX11_worth 30 = .ok (.iload_n 2, 1) := by decide +kernel
theorem dX11_worth_31 : decode cX11_worth 31 = .ok (.idiv, 1) := by decide +kernel
theorem dX11_worth_32 : decode cX11_worth 32 = .ok (.bipush 99, 2) := by decide +kernel
theorem dX11_worth_34 : decode cX11_worth 34 = .ok (.invokestatic 216, 3) := by decide +kernel
theorem dX11_worth_37 : decode cX11_worth 37 = .ok (.ireturn, 1) := by decide +kernel
theorem dX11_quiet_0 : decode cX11_quiet 0 = .ok (.iload_n 2, 1) := by decide +kernel
theorem dX11_quiet_1 : decode cX11_quiet 1 = .ok (.invokestatic 173, 3) := by decide +kernel
theorem dX11_quiet_4 : decode cX11_quiet 4 = .ok (.ifCond .eq 11, 3) := by decide +kernel
theorem dX11_quiet_7 : decode cX11_quiet 7 = .ok (.aload_n 0, 1) := by decide +kernel
theorem dX11_quiet_8 : decode cX11_quiet 8 = .ok (.iload_n 1, 1) := by decide +kernel
theorem dX11_quiet_9 : decode cX11_quiet 9 = .ok (.invokevirtual 286, 3) := by decide +kernel
theorem dX11_quiet_12 : decode cX11_quiet 12 = .ok (.goto 4, 3) := by decide +kernel
theorem dX11_quiet_15 : decode cX11_quiet 15 = .ok (.iconst (-1), 1) := by decide +kernel
theorem dX11_quiet_16 : decode cX11_quiet 16 = .ok (.istore_n 3, 1) := by decide +kernel
theorem dX11_quiet_17 : decode cX11_quiet 17 = .ok (.iload_n 3, 1) := by decide +kernel
theorem dX11_quiet_18 : decode cX11_quiet 18 = .ok (.ifCond .eq 5, 3) := by decide +kernel
theorem dX11_quiet_21 : decode cX11_quiet 21 = .ok (.iload_n 3, 1) := by decide +kernel
theorem dX11_quiet_22 : decode cX11_quiet 22 = .ok (.ireturn, 1) := by decide +kernel
theorem dX11_quiet_23 : decode cX11_quiet 23 = .ok (.aload_n 0, 1) := by decide +kernel
theorem dX11_quiet_24 : decode cX11_quiet 24 = .ok (.getfield 46, 3) := by decide +kernel
theorem dX11_quiet_27 : decode cX11_quiet 27 = .ok (.aload_n 0, 1) := by decide +kernel
theorem dX11_quiet_28 : decode cX11_quiet 28 = .ok (.getfield 42, 3) := by decide +kernel
theorem dX11_quiet_31 : decode cX11_quiet 31 = .ok (.invokevirtual 84, 3) := by decide +kernel
theorem dX11_quiet_34 : decode cX11_quiet 34 = .ok (.aload_n 0, 1) := by decide +kernel
theorem dX11_quiet_35 : decode cX11_quiet 35 = .ok (.getfield 46, 3) := by decide +kernel
theorem dX11_quiet_38 : decode cX11_quiet 38 = .ok (.aload_n 0, 1) := by decide +kernel
theorem dX11_quiet_39 : decode cX11_quiet 39 = .ok (.getfield 58, 3) := by decide +kernel
theorem dX11_quiet_42 : decode cX11_quiet 42 = .ok (.iload_n 1, 1) := by decide +kernel
theorem dX11_quiet_43 : decode cX11_quiet 43 = .ok (.aaload, 1) := by decide +kernel
theorem dX11_quiet_44 : decode cX11_quiet 44 = .ok (.invokevirtual 289, 3) := by decide +kernel
theorem dX11_quiet_47 : decode cX11_quiet 47 = .ok (.iconst 0, 1) := by decide +kernel
theorem dX11_quiet_48 : decode cX11_quiet 48 = .ok (.istore 4, 2) := by decide +kernel
theorem dX11_quiet_50 : decode cX11_quiet 50 = .ok (.bipush (-4), 2) := by decide +kernel
theorem dX11_quiet_52 : decode cX11_quiet 52 = .ok (.istore 5, 2) := by decide +kernel
theorem dX11_quiet_54 : decode cX11_quiet 54 = .ok (.iconst 0, 1) := by decide +kernel
theorem dX11_quiet_55 : decode cX11_quiet 55 = .ok (.istore 6, 2) := by decide +kernel
theorem dX11_quiet_57 : decode cX11_quiet 57 = .ok (.iload 6, 2) := by decide +kernel
theorem dX11_quiet_59 : decode cX11_quiet 59 = .ok (.bipush 100, 2) := by decide +kernel
theorem dX11_quiet_61 : decode cX11_quiet 61 = .ok (.if_icmp .ge 41, 3) := by decide +kernel
theorem dX11_quiet_64 : decode cX11_quiet 64 = .ok (.aload_n 0, 1) := by decide +kernel
theorem dX11_quiet_65 : decode cX11_quiet 65 = .ok (.getfield 46, 3) := by decide +kernel
theorem dX11_quiet_68 : decode cX11_quiet 68 = .ok (.iconst 0, 1) := by decide +kernel
theorem dX11_quiet_69 : decode cX11_quiet 69 = .ok (.iload 6, 2) := by decide +kernel
theorem dX11_quiet_71 : decode cX11_quiet 71 = .ok (.invokevirtual 167, 3) := by decide +kernel
theorem dX11_quiet_74 : decode cX11_quiet 74 = .ok (.ifCond .ne 22, 3) := by decide +kernel
theorem dX11_quiet_77 : decode cX11_quiet 77 = .ok (.iinc 4 1, 3) := by decide +kernel
theorem dX11_quiet_80 : decode cX11_quiet 80 = .ok (.iload 5, 2) := by decide +kernel
theorem dX11_quiet_82 : decode cX11_quiet 82 = .ok (.bipush (-4), 2) := by decide +kernel
theorem dX11_quiet_84 : decode cX11_quiet 84 = .ok (.if_icmp .ne 8, 3) := by decide +kernel
theorem dX11_quiet_87 : decode cX11_quiet 87 = .ok (.iload 6, 2) := by decide +kernel
theorem dX11_quiet_89 : decode cX11_quiet 89 = .ok (.goto 5, 3) := by decide +kernel
theorem dX11_quiet_92 : decode cX11_quiet 92 = .ok (.iload 5, 2) := by decide +kernel
theorem dX11_quiet_94 : decode cX11_quiet 94 = .ok (.istore 5, 2) := by decide +kernel
theorem dX11_quiet_96 : decode cX11_quiet 96 = .ok (.iinc 6 1, 3) := by decide +kernel
theorem dX11_quiet_99 : decode cX11_quiet 99 = .ok (.goto (-42), 3) := by decide +kernel
theorem dX11_quiet_102 : decode cX11_quiet 102 = .ok (.iload_n 2, 1) := by decide +kernel
theorem dX11_quiet_103 : decode cX11_quiet 103 = .ok (.ifCond .ne 8, 3) := by decide +kernel
theorem dX11_quiet_106 : decode cX11_quiet 106 = .ok (.iload 4, 2) := by decide +kernel
theorem dX11_quiet_108 : decode cX11_quiet 108 = .ok (.goto 5, 3) := by decide +kernel
theorem dX11_quiet_111 : decode cX11_quiet 111 = .ok (.iload 5, 2) := by decide +kernel
theorem dX11_quiet_113 : decode cX11_quiet 113 = .ok (.ireturn, 1) := by decide +kernel
theorem dX11_statesRefusal_0 : decode cX11_statesRefusal 0 = .ok (.aload_n 0, 1) := by decide +kernel
theorem dX11_statesRefusal_1 : decode cX11_statesRefusal 1 = .ok (.iload_n 1, 1) := by decide +kernel
theorem dX11_statesRefusal_2 : decode cX11_statesRefusal 2 = .ok (.invokevirtual 70, 3) := by decide +kernel
theorem dX11_statesRefusal_5 : decode cX11_statesRefusal 5 = .ok (.istore_n 2, 1) := by decide +kernel
theorem dX11_statesRefusal_6 : decode cX11_statesRefusal 6 = .ok (.iload_n 2, 1) := by decide +kernel
theorem dX11_statesRefusal_7 : decode cX11_statesRefusal 7 = .ok (.ifCond .eq 5, 3) := by decide +kernel
theorem dX11_statesRefusal_10 : decode cX11_statesRefusal 10 = .ok (.iload_n 2, 1) := by decide +kernel
theorem dX11_statesRefusal_11 : decode cX11_statesRefusal 11 = .ok (.ireturn, 1) := by decide +kernel
theorem dX11_statesRefusal_12 : decode cX11_statesRefusal 12 = .ok (.aload_n 0, 1) := by decide +kernel
theorem dX11_statesRefusal_13 : decode cX11_statesRefusal 13 = .ok (.getfield 58, 3) := by decide +kernel
theorem dX11_statesRefusal_16 : decode cX11_statesRefusal 16 = .ok (.iload_n 1, 1) := by decide +kernel
theorem dX11_statesRefusal_17 : decode cX11_statesRefusal 17 = .ok (.aaload, 1) := by decide +kernel
theorem dX11_statesRefusal_18 : decode cX11_statesRefusal 18 = .ok (.astore_n 3, 1) := by decide +kernel
theorem dX11_statesRefusal_19 : decode cX11_statesRefusal 19 = .ok (.aload_n 3, 1) := by decide +kernel
theorem dX11_statesRefusal_20 : decode cX11_statesRefusal 20 = .ok (.getfield 259, 3) := by decide +kernel
theorem dX11_statesRefusal_23 : decode cX11_statesRefusal 23 = .ok (.aload_n 0, 1) := by decide +kernel
theorem dX11_statesRefusal_24 : decode cX11_statesRefusal 24 = .ok (.getfield 42, 3) := by decide +kernel
theorem dX11_statesRefusal_27 : decode cX11_statesRefusal 27 = .ok (.getfield 203, 3) := by decide +kernel
theorem dX11_statesRefusal_30 : decode cX11_statesRefusal 30 = .ok (.if_icmp .le 6, 3) := by decide +kernel
theorem dX11_statesRefusal_33 : decode cX11_statesRefusal 33 = .ok (.bipush (-13), 2) := by decide +kernel
theorem dX11_statesRefusal_35 : decode cX11_statesRefusal 35 = .ok (.ireturn, 1) := by decide +kernel
theorem dX11_statesRefusal_36 : decode cX11_statesRefusal 36 = .ok (.iconst 0, 1) := by decide +kernel
theorem dX11_statesRefusal_37 : decode cX11_statesRefusal 37 = .ok (.istore 4, 2) := by decide +kernel
theorem dX11_statesRefusal_39 : decode cX11_statesRefusal 39 = .ok (.iload 4, 2) := by decide +kernel
theorem dX11_statesRefusal_41 : decode cX11_statesRefusal 41 = .ok (.aload_n 3, 1) := by decide +kernel
theorem dX11_statesRefusal_42 : decode cX11_statesRefusal 42 = .ok (.getfield 259, 3) := by decide +kernel
theorem dX11_statesRefusal_45 : decode cX11_statesRefusal 45 = .ok (.if_icmp .ge 36, 3) := by decide +kernel
theorem dX11_statesRefusal_48 : decode cX11_statesRefusal 48 = .ok (.aload_n 3, 1) := by decide +kernel
theorem dX11_statesRefusal_49 : decode cX11_statesRefusal 49 = .ok (.iload 4, 2) := by decide +kernel
theorem dX11_statesRefusal_51 : decode cX11_statesRefusal 51 = .ok (.invokevirtual 293, 3) := by decide +kernel
theorem dX11_statesRefusal_54 : decode cX11_statesRefusal 54 = .ok (.ifCond .ne 21, 3) := by decide +kernel
theorem dX11_statesRefusal_57 : decode cX11_statesRefusal 57 = .ok (.aload_n 3, 1) := by decide +kernel
theorem dX11_statesRefusal_58 : decode cX11_statesRefusal 58 = .ok (.getfield 262, 3) := by decide +kernel
theorem dX11_statesRefusal_61 : decode cX11_statesRefusal 61 = .ok (.iload 4, 2) := by decide +kernel
theorem dX11_statesRefusal_63 : decode cX11_statesRefusal 63 = .ok (.iaload, 1) := by decide +kernel
theorem dX11_statesRefusal_64 : decode cX11_statesRefusal 64 = .ok (.iconst 0, 1) := by decide +kernel
theorem dX11_statesRefusal_65 : decode cX11_statesRefusal 65 = .ok (.iconst 3, 1) := by decide +kernel
theorem dX11_statesRefusal_66 : decode cX11_statesRefusal 66 = .ok (.invokestatic 126, 3) := by decide +kernel
theorem dX11_statesRefusal_69 : decode cX11_statesRefusal 69 = .ok (.ifCond .ne 6, 3) := by decide +kernel
theorem dX11_statesRefusal_72 : decode cX11_statesRefusal 72 = .ok (.bipush (-13), 2) := by decide +kernel
theorem dX11_statesRefusal_74 : decode cX11_statesRefusal 74 = .ok (.ireturn, 1) := by decide +kernel
theorem dX11_statesRefusal_75 : decode cX11_statesRefusal 75 = .ok (.iinc 4 1, 3) := by decide +kernel
theorem dX11_statesRefusal_78 : decode cX11_statesRefusal 78 = .ok (.goto (-39), 3) := by decide +kernel
theorem dX11_statesRefusal_81 : decode cX11_statesRefusal 81 = .ok (.iconst 0, 1) := by decide +kernel
theorem dX11_statesRefusal_82 : decode cX11_statesRefusal 82 = .ok (.ireturn, 1) := by decide +kernel
theorem dX11_forged_0 : decode cX11_forged 0 = .ok (.aload_n 0, 1) := by decide +kernel
theorem dX11_forged_1 : decode cX11_forged 1 = .ok (.iload_n 1, 1) := by decide +kernel
theorem dX11_forged_2 : decode cX11_forged 2 = .ok (.invokevirtual 70, 3) := by decide +kernel
theorem dX11_forged_5 : decode cX11_forged 5 = .ok (.istore_n 2, 1) := by decide +kernel
theorem dX11_forged_6 : decode cX11_forged 6 = .ok (.iload_n 2, 1) := by decide +kernel
theorem dX11_forged_7 : decode cX11_forged 7 = .ok (.ifCond .eq 5, 3) := by decide +kernel
theorem dX11_forged_10 : decode cX11_forged 10 = .ok (.iload_n 2, 1) := by decide +kernel
theorem dX11_forged_11 : decode cX11_forged 11 = .ok (.ireturn, 1) := by decide +kernel
theorem dX11_forged_12 : decode cX11_forged 12 = .ok (.aload_n 0, 1) := by decide +kernel
theorem dX11_forged_13 : decode cX11_forged 13 = .ok (.getfield 58, 3) := by decide +kernel
theorem dX11_forged_16 : decode cX11_forged 16 = .ok (.iload_n 1, 1) := by decide +kernel
theorem dX11_forged_17 : decode cX11_forged 17 = .ok (.aaload, 1) := by decide +kernel
theorem dX11_forged_18 : decode cX11_forged 18 = .ok (.astore_n 3, 1) := by decide +kernel
theorem dX11_forged_19 : decode cX11_forged 19 = .ok (.aload_n 0, 1) := by decide +kernel
theorem dX11_forged_20 : decode cX11_forged 20 = .ok (.getfield 46, 3) := by decide +kernel
theorem dX11_forged_23 : decode cX11_forged 23 = .ok (.aload_n 0, 1) := by decide +kernel
theorem dX11_forged_24 : decode cX11_forged 24 = .ok (.getfield 42, 3) := by decide +kernel
theorem dX11_forged_27 : decode cX11_forged 27 = .ok (.invokevirtual 84, 3) := by decide +kernel
theorem dX11_forged_30 : decode cX11_forged 30 = .ok (.bipush 63, 2) := by decide +kernel
theorem dX11_forged_32 : decode cX11_forged 32 = .ok (.istore 4, 2) := by decide +kernel
theorem dX11_forged_34 : decode cX11_forged 34 = .ok (.iconst 0, 1) := by decide +kernel
theorem dX11_forged_35 : decode cX11_forged 35 = .ok (.istore 5, 2) := by decide +kernel
theorem dX11_forged_37 : decode cX11_forged 37 = .ok (.iload 5, 2) := by decide +kernel
theorem dX11_forged_39 : decode cX11_forged 39 = .ok (.aload_n 3, 1) := by decide +kernel
theorem dX11_forged_40 : decode cX11_forged 40 = .ok (.getfield 259, 3) := by decide +kernel
theorem dX11_forged_43 : decode cX11_forged 43 = .ok (.if_icmp .ge 84, 3) := by decide +kernel
theorem dX11_forged_46 : decode cX11_forged 46 = .ok (.iconst 0, 1) := by decide +kernel
theorem dX11_forged_47 : decode cX11_forged 47 = .ok (.istore 6, 2) := by decide +kernel
theorem dX11_forged_49 : decode cX11_forged 49 = .ok (.iload 6, 2) := by decide +kernel
theorem dX11_forged_51 : decode cX11_forged 51 = .ok (.bipush 6, 2) := by decide +kernel
theorem dX11_forged_53 : decode cX11_forged 53 = .ok (.if_icmp .ge 60, 3) := by decide +kernel
theorem dX11_forged_56 : decode cX11_forged 56 = .ok (.aload_n 3, 1) := by decide +kernel
theorem dX11_forged_57 : decode cX11_forged 57 = .ok (.iload 5, 2) := by decide +kernel
theorem dX11_forged_59 : decode cX11_forged 59 = .ok (.invokevirtual 293, 3) := by decide +kernel
theorem dX11_forged_62 : decode cX11_forged 62 = .ok (.ifCond .ne 51, 3) := by decide +kernel
theorem dX11_forged_65 : decode cX11_forged 65 = .ok (.aload_n 0, 1) := by decide +kernel
theorem dX11_forged_66 : decode cX11_forged 66 = .ok (.getfield 46, 3) := by decide +kernel
theorem dX11_forged_69 : decode cX11_forged 69 = .ok (.iconst 2, 1) := by decide +kernel
theorem dX11_forged_70 : decode cX11_forged 70 = .ok (.iload 6, 2) := by decide +kernel
theorem dX11_forged_72 : decode cX11_forged 72 = .ok (.invokevirtual 154, 3) := by decide +kernel
theorem dX11_forged_75 : decode cX11_forged 75 = .ok (.pop, 1) := by decide +kernel
theorem dX11_forged_76 : decode cX11_forged 76 = .ok (.aload_n 0, 1) := by decide +kernel
theorem dX11_forged_77 : decode cX11_forged 77 = .ok (.getfield 46, 3) := by decide +kernel
theorem dX11_forged_80 : decode cX11_forged 80 = .ok (.iconst 0, 1) := by decide +kernel
theorem dX11_forged_81 : decode cX11_forged 81 = .ok (.iload 5, 2) := by decide +kernel
theorem dX11_forged_83 : decode cX11_forged 83 = .ok (.invokevirtual 167, 3) := by decide +kernel
theorem dX11_forged_86 : decode cX11_forged 86 = .ok (.aload_n 3, 1) := by decide +kernel
theorem dX11_forged_87 : decode cX11_forged 87 = .ok (.getfield 262, 3) := by decide +kernel
theorem dX11_forged_90 : decode cX11_forged 90 = .ok (.iload 5, 2) := by decide +kernel
theorem dX11_forged_92 : decode cX11_forged 92 = .ok (.iaload, 1) := by decide +kernel
theorem dX11_forged_93 : decode cX11_forged 93 = .ok (.if_icmp .eq 14, 3) := by decide +kernel
theorem dX11_forged_96 : decode cX11_forged 96 = .ok (.iload 4, 2) := by decide +kernel
theorem dX11_forged_98 : decode cX11_forged 98 = .ok (.iconst 1, 1) := by decide +kernel
theorem dX11_forged_99 : decode cX11_forged 99 = .ok (.iload 6, 2) := by decide +kernel
theorem dX11_forged_101 : decode cX11_forged 101 = .ok (.ishl, 1) := by decide +kernel
theorem dX11_forged_102 : decode cX11_forged 102 = .ok (.iconst (-1), 1) := by decide +kernel
theorem dX11_forged_103 : decode cX11_forged 103 = .ok (.ixor, 1) := by decide +kernel
theorem dX11_forged_104 : decode cX11_forged 104 = .ok (.iand, 1) := by decide +kernel
theorem dX11_forged_105 : decode cX11_forged 105 = .ok (.istore 4, 2) := by decide +kernel
theorem dX11_forged_107 : decode cX11_forged 107 = .ok (.iinc 6 1, 3) := by decide +kernel
theorem dX11_forged_110 : decode cX11_forged 110 = .ok (.goto (-61), 3) := by decide +kernel
theorem dX11_forged_113 : decode cX11_forged 113 = .ok (.iload 4, 2) := by decide +kernel
theorem dX11_forged_115 : decode cX11_forged 115 = .ok (.ifCond .ne 6, 3) := by decide +kernel
theorem dX11_forged_118 : decode cX11_forged 118 = .ok (.iload 5, 2) := by decide +kernel
theorem dX11_forged_120 : decode cX11_forged 120 = .ok (.ireturn, 1) := by decide +kernel
theorem dX11_forged_121 : decode cX11_forged 121 = .ok (.iinc 5 1, 3) := by decide +kernel
theorem dX11_forged_124 : decode cX11_forged 124 = .ok (.goto (-87), 3) := by decide +kernel
theorem dX11_forged_127 : decode cX11_forged 127 = .ok (.bipush (-4), 2) := by decide +kernel
theorem dX11_forged_129 : decode cX11_forged 129 = .ok (.ireturn, 1) := by decide +kernel
theorem dX11_judge_0 : decode cX11_judge 0 = .ok (.aload_n 0, 1) := by decide +kernel
theorem dX11_judge_1 : decode cX11_judge 1 = .ok (.iload_n 1, 1) := by decide +kernel
theorem dX11_judge_2 : decode cX11_judge 2 = .ok (.invokevirtual 70, 3) := by decide +kernel
theorem dX11_judge_5 : decode cX11_judge 5 = .ok (.istore_n 2, 1) := by decide +kernel
theorem dX11_judge_6 : decode cX11_judge 6 = .ok (.iload_n 2, 1) := by decide +kernel
theorem dX11_judge_7 : decode cX11_judge 7 = .ok (.ifCond .eq 5, 3) := by decide +kernel
theorem dX11_judge_10 : decode cX11_judge 10 = .ok (.iload_n 2, 1) := by decide +kernel
theorem dX11_judge_11 : decode cX11_judge 11 = .ok (.ireturn, 1) := by decide +kernel
theorem dX11_judge_12 : decode cX11_judge 12 = .ok (.aload_n 0, 1) := by decide +kernel
theorem dX11_judge_13 : decode cX11_judge 13 = .ok (.getfield 58, 3) := by decide +kernel
theorem dX11_judge_16 : decode cX11_judge 16 = .ok (.iload_n 1, 1) := by decide +kernel
theorem dX11_judge_17 : decode cX11_judge 17 = .ok (.aaload, 1) := by decide +kernel
theorem dX11_judge_18 : decode cX11_judge 18 = .ok (.astore_n 3, 1) := by decide +kernel
theorem dX11_judge_19 : decode cX11_judge 19 = .ok (.aload_n 0, 1) := by decide +kernel
theorem dX11_judge_20 : decode cX11_judge 20 = .ok (.getfield 46, 3) := by decide +kernel
theorem dX11_judge_23 : decode cX11_judge 23 = .ok (.aload_n 0, 1) := by decide +kernel
theorem dX11_judge_24 : decode cX11_judge 24 = .ok (.getfield 42, 3) := by decide +kernel
theorem dX11_judge_27 : decode cX11_judge 27 = .ok (.invokevirtual 84, 3) := by decide +kernel
theorem dX11_judge_30 : decode cX11_judge 30 = .ok (.iconst 0, 1) := by decide +kernel
theorem dX11_judge_31 : decode cX11_judge 31 = .ok (.istore 4, 2) := by decide +kernel
theorem dX11_judge_33 : decode cX11_judge 33 = .ok (.iload 4, 2) := by decide +kernel
theorem dX11_judge_35 : decode cX11_judge 35 = .ok (.aload_n 3, 1) := by decide +kernel
theorem dX11_judge_36 : decode cX11_judge 36 = .ok (.getfield 259, 3) := by decide +kernel
theorem dX11_judge_39 : decode cX11_judge 39 = .ok (.if_icmp .ge 46, 3) := by decide +kernel
theorem dX11_judge_42 : decode cX11_judge 42 = .ok (.aload_n 3, 1) := by decide +kernel
theorem dX11_judge_43 : decode cX11_judge 43 = .ok (.iload 4, 2) := by decide +kernel
theorem dX11_judge_45 : decode cX11_judge 45 = .ok (.invokevirtual 293, 3) := by decide +kernel
theorem dX11_judge_48 : decode cX11_judge 48 = .ok (.ifCond .ne 24, 3) := by decide +kernel
theorem dX11_judge_51 : decode cX11_judge 51 = .ok (.aload_n 3, 1) := by decide +kernel
theorem dX11_judge_52 : decode cX11_judge 52 = .ok (.getfield 262, 3) := by decide +kernel
theorem dX11_judge_55 : decode cX11_judge 55 = .ok (.iload 4, 2) := by decide +kernel
theorem dX11_judge_57 : decode cX11_judge 57 = .ok (.iaload, 1) := by decide +kernel
theorem dX11_judge_58 : decode cX11_judge 58 = .ok (.aload_n 0, 1) := by decide +kernel
theorem dX11_judge_59 : decode cX11_judge 59 = .ok (.getfield 46, 3) := by decide +kernel
theorem dX11_judge_62 : decode cX11_judge 62 = .ok (.iconst 0, 1) := by decide +kernel
theorem dX11_judge_63 : decode cX11_judge 63 = .ok (.invokevirtual 158, 3) := by decide +kernel
theorem dX11_judge_66 : decode cX11_judge 66 = .ok (.if_icmp .eq 6, 3) := by decide +kernel
theorem dX11_judge_69 : decode cX11_judge 69 = .ok (.iload 4, 2) := by decide +kernel
theorem dX11_judge_71 : decode cX11_judge 71 = .ok (.ireturn, 1) := by decide +kernel
theorem dX11_judge_72 : decode cX11_judge 72 = .ok (.aload_n 0, 1) := by decide +kernel
theorem dX11_judge_73 : decode cX11_judge 73 = .ok (.getfield 46, 3) := by decide +kernel
theorem dX11_judge_76 : decode cX11_judge 76 = .ok (.invokevirtual 296, 3) := by decide +kernel
theorem dX11_judge_79 : decode cX11_judge 79 = .ok (.iinc 4 1, 3) := by decide +kernel
theorem dX11_judge_82 : decode cX11_judge 82 = .ok (.goto (-49), 3) := by decide +kernel
theorem dX11_judge_85 : decode cX11_judge 85 = .ok (.bipush (-4), 2) := by decide +kernel
theorem dX11_judge_87 : decode cX11_judge 87 = .ok (.ireturn, 1) := by decide +kernel
theorem dX11_winters_0 : decode cX11_winters 0 = .ok (.iload_n 1, 1) := by decide +kernel
theorem dX11_winters_1 : decode cX11_winters 1 = .ok (.iconst 1, 1) := by decide +kernel
theorem dX11_winters_2 : decode cX11_winters 2 = .ok (.bipush 20, 2) := by decide +kernel
theorem dX11_winters_4 : decode cX11_winters 4 = .ok (.invokestatic 126, 3) := by decide +kernel
theorem dX11_winters_7 : decode cX11_winters 7 = .ok (.ifCond .eq 10, 3) := by decide +kernel
theorem dX11_winters_10 : decode cX11_winters 10 = .ok (.iload_n 3, 1) := by decide +kernel
theorem dX11_winters_11 : decode cX11_winters 11 = .ok (.invokestatic 173, 3) := by decide +kernel
theorem dX11_winters_14 : decode cX11_winters 14 = .ok (.ifCond .ne 5, 3) := by decide +kernel
theorem dX11_winters_17 : decode cX11_winters 17 = .ok (.iconst (-1), 1) := by decide +kernel
theorem dX11_winters_18 : decode cX11_winters 18 = .ok (.ireturn, 1) := by decide +kernel
theorem dX11_winters_19 : decode cX11_winters 19 = .ok (.iload_n 2, 1) := by decide +kernel
theorem dX11_winters_20 : decode cX11_winters 20 = .ok (.istore 4, 2) := by decide +kernel
theorem dX11_winters_22 : decode cX11_winters 22 = .ok (.iconst 0, 1) := by decide +kernel
theorem dX11_winters_23 : decode cX11_winters 23 = .ok (.istore 5, 2) := by decide +kernel
theorem dX11_winters_25 : decode cX11_winters 25 = .ok (.iconst 0, 1) := by decide +kernel
theorem dX11_winters_26 : decode cX11_winters 26 = .ok (.istore 6, 2) := by decide +kernel
theorem dX11_winters_28 : decode cX11_winters 28 = .ok (.iconst 0, 1) := by decide +kernel
theorem dX11_winters_29 : decode cX11_winters 29 = .ok (.istore 7, 2) := by decide +kernel
theorem dX11_winters_31 : decode cX11_winters 31 = .ok (.iload 7, 2) := by decide +kernel
theorem dX11_winters_33 : decode cX11_winters 33 = .ok (.iload_n 1, 1) := by decide +kernel
theorem dX11_winters_34 : decode cX11_winters 34 = .ok (.bipush 10, 2) := by decide +kernel
theorem dX11_winters_36 : decode cX11_winters 36 = .ok (.imul, 1) := by decide +kernel
theorem dX11_winters_37 : decode cX11_winters 37 = .ok (.if_icmp .ge 115, 3) := by decide +kernel
theorem dX11_winters_40 : decode cX11_winters 40 = .ok (.iload 7, 2) := by decide +kernel
theorem dX11_winters_42 : decode cX11_winters 42 = .ok (.bipush 10, 2) := by decide +kernel
theorem dX11_winters_44 : decode cX11_winters 44 = .ok (.irem, 1) := by decide +kernel
theorem dX11_winters_45 : decode cX11_winters 45 = .ok (.ifCond .ne 14, 3) := by decide +kernel
theorem dX11_winters_48 : decode cX11_winters 48 = .ok (.aload_n 0, 1) := by decide +kernel
theorem dX11_winters_49 : decode cX11_winters 49 = .ok (.getfield 46, 3) := by decide +kernel
theorem dX11_winters_52 : decode cX11_winters 52 = .ok (.aload_n 0, 1) := by decide +kernel
theorem dX11_winters_53 : decode cX11_winters 53 = .ok (.getfield 42, 3) := by decide +kernel
theorem dX11_winters_56 : decode cX11_winters 56 = .ok (.invokevirtual 84, 3) := by decide +kernel
theorem dX11_winters_59 : decode cX11_winters 59 = .ok (.iload 4, 2) := by decide +kernel
theorem dX11_winters_61 : decode cX11_winters 61 = .ok (.invokestatic 299, 3) := by decide +kernel
theorem dX11_winters_64 : decode cX11_winters 64 = .ok (.istore 4, 2) := by decide +kernel
theorem dX11_winters_66 : decode cX11_winters 66 = .ok (.aload_n 0, 1) := by decide +kernel
theorem dX11_winters_67 : decode cX11_winters 67 = .ok (.getfield 46, 3) := by decide +kernel
theorem dX11_winters_70 : decode cX11_winters 70 = .ok (.iconst 0, 1) := by decide +kernel
theorem dX11_winters_71 : decode cX11_winters 71 = .ok (.iload 4, 2) := by decide +kernel
theorem dX11_winters_73 : decode cX11_winters 73 = .ok (.invokestatic 302, 3) := by decide +kernel
theorem dX11_winters_76 : decode cX11_winters 76 = .ok (.bipush 100, 2) := by decide +kernel
theorem dX11_winters_78 : decode cX11_winters 78 = .ok (.irem, 1) := by decide +kernel
theorem dX11_winters_79 : decode cX11_winters 79 = .ok (.invokevirtual 154, 3) := by decide +kernel
theorem dX11_winters_82 : decode cX11_winters 82 = .ok (.pop, 1) := by decide +kernel
theorem dX11_winters_83 : decode cX11_winters 83 = .ok (.iload 4, 2) := by decide +kernel
theorem dX11_winters_85 : decode cX11_winters 85 = .ok (.invokestatic 299, 3) := by decide +kernel
theorem dX11_winters_88 : decode cX11_winters 88 = .ok (.istore 4, 2) := by decide +kernel
theorem dX11_winters_90 : decode cX11_winters 90 = .ok (.aload_n 0, 1) := by decide +kernel
theorem dX11_winters_91 : decode cX11_winters 91 = .ok (.getfield 46, 3) := by decide +kernel
theorem dX11_winters_94 : decode cX11_winters 94 = .ok (.iconst 1, 1) := by decide +kernel
theorem dX11_winters_95 : decode cX11_winters 95 = .ok (.iload 4, 2) := by decide +kernel
theorem dX11_winters_97 : decode cX11_winters 97 = .ok (.invokestatic 302, 3) := by decide +kernel
theorem dX11_winters_100 : decode cX11_winters 100 = .ok (.bipush 10, 2) := by decide +kernel
theorem dX11_winters_102 : decode cX11_winters 102 = .ok (.irem, 1) := by decide +kernel
theorem dX11_winters_103 : decode cX11_winters 103 = .ok (.invokevirtual 154, 3) := by decide +kernel
theorem dX11_winters_106 : decode cX11_winters 106 = .ok (.pop, 1) := by decide +kernel
theorem dX11_winters_107 : decode cX11_winters 107 = .ok (.aload_n 0, 1) := by decide +kernel
theorem dX11_winters_108 : decode cX11_winters 108 = .ok (.getfield 46, 3) := by decide +kernel
theorem dX11_winters_111 : decode cX11_winters 111 = .ok (.iconst 0, 1) := by decide +kernel
theorem dX11_winters_112 : decode cX11_winters 112 = .ok (.invokevirtual 158, 3) := by decide +kernel
theorem dX11_winters_115 : decode cX11_winters 115 = .ok (.istore 8, 2) := by decide +kernel
theorem dX11_winters_117 : decode cX11_winters 117 = .ok (.iload 5, 2) := by decide +kernel
theorem dX11_winters_119 : decode cX11_winters 119 = .ok (.iload 8, 2) := by decide +kernel
theorem dX11_winters_121 : decode cX11_winters 121 = .ok (.ifCond .le 7, 3) := by decide +kernel
theorem dX11_winters_124 : decode cX11_winters 124 = .ok (.iconst 1, 1) := by decide +kernel
theorem dX11_winters_125 : decode cX11_winters 125 = .ok (.goto 4, 3) := by decide +kernel
theorem dX11_winters_128 : decode cX11_winters 128 = .ok (.iconst 0, 1) := by decide +kernel
theorem dX11_winters_129 : decode cX11_winters 129 = .ok (.iadd, 1) := by decide +kernel
theorem dX11_winters_130 : decode cX11_winters 130 = .ok (.istore 5, 2) := by decide +kernel
theorem dX11_winters_132 : decode cX11_winters 132 = .ok (.iload 6, 2) := by decide +kernel
theorem dX11_winters_134 : decode cX11_winters 134 = .ok (.iload 8, 2) := by decide +kernel
theorem dX11_winters_136 : decode cX11_winters 136 = .ok (.iadd, 1) := by decide +kernel
theorem dX11_winters_137 : decode cX11_winters 137 = .ok (.istore 6, 2) := by decide +kernel
theorem dX11_winters_139 : decode cX11_winters 139 = .ok (.aload_n 0, 1) := by decide +kernel
theorem dX11_winters_140 : decode cX11_winters 140 = .ok (.getfield 46, 3) := by decide +kernel
theorem dX11_winters_143 : decode cX11_winters 143 = .ok (.invokevirtual 296, 3) := by decide +kernel
theorem dX11_winters_146 : decode cX11_winters 146 = .ok (.iinc 7 1, 3) := by decide +kernel
theorem dX11_winters_149 : decode cX11_winters 149 = .ok (.goto (-118), 3) := by decide +kernel
theorem dX11_winters_152 : decode cX11_winters 152 = .ok (.iload_n 3, 1) := by decide +kernel
theorem dX11_winters_153 : decode cX11_winters 153 = .ok (.ifCond .ne 8, 3) := by decide +kernel
theorem dX11_winters_156 : decode cX11_winters 156 = .ok (.iload 5, 2) := by decide +kernel
theorem dX11_winters_158 : decode cX11_winters 158 = .ok (.goto 5, 3) := by decide +kernel
theorem dX11_winters_161 : decode cX11_winters 161 = .ok (.iload 6, 2) := by decide +kernel
theorem dX11_winters_163 : decode cX11_winters 163 = .ok (.ireturn, 1) := by decide +kernel
theorem dX11_nextSeed_0 : decode cX11_nextSeed 0 = .ok (.iload_n 0, 1) := by decide +kernel
theorem dX11_nextSeed_1 : decode cX11_nextSeed 1 = .ok (.ldc_w 305, 3) := by decide +kernel
theorem dX11_nextSeed_4 : decode cX11_nextSeed 4 = .ok (.imul, 1) := by decide +kernel
theorem dX11_nextSeed_5 : decode cX11_nextSeed 5 = .ok (.sipush 12345, 3) := by decide +kernel
theorem dX11_nextSeed_8 : decode cX11_nextSeed 8 = .ok (.iadd, 1) := by decide +kernel
theorem dX11_nextSeed_9 : decode cX11_nextSeed 9 = .ok (.ireturn, 1) := by decide +kernel
theorem dX11_drawn_0 : decode cX11_drawn 0 = .ok (.iload_n 0, 1) := by decide +kernel
theorem dX11_drawn_1 : decode cX11_drawn 1 = .ok (.ldc_w 306, 3) := by decide +kernel
theorem dX11_drawn_4 : decode cX11_drawn 4 = .ok (.iand, 1) := by decide +kernel
theorem dX11_drawn_5 : decode cX11_drawn 5 = .ok (.bipush 16, 2) := by decide +kernel
theorem dX11_drawn_7 : decode cX11_drawn 7 = .ok (.ishr, 1) := by decide +kernel
theorem dX11_drawn_8 : decode cX11_drawn 8 = .ok (.ireturn, 1) := by decide +kernel
theorem dX11_image_0 : decode cX11_image 0 = .ok (.aload_n 0, 1) := by decide +kernel
theorem dX11_image_1 : decode cX11_image 1 = .ok (.getfield 49, 3) := by decide +kernel
theorem dX11_image_4 : decode cX11_image 4 = .ok (.aload_n 0, 1) := by decide +kernel
theorem dX11_image_5 : decode cX11_image 5 = .ok (.getfield 42, 3) := by decide +kernel
theorem dX11_image_8 : decode cX11_image 8 = .ok (.invokevirtual 84, 3) := by decide +kernel
theorem dX11_image_11 : decode cX11_image 11 = .ok (.aload_n 0, 1) := by decide +kernel
theorem dX11_image_12 : decode cX11_image 12 = .ok (.iconst 1, 1) := by decide +kernel
theorem dX11_image_13 : decode cX11_image 13 = .ok (.putfield 52, 3) := by decide +kernel
theorem dX11_image_16 : decode cX11_image 16 = .ok (.aload_n 0, 1) := by decide +kernel
theorem dX11_image_17 : decode cX11_image 17 = .ok (.getfield 42, 3) := by decide +kernel
theorem dX11_image_20 : decode cX11_image 20 = .ok (.getfield 307, 3) := by decide +kernel
theorem dX11_image_23 : decode cX11_image 23 = .ok (.ireturn, 1) := by decide +kernel
theorem dX11_restore_0 : decode cX11_restore 0 = .ok (.aload_n 0, 1) := by decide +kernel
theorem dX11_restore_1 : decode cX11_restore 1 = .ok (.getfield 52, 3) := by decide +kernel
theorem dX11_restore_4 : decode cX11_restore 4 = .ok (.ifCond .ne 6, 3) := by decide +kernel
theorem dX11_restore_7 : decode cX11_restore 7 = .ok (.bipush (-3), 2) := by decide +kernel
theorem dX11_restore_9 : decode cX11_restore 9 = .ok (.ireturn, 1) := by decide +kernel
theorem dX11_restore_10 : decode cX11_restore 10 = .ok (.aload_n 0, 1) := by decide +kernel
theorem dX11_restore_11 : decode cX11_restore 11 = .ok (.getfield 42, 3) := by decide +kernel
theorem dX11_restore_14 : decode cX11_restore 14 = .ok (.aload_n 0, 1) := by decide +kernel
theorem dX11_restore_15 : decode cX11_restore 15 = .ok (.getfield 49, 3) := by decide +kernel
theorem dX11_restore_18 : decode cX11_restore 18 = .ok (.invokevirtual 84, 3) := by decide +kernel
theorem dX11_restore_21 : decode cX11_restore 21 = .ok (.aload_n 0, 1) := by decide +kernel
theorem dX11_restore_22 : decode cX11_restore 22 = .ok (.getfield 42, 3) := by decide +kernel
theorem dX11_restore_25 : decode cX11_restore 25 = .ok (.getfield 307, 3) := by decide +kernel
theorem dX11_restore_28 : decode cX11_restore 28 = .ok (.ireturn, 1) := by decide +kernel
theorem dX11_count_0 : decode cX11_count 0 = .ok (.iload_n 1, 1) := by decide +kernel
theorem dX11_count_1 : decode cX11_count 1 = .ok (.tableswitch 119 0 7 #[47, 55, 63, 73, 83, 93, 103, 111], 47) := by decide +kernel
theorem dX11_count_48 : decode cX11_count 48 = .ok (.aload_n 0, 1) := by decide +kernel
theorem dX11_count_49 : decode cX11_count 49 = .ok (.getfield 42, 3) := by decide +kernel
theorem dX11_count_52 : decode cX11_count 52 = .ok (.getfield 203, 3) := by decide +kernel
theorem dX11_count_55 : decode cX11_count 55 = .ok (.ireturn, 1) := by decide +kernel
theorem dX11_count_56 : decode cX11_count 56 = .ok (.aload_n 0, 1) := by decide +kernel
theorem dX11_count_57 : decode cX11_count 57 = .ok (.getfield 42, 3) := by decide +kernel
theorem dX11_count_60 : decode cX11_count 60 = .ok (.getfield 307, 3) := by decide +kernel
theorem dX11_count_63 : decode cX11_count 63 = .ok (.ireturn, 1) := by decide +kernel
theorem dX11_count_64 : decode cX11_count 64 = .ok (.aload_n 0, 1) := by decide +kernel
theorem dX11_count_65 : decode cX11_count 65 = .ok (.getfield 42, 3) := by decide +kernel
theorem dX11_count_68 : decode cX11_count 68 = .ok (.getfield 182, 3) := by decide +kernel
theorem dX11_count_71 : decode cX11_count 71 = .ok (.iconst 0, 1) := by decide +kernel
theorem dX11_count_72 : decode cX11_count 72 = .ok (.iaload, 1) := by decide +kernel
theorem dX11_count_73 : decode cX11_count 73 = .ok (.ireturn, 1) := by decide +kernel
theorem dX11_count_74 : decode cX11_count 74 = .ok (.aload_n 0, 1) := by decide +kernel
theorem dX11_count_75 : decode cX11_count 75 = .ok (.getfield 42, 3) := by decide +kernel
theorem dX11_count_78 : decode cX11_count 78 = .ok (.getfield 182, 3) := by decide +kernel
theorem dX11_count_81 : decode cX11_count 81 = .ok (.iconst 1, 1) := by decide +kernel
theorem dX11_count_82 : decode cX11_count 82 = .ok (.iaload, 1) := by decide +kernel
theorem dX11_count_83 : decode cX11_count 83 = .ok (.ireturn, 1) := by decide +kernel
theorem dX11_count_84 : decode cX11_count 84 = .ok (.aload_n 0, 1) := by decide +kernel
theorem dX11_count_85 : decode cX11_count 85 = .ok (.getfield 42, 3) := by decide +kernel
theorem dX11_count_88 : decode cX11_count 88 = .ok (.getfield 182, 3) := by decide +kernel
theorem dX11_count_91 : decode cX11_count 91 = .ok (.iconst 2, 1) := by decide +kernel
theorem dX11_count_92 : decode cX11_count 92 = .ok (.iaload, 1) := by decide +kernel
theorem dX11_count_93 : decode cX11_count 93 = .ok (.ireturn, 1) := by decide +kernel
theorem dX11_count_94 : decode cX11_count 94 = .ok (.aload_n 0, 1) := by decide +kernel
theorem dX11_count_95 : decode cX11_count 95 = .ok (.getfield 42, 3) := by decide +kernel
theorem dX11_count_98 : decode cX11_count 98 = .ok (.getfield 182, 3) := by decide +kernel
theorem dX11_count_101 : decode cX11_count 101 = .ok (.iconst 3, 1) := by decide +kernel
theorem dX11_count_102 : decode cX11_count 102 = .ok (.iaload, 1) := by decide +kernel
theorem dX11_count_103 : decode cX11_count 103 = .ok (.ireturn, 1) := by decide +kernel
theorem dX11_count_104 : decode cX11_count 104 = .ok (.aload_n 0, 1) := by decide +kernel
theorem dX11_count_105 : decode cX11_count 105 = .ok (.getfield 42, 3) := by decide +kernel
theorem dX11_count_108 : decode cX11_count 108 = .ok (.invokevirtual 281, 3) := by decide +kernel
theorem dX11_count_111 : decode cX11_count 111 = .ok (.ireturn, 1) := by decide +kernel
theorem dX11_count_112 : decode cX11_count 112 = .ok (.aload_n 0, 1) := by decide +kernel
theorem dX11_count_113 : decode cX11_count 113 = .ok (.getfield 42, 3) := by decide +kernel
theorem dX11_count_116 : decode cX11_count 116 = .ok (.invokevirtual 310, 3) := by decide +kernel
theorem dX11_count_119 : decode cX11_count 119 = .ok (.ireturn, 1) := by decide +kernel
theorem dX11_count_120 : decode cX11_count 120 = .ok (.iconst (-1), 1) := by decide +kernel
theorem dX11_count_121 : decode cX11_count 121 = .ok (.ireturn, 1) := by decide +kernel
theorem dX11_keep_0 : decode cX11_keep 0 = .ok (.iload_n 1, 1) := by decide +kernel
theorem dX11_keep_1 : decode cX11_keep 1 = .ok (.invokestatic 120, 3) := by decide +kernel
theorem dX11_keep_4 : decode cX11_keep 4 = .ok (.ifCond .eq 10, 3) := by decide +kernel
theorem dX11_keep_7 : decode cX11_keep 7 = .ok (.iload_n 2, 1) := by decide +kernel
theorem dX11_keep_8 : decode cX11_keep 8 = .ok (.invokestatic 173, 3) := by decide +kernel
theorem dX11_keep_11 : decode cX11_keep 11 = .ok (.ifCond .ne 5, 3) := by decide +kernel
theorem dX11_keep_14 : decode cX11_keep 14 = .ok (.iconst (-1), 1) := by decide +kernel
theorem dX11_keep_15 : decode cX11_keep 15 = .ok (.ireturn, 1) := by decide +kernel
theorem dX11_keep_16 : decode cX11_keep 16 = .ok (.iload_n 2, 1) := by decide +kernel
theorem dX11_keep_17 : decode cX11_keep 17 = .ok (.ifCond .ne 14, 3) := by decide +kernel
theorem dX11_keep_20 : decode cX11_keep 20 = .ok (.aload_n 0, 1) := by decide +kernel
theorem dX11_keep_21 : decode cX11_keep 21 = .ok (.getfield 58, 3) := by decide +kernel
theorem dX11_keep_24 : decode cX11_keep 24 = .ok (.iload_n 1, 1) := by decide +kernel
theorem dX11_keep_25 : decode cX11_keep 25 = .ok (.aaload, 1) := by decide +kernel
theorem dX11_keep_26 : decode cX11_keep 26 = .ok (.invokevirtual 313, 3) := by decide +kernel
theorem dX11_keep_29 : decode cX11_keep 29 = .ok (.iconst 0, 1) := by decide +kernel
theorem dX11_keep_30 : decode cX11_keep 30 = .ok (.ireturn, 1) := by decide +kernel
theorem dX11_keep_31 : decode cX11_keep 31 = .ok (.iload_n 3, 1) := by decide +kernel
theorem dX11_keep_32 : decode cX11_keep 32 = .ok (.iconst 0, 1) := by decide +kernel
theorem dX11_keep_33 : decode cX11_keep 33 = .ok (.bipush 7, 2) := by decide +kernel
theorem dX11_keep_35 : decode cX11_keep 35 = .ok (.invokestatic 126, 3) := by decide +kernel
theorem dX11_keep_38 : decode cX11_keep 38 = .ok (.ifCond .eq 14, 3) := by decide +kernel
theorem dX11_keep_41 : decode cX11_keep 41 = .ok (.iload 4, 2) := by decide +kernel
theorem dX11_keep_43 : decode cX11_keep 43 = .ok (.iconst 0, 1) := by decide +kernel
theorem dX11_keep_44 : decode cX11_keep 44 = .ok (.bipush 9, 2) := by decide +kernel
theorem dX11_keep_46 : decode cX11_keep 46 = .ok (.invokestatic 126, 3) := by decide +kernel
theorem dX11_keep_49 : decode cX11_keep 49 = .ok (.ifCond .ne 5, 3) := by decide +kernel
theorem dX11_keep_52 : decode cX11_keep 52 = .ok (.iconst (-1), 1) := by decide +kernel
theorem dX11_keep_53 : decode cX11_keep 53 = .ok (.ireturn, 1) := by decide +kernel
theorem dX11_keep_54 : decode cX11_keep 54 = .ok (.aload_n 0, 1) := by decide +kernel
theorem dX11_keep_55 : decode cX11_keep 55 = .ok (.getfield 58, 3) := by decide +kernel
theorem dX11_keep_58 : decode cX11_keep 58 = .ok (.iload_n 1, 1) := by decide +kernel
theorem dX11_keep_59 : decode cX11_keep 59 = .ok (.aaload, 1) := by decide +kernel
theorem dX11_keep_60 : decode cX11_keep 60 = .ok (.iload_n 3, 1) := by decide +kernel
theorem dX11_keep_61 : decode cX11_keep 61 = .ok (.iload 4, 2) := by decide +kernel
theorem dX11_keep_63 : decode cX11_keep 63 = .ok (.invokevirtual 316, 3) := by decide +kernel
theorem dX11_keep_66 : decode cX11_keep 66 = .ok (.iconst 0, 1) := by decide +kernel
theorem dX11_keep_67 : decode cX11_keep 67 = .ok (.ireturn, 1) := by decide +kernel
theorem dX11_row_0 : decode cX11_row 0 = .ok (.iload_n 1, 1) := by decide +kernel
theorem dX11_row_1 : decode cX11_row 1 = .ok (.invokestatic 120, 3) := by decide +kernel
theorem dX11_row_4 : decode cX11_row 4 = .ok (.ifCond .eq 18, 3) := by decide +kernel
theorem dX11_row_7 : decode cX11_row 7 = .ok (.iload_n 2, 1) := by decide +kernel
theorem dX11_row_8 : decode cX11_row 8 = .ok (.iconst 0, 1) := by decide +kernel
theorem dX11_row_9 : decode cX11_row 9 = .ok (.iconst 2, 1) := by decide +kernel
theorem dX11_row_10 : decode cX11_row 10 = .ok (.invokestatic 126, 3) := by decide +kernel
theorem dX11_row_13 : decode cX11_row 13 = .ok (.ifCond .eq 9, 3) := by decide +kernel
theorem dX11_row_16 : decode cX11_row 16 = .ok (.iload_n 3, 1) := by decide +kernel
theorem dX11_row_17 : decode cX11_row 17 = .ok (.bipush 100, 2) := by decide +kernel
theorem dX11_row_19 : decode cX11_row 19 = .ok (.if_icmp .le 5, 3) := by decide +kernel
theorem dX11_row_22 : decode cX11_row 22 = .ok (.iconst (-1), 1) := by decide +kernel
theorem dX11_row_23 : decode cX11_row 23 = .ok (.ireturn, 1) := by decide +kernel
theorem dX11_row_24 : decode cX11_row 24 = .ok (.iload_n 3, 1) := by decide +kernel
theorem dX11_row_25 : decode cX11_row 25 = .ok (.ifCond .ge 6, 3) := by decide +kernel
theorem dX11_row_28 : decode cX11_row 28 = .ok (.bipush (-14), 2) := by decide +kernel
theorem dX11_row_30 : decode cX11_row 30 = .ok (.ireturn, 1) := by decide +kernel
theorem dX11_row_31 : decode cX11_row 31 = .ok (.aload_n 0, 1) := by decide +kernel
theorem dX11_row_32 : decode cX11_row 32 = .ok (.getfield 58, 3) := by decide +kernel
theorem dX11_row_35 : decode cX11_row 35 = .ok (.iload_n 1, 1) := by decide +kernel
theorem dX11_row_36 : decode cX11_row 36 = .ok (.aaload, 1) := by decide +kernel
theorem dX11_row_37 : decode cX11_row 37 = .ok (.iload_n 2, 1) := by decide +kernel
theorem dX11_row_38 : decode cX11_row 38 = .ok (.iload_n 3, 1) := by decide +kernel
theorem dX11_row_39 : decode cX11_row 39 = .ok (.invokevirtual 320, 3) := by decide +kernel
theorem dX11_row_42 : decode cX11_row 42 = .ok (.iconst 0, 1) := by decide +kernel
theorem dX11_row_43 : decode cX11_row 43 = .ok (.ireturn, 1) := by decide +kernel
theorem dX11_put_0 : decode cX11_put 0 = .ok (.aload_n 0, 1) := by decide +kernel
theorem dX11_put_1 : decode cX11_put 1 = .ok (.iload_n 1, 1) := by decide +kernel
theorem dX11_put_2 : decode cX11_put 2 = .ok (.invokevirtual 70, 3) := by decide +kernel
theorem dX11_put_5 : decode cX11_put 5 = .ok (.istore 4, 2) := by decide +kernel
theorem dX11_put_7 : decode cX11_put 7 = .ok (.iload 4, 2) := by decide +kernel
theorem dX11_put_9 : decode cX11_put 9 = .ok (.ifCond .eq 6, 3) := by decide +kernel
theorem dX11_put_12 : decode cX11_put 12 = .ok (.iload 4, 2) := by decide +kernel
theorem dX11_put_14 : decode cX11_put 14 = .ok (.ireturn, 1) := by decide +kernel
theorem dX11_put_15 : decode cX11_put 15 = .ok (.aload_n 0, 1) := by decide +kernel
theorem dX11_put_16 : decode cX11_put 16 = .ok (.getfield 58, 3) := by decide +kernel
theorem dX11_put_19 : decode cX11_put 19 = .ok (.iload_n 1, 1) := by decide +kernel
theorem dX11_put_20 : decode cX11_put 20 = .ok (.aaload, 1) := by decide +kernel
theorem dX11_put_21 : decode cX11_put 21 = .ok (.iload_n 2, 1) := by decide +kernel
theorem dX11_put_22 : decode cX11_put 22 = .ok (.invokevirtual 323, 3) := by decide +kernel
theorem dX11_put_25 : decode cX11_put 25 = .ok (.ifCond .ne 6, 3) := by decide +kernel
theorem dX11_put_28 : decode cX11_put 28 = .ok (.bipush (-13), 2) := by decide +kernel
theorem dX11_put_30 : decode cX11_put 30 = .ok (.ireturn, 1) := by decide +kernel
theorem dX11_put_31 : decode cX11_put 31 = .ok (.aload_n 0, 1) := by decide +kernel
theorem dX11_put_32 : decode cX11_put 32 = .ok (.getfield 58, 3) := by decide +kernel
theorem dX11_put_35 : decode cX11_put 35 = .ok (.iload_n 1, 1) := by decide +kernel
theorem dX11_put_36 : decode cX11_put 36 = .ok (.aaload, 1) := by decide +kernel
theorem dX11_put_37 : decode cX11_put 37 = .ok (.iload_n 2, 1) := by decide +kernel
theorem dX11_put_38 : decode cX11_put 38 = .ok (.iload_n 3, 1) := by decide +kernel
theorem dX11_put_39 : decode cX11_put 39 = .ok (.invokevirtual 326, 3) := by decide +kernel
theorem dX11_put_42 : decode cX11_put 42 = .ok (.iconst 0, 1) := by decide +kernel
theorem dX11_put_43 : decode cX11_put 43 = .ok (.ireturn, 1) := by decide +kernel
theorem dX11_element_0 : decode cX11_element 0 = .ok (.iload_n 1, 1) := by decide +kernel
theorem dX11_element_1 : decode cX11_element 1 = .ok (.invokestatic 120, 3) := by decide +kernel
theorem dX11_element_4 : decode cX11_element 4 = .ok (.ifCond .ne 14, 3) := by decide +kernel
theorem dX11_element_7 : decode cX11_element 7 = .ok (.new 329, 3) := by decide +kernel
theorem dX11_element_10 : decode cX11_element 10 = .ok (.dup, 1) := by decide +kernel
theorem dX11_element_11 : decode cX11_element 11 = .ok (.ldc_w 331, 3) := by decide +kernel
theorem dX11_element_14 : decode cX11_element 14 = .ok (.invokespecial 333, 3) := by decide +kernel
theorem dX11_element_17 : decode cX11_element 17 = .ok (.athrow, 1) := by decide +kernel
theorem dX11_element_18 : decode cX11_element 18 = .ok (.aload_n 0, 1) := by decide +kernel
theorem dX11_element_19 : decode cX11_element 19 = .ok (.getfield 58, 3) := by decide +kernel
theorem dX11_element_22 : decode cX11_element 22 = .ok (.iload_n 1, 1) := by decide +kernel
theorem dX11_element_23 : decode cX11_element 23 = .ok (.aaload, 1) := by decide +kernel
theorem dX11_element_24 : decode cX11_element 24 = .ok (.invokevirtual 336, 3) := by decide +kernel
theorem dX11_element_27 : decode cX11_element 27 = .ok (.ifCond .ne 16, 3) := by decide +kernel
theorem dX11_element_30 : decode cX11_element 30 = .ok (.aload_n 0, 1) := by decide +kernel
theorem dX11_element_31 : decode cX11_element 31 = .ok (.getfield 58, 3) := by decide +kernel
theorem dX11_element_34 : decode cX11_element 34 = .ok (.iload_n 1, 1) := by decide +kernel
theorem dX11_element_35 : decode cX11_element 35 = .ok (.aaload, 1) := by decide +kernel
theorem dX11_element_36 : decode cX11_element 36 = .ok (.iload_n 2, 1) := by decide +kernel
theorem dX11_element_37 : decode cX11_element 37 = .ok (.invokevirtual 323, 3) := by decide +kernel
theorem dX11_element_40 : decode cX11_element 40 = .ok (.ifCond .ne 14, 3) := by decide +kernel
theorem dX11_element_43 : decode cX11_element 43 = .ok (.new 339, 3) := by decide +kernel
theorem dX11_element_46 : decode cX11_element 46 = .ok (.dup, 1) := by decide +kernel
theorem dX11_element_47 : decode cX11_element 47 = .ok (.ldc_w 341, 3) := by decide +kernel
theorem dX11_element_50 : decode cX11_element 50 = .ok (.invokespecial 343, 3) := by decide +kernel
theorem dX11_element_53 : decode cX11_element 53 = .ok (.athrow, 1) := by decide +kernel
theorem dX11_element_54 : decode cX11_element 54 = .ok (.aload_n 0, 1) := by decide +kernel
theorem dX11_element_55 : decode cX11_element 55 = .ok (.getfield 58, 3) := by decide +kernel
theorem dX11_element_58 : decode cX11_element 58 = .ok (.iload_n 1, 1) := by decide +kernel
theorem dX11_element_59 : decode cX11_element 59 = .ok (.aaload, 1) := by decide +kernel
theorem dX11_element_60 : decode cX11_element 60 = .ok (.getfield 262, 3) := by decide +kernel
theorem dX11_element_63 : decode cX11_element 63 = .ok (.iload_n 2, 1) := by decide +kernel
theorem dX11_element_64 : decode cX11_element 64 = .ok (.iaload, 1) := by decide +kernel
theorem dX11_element_65 : decode cX11_element 65 = .ok (.i2l, 1) := by decide +kernel
theorem dX11_element_66 : decode cX11_element 66 = .ok (.lreturn, 1) := by decide +kernel
theorem dX11_copy_0 : decode cX11_copy 0 = .ok (.iload_n 1, 1) := by decide +kernel
theorem dX11_copy_1 : decode cX11_copy 1 = .ok (.invokestatic 120, 3) := by decide +kernel
theorem dX11_copy_4 : decode cX11_copy 4 = .ok (.ifCond .eq 10, 3) := by decide +kernel
theorem dX11_copy_7 : decode cX11_copy 7 = .ok (.iload_n 3, 1) := by decide +kernel
theorem dX11_copy_8 : decode cX11_copy 8 = .ok (.invokestatic 120, 3) := by decide +kernel
theorem dX11_copy_11 : decode cX11_copy 11 = .ok (.ifCond .ne 5, 3) := by decide +kernel
theorem dX11_copy_14 : decode cX11_copy 14 = .ok (.iconst (-1), 1) := by decide +kernel
theorem dX11_copy_15 : decode cX11_copy 15 = .ok (.ireturn, 1) := by decide +kernel
theorem dX11_copy_16 : decode cX11_copy 16 = .ok (.aload_n 0, 1) := by decide +kernel
theorem dX11_copy_17 : decode cX11_copy 17 = .ok (.getfield 58, 3) := by decide +kernel
theorem dX11_copy_20 : decode cX11_copy 20 = .ok (.iload_n 1, 1) := by decide +kernel
theorem dX11_copy_21 : decode cX11_copy 21 = .ok (.aaload, 1) := by decide +kernel
theorem dX11_copy_22 : decode cX11_copy 22 = .ok (.astore 6, 2) := by decide +kernel
theorem dX11_copy_24 : decode cX11_copy 24 = .ok (.aload_n 0, 1) := by decide +kernel
theorem dX11_copy_25 : decode cX11_copy 25 = .ok (.getfield 58, 3) := by decide +kernel
theorem dX11_copy_28 : decode cX11_copy 28 = .ok (.iload_n 3, 1) := by decide +kernel
theorem dX11_copy_29 : decode cX11_copy 29 = .ok (.aaload, 1) := by decide +kernel
theorem dX11_copy_30 : decode cX11_copy 30 = .ok (.astore 7, 2) := by decide +kernel
theorem dX11_copy_32 : decode cX11_copy 32 = .ok (.aload 6, 2) := by decide +kernel
theorem dX11_copy_34 : decode cX11_copy 34 = .ok (.invokevirtual 344, 3) := by decide +kernel
theorem dX11_copy_37 : decode cX11_copy 37 = .ok (.ifCond .ne 11, 3) := by decide +kernel
theorem dX11_copy_40 : decode cX11_copy 40 = .ok (.aload 7, 2) := by decide +kernel
theorem dX11_copy_42 : decode cX11_copy 42 = .ok (.invokevirtual 344, 3) := by decide +kernel
theorem dX11_copy_45 : decode cX11_copy 45 = .ok (.ifCond .eq 6, 3) := by decide +kernel
theorem dX11_copy_48 : decode cX11_copy 48 = .ok (.bipush (-11), 2) := by decide +kernel
theorem dX11_copy_50 : decode cX11_copy 50 = .ok (.ireturn, 1) := by decide +kernel
theorem dX11_copy_51 : decode cX11_copy 51 = .ok (.aload 6, 2) := by decide +kernel
theorem dX11_copy_53 : decode cX11_copy 53 = .ok (.invokevirtual 336, 3) := by decide +kernel
theorem dX11_copy_56 : decode cX11_copy 56 = .ok (.ifCond .ne 24, 3) := by decide +kernel
theorem dX11_copy_59 : decode cX11_copy 59 = .ok (.aload 7, 2) := by decide +kernel
theorem dX11_copy_61 : decode cX11_copy 61 = .ok (.invokevirtual 336, 3) := by decide +kernel
theorem dX11_copy_64 : decode cX11_copy 64 = .ok (.ifCond .ne 16, 3) := by decide +kernel
theorem dX11_copy_67 : decode cX11_copy 67 = .ok (.aload 6, 2) := by decide +kernel
theorem dX11_copy_69 : decode cX11_copy 69 = .ok (.getfield 74, 3) := by decide +kernel
theorem dX11_copy_72 : decode cX11_copy 72 = .ok (.aload 7, 2) := by decide +kernel
theorem dX11_copy_74 : decode cX11_copy 74 = .ok (.getfield 74, 3) := by decide +kernel
theorem dX11_copy_77 : decode cX11_copy 77 = .ok (.if_icmp .eq 6, 3) := by decide +kernel
theorem dX11_copy_80 : decode cX11_copy 80 = .ok (.bipush (-12), 2) := by decide +kernel
theorem dX11_copy_82 : decode cX11_copy 82 = .ok (.ireturn, 1) := by decide +kernel
theorem dX11_copy_83 : decode cX11_copy 83 = .ok (.aload 6, 2) := by decide +kernel
theorem dX11_copy_85 : decode cX11_copy 85 = .ok (.iload_n 2, 1) := by decide +kernel
theorem dX11_copy_86 : decode cX11_copy 86 = .ok (.iload 5, 2) := by decide +kernel
theorem dX11_copy_88 : decode cX11_copy 88 = .ok (.invokevirtual 347, 3) := by decide +kernel
theorem dX11_copy_91 : decode cX11_copy 91 = .ok (.ifCond .eq 15, 3) := by decide +kernel
theorem dX11_copy_94 : decode cX11_copy 94 = .ok (.aload 7, 2) := by decide +kernel
theorem dX11_copy_96 : decode cX11_copy 96 = .ok (.iload 4, 2) := by decide +kernel
theorem dX11_copy_98 : decode cX11_copy 98 = .ok (.iload 5, 2) := by decide +kernel
theorem dX11_copy_100 : decode cX11_copy 100 = .ok (.invokevirtual 347, 3) := by decide +kernel
theorem dX11_copy_103 : decode cX11_copy 103 = .ok (.ifCond .ne 6, 3) := by decide +kernel
theorem dX11_copy_106 : decode cX11_copy 106 = .ok (.bipush (-13), 2) := by decide +kernel
theorem dX11_copy_108 : decode cX11_copy 108 = .ok (.ireturn, 1) := by decide +kernel
theorem dX11_copy_109 : decode cX11_copy 109 = .ok (.aload 6, 2) := by decide +kernel
theorem dX11_copy_111 : decode cX11_copy 111 = .ok (.getfield 262, 3) := by decide +kernel
theorem dX11_copy_114 : decode cX11_copy 114 = .ok (.iload_n 2, 1) := by decide +kernel
theorem dX11_copy_115 : decode cX11_copy 115 = .ok (.aload 7, 2) := by decide +kernel
theorem dX11_copy_117 : decode cX11_copy 117 = .ok (.getfield 262, 3) := by decide +kernel
theorem dX11_copy_120 : decode cX11_copy 120 = .ok (.iload 4, 2) := by decide +kernel
theorem dX11_copy_122 : decode cX11_copy 122 = .ok (.iload 5, 2) := by decide +kernel
theorem dX11_copy_124 : decode cX11_copy 124 = .ok (.invokestatic 351, 3) := by decide +kernel
theorem dX11_copy_127 : decode cX11_copy 127 = .ok (.iload 5, 2) := by decide +kernel
theorem dX11_copy_129 : decode cX11_copy 129 = .ok (.ireturn, 1) := by decide +kernel
theorem dX11_cost_0 : decode cX11_cost 0 = .ok (.aload_n 0, 1) := by decide +kernel
theorem dX11_cost_1 : decode cX11_cost 1 = .ok (.iload_n 1, 1) := by decide +kernel
theorem dX11_cost_2 : decode cX11_cost 2 = .ok (.invokevirtual 357, 3) := by decide +kernel
theorem dX11_cost_5 : decode cX11_cost 5 = .ok (.istore_n 2, 1) := by decide +kernel
theorem dX11_cost_6 : decode cX11_cost 6 = .ok (.iload_n 2, 1) := by decide +kernel
theorem dX11_cost_7 : decode cX11_cost 7 = .ok (.ifCond .eq 5, 3) := by decide +kernel
theorem dX11_cost_10 : decode cX11_cost 10 = .ok (.iload_n 2, 1) := by decide +kernel
theorem dX11_cost_11 : decode cX11_cost 11 = .ok (.ireturn, 1) := by decide +kernel
theorem dX11_cost_12 : decode cX11_cost 12 = .ok (.aload_n 0, 1) := by decide +kernel
theorem dX11_cost_13 : decode cX11_cost 13 = .ok (.getfield 31, 3) := by decide +kernel
theorem dX11_cost_16 : decode cX11_cost 16 = .ok (.aload_n 0, 1) := by decide +kernel
theorem dX11_cost_17 : decode cX11_cost 17 = .ok (.getfield 58, 3) := by decide +kernel
theorem dX11_cost_20 : decode cX11_cost 20 = .ok (.iload_n 1, 1) := by decide +kernel
theorem dX11_cost_21 : decode cX11_cost 21 = .ok (.aaload, 1) := by decide +kernel
theorem dX11_cost_22 : decode cX11_cost 22 = .ok (.getfield 134, 3) := by decide +kernel
theorem dX11_cost_25 : decode cX11_cost 25 = .ok (.aaload, 1) := by decide +kernel
theorem dX11_cost_26 : decode cX11_cost 26 = .ok (.aload_n 0, 1) := by decide +kernel
theorem dX11_cost_27 : decode cX11_cost 27 = .ok (.getfield 58, 3) := by decide +kernel
theorem dX11_cost_30 : decode cX11_cost 30 = .ok (.iload_n 1, 1) := by decide +kernel
theorem dX11_cost_31 : decode cX11_cost 31 = .ok (.aaload, 1) := by decide +kernel
theorem dX11_cost_32 : decode cX11_cost 32 = .ok (.getfield 136, 3) := by decide +kernel
theorem dX11_cost_35 : decode cX11_cost 35 = .ok (.invokevirtual 360, 3) := by decide +kernel
theorem dX11_cost_38 : decode cX11_cost 38 = .ok (.ireturn, 1) := by decide +kernel
theorem dX11_toss_0 : decode cX11_toss 0 = .ok (.aload_n 0, 1) := by decide +kernel
theorem dX11_toss_1 : decode cX11_toss 1 = .ok (.iload_n 1, 1) := by decide +kernel
theorem dX11_toss_2 : decode cX11_toss 2 = .ok (.invokevirtual 357, 3) := by decide +kernel
theorem dX11_toss_5 : decode cX11_toss 5 = .ok (.istore_n 2, 1) := by decide +kernel
theorem dX11_toss_6 : decode cX11_toss 6 = .ok (.iload_n 2, 1) := by decide +kernel
theorem dX11_toss_7 : decode cX11_toss 7 = .ok (.ifCond .eq 5, 3) := by decide +kernel
theorem dX11_toss_10 : decode cX11_toss 10 = .ok (.iload_n 2, 1) := by decide +kernel
theorem dX11_toss_11 : decode cX11_toss 11 = .ok (.ireturn, 1) := by decide +kernel
theorem dX11_toss_12 : decode cX11_toss 12 = .ok (.aload_n 0, 1) := by decide +kernel
theorem dX11_toss_13 : decode cX11_toss 13 = .ok (.getfield 31, 3) := by decide +kernel
theorem dX11_toss_16 : decode cX11_toss 16 = .ok (.aload_n 0, 1) := by decide +kernel
theorem dX11_toss_17 : decode cX11_toss 17 = .ok (.getfield 58, 3) := by decide +kernel
theorem dX11_toss_20 : decode cX11_toss 20 = .ok (.iload_n 1, 1) := by decide +kernel
theorem dX11_toss_21 : decode cX11_toss 21 = .ok (.aaload, 1) := by decide +kernel
theorem dX11_toss_22 : decode cX11_toss 22 = .ok (.getfield 134, 3) := by decide +kernel
theorem dX11_toss_25 : decode cX11_toss 25 = .ok (.aaload, 1) := by decide +kernel
theorem dX11_toss_26 : decode cX11_toss 26 = .ok (.astore_n 3, 1) := by decide +kernel
theorem dX11_toss_27 : decode cX11_toss 27 = .ok (.aload_n 0, 1) := by decide +kernel
theorem dX11_toss_28 : decode cX11_toss 28 = .ok (.getfield 58, 3) := by decide +kernel
theorem dX11_toss_31 : decode cX11_toss 31 = .ok (.iload_n 1, 1) := by decide +kernel
theorem dX11_toss_32 : decode cX11_toss 32 = .ok (.aaload, 1) := by decide +kernel
theorem dX11_toss_33 : decode cX11_toss 33 = .ok (.getfield 136, 3) := by decide +kernel
theorem dX11_toss_36 : decode cX11_toss 36 = .ok (.istore 4, 2) := by decide +kernel
theorem dX11_toss_38 : decode cX11_toss 38 = .ok (.aload_n 3, 1) := by decide +kernel
theorem dX11_toss_39 : decode cX11_toss 39 = .ok (.iload 4, 2) := by decide +kernel
theorem dX11_toss_41 : decode cX11_toss 41 = .ok (.invokevirtual 363, 3) := by decide +kernel
theorem dX11_toss_44 : decode cX11_toss 44 = .ok (.goto 29, 3) := by decide +kernel
theorem dX11_toss_47 : decode cX11_toss 47 = .ok (.astore 5, 2) := by decide +kernel
theorem dX11_toss_49 : decode cX11_toss 49 = .ok (.sipush 200, 3) := by decide +kernel
theorem dX11_toss_52 : decode cX11_toss 52 = .ok (.aload_n 3, 1) := by decide +kernel
theorem dX11_toss_53 : decode cX11_toss 53 = .ok (.iload 4, 2) := by decide +kernel
theorem dX11_toss_55 : decode cX11_toss 55 = .ok (.invokevirtual 360, 3) := by decide +kernel
theorem dX11_toss_58 : decode cX11_toss 58 = .ok (.iadd, 1) := by decide +kernel
theorem dX11_toss_59 : decode cX11_toss 59 = .ok (.ireturn, 1) := by decide +kernel
theorem dX11_toss_60 : decode cX11_toss 60 = .ok (.astore 5, 2) := by decide +kernel
theorem dX11_toss_62 : decode cX11_toss 62 = .ok (.bipush 100, 2) := by decide +kernel
theorem dX11_toss_64 : decode cX11_toss 64 = .ok (.iload 4, 2) := by decide +kernel
theorem dX11_toss_66 : decode cX11_toss 66 = .ok (.iadd, 1) := by decide +kernel
theorem dX11_toss_67 : decode cX11_toss 67 = .ok (.ireturn, 1) := by decide +kernel
theorem dX11_toss_68 : decode cX11_toss 68 = .ok (.astore 5, 2) := by decide +kernel
theorem dX11_toss_70 : decode cX11_toss 70 = .ok (.iload 4, 2) := by decide +kernel
theorem dX11_toss_72 : decode cX11_toss 72 = .ok (.ireturn, 1) := by decide +kernel
theorem dX11_toss_73 : decode cX11_toss 73 = .ok (.bipush (-15), 2) := by decide +kernel
theorem dX11_toss_75 : decode cX11_toss 75 = .ok (.ireturn, 1) := by decide +kernel
theorem dX11_rowRefusal_0 : decode cX11_rowRefusal 0 = .ok (.iload_n 1, 1) := by decide +kernel
theorem dX11_rowRefusal_1 : decode cX11_rowRefusal 1 = .ok (.invokestatic 120, 3) := by decide +kernel
theorem dX11_rowRefusal_4 : decode cX11_rowRefusal 4 = .ok (.ifCond .eq 15, 3) := by decide +kernel
theorem dX11_rowRefusal_7 : decode cX11_rowRefusal 7 = .ok (.aload_n 0, 1) := by decide +kernel
theorem dX11_rowRefusal_8 : decode cX11_rowRefusal 8 = .ok (.getfield 58, 3) := by decide +kernel
theorem dX11_rowRefusal_11 : decode cX11_rowRefusal 11 = .ok (.iload_n 1, 1) := by decide +kernel
theorem dX11_rowRefusal_12 : decode cX11_rowRefusal 12 = .ok (.aaload, 1) := by decide +kernel
theorem dX11_rowRefusal_13 : decode cX11_rowRefusal 13 = .ok (.invokevirtual 336, 3) := by decide +kernel
theorem dX11_rowRefusal_16 : decode cX11_rowRefusal 16 = .ok (.goto 4, 3) := by decide +kernel
theorem dX11_rowRefusal_19 : decode cX11_rowRefusal 19 = .ok (.iconst (-1), 1) := by decide +kernel
theorem dX11_rowRefusal_20 : decode cX11_rowRefusal 20 = .ok (.ireturn, 1) := by decide +kernel
theorem dX11_kindRefusal_0 : decode cX11_kindRefusal 0 = .ok (.iload_n 1, 1) := by decide +kernel
theorem dX11_kindRefusal_1 : decode cX11_kindRefusal 1 = .ok (.invokestatic 120, 3) := by decide +kernel
theorem dX11_kindRefusal_4 : decode cX11_kindRefusal 4 = .ok (.ifCond .eq 15, 3) := by decide +kernel
theorem dX11_kindRefusal_7 : decode cX11_kindRefusal 7 = .ok (.aload_n 0, 1) := by decide +kernel
theorem dX11_kindRefusal_8 : decode cX11_kindRefusal 8 = .ok (.getfield 58, 3) := by decide +kernel
theorem dX11_kindRefusal_11 : decode cX11_kindRefusal 11 = .ok (.iload_n 1, 1) := by decide +kernel
theorem dX11_kindRefusal_12 : decode cX11_kindRefusal 12 = .ok (.aaload, 1) := by decide +kernel
theorem dX11_kindRefusal_13 : decode cX11_kindRefusal 13 = .ok (.invokevirtual 130, 3) := by decide +kernel
theorem dX11_kindRefusal_16 : decode cX11_kindRefusal 16 = .ok (.goto 4, 3) := by decide +kernel
theorem dX11_kindRefusal_19 : decode cX11_kindRefusal 19 = .ok (.iconst (-1), 1) := by decide +kernel
theorem dX11_kindRefusal_20 : decode cX11_kindRefusal 20 = .ok (.ireturn, 1) := by decide +kernel
theorem dX11_within_0 : decode cX11_within 0 = .ok (.iload_n 0, 1) := by decide +kernel
theorem dX11_within_1 : decode cX11_within 1 = .ok (.iload_n 1, 1) := by decide +kernel
theorem dX11_within_2 : decode cX11_within 2 = .ok (.if_icmp .lt 12, 3) := by decide +kernel
theorem dX11_within_5 : decode cX11_within 5 = .ok (.iload_n 0, 1) := by decide +kernel
theorem dX11_within_6 : decode cX11_within 6 = .ok (.iload_n 2, 1) := by decide +kernel
theorem dX11_within_7 : decode cX11_within 7 = .ok (.if_icmp .gt 7, 3) := by decide +kernel
theorem dX11_within_10 : decode cX11_within 10 = .ok (.iconst 1, 1) := by decide +kernel
theorem dX11_within_11 : decode cX11_within 11 = .ok (.goto 4, 3) := by decide +kernel
theorem dX11_within_14 : decode cX11_within 14 = .ok (.iconst 0, 1) := by decide +kernel
theorem dX11_within_15 : decode cX11_within 15 = .ok (.ireturn, 1) := by decide +kernel
theorem dX11_isEither_0 : decode cX11_isEither 0 = .ok (.iload_n 0, 1) := by decide +kernel
theorem dX11_isEither_1 : decode cX11_isEither 1 = .ok (.iconst 0, 1) := by decide +kernel
theorem dX11_isEither_2 : decode cX11_isEither 2 = .ok (.iconst 1, 1) := by decide +kernel
theorem dX11_isEither_3 : decode cX11_isEither 3 = .ok (.invokestatic 126, 3) := by decide +kernel
theorem dX11_isEither_6 : decode cX11_isEither 6 = .ok (.ireturn, 1) := by decide +kernel
theorem dX11_isShelf_0 : decode cX11_isShelf 0 = .ok (.iload_n 0, 1) := by decide +kernel
theorem dX11_isShelf_1 : decode cX11_isShelf 1 = .ok (.iconst 0, 1) := by decide +kernel
theorem dX11_isShelf_2 : decode cX11_isShelf 2 = .ok (.bipush 7, 2) := by decide +kernel
theorem dX11_isShelf_4 : decode cX11_isShelf 4 = .ok (.invokestatic 126, 3) := by decide +kernel
theorem dX11_isShelf_7 : decode cX11_isShelf 7 = .ok (.ireturn, 1) := by decide +kernel
theorem dX11_isSeat_0 : decode cX11_isSeat 0 = .ok (.iload_n 0, 1) := by decide +kernel
theorem dX11_isSeat_1 : decode cX11_isSeat 1 = .ok (.iconst 0, 1) := by decide +kernel
theorem dX11_isSeat_2 : decode cX11_isSeat 2 = .ok (.iconst 3, 1) := by decide +kernel
theorem dX11_isSeat_3 : decode cX11_isSeat 3 = .ok (.invokestatic 126, 3) := by decide +kernel
theorem dX11_isSeat_6 : decode cX11_isSeat 6 = .ok (.ireturn, 1) := by decide +kernel
theorem dX11_isPace_0 : decode cX11_isPace 0 = .ok (.iload_n 0, 1) := by decide +kernel
theorem dX11_isPace_1 : decode cX11_isPace 1 = .ok (.iconst 0, 1) := by decide +kernel
theorem dX11_isPace_2 : decode cX11_isPace 2 = .ok (.bipush 99, 2) := by decide +kernel
theorem dX11_isPace_4 : decode cX11_isPace 4 = .ok (.invokestatic 126, 3) := by decide +kernel
theorem dX11_isPace_7 : decode cX11_isPace 7 = .ok (.ireturn, 1) := by decide +kernel
theorem dX11_isSetOfParts_0 : decode cX11_isSetOfParts 0 = .ok (.iload_n 1, 1) := by decide +kernel
theorem dX11_isSetOfParts_1 : decode cX11_isSetOfParts 1 = .ok (.iconst 1, 1) := by decide +kernel
theorem dX11_isSetOfParts_2 : decode cX11_isSetOfParts 2 = .ok (.if_icmp .lt 20, 3) := by decide +kernel
theorem dX11_isSetOfParts_5 : decode cX11_isSetOfParts 5 = .ok (.iload_n 1, 1) := by decide +kernel
theorem dX11_isSetOfParts_6 : decode cX11_isSetOfParts 6 = .ok (.iconst 1, 1) := by decide +kernel
theorem dX11_isSetOfParts_7 : decode cX11_isSetOfParts 7 = .ok (.aload_n 0, 1) := by decide +kernel
theorem dX11_isSetOfParts_8 : decode cX11_isSetOfParts 8 = .ok (.getfield 42, 3) := by decide +kernel
theorem dX11_isSetOfParts_11 : decode cX11_isSetOfParts 11 = .ok (.getfield 203, 3) := by decide +kernel
theorem dX11_isSetOfParts_14 : decode cX11_isSetOfParts 14 = .ok (.ishl, 1) := by decide +kernel
theorem dX11_isSetOfParts_15 : decode cX11_isSetOfParts 15 = .ok (.if_icmp .ge 7, 3) := by decide +kernel
theorem dX11_isSetOfParts_18 : decode cX11_isSetOfParts 18 = .ok (.iconst 1, 1) := by decide +kernel
theorem dX11_isSetOfParts_19 : decode cX11_isSetOfParts 19 = .ok (.goto 4, 3) := by decide +kernel
theorem dX11_isSetOfParts_22 : decode cX11_isSetOfParts 22 = .ok (.iconst 0, 1) := by decide +kernel
theorem dX11_isSetOfParts_23 : decode cX11_isSetOfParts 23 = .ok (.ireturn, 1) := by decide +kernel
theorem dX11_ofLongs_0 : decode cX11_ofLongs 0 = .ok (.ldc2_w 368, 3) := by decide +kernel
theorem dX11_ofLongs_3 : decode cX11_ofLongs 3 = .ok (.iload_n 0, 1) := by decide +kernel
theorem dX11_ofLongs_4 : decode cX11_ofLongs 4 = .ok (.i2l, 1) := by decide +kernel
theorem dX11_ofLongs_5 : decode cX11_ofLongs 5 = .ok (.ladd, 1) := by decide +kernel
theorem dX11_ofLongs_6 : decode cX11_ofLongs 6 = .ok (.lreturn, 1) := by decide +kernel
end
section
theorem dX12_init_0 : decode cX12_init 0 = .ok (.aload_n 0, 1) := by decide +kernel
theorem dX12_init_1 : decode cX12_init 1 = .ok (.invokespecial 1, 3) := by decide +kernel
theorem dX12_init_4 : decode cX12_init 4 = .ok (.aload_n 0, 1) := by decide +kernel
theorem dX12_init_5 : decode cX12_init 5 = .ok (.bipush 48, 2) := by decide +kernel
theorem dX12_init_7 : decode cX12_init 7 = .ok (.newarray .int, 2) := by decide +kernel
theorem dX12_init_9 : decode cX12_init 9 = .ok (.putfield 9, 3) := by decide +kernel
theorem dX12_init_12 : decode cX12_init 12 = .ok (.aload_n 0, 1) := by decide +kernel
theorem dX12_init_13 : decode cX12_init 13 = .ok (.bipush 48, 2) := by decide +kernel
theorem dX12_init_15 : decode cX12_init 15 = .ok (.newarray .int, 2) := by decide +kernel
theorem dX12_init_17 : decode cX12_init 17 = .ok (.putfield 13, 3) := by decide +kernel
theorem dX12_init_20 : decode cX12_init 20 = .ok (.aload_n 0, 1) := by decide +kernel
theorem dX12_init_21 : decode cX12_init 21 = .ok (.bipush 48, 2) := by decide +kernel
theorem dX12_init_23 : decode cX12_init 23 = .ok (.newarray .int, 2) := by decide +kernel
theorem dX12_init_25 : decode cX12_init 25 = .ok (.putfield 16, 3) := by decide +kernel
theorem dX12_init_28 : decode cX12_init 28 = .ok (.aload_n 0, 1) := by decide +kernel
theorem dX12_init_29 : decode cX12_init 29 = .ok (.bipush 48, 2) := by decide +kernel
theorem dX12_init_31 : decode cX12_init 31 = .ok (.newarray .int, 2) := by decide +kernel
theorem dX12_init_33 : decode cX12_init 33 = .ok (.putfield 19, 3) := by decide +kernel
theorem dX12_init_36 : decode cX12_init 36 = .ok (.aload_n 0, 1) := by decide +kernel
theorem dX12_init_37 : decode cX12_init 37 = .ok (.iconst 4, 1) := by decide +kernel
theorem dX12_init_38 : decode cX12_init 38 = .ok (.newarray .int, 2) := by decide +kernel
theorem dX12_init_40 : decode cX12_init 40 = .ok (.putfield 22, 3) := by decide +kernel
theorem dX12_init_43 : decode cX12_init 43 = .ok (.aload_n 0, 1) := by decide +kernel
theorem dX12_init_44 : decode cX12_init 44 = .ok (.sipush 128, 3) := by decide +kernel
theorem dX12_init_47 : decode cX12_init 47 = .ok (.newarray .int, 2) := by decide +kernel
theorem dX12_init_49 : decode cX12_init 49 = .ok (.putfield 25, 3) := by decide +kernel
theorem dX12_init_52 : decode cX12_init 52 = .ok (.aload_n 0, 1) := by decide +kernel
theorem dX12_init_53 : decode cX12_init 53 = .ok (.bipush 80, 2) := by decide +kernel
theorem dX12_init_55 : decode cX12_init 55 = .ok (.newarray .int, 2) := by decide +kernel
theorem dX12_init_57 : decode cX12_init 57 = .ok (.putfield 28, 3) := by decide +kernel
theorem dX12_init_60 : decode cX12_init 60 = .ok (.aload_n 0, 1) := by decide +kernel
theorem dX12_init_61 : decode cX12_init 61 = .ok (.bipush 8, 2) := by decide +kernel
theorem dX12_init_63 : decode cX12_init 63 = .ok (.newarray .int, 2) := by decide +kernel
theorem dX12_init_65 : decode cX12_init 65 = .ok (.putfield 31, 3) := by decide +kernel
theorem dX12_init_68 : decode cX12_init 68 = .ok (.aload_n 0, 1) := by decide +kernel
theorem dX12_init_69 : decode cX12_init 69 = .ok (.bipush 8, 2) := by decide +kernel
theorem dX12_init_71 : decode cX12_init 71 = .ok (.newarray .int, 2) := by decide +kernel
theorem dX12_init_73 : decode cX12_init 73 = .ok (.putfield 34, 3) := by decide +kernel
theorem dX12_init_76 : decode cX12_init 76 = .ok (.aload_n 0, 1) := by decide +kernel
theorem dX12_init_77 : decode cX12_init 77 = .ok (.bipush 8, 2) := by decide +kernel
theorem dX12_init_79 : decode cX12_init 79 = .ok (.newarray .int, 2) := by decide +kernel
theorem dX12_init_81 : decode cX12_init 81 = .ok (.putfield 37, 3) := by decide +kernel
theorem dX12_init_84 : decode cX12_init 84 = .ok (.aload_n 0, 1) := by decide +kernel
theorem dX12_init_85 : decode cX12_init 85 = .ok (.bipush 8, 2) := by decide +kernel
theorem dX12_init_87 : decode cX12_init 87 = .ok (.newarray .int, 2) := by decide +kernel
theorem dX12_init_89 : decode cX12_init 89 = .ok (.putfield 40, 3) := by decide +kernel
theorem dX12_init_92 : decode cX12_init 92 = .ok (.aload_n 0, 1) := by decide +kernel
theorem dX12_init_93 : decode cX12_init 93 = .ok (.bipush 8, 2) := by decide +kernel
theorem dX12_init_95 : decode cX12_init 95 = .ok (.newarray .int, 2) := by decide +kernel
theorem dX12_init_97 : decode cX12_init 97 = .ok (.putfield 43, 3) := by decide +kernel
theorem dX12_init_100 : decode cX12_init 100 = .ok (.aload_n 0, 1) := by decide +kernel
theorem dX12_init_101 : decode cX12_init 101 = .ok (.sipush 800, 3) := by decide +kernel
theorem dX12_init_104 : decode cX12_init 104 = .ok (.newarray .int, 2) := by decide +kernel
theorem dX12_init_106 : decode cX12_init 106 = .ok (.putfield 46, 3) := by decide +kernel
theorem dX12_init_109 : decode cX12_init 109 = .ok (.aload_n 0, 1) := by decide +kernel
theorem dX12_init_110 : decode cX12_init 110 = .ok (.getfield 9, 3) := by decide +kernel
theorem dX12_init_113 : decode cX12_init 113 = .ok (.iconst 2, 1) := by decide +kernel
theorem dX12_init_114 : decode cX12_init 114 = .ok (.bipush 50, 2) := by decide +kernel
theorem dX12_init_116 : decode cX12_init 116 = .ok (.iastore, 1) := by decide +kernel
theorem dX12_init_117 : decode cX12_init 117 = .ok (.aload_n 0, 1) := by decide +kernel
theorem dX12_init_118 : decode cX12_init 118 = .ok (.getfield 9, 3) := by decide +kernel
theorem dX12_init_121 : decode cX12_init 121 = .ok (.iconst 3, 1) := by decide +kernel
theorem dX12_init_122 : decode cX12_init 122 = .ok (.iconst 5, 1) := by decide +kernel
theorem dX12_init_123 : decode cX12_init 123 = .ok (.iastore, 1) := by decide +kernel
theorem dX12_init_124 : decode cX12_init 124 = .ok (.return_, 1) := by decide +kernel
theorem dX12_isIn_0 : decode cX12_isIn 0 = .ok (.iload_n 0, 1) := by decide +kernel
theorem dX12_isIn_1 : decode cX12_isIn 1 = .ok (.iload_n 1, 1) := by decide +kernel
theorem dX12_isIn_2 : decode cX12_isIn 2 = .ok (.if_icmp .lt 12, 3) := by decide +kernel
theorem dX12_isIn_5 : decode cX12_isIn 5 = .ok (.iload_n 0, 1) := by decide +kernel
theorem dX12_isIn_6 : decode cX12_isIn 6 = .ok (.iload_n 2, 1) := by decide +kernel
theorem dX12_isIn_7 : decode cX12_isIn 7 = .ok (.if_icmp .gt 7, 3) := by decide +kernel
theorem dX12_isIn_10 : decode cX12_isIn 10 = .ok (.iconst 1, 1) := by decide +kernel
theorem dX12_isIn_11 : decode cX12_isIn 11 = .ok (.goto 4, 3) := by decide +kernel
theorem dX12_isIn_14 : decode cX12_isIn 14 = .ok (.iconst 0, 1) := by decide +kernel
theorem dX12_isIn_15 : decode cX12_isIn 15 = .ok (.ireturn, 1) := by decide +kernel
theorem dX12_size_0 : decode cX12_size 0 = .ok (.iload_n 0, 1) := by decide +kernel
theorem dX12_size_1 : decode cX12_size 1 = .ok (.ifCond .ge 8, 3) := by decide +kernel
theorem dX12_size_4 : decode cX12_size 4 = .ok (.iload_n 0, 1) := by decide +kernel
theorem dX12_size_5 : decode cX12_size 5 = .ok (.ineg, 1) := by decide +kernel
theorem dX12_size_6 : decode cX12_size 6 = .ok (.goto 4, 3) := by decide +kernel
theorem dX12_size_9 : decode cX12_size 9 = .ok (.iload_n 0, 1) := by decide +kernel
theorem dX12_size_10 : decode cX12_size 10 = .ok (.ireturn, 1) := by decide +kernel
theorem dX12_most_0 : decode cX12_most 0 = .ok (.iload_n 0, 1) := by decide +kernel
theorem dX12_most_1 : decode cX12_most 1 = .ok (.iload_n 1, 1) := by decide +kernel
theorem dX12_most_2 : decode cX12_most 2 = .ok (.if_icmp .le 7, 3) := by decide +kernel
theorem dX12_most_5 : decode cX12_most 5 = .ok (.iload_n 0, 1) := by decide +kernel
theorem dX12_most_6 : decode cX12_most 6 = .ok (.goto 4, 3) := by decide +kernel
theorem dX12_most_9 : decode cX12_most 9 = .ok (.iload_n 1, 1) := by decide +kernel
theorem dX12_most_10 : decode cX12_most 10 = .ok (.ireturn, 1) := by decide +kernel
theorem dX12_lays_0 : decode cX12_lays 0 = .ok (.iconst 0, 1) := by decide +kernel
theorem dX12_lays_1 : decode cX12_lays 1 = .ok (.istore_n 2, 1) := by decide +kernel
theorem dX12_lays_2 : decode cX12_lays 2 = .ok (.iload_n 2, 1) := by decide +kernel
theorem dX12_lays_3 : decode cX12_lays 3 = .ok (.bipush 48, 2) := by decide +kernel
theorem dX12_lays_5 : decode cX12_lays 5 = .ok (.if_icmp .ge 15, 3) := by decide +kernel
theorem dX12_lays_8 : decode cX12_lays 8 = .ok (.aload_n 1, 1) := by decide +kernel
theorem dX12_lays_9 : decode cX12_lays 9 = .ok (.iload_n 2, 1) := by decide +kernel
theorem dX12_lays_10 : decode cX12_lays 10 = .ok (.aload_n 0, 1) := by decide +kernel
theorem dX12_lays_11 : decode cX12_lays 11 = .ok (.iload_n 2, 1) := by decide +kernel
theorem dX12_lays_12 : decode cX12_lays 12 = .ok (.iaload, 1) := by decide +kernel
theorem dX12_lays_13 : decode cX12_lays 13 = .ok (.iastore, 1) := by decide +kernel
theorem dX12_lays_14 : decode cX12_lays 14 = .ok (.iinc 2 1, 3) := by decide +kernel
theorem dX12_lays_17 : decode cX12_lays 17 = .ok (.goto (-15), 3) := by decide +kernel
theorem dX12_lays_20 : decode cX12_lays 20 = .ok (.return_, 1) := by decide +kernel
theorem dX12_at_0 : decode cX12_at 0 = .ok (.bipush 6, 2) := by decide +kernel
theorem dX12_at_2 : decode cX12_at 2 = .ok (.bipush 6, 2) := by decide +kernel
theorem dX12_at_4 : decode cX12_at 4 = .ok (.iload_n 0, 1) := by decide +kernel
theorem dX12_at_5 : decode cX12_at 5 = .ok (.imul, 1) := by decide +kernel
theorem dX12_at_6 : decode cX12_at 6 = .ok (.iadd, 1) := by decide +kernel
theorem dX12_at_7 : decode cX12_at 7 = .ok (.iload_n 1, 1) := by decide +kernel
theorem dX12_at_8 : decode cX12_at 8 = .ok (.iadd, 1) := by decide +kernel
theorem dX12_at_9 : decode cX12_at 9 = .ok (.ireturn, 1) := by decide +kernel
theorem dX12_isPart_0 : decode cX12_isPart 0 = .ok (.iload_n 1, 1) := by decide +kernel
theorem dX12_isPart_1 : decode cX12_isPart 1 = .ok (.iconst 0, 1) := by decide +kernel
theorem dX12_isPart_2 : decode cX12_isPart 2 = .ok (.aload_n 0, 1) := by decide +kernel
theorem dX12_isPart_3 : decode cX12_isPart 3 = .ok (.getfield 9, 3) := by decide +kernel
theorem dX12_isPart_6 : decode cX12_isPart 6 = .ok (.iconst 0, 1) := by decide +kernel
theorem dX12_isPart_7 : decode cX12_isPart 7 = .ok (.iaload, 1) := by decide +kernel
theorem dX12_isPart_8 : decode cX12_isPart 8 = .ok (.iconst 1, 1) := by decide +kernel
theorem dX12_isPart_9 : decode cX12_isPart 9 = .ok (.isub, 1) := by decide +kernel
theorem dX12_isPart_10 : decode cX12_isPart 10 = .ok (.invokestatic 49, 3) := by decide +kernel
theorem dX12_isPart_13 : decode cX12_isPart 13 = .ok (.ireturn, 1) := by decide +kernel
theorem dX12_isSeat_0 : decode cX12_isSeat 0 = .ok (.iload_n 0, 1) := by decide +kernel
theorem dX12_isSeat_1 : decode cX12_isSeat 1 = .ok (.iconst 0, 1) := by decide +kernel
theorem dX12_isSeat_2 : decode cX12_isSeat 2 = .ok (.iconst 3, 1) := by decide +kernel
theorem dX12_isSeat_3 : decode cX12_isSeat 3 = .ok (.invokestatic 49, 3) := by decide +kernel
theorem dX12_isSeat_6 : decode cX12_isSeat 6 = .ok (.ireturn, 1) := by decide +kernel
theorem dX12_loudOf_0 : decode cX12_loudOf 0 = .ok (.aload_n 0, 1) := by decide +kernel
theorem dX12_loudOf_1 : decode cX12_loudOf 1 = .ok (.iload_n 1, 1) := by decide +kernel
theorem dX12_loudOf_2 : decode cX12_loudOf 2 = .ok (.iconst 1, 1) := by decide +kernel
theorem dX12_loudOf_3 : decode cX12_loudOf 3 = .ok (.invokestatic 53, 3) := by decide +kernel
theorem dX12_loudOf_6 : decode cX12_loudOf 6 = .ok (.iaload, 1) := by decide +kernel
theorem dX12_loudOf_7 : decode cX12_loudOf 7 = .ok (.istore_n 3, 1) := by decide +kernel
theorem dX12_loudOf_8 : decode cX12_loudOf 8 = .ok (.iload_n 2, 1) := by decide +kernel
theorem dX12_loudOf_9 : decode cX12_loudOf 9 = .ok (.bipush 48, 2) := by decide +kernel
theorem dX12_loudOf_11 : decode cX12_loudOf 11 = .ok (.bipush 53, 2) := by decide +kernel
theorem dX12_loudOf_13 : decode cX12_loudOf 13 = .ok (.invokestatic 49, 3) := by decide +kernel
theorem dX12_loudOf_16 : decode cX12_loudOf 16 = .ok (.ifCond .eq 7, 3) := by decide +kernel
theorem dX12_loudOf_19 : decode cX12_loudOf 19 = .ok (.iload_n 3, 1) := by decide +kernel
theorem dX12_loudOf_20 : decode cX12_loudOf 20 = .ok (.goto 4, 3) := by decide +kernel
theorem dX12_loudOf_23 : decode cX12_loudOf 23 = .ok (.iconst 0, 1) := by decide +kernel
theorem dX12_loudOf_24 : decode cX12_loudOf 24 = .ok (.istore 4, 2) := by decide +kernel
theorem dX12_loudOf_26 : decode cX12_loudOf 26 = .ok (.iload_n 2, 1) := by decide +kernel
theorem dX12_loudOf_27 : decode cX12_loudOf 27 = .ok (.bipush 30, 2) := by decide +kernel
theorem dX12_loudOf_29 : decode cX12_loudOf 29 = .ok (.if_icmp .lt 7, 3) := by decide +kernel
theorem dX12_loudOf_32 : decode cX12_loudOf 32 = .ok (.iload_n 3, 1) := by decide +kernel
theorem dX12_loudOf_33 : decode cX12_loudOf 33 = .ok (.goto 4, 3) := by decide +kernel
theorem dX12_loudOf_36 : decode cX12_loudOf 36 = .ok (.iconst 0, 1) := by decide +kernel
theorem dX12_loudOf_37 : decode cX12_loudOf 37 = .ok (.istore 5, 2) := by decide +kernel
theorem dX12_loudOf_39 : decode cX12_loudOf 39 = .ok (.iconst 0, 1) := by decide +kernel
theorem dX12_loudOf_40 : decode cX12_loudOf 40 = .ok (.iload 4, 2) := by decide +kernel
theorem dX12_loudOf_42 : decode cX12_loudOf 42 = .ok (.aload_n 0, 1) := by decide +kernel
theorem dX12_loudOf_43 : decode cX12_loudOf 43 = .ok (.iconst 4, 1) := by decide +kernel
theorem dX12_loudOf_44 : decode cX12_loudOf 44 = .ok (.iaload, 1) := by decide +kernel
theorem dX12_loudOf_45 : decode cX12_loudOf 45 = .ok (.isub, 1) := by decide +kernel
theorem dX12_loudOf_46 : decode cX12_loudOf 46 = .ok (.invokestatic 57, 3) := by decide +kernel
theorem dX12_loudOf_49 : decode cX12_loudOf 49 = .ok (.istore 6, 2) := by decide +kernel
theorem dX12_loudOf_51 : decode cX12_loudOf 51 = .ok (.aload_n 0, 1) := by decide +kernel
theorem dX12_loudOf_52 : decode cX12_loudOf 52 = .ok (.iload_n 1, 1) := by decide +kernel
theorem dX12_loudOf_53 : decode cX12_loudOf 53 = .ok (.iconst 0, 1) := by decide +kernel
theorem dX12_loudOf_54 : decode cX12_loudOf 54 = .ok (.invokestatic 53, 3) := by decide +kernel
theorem dX12_loudOf_57 : decode cX12_loudOf 57 = .ok (.iaload, 1) := by decide +kernel
theorem dX12_loudOf_58 : decode cX12_loudOf 58 = .ok (.tableswitch 99 1 7 #[42, 45, 50, 64, 67, 92, 94], 42) := by decide +kernel
theorem dX12_loudOf_100 : decode cX12_loudOf 100 = .ok (.iload 5, 2) := by decide +kernel
theorem dX12_loudOf_102 : decode cX12_loudOf 102 = .ok (.ireturn, 1) := by decide +kernel
theorem dX12_loudOf_103 : decode cX12_loudOf 103 = .ok (.iconst 2, 1) := by decide +kernel
theorem dX12_loudOf_104 : decode cX12_loudOf 104 = .ok (.iload 4, 2) := by decide +kernel
theorem dX12_loudOf_106 : decode cX12_loudOf 106 = .ok (.imul, 1) := by decide +kernel
theorem dX12_loudOf_107 : decode cX12_loudOf 107 = .ok (.ireturn, 1) := by decide +kernel
theorem dX12_loudOf_108 : decode cX12_loudOf 108 = .ok (.aload_n 0, 1) := by decide +kernel
theorem dX12_loudOf_109 : decode cX12_loudOf 109 = .ok (.iconst 3, 1) := by decide +kernel
theorem dX12_loudOf_110 : decode cX12_loudOf 110 = .ok (.iaload, 1) := by decide +kernel
theorem dX12_loudOf_111 : decode cX12_loudOf 111 = .ok (.iconst 5, 1) := by decide +kernel
theorem dX12_loudOf_112 : decode cX12_loudOf 112 = .ok (.if_icmp .lt 8, 3) := by decide +kernel
theorem dX12_loudOf_115 : decode cX12_loudOf 115 = .ok (.iload 5, 2) := by decide +kernel
theorem dX12_loudOf_117 : decode cX12_loudOf 117 = .ok (.goto 4, 3) := by decide +kernel
theorem dX12_loudOf_120 : decode cX12_loudOf 120 = .ok (.iconst 0, 1) := by decide +kernel
theorem dX12_loudOf_121 : decode cX12_loudOf 121 = .ok (.ireturn, 1) := by decide +kernel
theorem dX12_loudOf_122 : decode cX12_loudOf 122 = .ok (.iload 6, 2) := by decide +kernel
theorem dX12_loudOf_124 : decode cX12_loudOf 124 = .ok (.ireturn, 1) := by decide +kernel
theorem dX12_loudOf_125 : decode cX12_loudOf 125 = .ok (.iload 4, 2) := by decide +kernel
theorem dX12_loudOf_127 : decode cX12_loudOf 127 = .ok (.ifCond .le 18, 3) := by decide +kernel
theorem dX12_loudOf_130 : decode cX12_loudOf 130 = .ok (.iload_n 2, 1) := by decide +kernel
theorem dX12_loudOf_131 : decode cX12_loudOf 131 = .ok (.iconst 2, 1) := by decide +kernel
theorem dX12_loudOf_132 : decode cX12_loudOf 132 = .ok (.irem, 1) := by decide +kernel
theorem dX12_loudOf_133 : decode cX12_loudOf 133 = .ok (.ifCond .ne 12, 3) := by decide +kernel
theorem dX12_loudOf_136 : decode cX12_loudOf 136 = .ok (.iconst 2, 1) := by decide +kernel
theorem dX12_loudOf_137 : decode cX12_loudOf 137 = .ok (.iload 4, 2) := by decide +kernel
theorem dX12_loudOf_139 : decode cX12_loudOf 139 = .ok (.imul, 1) := by decide +kernel
theorem dX12_loudOf_140 : decode cX12_loudOf 140 = .ok (.iconst 3, 1) := by decide +kernel
theorem dX12_loudOf_141 : decode cX12_loudOf 141 = .ok (.iadd, 1) := by decide +kernel
theorem dX12_loudOf_142 : decode cX12_loudOf 142 = .ok (.goto 7, 3) := by decide +kernel
theorem dX12_loudOf_145 : decode cX12_loudOf 145 = .ok (.iconst 2, 1) := by decide +kernel
theorem dX12_loudOf_146 : decode cX12_loudOf 146 = .ok (.iload 4, 2) := by decide +kernel
theorem dX12_loudOf_148 : decode cX12_loudOf 148 = .ok (.imul, 1) := by decide +kernel
theorem dX12_loudOf_149 : decode cX12_loudOf 149 = .ok (.ireturn, 1) := by decide +kernel
theorem dX12_loudOf_150 : decode cX12_loudOf 150 = .ok (.iconst 0, 1) := by decide +kernel
theorem dX12_loudOf_151 : decode cX12_loudOf 151 = .ok (.ireturn, 1) := by decide +kernel
theorem dX12_loudOf_152 : decode cX12_loudOf 152 = .ok (.iconst 2, 1) := by decide +kernel
theorem dX12_loudOf_153 : decode cX12_loudOf 153 = .ok (.iload 6, 2) := by decide +kernel
theorem dX12_loudOf_155 : decode cX12_loudOf 155 = .ok (.imul, 1) := by decide +kernel
theorem dX12_loudOf_156 : decode cX12_loudOf 156 = .ok (.ireturn, 1) := by decide +kernel
theorem dX12_loudOf_157 : decode cX12_loudOf 157 = .ok (.iload 4, 2) := by decide +kernel
theorem dX12_loudOf_159 : decode cX12_loudOf 159 = .ok (.ireturn, 1) := by decide +kernel
theorem dX12_secondsOf_0 : decode cX12_secondsOf 0 = .ok (.aload_n 0, 1) := by decide +kernel
theorem dX12_secondsOf_1 : decode cX12_secondsOf 1 = .ok (.iload_n 1, 1) := by decide +kernel
theorem dX12_secondsOf_2 : decode cX12_secondsOf 2 = .ok (.iconst 1, 1) := by decide +kernel
theorem dX12_secondsOf_3 : decode cX12_secondsOf 3 = .ok (.invokestatic 53, 3) := by decide +kernel
theorem dX12_secondsOf_6 : decode cX12_secondsOf 6 = .ok (.iaload, 1) := by decide +kernel
theorem dX12_secondsOf_7 : decode cX12_secondsOf 7 = .ok (.istore_n 2, 1) := by decide +kernel
theorem dX12_secondsOf_8 : decode cX12_secondsOf 8 = .ok (.aload_n 0, 1) := by decide +kernel
theorem dX12_secondsOf_9 : decode cX12_secondsOf 9 = .ok (.iload_n 1, 1) := by decide +kernel
theorem dX12_secondsOf_10 : decode cX12_secondsOf 10 = .ok (.iconst 0, 1) := by decide +kernel
theorem dX12_secondsOf_11 : decode cX12_secondsOf 11 = .ok (.invokestatic 53, 3) := by decide +kernel
theorem dX12_secondsOf_14 : decode cX12_secondsOf 14 = .ok (.iaload, 1) := by decide +kernel
theorem dX12_secondsOf_15 : decode cX12_secondsOf 15 = .ok (.tableswitch 60 1 7 #[41, 44, 49, 52, 55, 60, 52], 41) := by decide +kernel
theorem dX12_secondsOf_56 : decode cX12_secondsOf 56 = .ok (.bipush 6, 2) := by decide +kernel
theorem dX12_secondsOf_58 : decode cX12_secondsOf 58 = .ok (.ireturn, 1) := by decide +kernel
theorem dX12_secondsOf_59 : decode cX12_secondsOf 59 = .ok (.bipush 10, 2) := by decide +kernel
theorem dX12_secondsOf_61 : decode cX12_secondsOf 61 = .ok (.iload_n 2, 1) := by decide +kernel
theorem dX12_secondsOf_62 : decode cX12_secondsOf 62 = .ok (.iadd, 1) := by decide +kernel
theorem dX12_secondsOf_63 : decode cX12_secondsOf 63 = .ok (.ireturn, 1) := by decide +kernel
theorem dX12_secondsOf_64 : decode cX12_secondsOf 64 = .ok (.bipush 12, 2) := by decide +kernel
theorem dX12_secondsOf_66 : decode cX12_secondsOf 66 = .ok (.ireturn, 1) := by decide +kernel
theorem dX12_secondsOf_67 : decode cX12_secondsOf 67 = .ok (.bipush 15, 2) := by decide +kernel
theorem dX12_secondsOf_69 : decode cX12_secondsOf 69 = .ok (.ireturn, 1) := by decide +kernel
theorem dX12_secondsOf_70 : decode cX12_secondsOf 70 = .ok (.bipush 12, 2) := by decide +kernel
theorem dX12_secondsOf_72 : decode cX12_secondsOf 72 = .ok (.iload_n 2, 1) := by decide +kernel
theorem dX12_secondsOf_73 : decode cX12_secondsOf 73 = .ok (.iadd, 1) := by decide +kernel
theorem dX12_secondsOf_74 : decode cX12_secondsOf 74 = .ok (.ireturn, 1) := by decide +kernel
theorem dX12_secondsOf_75 : decode cX12_secondsOf 75 = .ok (.bipush 10, 2) := by decide +kernel
theorem dX12_secondsOf_77 : decode cX12_secondsOf 77 = .ok (.ireturn, 1) := by decide +kernel
theorem dX12_loosensOf_0 : decode cX12_loosensOf 0 = .ok (.aload_n 0, 1) := by decide +kernel
theorem dX12_loosensOf_1 : decode cX12_loosensOf 1 = .ok (.iload_n 1, 1) := by decide +kernel
theorem dX12_loosensOf_2 : decode cX12_loosensOf 2 = .ok (.iconst 0, 1) := by decide +kernel
theorem dX12_loosensOf_3 : decode cX12_loosensOf 3 = .ok (.invokestatic 53, 3) := by decide +kernel
theorem dX12_loosensOf_6 : decode cX12_loosensOf 6 = .ok (.iaload, 1) := by decide +kernel
theorem dX12_loosensOf_7 : decode cX12_loosensOf 7 = .ok (.istore_n 2, 1) := by decide +kernel
theorem dX12_loosensOf_8 : decode cX12_loosensOf 8 = .ok (.iload_n 2, 1) := by decide +kernel
theorem dX12_loosensOf_9 : decode cX12_loosensOf 9 = .ok (.iconst 1, 1) := by decide +kernel
theorem dX12_loosensOf_10 : decode cX12_loosensOf 10 = .ok (.if_icmp .eq 8, 3) := by decide +kernel
theorem dX12_loosensOf_13 : decode cX12_loosensOf 13 = .ok (.iload_n 2, 1) := by decide +kernel
theorem dX12_loosensOf_14 : decode cX12_loosensOf 14 = .ok (.iconst 3, 1) := by decide +kernel
theorem dX12_loosensOf_15 : decode cX12_loosensOf 15 = .ok (.if_icmp .ne 7, 3) := by decide +kernel
theorem dX12_loosensOf_18 : decode cX12_loosensOf 18 = .ok (.iconst 3, 1) := by decide +kernel
theorem dX12_loosensOf_19 : decode cX12_loosensOf 19 = .ok (.goto 14, 3) := by decide +kernel
theorem dX12_loosensOf_22 : decode cX12_loosensOf 22 = .ok (.iload_n 2, 1) := by decide +kernel
theorem dX12_loosensOf_23 : decode cX12_loosensOf 23 = .ok (.bipush 6, 2) := by decide +kernel
theorem dX12_loosensOf_25 : decode cX12_loosensOf 25 = .ok (.if_icmp .ne 7, 3) := by decide +kernel
theorem dX12_loosensOf_28 : decode cX12_loosensOf 28 = .ok (.iconst 0, 1) := by decide +kernel
theorem dX12_loosensOf_29 : decode cX12_loosensOf 29 = .ok (.goto 4, 3) := by decide +kernel
theorem dX12_loosensOf_32 : decode cX12_loosensOf 32 = .ok (.iconst 1, 1) := by decide +kernel
theorem dX12_loosensOf_33 : decode cX12_loosensOf 33 = .ok (.ireturn, 1) := by decide +kernel
theorem dX12_partAt_0 : decode cX12_partAt 0 = .ok (.aload_n 0, 1) := by decide +kernel
theorem dX12_partAt_1 : decode cX12_partAt 1 = .ok (.iload_n 1, 1) := by decide +kernel
theorem dX12_partAt_2 : decode cX12_partAt 2 = .ok (.iconst 4, 1) := by decide +kernel
theorem dX12_partAt_3 : decode cX12_partAt 3 = .ok (.invokestatic 53, 3) := by decide +kernel
theorem dX12_partAt_6 : decode cX12_partAt 6 = .ok (.iaload, 1) := by decide +kernel
theorem dX12_partAt_7 : decode cX12_partAt 7 = .ok (.ifCond .eq 7, 3) := by decide +kernel
theorem dX12_partAt_10 : decode cX12_partAt 10 = .ok (.iconst 0, 1) := by decide +kernel
theorem dX12_partAt_11 : decode cX12_partAt 11 = .ok (.goto 26, 3) := by decide +kernel
theorem dX12_partAt_14 : decode cX12_partAt 14 = .ok (.iconst 0, 1) := by decide +kernel
theorem dX12_partAt_15 : decode cX12_partAt 15 = .ok (.aload_n 0, 1) := by decide +kernel
theorem dX12_partAt_16 : decode cX12_partAt 16 = .ok (.iload_n 1, 1) := by decide +kernel
theorem dX12_partAt_17 : decode cX12_partAt 17 = .ok (.iload_n 3, 1) := by decide +kernel
theorem dX12_partAt_18 : decode cX12_partAt 18 = .ok (.invokestatic 60, 3) := by decide +kernel
theorem dX12_partAt_21 : decode cX12_partAt 21 = .ok (.aload_n 0, 1) := by decide +kernel
theorem dX12_partAt_22 : decode cX12_partAt 22 = .ok (.iload_n 1, 1) := by decide +kernel
theorem dX12_partAt_23 : decode cX12_partAt 23 = .ok (.iconst 2, 1) := by decide +kernel
theorem dX12_partAt_24 : decode cX12_partAt 24 = .ok (.invokestatic 53, 3) := by decide +kernel
theorem dX12_partAt_27 : decode cX12_partAt 27 = .ok (.iaload, 1) := by decide +kernel
theorem dX12_partAt_28 : decode cX12_partAt 28 = .ok (.iload_n 2, 1) := by decide +kernel
theorem dX12_partAt_29 : decode cX12_partAt 29 = .ok (.isub, 1) := by decide +kernel
theorem dX12_partAt_30 : decode cX12_partAt 30 = .ok (.invokestatic 64, 3) := by decide +kernel
theorem dX12_partAt_33 : decode cX12_partAt 33 = .ok (.isub, 1) := by decide +kernel
theorem dX12_partAt_34 : decode cX12_partAt 34 = .ok (.invokestatic 57, 3) := by decide +kernel
theorem dX12_partAt_37 : decode cX12_partAt 37 = .ok (.ireturn, 1) := by decide +kernel
theorem dX12_soundAt_0 : decode cX12_soundAt 0 = .ok (.iconst 0, 1) := by decide +kernel
theorem dX12_soundAt_1 : decode cX12_soundAt 1 = .ok (.istore_n 3, 1) := by decide +kernel
theorem dX12_soundAt_2 : decode cX12_soundAt 2 = .ok (.iconst 0, 1) := by decide +kernel
theorem dX12_soundAt_3 : decode cX12_soundAt 3 = .ok (.istore 4, 2) := by decide +kernel
theorem dX12_soundAt_5 : decode cX12_soundAt 5 = .ok (.iload 4, 2) := by decide +kernel
theorem dX12_soundAt_7 : decode cX12_soundAt 7 = .ok (.aload_n 0, 1) := by decide +kernel
theorem dX12_soundAt_8 : decode cX12_soundAt 8 = .ok (.iconst 0, 1) := by decide +kernel
theorem dX12_soundAt_9 : decode cX12_soundAt 9 = .ok (.iaload, 1) := by decide +kernel
theorem dX12_soundAt_10 : decode cX12_soundAt 10 = .ok (.if_icmp .ge 20, 3) := by decide +kernel
theorem dX12_soundAt_13 : decode cX12_soundAt 13 = .ok (.iload_n 3, 1) := by decide +kernel
theorem dX12_soundAt_14 : decode cX12_soundAt 14 = .ok (.aload_n 0, 1) := by decide +kernel
theorem dX12_soundAt_15 : decode cX12_soundAt 15 = .ok (.iload 4, 2) := by decide +kernel
theorem dX12_soundAt_17 : decode cX12_soundAt 17 = .ok (.iload_n 1, 1) := by decide +kernel
theorem dX12_soundAt_18 : decode cX12_soundAt 18 = .ok (.iload_n 2, 1) := by decide +kernel
theorem dX12_soundAt_19 : decode cX12_soundAt 19 = .ok (.invokestatic 67, 3) := by decide +kernel
theorem dX12_soundAt_22 : decode cX12_soundAt 22 = .ok (.iadd, 1) := by decide +kernel
theorem dX12_soundAt_23 : decode cX12_soundAt 23 = .ok (.istore_n 3, 1) := by decide +kernel
theorem dX12_soundAt_24 : decode cX12_soundAt 24 = .ok (.iinc 4 1, 3) := by decide +kernel
theorem dX12_soundAt_27 : decode cX12_soundAt 27 = .ok (.goto (-22), 3) := by decide +kernel
theorem dX12_soundAt_30 : decode cX12_soundAt 30 = .ok (.iload_n 3, 1) := by decide +kernel
theorem dX12_soundAt_31 : decode cX12_soundAt 31 = .ok (.ireturn, 1) := by decide +kernel
theorem dX12_heardAt_0 : decode cX12_heardAt 0 = .ok (.iconst 0, 1) := by decide +kernel
theorem dX12_heardAt_1 : decode cX12_heardAt 1 = .ok (.aload_n 0, 1) := by decide +kernel
theorem dX12_heardAt_2 : decode cX12_heardAt 2 = .ok (.iload_n 1, 1) := by decide +kernel
theorem dX12_heardAt_3 : decode cX12_heardAt 3 = .ok (.iload_n 2, 1) := by decide +kernel
theorem dX12_heardAt_4 : decode cX12_heardAt 4 = .ok (.invokestatic 71, 3) := by decide +kernel
theorem dX12_heardAt_7 : decode cX12_heardAt 7 = .ok (.aload_n 0, 1) := by decide +kernel
theorem dX12_heardAt_8 : decode cX12_heardAt 8 = .ok (.iconst 5, 1) := by decide +kernel
theorem dX12_heardAt_9 : decode cX12_heardAt 9 = .ok (.iaload, 1) := by decide +kernel
theorem dX12_heardAt_10 : decode cX12_heardAt 10 = .ok (.isub, 1) := by decide +kernel
theorem dX12_heardAt_11 : decode cX12_heardAt 11 = .ok (.invokestatic 57, 3) := by decide +kernel
theorem dX12_heardAt_14 : decode cX12_heardAt 14 = .ok (.ireturn, 1) := by decide +kernel
theorem dX12_heardNow_0 : decode cX12_heardNow 0 = .ok (.aload_n 0, 1) := by decide +kernel
theorem dX12_heardNow_1 : decode cX12_heardNow 1 = .ok (.iconst 0, 1) := by decide +kernel
theorem dX12_heardNow_2 : decode cX12_heardNow 2 = .ok (.aload_n 0, 1) := by decide +kernel
theorem dX12_heardNow_3 : decode cX12_heardNow 3 = .ok (.iconst 2, 1) := by decide +kernel
theorem dX12_heardNow_4 : decode cX12_heardNow 4 = .ok (.iaload, 1) := by decide +kernel
theorem dX12_heardNow_5 : decode cX12_heardNow 5 = .ok (.invokestatic 74, 3) := by decide +kernel
theorem dX12_heardNow_8 : decode cX12_heardNow 8 = .ok (.ireturn, 1) := by decide +kernel
theorem dX12_loudestAt_0 : decode cX12_loudestAt 0 = .ok (.bipush (-4), 2) := by decide +kernel
theorem dX12_loudestAt_2 : decode cX12_loudestAt 2 = .ok (.istore_n 2, 1) := by decide +kernel
theorem dX12_loudestAt_3 : decode cX12_loudestAt 3 = .ok (.iconst 0, 1) := by decide +kernel
theorem dX12_loudestAt_4 : decode cX12_loudestAt 4 = .ok (.istore_n 3, 1) := by decide +kernel
theorem dX12_loudestAt_5 : decode cX12_loudestAt 5 = .ok (.iconst 0, 1) := by decide +kernel
theorem dX12_loudestAt_6 : decode cX12_loudestAt 6 = .ok (.istore 4, 2) := by decide +kernel
theorem dX12_loudestAt_8 : decode cX12_loudestAt 8 = .ok (.iload 4, 2) := by decide +kernel
theorem dX12_loudestAt_10 : decode cX12_loudestAt 10 = .ok (.aload_n 0, 1) := by decide +kernel
theorem dX12_loudestAt_11 : decode cX12_loudestAt 11 = .ok (.iconst 0, 1) := by decide +kernel
theorem dX12_loudestAt_12 : decode cX12_loudestAt 12 = .ok (.iaload, 1) := by decide +kernel
theorem dX12_loudestAt_13 : decode cX12_loudestAt 13 = .ok (.if_icmp .ge 40, 3) := by decide +kernel
theorem dX12_loudestAt_16 : decode cX12_loudestAt 16 = .ok (.aload_n 0, 1) := by decide +kernel
theorem dX12_loudestAt_17 : decode cX12_loudestAt 17 = .ok (.iload 4, 2) := by decide +kernel
theorem dX12_loudestAt_19 : decode cX12_loudestAt 19 = .ok (.iload_n 1, 1) := by decide +kernel
theorem dX12_loudestAt_20 : decode cX12_loudestAt 20 = .ok (.aload_n 0, 1) := by decide +kernel
theorem dX12_loudestAt_21 : decode cX12_loudestAt 21 = .ok (.iconst 2, 1) := by decide +kernel
theorem dX12_loudestAt_22 : decode cX12_loudestAt 22 = .ok (.iaload, 1) := by decide +kernel
theorem dX12_loudestAt_23 : decode cX12_loudestAt 23 = .ok (.invokestatic 67, 3) := by decide +kernel
theorem dX12_loudestAt_26 : decode cX12_loudestAt 26 = .ok (.iload_n 3, 1) := by decide +kernel
theorem dX12_loudestAt_27 : decode cX12_loudestAt 27 = .ok (.if_icmp .gt 6, 3) := by decide +kernel
theorem dX12_loudestAt_30 : decode cX12_loudestAt 30 = .ok (.goto 17, 3) := by decide +kernel
theorem dX12_loudestAt_33 : decode cX12_loudestAt 33 = .ok (.iload 4, 2) := by decide +kernel
theorem dX12_loudestAt_35 : decode cX12_loudestAt 35 = .ok (.istore_n 2, 1) := by decide +kernel
theorem dX12_loudestAt_36 : decode cX12_loudestAt 36 = .ok (.aload_n 0, 1) := by decide +kernel
theorem dX12_loudestAt_37 : decode cX12_loudestAt 37 = .ok (.iload 4, 2) := by decide +kernel
theorem dX12_loudestAt_39 : decode cX12_loudestAt 39 = .ok (.iload_n 1, 1) := by decide +kernel
theorem dX12_loudestAt_40 : decode cX12_loudestAt 40 = .ok (.aload_n 0, 1) := by decide +kernel
theorem dX12_loudestAt_41 : decode cX12_loudestAt 41 = .ok (.iconst 2, 1) := by decide +kernel
theorem dX12_loudestAt_42 : decode cX12_loudestAt 42 = .ok (.iaload, 1) := by decide +kernel
theorem dX12_loudestAt_43 : decode cX12_loudestAt 43 = .ok (.invokestatic 67, 3) := by decide +kernel
theorem dX12_loudestAt_46 : decode cX12_loudestAt 46 = .ok (.istore_n 3, 1) := by decide +kernel
theorem dX12_loudestAt_47 : decode cX12_loudestAt 47 = .ok (.iinc 4 1, 3) := by decide +kernel
theorem dX12_loudestAt_50 : decode cX12_loudestAt 50 = .ok (.goto (-42), 3) := by decide +kernel
theorem dX12_loudestAt_53 : decode cX12_loudestAt 53 = .ok (.iload_n 2, 1) := by decide +kernel
theorem dX12_loudestAt_54 : decode cX12_loudestAt 54 = .ok (.ireturn, 1) := by decide +kernel
theorem dX12_drive_0 : decode cX12_drive 0 = .ok (.aload_n 0, 1) := by decide +kernel
theorem dX12_drive_1 : decode cX12_drive 1 = .ok (.invokestatic 77, 3) := by decide +kernel
theorem dX12_drive_4 : decode cX12_drive 4 = .ok (.istore_n 1, 1) := by decide +kernel
theorem dX12_drive_5 : decode cX12_drive 5 = .ok (.iconst 0, 1) := by decide +kernel
theorem dX12_drive_6 : decode cX12_drive 6 = .ok (.istore_n 2, 1) := by decide +kernel
theorem dX12_drive_7 : decode cX12_drive 7 = .ok (.iload_n 2, 1) := by decide +kernel
theorem dX12_drive_8 : decode cX12_drive 8 = .ok (.aload_n 0, 1) := by decide +kernel
theorem dX12_drive_9 : decode cX12_drive 9 = .ok (.iconst 0, 1) := by decide +kernel
theorem dX12_drive_10 : decode cX12_drive 10 = .ok (.iaload, 1) := by decide +kernel
theorem dX12_drive_11 : decode cX12_drive 11 = .ok (.if_icmp .ge 72, 3) := by decide +kernel
theorem dX12_drive_14 : decode cX12_drive 14 = .ok (.aload_n 0, 1) := by decide +kernel
theorem dX12_drive_15 : decode cX12_drive 15 = .ok (.iload_n 2, 1) := by decide +kernel
theorem dX12_drive_16 : decode cX12_drive 16 = .ok (.iconst 4, 1) := by decide +kernel
theorem dX12_drive_17 : decode cX12_drive 17 = .ok (.invokestatic 53, 3) := by decide +kernel
theorem dX12_drive_20 : decode cX12_drive 20 = .ok (.iaload, 1) := by decide +kernel
theorem dX12_drive_21 : decode cX12_drive 21 = .ok (.iconst 1, 1) := by decide +kernel
theorem dX12_drive_22 : decode cX12_drive 22 = .ok (.if_icmp .ne 11, 3) := by decide +kernel
theorem dX12_drive_25 : decode cX12_drive 25 = .ok (.aload_n 0, 1) := by decide +kernel
theorem dX12_drive_26 : decode cX12_drive 26 = .ok (.iload_n 2, 1) := by decide +kernel
theorem dX12_drive_27 : decode cX12_drive 27 = .ok (.iconst 4, 1) := by decide +kernel
theorem dX12_drive_28 : decode cX12_drive 28 = .ok (.invokestatic 53, 3) := by decide +kernel
theorem dX12_drive_31 : decode cX12_drive 31 = .ok (.iconst 0, 1) := by decide +kernel
theorem dX12_drive_32 : decode cX12_drive 32 = .ok (.iastore, 1) := by decide +kernel
theorem dX12_drive_33 : decode cX12_drive 33 = .ok (.aload_n 0, 1) := by decide +kernel
theorem dX12_drive_34 : decode cX12_drive 34 = .ok (.iload_n 2, 1) := by decide +kernel
theorem dX12_drive_35 : decode cX12_drive 35 = .ok (.iconst 4, 1) := by decide +kernel
theorem dX12_drive_36 : decode cX12_drive 36 = .ok (.invokestatic 53, 3) := by decide +kernel
theorem dX12_drive_39 : decode cX12_drive 39 = .ok (.iaload, 1) := by decide +kernel
theorem dX12_drive_40 : decode cX12_drive 40 = .ok (.iconst 2, 1) := by decide +kernel
theorem dX12_drive_41 : decode cX12_drive 41 = .ok (.if_icmp .eq 6, 3) := by decide +kernel
theorem dX12_drive_44 : decode cX12_drive 44 = .ok (.goto 33, 3) := by decide +kernel
theorem dX12_drive_47 : decode cX12_drive 47 = .ok (.aload_n 0, 1) := by decide +kernel
theorem dX12_drive_48 : decode cX12_drive 48 = .ok (.iload_n 2, 1) := by decide +kernel
theorem dX12_drive_49 : decode cX12_drive 49 = .ok (.iconst 5, 1) := by decide +kernel
theorem dX12_drive_50 : decode cX12_drive 50 = .ok (.invokestatic 53, 3) := by decide +kernel
theorem dX12_drive_53 : decode cX12_drive 53 = .ok (.dup2, 1) := by decide +kernel
theorem dX12_drive_54 : decode cX12_drive 54 = .ok (.iaload, 1) := by decide +kernel
theorem dX12_drive_55 : decode cX12_drive 55 = .ok (.iconst 1, 1) := by decide +kernel
theorem dX12_drive_56 : decode cX12_drive 56 = .ok (.iadd, 1) := by decide +kernel
theorem dX12_drive_57 : decode cX12_drive 57 = .ok (.iastore, 1) := by decide +kernel
theorem dX12_drive_58 : decode cX12_drive 58 = .ok (.aload_n 0, 1) := by decide +kernel
theorem dX12_drive_59 : decode cX12_drive 59 = .ok (.iload_n 2, 1) := by decide +kernel
theorem dX12_drive_60 : decode cX12_drive 60 = .ok (.iconst 5, 1) := by decide +kernel
theorem dX12_drive_61 : decode cX12_drive 61 = .ok (.invokestatic 53, 3) := by decide +kernel
theorem dX12_drive_64 : decode cX12_drive 64 = .ok (.iaload, 1) := by decide +kernel
theorem dX12_drive_65 : decode cX12_drive 65 = .ok (.iconst 2, 1) := by decide +kernel
theorem dX12_drive_66 : decode cX12_drive 66 = .ok (.if_icmp .ne 11, 3) := by decide +kernel
theorem dX12_drive_69 : decode cX12_drive 69 = .ok (.aload_n 0, 1) := by decide +kernel
theorem dX12_drive_70 : decode cX12_drive 70 = .ok (.iload_n 2, 1) := by decide +kernel
theorem dX12_drive_71 : decode cX12_drive 71 = .ok (.iconst 4, 1) := by decide +kernel
theorem dX12_drive_72 : decode cX12_drive 72 = .ok (.invokestatic 53, 3) := by decide +kernel
theorem dX12_drive_75 : decode cX12_drive 75 = .ok (.iconst 0, 1) := by decide +kernel
theorem dX12_drive_76 : decode cX12_drive 76 = .ok (.iastore, 1) := by decide +kernel
theorem dX12_drive_77 : decode cX12_drive 77 = .ok (.iinc 2 1, 3) := by decide +kernel
theorem dX12_drive_80 : decode cX12_drive 80 = .ok (.goto (-73), 3) := by decide +kernel
theorem dX12_drive_83 : decode cX12_drive 83 = .ok (.iload_n 1, 1) := by decide +kernel
theorem dX12_drive_84 : decode cX12_drive 84 = .ok (.ireturn, 1) := by decide +kernel
theorem dX12_screw_0 : decode cX12_screw 0 = .ok (.aload_n 0, 1) := by decide +kernel
theorem dX12_screw_1 : decode cX12_screw 1 = .ok (.iload_n 1, 1) := by decide +kernel
theorem dX12_screw_2 : decode cX12_screw 2 = .ok (.iconst 1, 1) := by decide +kernel
theorem dX12_screw_3 : decode cX12_screw 3 = .ok (.invokestatic 53, 3) := by decide +kernel
theorem dX12_screw_6 : decode cX12_screw 6 = .ok (.iconst 0, 1) := by decide +kernel
theorem dX12_screw_7 : decode cX12_screw 7 = .ok (.iastore, 1) := by decide +kernel
theorem dX12_screw_8 : decode cX12_screw 8 = .ok (.aload_n 0, 1) := by decide +kernel
theorem dX12_screw_9 : decode cX12_screw 9 = .ok (.iconst 0, 1) := by decide +kernel
theorem dX12_screw_10 : decode cX12_screw 10 = .ok (.iaload, 1) := by decide +kernel
theorem dX12_screw_11 : decode cX12_screw 11 = .ok (.iconst 1, 1) := by decide +kernel
theorem dX12_screw_12 : decode cX12_screw 12 = .ok (.if_icmp .ne 5, 3) := by decide +kernel
theorem dX12_screw_15 : decode cX12_screw 15 = .ok (.iconst 0, 1) := by decide +kernel
theorem dX12_screw_16 : decode cX12_screw 16 = .ok (.ireturn, 1) := by decide +kernel
theorem dX12_screw_17 : decode cX12_screw 17 = .ok (.iload_n 1, 1) := by decide +kernel
theorem dX12_screw_18 : decode cX12_screw 18 = .ok (.iconst 1, 1) := by decide +kernel
theorem dX12_screw_19 : decode cX12_screw 19 = .ok (.iadd, 1) := by decide +kernel
theorem dX12_screw_20 : decode cX12_screw 20 = .ok (.aload_n 0, 1) := by decide +kernel
theorem dX12_screw_21 : decode cX12_screw 21 = .ok (.iconst 0, 1) := by decide +kernel
theorem dX12_screw_22 : decode cX12_screw 22 = .ok (.iaload, 1) := by decide +kernel
theorem dX12_screw_23 : decode cX12_screw 23 = .ok (.irem, 1) := by decide +kernel
theorem dX12_screw_24 : decode cX12_screw 24 = .ok (.istore_n 2, 1) := by decide +kernel
theorem dX12_screw_25 : decode cX12_screw 25 = .ok (.aload_n 0, 1) := by decide +kernel
theorem dX12_screw_26 : decode cX12_screw 26 = .ok (.iload_n 2, 1) := by decide +kernel
theorem dX12_screw_27 : decode cX12_screw 27 = .ok (.iconst 1, 1) := by decide +kernel
theorem dX12_screw_28 : decode cX12_screw 28 = .ok (.invokestatic 53, 3) := by decide +kernel
theorem dX12_screw_31 : decode cX12_screw 31 = .ok (.iaload, 1) := by decide +kernel
theorem dX12_screw_32 : decode cX12_screw 32 = .ok (.aload_n 0, 1) := by decide +kernel
theorem dX12_screw_33 : decode cX12_screw 33 = .ok (.iload_n 2, 1) := by decide +kernel
theorem dX12_screw_34 : decode cX12_screw 34 = .ok (.invokestatic 81, 3) := by decide +kernel
theorem dX12_screw_37 : decode cX12_screw 37 = .ok (.iadd, 1) := by decide +kernel
theorem dX12_screw_38 : decode cX12_screw 38 = .ok (.istore_n 3, 1) := by decide +kernel
theorem dX12_screw_39 : decode cX12_screw 39 = .ok (.aload_n 0, 1) := by decide +kernel
theorem dX12_screw_40 : decode cX12_screw 40 = .ok (.iload_n 2, 1) := by decide +kernel
theorem dX12_screw_41 : decode cX12_screw 41 = .ok (.iconst 1, 1) := by decide +kernel
theorem dX12_screw_42 : decode cX12_screw 42 = .ok (.invokestatic 53, 3) := by decide +kernel
theorem dX12_screw_45 : decode cX12_screw 45 = .ok (.iload_n 3, 1) := by decide +kernel
theorem dX12_screw_46 : decode cX12_screw 46 = .ok (.bipush 9, 2) := by decide +kernel
theorem dX12_screw_48 : decode cX12_screw 48 = .ok (.if_icmp .le 8, 3) := by decide +kernel
theorem dX12_screw_51 : decode cX12_screw 51 = .ok (.bipush 9, 2) := by decide +kernel
theorem dX12_screw_53 : decode cX12_screw 53 = .ok (.goto 4, 3) := by decide +kernel
theorem dX12_screw_56 : decode cX12_screw 56 = .ok (.iload_n 3, 1) := by decide +kernel
theorem dX12_screw_57 : decode cX12_screw 57 = .ok (.iastore, 1) := by decide +kernel
theorem dX12_screw_58 : decode cX12_screw 58 = .ok (.aload_n 0, 1) := by decide +kernel
theorem dX12_screw_59 : decode cX12_screw 59 = .ok (.iload_n 2, 1) := by decide +kernel
theorem dX12_screw_60 : decode cX12_screw 60 = .ok (.iconst 1, 1) := by decide +kernel
theorem dX12_screw_61 : decode cX12_screw 61 = .ok (.invokestatic 53, 3) := by decide +kernel
theorem dX12_screw_64 : decode cX12_screw 64 = .ok (.iaload, 1) := by decide +kernel
theorem dX12_screw_65 : decode cX12_screw 65 = .ok (.ireturn, 1) := by decide +kernel
theorem dX12_puts_0 : decode cX12_puts 0 = .ok (.aload_n 0, 1) := by decide +kernel
theorem dX12_puts_1 : decode cX12_puts 1 = .ok (.iload_n 1, 1) := by decide +kernel
theorem dX12_puts_2 : decode cX12_puts 2 = .ok (.iconst 4, 1) := by decide +kernel
theorem dX12_puts_3 : decode cX12_puts 3 = .ok (.invokestatic 53, 3) := by decide +kernel
theorem dX12_puts_6 : decode cX12_puts 6 = .ok (.iload_n 2, 1) := by decide +kernel
theorem dX12_puts_7 : decode cX12_puts 7 = .ok (.iastore, 1) := by decide +kernel
theorem dX12_puts_8 : decode cX12_puts 8 = .ok (.aload_n 0, 1) := by decide +kernel
theorem dX12_puts_9 : decode cX12_puts 9 = .ok (.iload_n 1, 1) := by decide +kernel
theorem dX12_puts_10 : decode cX12_puts 10 = .ok (.iconst 5, 1) := by decide +kernel
theorem dX12_puts_11 : decode cX12_puts 11 = .ok (.invokestatic 53, 3) := by decide +kernel
theorem dX12_puts_14 : decode cX12_puts 14 = .ok (.iconst 0, 1) := by decide +kernel
theorem dX12_puts_15 : decode cX12_puts 15 = .ok (.iastore, 1) := by decide +kernel
theorem dX12_puts_16 : decode cX12_puts 16 = .ok (.return_, 1) := by decide +kernel
theorem dX12_here_0 : decode cX12_here 0 = .ok (.aload_n 0, 1) := by decide +kernel
theorem dX12_here_1 : decode cX12_here 1 = .ok (.getfield 85, 3) := by decide +kernel
theorem dX12_here_4 : decode cX12_here 4 = .ok (.aload_n 0, 1) := by decide +kernel
theorem dX12_here_5 : decode cX12_here 5 = .ok (.getfield 89, 3) := by decide +kernel
theorem dX12_here_8 : decode cX12_here 8 = .ok (.if_icmp .ge 24, 3) := by decide +kernel
theorem dX12_here_11 : decode cX12_here 11 = .ok (.aload_n 0, 1) := by decide +kernel
theorem dX12_here_12 : decode cX12_here 12 = .ok (.getfield 46, 3) := by decide +kernel
theorem dX12_here_15 : decode cX12_here 15 = .ok (.aload_n 0, 1) := by decide +kernel
theorem dX12_here_16 : decode cX12_here 16 = .ok (.getfield 92, 3) := by decide +kernel
theorem dX12_here_19 : decode cX12_here 19 = .ok (.aload_n 0, 1) := by decide +kernel
theorem dX12_here_20 : decode cX12_here 20 = .ok (.getfield 85, 3) := by decide +kernel
theorem dX12_here_23 : decode cX12_here 23 = .ok (.iadd, 1) := by decide +kernel
theorem dX12_here_24 : decode cX12_here 24 = .ok (.iaload, 1) := by decide +kernel
theorem dX12_here_25 : decode cX12_here 25 = .ok (.sipush 255, 3) := by decide +kernel
theorem dX12_here_28 : decode cX12_here 28 = .ok (.iand, 1) := by decide +kernel
theorem dX12_here_29 : decode cX12_here 29 = .ok (.goto 4, 3) := by decide +kernel
theorem dX12_here_32 : decode cX12_here 32 = .ok (.iconst (-1), 1) := by decide +kernel
theorem dX12_here_33 : decode cX12_here 33 = .ok (.ireturn, 1) := by decide +kernel
theorem dX12_readsNumber_0 : decode cX12_readsNumber 0 = .ok (.aload_n 0, 1) := by decide +kernel
theorem dX12_readsNumber_1 : decode cX12_readsNumber 1 = .ok (.getfield 22, 3) := by decide +kernel
theorem dX12_readsNumber_4 : decode cX12_readsNumber 4 = .ok (.iload_n 1, 1) := by decide +kernel
theorem dX12_readsNumber_5 : decode cX12_readsNumber 5 = .ok (.iconst 0, 1) := by decide +kernel
theorem dX12_readsNumber_6 : decode cX12_readsNumber 6 = .ok (.iastore, 1) := by decide +kernel
theorem dX12_readsNumber_7 : decode cX12_readsNumber 7 = .ok (.iconst 0, 1) := by decide +kernel
theorem dX12_readsNumber_8 : decode cX12_readsNumber 8 = .ok (.istore_n 3, 1) := by decide +kernel
theorem dX12_readsNumber_9 : decode cX12_readsNumber 9 = .ok (.iload_n 3, 1) := by decide +kernel
theorem dX12_readsNumber_10 : decode cX12_readsNumber 10 = .ok (.iload_n 2, 1) := by decide +kernel
theorem dX12_readsNumber_11 : decode cX12_readsNumber 11 = .ok (.if_icmp .ge 58, 3) := by decide +kernel
theorem dX12_readsNumber_14 : decode cX12_readsNumber 14 = .ok (.aload_n 0, 1) := by decide +kernel
theorem dX12_readsNumber_15 : decode cX12_readsNumber 15 = .ok (.invokevirtual 95, 3) := by decide +kernel
theorem dX12_readsNumber_18 : decode cX12_readsNumber 18 = .ok (.bipush 48, 2) := by decide +kernel
theorem dX12_readsNumber_20 : decode cX12_readsNumber 20 = .ok (.bipush 57, 2) := by decide +kernel
theorem dX12_readsNumber_22 : decode cX12_readsNumber 22 = .ok (.invokestatic 49, 3) := by decide +kernel
theorem dX12_readsNumber_25 : decode cX12_readsNumber 25 = .ok (.ifCond .ne 5, 3) := by decide +kernel
theorem dX12_readsNumber_28 : decode cX12_readsNumber 28 = .ok (.iconst 0, 1) := by decide +kernel
theorem dX12_readsNumber_29 : decode cX12_readsNumber 29 = .ok (.ireturn, 1) := by decide +kernel
theorem dX12_readsNumber_30 : decode cX12_readsNumber 30 = .ok (.aload_n 0, 1) := by decide +kernel
theorem dX12_readsNumber_31 : decode cX12_readsNumber 31 = .ok (.getfield 22, 3) := by decide +kernel
theorem dX12_readsNumber_34 : decode cX12_readsNumber 34 = .ok (.iload_n 1, 1) := by decide +kernel
theorem dX12_readsNumber_35 : decode cX12_readsNumber 35 = .ok (.bipush 10, 2) := by decide +kernel
theorem dX12_readsNumber_37 : decode cX12_readsNumber 37 = .ok (.aload_n 0, 1) := by decide +kernel
theorem dX12_readsNumber_38 : decode cX12_readsNumber 38 = .ok (.getfield 22, 3) := by decide +kernel
theorem dX12_readsNumber_41 : decode cX12_readsNumber 41 = .ok (.iload_n 1, 1) := by decide +kernel
theorem dX12_readsNumber_42 : decode cX12_readsNumber 42 = .ok (.iaload, 1) := by decide +kernel
theorem dX12_readsNumber_43 : decode cX12_readsNumber 43 = .ok (.imul, 1) := by decide +kernel
theorem dX12_readsNumber_44 : decode cX12_readsNumber 44 = .ok (.aload_n 0, 1) := by decide +kernel
theorem dX12_readsNumber_45 : decode cX12_readsNumber 45 = .ok (.invokevirtual 95, 3) := by decide +kernel
theorem dX12_readsNumber_48 : decode cX12_readsNumber 48 = .ok (.iadd, 1) := by decide +kernel
theorem dX12_readsNumber_49 : decode cX12_readsNumber 49 = .ok (.bipush 48, 2) := by decide +kernel
theorem dX12_readsNumber_51 : decode cX12_readsNumber 51 = .ok (.isub, 1) := by decide +kernel
theorem dX12_readsNumber_52 : decode cX12_readsNumber 52 = .ok (.iastore, 1) := by decide +kernel
theorem dX12_readsNumber_53 : decode cX12_readsNumber 53 = .ok (.aload_n 0, 1) := by decide +kernel
theorem dX12_readsNumber_54 : decode cX12_readsNumber 54 = .ok (.dup, 1) := by decide +kernel
theorem dX12_readsNumber_55 : decode cX12_readsNumber 55 = .ok (.getfield 85, 3) := by decide +kernel
theorem dX12_readsNumber_58 : decode cX12_readsNumber 58 = .ok (.iconst 1, 1) := by decide +kernel
theorem dX12_readsNumber_59 : decode cX12_readsNumber 59 = .ok (.iadd, 1) := by decide +kernel
theorem dX12_readsNumber_60 : decode cX12_readsNumber 60 = .ok (.putfield 85, 3) := by decide +kernel
theorem dX12_readsNumber_63 : decode cX12_readsNumber 63 = .ok (.iinc 3 1, 3) := by decide +kernel
theorem dX12_readsNumber_66 : decode cX12_readsNumber 66 = .ok (.goto (-57), 3) := by decide +kernel
theorem dX12_readsNumber_69 : decode cX12_readsNumber 69 = .ok (.iconst 1, 1) := by decide +kernel
theorem dX12_readsNumber_70 : decode cX12_readsNumber 70 = .ok (.ireturn, 1) := by decide +kernel
theorem dX12_readsStatement_0 : decode cX12_readsStatement 0 = .ok (.aload_n 0, 1) := by decide +kernel
theorem dX12_readsStatement_1 : decode cX12_readsStatement 1 = .ok (.invokevirtual 95, 3) := by decide +kernel
theorem dX12_readsStatement_4 : decode cX12_readsStatement 4 = .ok (.istore_n 1, 1) := by decide +kernel
theorem dX12_readsStatement_5 : decode cX12_readsStatement 5 = .ok (.aload_n 0, 1) := by decide +kernel
theorem dX12_readsStatement_6 : decode cX12_readsStatement 6 = .ok (.dup, 1) := by decide +kernel
theorem dX12_readsStatement_7 : decode cX12_readsStatement 7 = .ok (.getfield 85, 3) := by decide +kernel
theorem dX12_readsStatement_10 : decode cX12_readsStatement 10 = .ok (.iconst 1, 1) := by decide +kernel
theorem dX12_readsStatement_11 : decode cX12_readsStatement 11 = .ok (.iadd, 1) := by decide +kernel
theorem dX12_readsStatement_12 : decode cX12_readsStatement 12 = .ok (.putfield 85, 3) := by decide +kernel
theorem dX12_readsStatement_15 : decode cX12_readsStatement 15 = .ok (.iload_n 1, 1) := by decide +kernel
theorem dX12_readsStatement_16 : decode cX12_readsStatement 16 = .ok (.tableswitch 165 99 119 #[155, 145, 165, 165, 165, 155, 165, 165, 165, 155, 165, 165, 155, 100, 165, 145, 145, 155, 165, 165, 155], 100) := by decide +kernel
theorem dX12_readsStatement_116 : decode cX12_readsStatement 116 = .ok (.aload_n 0, 1) := by decide +kernel
theorem dX12_readsStatement_117 : decode cX12_readsStatement 117 = .ok (.iconst 0, 1) := by decide +kernel
theorem dX12_readsStatement_118 : decode cX12_readsStatement 118 = .ok (.iconst 1, 1) := by decide +kernel
theorem dX12_readsStatement_119 : decode cX12_readsStatement 119 = .ok (.invokevirtual 99, 3) := by decide +kernel
theorem dX12_readsStatement_122 : decode cX12_readsStatement 122 = .ok (.ifCond .eq 34, 3) := by decide +kernel
theorem dX12_readsStatement_125 : decode cX12_readsStatement 125 = .ok (.aload_n 0, 1) := by decide +kernel
theorem dX12_readsStatement_126 : decode cX12_readsStatement 126 = .ok (.iconst 1, 1) := by decide +kernel
theorem dX12_readsStatement_127 : decode cX12_readsStatement 127 = .ok (.iconst 1, 1) := by decide +kernel
theorem dX12_readsStatement_128 : decode cX12_readsStatement 128 = .ok (.invokevirtual 99, 3) := by decide +kernel
theorem dX12_readsStatement_131 : decode cX12_readsStatement 131 = .ok (.ifCond .eq 25, 3) := by decide +kernel
theorem dX12_readsStatement_134 : decode cX12_readsStatement 134 = .ok (.aload_n 0, 1) := by decide +kernel
theorem dX12_readsStatement_135 : decode cX12_readsStatement 135 = .ok (.iconst 2, 1) := by decide +kernel
theorem dX12_readsStatement_136 : decode cX12_readsStatement 136 = .ok (.iconst 1, 1) := by decide +kernel
theorem dX12_readsStatement_137 : decode cX12_readsStatement 137 = .ok (.invokevirtual 99, 3) := by decide +kernel
theorem dX12_readsStatement_140 : decode cX12_readsStatement 140 = .ok (.ifCond .eq 16, 3) := by decide +kernel
theorem dX12_readsStatement_143 : decode cX12_readsStatement 143 = .ok (.aload_n 0, 1) := by decide +kernel
theorem dX12_readsStatement_144 : decode cX12_readsStatement 144 = .ok (.iconst 3, 1) := by decide +kernel
theorem dX12_readsStatement_145 : decode cX12_readsStatement 145 = .ok (.iconst 1, 1) := by decide +kernel
theorem dX12_readsStatement_146 : decode cX12_readsStatement 146 = .ok (.invokevirtual 99, 3) := by decide +kernel
theorem dX12_readsStatement_149 : decode cX12_readsStatement 149 = .ok (.ifCond .eq 7, 3) := by decide +kernel
theorem dX12_readsStatement_152 : decode cX12_readsStatement 152 = .ok (.iconst 1, 1) := by decide +kernel
theorem dX12_readsStatement_153 : decode cX12_readsStatement 153 = .ok (.goto 4, 3) := by decide +kernel
theorem dX12_readsStatement_156 : decode cX12_readsStatement 156 = .ok (.iconst 0, 1) := by decide +kernel
theorem dX12_readsStatement_157 : decode cX12_readsStatement 157 = .ok (.istore_n 2, 1) := by decide +kernel
theorem dX12_readsStatement_158 : decode cX12_readsStatement 158 = .ok (.goto 35, 3) := by decide +kernel
theorem dX12_readsStatement_161 : decode cX12_readsStatement 161 = .ok (.aload_n 0, 1) := by decide +kernel
theorem dX12_readsStatement_162 : decode cX12_readsStatement 162 = .ok (.iconst 0, 1) := by decide +kernel
theorem dX12_readsStatement_163 : decode cX12_readsStatement 163 = .ok (.iconst 2, 1) := by decide +kernel
theorem dX12_readsStatement_164 : decode cX12_readsStatement 164 = .ok (.invokevirtual 99, 3) := by decide +kernel
theorem dX12_readsStatement_167 : decode cX12_readsStatement 167 = .ok (.istore_n 2, 1) := by decide +kernel
theorem dX12_readsStatement_168 : decode cX12_readsStatement 168 = .ok (.goto 25, 3) := by decide +kernel
theorem dX12_readsStatement_171 : decode cX12_readsStatement 171 = .ok (.aload_n 0, 1) := by decide +kernel
theorem dX12_readsStatement_172 : decode cX12_readsStatement 172 = .ok (.iconst 0, 1) := by decide +kernel
theorem dX12_readsStatement_173 : decode cX12_readsStatement 173 = .ok (.iconst 1, 1) := by decide +kernel
theorem dX12_readsStatement_174 : decode cX12_readsStatement 174 = .ok (.invokevirtual 99, 3) := by decide +kernel
theorem dX12_readsStatement_177 : decode cX12_readsStatement 177 = .ok (.istore_n 2, 1) := by decide +kernel
theorem dX12_readsStatement_178 : decode cX12_readsStatement 178 = .ok (.goto 15, 3) := by decide +kernel
theorem dX12_readsStatement_181 : decode cX12_readsStatement 181 = .ok (.aload_n 0, 1) := by decide +kernel
theorem dX12_readsStatement_182 : decode cX12_readsStatement 182 = .ok (.dup, 1) := by decide +kernel
theorem dX12_readsStatement_183 : decode cX12_readsStatement 183 = .ok (.getfield 85, 3) := by decide +kernel
theorem dX12_readsStatement_186 : decode cX12_readsStatement 186 = .ok (.iconst 1, 1) := by decide +kernel
theorem dX12_readsStatement_187 : decode cX12_readsStatement 187 = .ok (.isub, 1) := by decide +kernel
theorem dX12_readsStatement_188 : decode cX12_readsStatement 188 = .ok (.putfield 85, 3) := by decide +kernel
theorem dX12_readsStatement_191 : decode cX12_readsStatement 191 = .ok (.iconst 0, 1) := by decide +kernel
theorem dX12_readsStatement_192 : decode cX12_readsStatement 192 = .ok (.ireturn, 1) := by decide +kernel
theorem dX12_readsStatement_193 : decode cX12_readsStatement 193 = .ok (.iload_n 2, 1) := by decide +kernel
theorem dX12_readsStatement_194 : decode cX12_readsStatement 194 = .ok (.ifCond .eq 12, 3) := by decide +kernel
theorem dX12_readsStatement_197 : decode cX12_readsStatement 197 = .ok (.aload_n 0, 1) := by decide +kernel
theorem dX12_readsStatement_198 : decode cX12_readsStatement 198 = .ok (.invokevirtual 95, 3) := by decide +kernel
theorem dX12_readsStatement_201 : decode cX12_readsStatement 201 = .ok (.bipush 59, 2) := by decide +kernel
theorem dX12_readsStatement_203 : decode cX12_readsStatement 203 = .ok (.if_icmp .eq 5, 3) := by decide +kernel
theorem dX12_readsStatement_206 : decode cX12_readsStatement 206 = .ok (.iconst 0, 1) := by decide +kernel
theorem dX12_readsStatement_207 : decode cX12_readsStatement 207 = .ok (.ireturn, 1) := by decide +kernel
theorem dX12_readsStatement_208 : decode cX12_readsStatement 208 = .ok (.aload_n 0, 1) := by decide +kernel
theorem dX12_readsStatement_209 : decode cX12_readsStatement 209 = .ok (.dup, 1) := by decide +kernel
theorem dX12_readsStatement_210 : decode cX12_readsStatement 210 = .ok (.getfield 85, 3) := by decide +kernel
theorem dX12_readsStatement_213 : decode cX12_readsStatement 213 = .ok (.iconst 1, 1) := by decide +kernel
theorem dX12_readsStatement_214 : decode cX12_readsStatement 214 = .ok (.iadd, 1) := by decide +kernel
theorem dX12_readsStatement_215 : decode cX12_readsStatement 215 = .ok (.putfield 85, 3) := by decide +kernel
theorem dX12_readsStatement_218 : decode cX12_readsStatement 218 = .ok (.iconst 1, 1) := by decide +kernel
theorem dX12_readsStatement_219 : decode cX12_readsStatement 219 = .ok (.ireturn, 1) := by decide +kernel
theorem dX12_isThere_0 : decode cX12_isThere 0 = .ok (.aload_n 0, 1) := by decide +kernel
theorem dX12_isThere_1 : decode cX12_isThere 1 = .ok (.iload_n 1, 1) := by decide +kernel
theorem dX12_isThere_2 : decode cX12_isThere 2 = .ok (.invokevirtual 103, 3) := by decide +kernel
theorem dX12_isThere_5 : decode cX12_isThere 5 = .ok (.ifCond .eq 21, 3) := by decide +kernel
theorem dX12_isThere_8 : decode cX12_isThere 8 = .ok (.aload_n 0, 1) := by decide +kernel
theorem dX12_isThere_9 : decode cX12_isThere 9 = .ok (.getfield 9, 3) := by decide +kernel
theorem dX12_isThere_12 : decode cX12_isThere 12 = .ok (.iload_n 1, 1) := by decide +kernel
theorem dX12_isThere_13 : decode cX12_isThere 13 = .ok (.iconst 4, 1) := by decide +kernel
theorem dX12_isThere_14 : decode cX12_isThere 14 = .ok (.invokestatic 53, 3) := by decide +kernel
theorem dX12_isThere_17 : decode cX12_isThere 17 = .ok (.iaload, 1) := by decide +kernel
theorem dX12_isThere_18 : decode cX12_isThere 18 = .ok (.iconst 3, 1) := by decide +kernel
theorem dX12_isThere_19 : decode cX12_isThere 19 = .ok (.if_icmp .eq 7, 3) := by decide +kernel
theorem dX12_isThere_22 : decode cX12_isThere 22 = .ok (.iconst 1, 1) := by decide +kernel
theorem dX12_isThere_23 : decode cX12_isThere 23 = .ok (.goto 4, 3) := by decide +kernel
theorem dX12_isThere_26 : decode cX12_isThere 26 = .ok (.iconst 0, 1) := by decide +kernel
theorem dX12_isThere_27 : decode cX12_isThere 27 = .ok (.ireturn, 1) := by decide +kernel
theorem dX12_addsPart_0 : decode cX12_addsPart 0 = .ok (.aload_n 0, 1) := by decide +kernel
theorem dX12_addsPart_1 : decode cX12_addsPart 1 = .ok (.getfield 9, 3) := by decide +kernel
theorem dX12_addsPart_4 : decode cX12_addsPart 4 = .ok (.iconst 0, 1) := by decide +kernel
theorem dX12_addsPart_5 : decode cX12_addsPart 5 = .ok (.iaload, 1) := by decide +kernel
theorem dX12_addsPart_6 : decode cX12_addsPart 6 = .ok (.istore 5, 2) := by decide +kernel
theorem dX12_addsPart_8 : decode cX12_addsPart 8 = .ok (.aload_n 0, 1) := by decide +kernel
theorem dX12_addsPart_9 : decode cX12_addsPart 9 = .ok (.getfield 9, 3) := by decide +kernel
theorem dX12_addsPart_12 : decode cX12_addsPart 12 = .ok (.iload 5, 2) := by decide +kernel
theorem dX12_addsPart_14 : decode cX12_addsPart 14 = .ok (.iconst 0, 1) := by decide +kernel
theorem dX12_addsPart_15 : decode cX12_addsPart 15 = .ok (.invokestatic 53, 3) := by decide +kernel
theorem dX12_addsPart_18 : decode cX12_addsPart 18 = .ok (.iload_n 1, 1) := by decide +kernel
theorem dX12_addsPart_19 : decode cX12_addsPart 19 = .ok (.iastore, 1) := by decide +kernel
theorem dX12_addsPart_20 : decode cX12_addsPart 20 = .ok (.aload_n 0, 1) := by decide +kernel
theorem dX12_addsPart_21 : decode cX12_addsPart 21 = .ok (.getfield 9, 3) := by decide +kernel
theorem dX12_addsPart_24 : decode cX12_addsPart 24 = .ok (.iload 5, 2) := by decide +kernel
theorem dX12_addsPart_26 : decode cX12_addsPart 26 = .ok (.iconst 1, 1) := by decide +kernel
theorem dX12_addsPart_27 : decode cX12_addsPart 27 = .ok (.invokestatic 53, 3) := by decide +kernel
theorem dX12_addsPart_30 : decode cX12_addsPart 30 = .ok (.iload_n 2, 1) := by decide +kernel
theorem dX12_addsPart_31 : decode cX12_addsPart 31 = .ok (.iastore, 1) := by decide +kernel
theorem dX12_addsPart_32 : decode cX12_addsPart 32 = .ok (.aload_n 0, 1) := by decide +kernel
theorem dX12_addsPart_33 : decode cX12_addsPart 33 = .ok (.getfield 9, 3) := by decide +kernel
theorem dX12_addsPart_36 : decode cX12_addsPart 36 = .ok (.iload 5, 2) := by decide +kernel
theorem dX12_addsPart_38 : decode cX12_addsPart 38 = .ok (.iconst 2, 1) := by decide +kernel
theorem dX12_addsPart_39 : decode cX12_addsPart 39 = .ok (.invokestatic 53, 3) := by decide +kernel
theorem dX12_addsPart_42 : decode cX12_addsPart 42 = .ok (.iload_n 3, 1) := by decide +kernel
theorem dX12_addsPart_43 : decode cX12_addsPart 43 = .ok (.iastore, 1) := by decide +kernel
theorem dX12_addsPart_44 : decode cX12_addsPart 44 = .ok (.aload_n 0, 1) := by decide +kernel
theorem dX12_addsPart_45 : decode cX12_addsPart 45 = .ok (.getfield 9, 3) := by decide +kernel
theorem dX12_addsPart_48 : decode cX12_addsPart 48 = .ok (.iload 5, 2) := by decide +kernel
theorem dX12_addsPart_50 : decode cX12_addsPart 50 = .ok (.iconst 3, 1) := by decide +kernel
theorem dX12_addsPart_51 : decode cX12_addsPart 51 = .ok (.invokestatic 53, 3) := by decide +kernel
theorem dX12_addsPart_54 : decode cX12_addsPart 54 = .ok (.iload 4, 2) := by decide +kernel
theorem dX12_addsPart_56 : decode cX12_addsPart 56 = .ok (.iastore, 1) := by decide +kernel
theorem dX12_addsPart_57 : decode cX12_addsPart 57 = .ok (.aload_n 0, 1) := by decide +kernel
theorem dX12_addsPart_58 : decode cX12_addsPart 58 = .ok (.getfield 9, 3) := by decide +kernel
theorem dX12_addsPart_61 : decode cX12_addsPart 61 = .ok (.iload 5, 2) := by decide +kernel
theorem dX12_addsPart_63 : decode cX12_addsPart 63 = .ok (.iconst 0, 1) := by decide +kernel
theorem dX12_addsPart_64 : decode cX12_addsPart 64 = .ok (.invokestatic 107, 3) := by decide +kernel
theorem dX12_addsPart_67 : decode cX12_addsPart 67 = .ok (.aload_n 0, 1) := by decide +kernel
theorem dX12_addsPart_68 : decode cX12_addsPart 68 = .ok (.getfield 9, 3) := by decide +kernel
theorem dX12_addsPart_71 : decode cX12_addsPart 71 = .ok (.iconst 0, 1) := by decide +kernel
theorem dX12_addsPart_72 : decode cX12_addsPart 72 = .ok (.dup2, 1) := by decide +kernel
theorem dX12_addsPart_73 : decode cX12_addsPart 73 = .ok (.iaload, 1) := by decide +kernel
theorem dX12_addsPart_74 : decode cX12_addsPart 74 = .ok (.iconst 1, 1) := by decide +kernel
theorem dX12_addsPart_75 : decode cX12_addsPart 75 = .ok (.iadd, 1) := by decide +kernel
theorem dX12_addsPart_76 : decode cX12_addsPart 76 = .ok (.iastore, 1) := by decide +kernel
theorem dX12_addsPart_77 : decode cX12_addsPart 77 = .ok (.return_, 1) := by decide +kernel
theorem dX12_isDone_0 : decode cX12_isDone 0 = .ok (.aload_n 0, 1) := by decide +kernel
theorem dX12_isDone_1 : decode cX12_isDone 1 = .ok (.getfield 22, 3) := by decide +kernel
theorem dX12_isDone_4 : decode cX12_isDone 4 = .ok (.iconst 0, 1) := by decide +kernel
theorem dX12_isDone_5 : decode cX12_isDone 5 = .ok (.iaload, 1) := by decide +kernel
theorem dX12_isDone_6 : decode cX12_isDone 6 = .ok (.istore_n 2, 1) := by decide +kernel
theorem dX12_isDone_7 : decode cX12_isDone 7 = .ok (.iload_n 1, 1) := by decide +kernel
theorem dX12_isDone_8 : decode cX12_isDone 8 = .ok (.tableswitch 311 99 119 #[174, 311, 311, 311, 311, 220, 311, 311, 311, 183, 311, 311, 251, 100, 311, 201, 165, 290, 311, 311, 220], 100) := by decide +kernel
theorem dX12_isDone_108 : decode cX12_isDone 108 = .ok (.iload_n 2, 1) := by decide +kernel
theorem dX12_isDone_109 : decode cX12_isDone 109 = .ok (.bipush 8, 2) := by decide +kernel
theorem dX12_isDone_111 : decode cX12_isDone 111 = .ok (.if_icmp .ge 35, 3) := by decide +kernel
theorem dX12_isDone_114 : decode cX12_isDone 114 = .ok (.aload_n 0, 1) := by decide +kernel
theorem dX12_isDone_115 : decode cX12_isDone 115 = .ok (.getfield 22, 3) := by decide +kernel
theorem dX12_isDone_118 : decode cX12_isDone 118 = .ok (.iconst 2, 1) := by decide +kernel
theorem dX12_isDone_119 : decode cX12_isDone 119 = .ok (.iaload, 1) := by decide +kernel
theorem dX12_isDone_120 : decode cX12_isDone 120 = .ok (.invokestatic 111, 3) := by decide +kernel
theorem dX12_isDone_123 : decode cX12_isDone 123 = .ok (.ifCond .eq 23, 3) := by decide +kernel
theorem dX12_isDone_126 : decode cX12_isDone 126 = .ok (.aload_n 0, 1) := by decide +kernel
theorem dX12_isDone_127 : decode cX12_isDone 127 = .ok (.getfield 22, 3) := by decide +kernel
theorem dX12_isDone_130 : decode cX12_isDone 130 = .ok (.iconst 3, 1) := by decide +kernel
theorem dX12_isDone_131 : decode cX12_isDone 131 = .ok (.iaload, 1) := by decide +kernel
theorem dX12_isDone_132 : decode cX12_isDone 132 = .ok (.ifCond .eq 14, 3) := by decide +kernel
theorem dX12_isDone_135 : decode cX12_isDone 135 = .ok (.aload_n 0, 1) := by decide +kernel
theorem dX12_isDone_136 : decode cX12_isDone 136 = .ok (.getfield 9, 3) := by decide +kernel
theorem dX12_isDone_139 : decode cX12_isDone 139 = .ok (.iconst 0, 1) := by decide +kernel
theorem dX12_isDone_140 : decode cX12_isDone 140 = .ok (.iaload, 1) := by decide +kernel
theorem dX12_isDone_141 : decode cX12_isDone 141 = .ok (.bipush 7, 2) := by decide +kernel
theorem dX12_isDone_143 : decode cX12_isDone 143 = .ok (.if_icmp .ne 5, 3) := by decide +kernel
theorem dX12_isDone_146 : decode cX12_isDone 146 = .ok (.iconst 0, 1) := by decide +kernel
theorem dX12_isDone_147 : decode cX12_isDone 147 = .ok (.ireturn, 1) := by decide +kernel
theorem dX12_isDone_148 : decode cX12_isDone 148 = .ok (.aload_n 0, 1) := by decide +kernel
theorem dX12_isDone_149 : decode cX12_isDone 149 = .ok (.iload_n 2, 1) := by decide +kernel
theorem dX12_isDone_150 : decode cX12_isDone 150 = .ok (.aload_n 0, 1) := by decide +kernel
theorem dX12_isDone_151 : decode cX12_isDone 151 = .ok (.getfield 22, 3) := by decide +kernel
theorem dX12_isDone_154 : decode cX12_isDone 154 = .ok (.iconst 1, 1) := by decide +kernel
theorem dX12_isDone_155 : decode cX12_isDone 155 = .ok (.iaload, 1) := by decide +kernel
theorem dX12_isDone_156 : decode cX12_isDone 156 = .ok (.aload_n 0, 1) := by decide +kernel
theorem dX12_isDone_157 : decode cX12_isDone 157 = .ok (.getfield 22, 3) := by decide +kernel
theorem dX12_isDone_160 : decode cX12_isDone 160 = .ok (.iconst 2, 1) := by decide +kernel
theorem dX12_isDone_161 : decode cX12_isDone 161 = .ok (.iaload, 1) := by decide +kernel
theorem dX12_isDone_162 : decode cX12_isDone 162 = .ok (.aload_n 0, 1) := by decide +kernel
theorem dX12_isDone_163 : decode cX12_isDone 163 = .ok (.getfield 22, 3) := by decide +kernel
theorem dX12_isDone_166 : decode cX12_isDone 166 = .ok (.iconst 3, 1) := by decide +kernel
theorem dX12_isDone_167 : decode cX12_isDone 167 = .ok (.iaload, 1) := by decide +kernel
theorem dX12_isDone_168 : decode cX12_isDone 168 = .ok (.invokevirtual 114, 3) := by decide +kernel
theorem dX12_isDone_171 : decode cX12_isDone 171 = .ok (.iconst 1, 1) := by decide +kernel
theorem dX12_isDone_172 : decode cX12_isDone 172 = .ok (.ireturn, 1) := by decide +kernel
theorem dX12_isDone_173 : decode cX12_isDone 173 = .ok (.aload_n 0, 1) := by decide +kernel
theorem dX12_isDone_174 : decode cX12_isDone 174 = .ok (.getfield 9, 3) := by decide +kernel
theorem dX12_isDone_177 : decode cX12_isDone 177 = .ok (.iconst 2, 1) := by decide +kernel
theorem dX12_isDone_178 : decode cX12_isDone 178 = .ok (.iload_n 2, 1) := by decide +kernel
theorem dX12_isDone_179 : decode cX12_isDone 179 = .ok (.iastore, 1) := by decide +kernel
theorem dX12_isDone_180 : decode cX12_isDone 180 = .ok (.iconst 1, 1) := by decide +kernel
theorem dX12_isDone_181 : decode cX12_isDone 181 = .ok (.ireturn, 1) := by decide +kernel
theorem dX12_isDone_182 : decode cX12_isDone 182 = .ok (.aload_n 0, 1) := by decide +kernel
theorem dX12_isDone_183 : decode cX12_isDone 183 = .ok (.getfield 9, 3) := by decide +kernel
theorem dX12_isDone_186 : decode cX12_isDone 186 = .ok (.iconst 3, 1) := by decide +kernel
theorem dX12_isDone_187 : decode cX12_isDone 187 = .ok (.iload_n 2, 1) := by decide +kernel
theorem dX12_isDone_188 : decode cX12_isDone 188 = .ok (.iastore, 1) := by decide +kernel
theorem dX12_isDone_189 : decode cX12_isDone 189 = .ok (.iconst 1, 1) := by decide +kernel
theorem dX12_isDone_190 : decode cX12_isDone 190 = .ok (.ireturn, 1) := by decide +kernel
theorem dX12_isDone_191 : decode cX12_isDone 191 = .ok (.aload_n 0, 1) := by decide +kernel
theorem dX12_isDone_192 : decode cX12_isDone 192 = .ok (.getfield 9, 3) := by decide +kernel
theorem dX12_isDone_195 : decode cX12_isDone 195 = .ok (.iconst 4, 1) := by decide +kernel
theorem dX12_isDone_196 : decode cX12_isDone 196 = .ok (.iload_n 2, 1) := by decide +kernel
theorem dX12_isDone_197 : decode cX12_isDone 197 = .ok (.iastore, 1) := by decide +kernel
theorem dX12_isDone_198 : decode cX12_isDone 198 = .ok (.iload_n 2, 1) := by decide +kernel
theorem dX12_isDone_199 : decode cX12_isDone 199 = .ok (.iconst 5, 1) := by decide +kernel
theorem dX12_isDone_200 : decode cX12_isDone 200 = .ok (.if_icmp .gt 7, 3) := by decide +kernel
theorem dX12_isDone_203 : decode cX12_isDone 203 = .ok (.iconst 1, 1) := by decide +kernel
theorem dX12_isDone_204 : decode cX12_isDone 204 = .ok (.goto 4, 3) := by decide +kernel
theorem dX12_isDone_207 : decode cX12_isDone 207 = .ok (.iconst 0, 1) := by decide +kernel
theorem dX12_isDone_208 : decode cX12_isDone 208 = .ok (.ireturn, 1) := by decide +kernel
theorem dX12_isDone_209 : decode cX12_isDone 209 = .ok (.aload_n 0, 1) := by decide +kernel
theorem dX12_isDone_210 : decode cX12_isDone 210 = .ok (.getfield 9, 3) := by decide +kernel
theorem dX12_isDone_213 : decode cX12_isDone 213 = .ok (.iconst 5, 1) := by decide +kernel
theorem dX12_isDone_214 : decode cX12_isDone 214 = .ok (.iload_n 2, 1) := by decide +kernel
theorem dX12_isDone_215 : decode cX12_isDone 215 = .ok (.iastore, 1) := by decide +kernel
theorem dX12_isDone_216 : decode cX12_isDone 216 = .ok (.iload_n 2, 1) := by decide +kernel
theorem dX12_isDone_217 : decode cX12_isDone 217 = .ok (.bipush 40, 2) := by decide +kernel
theorem dX12_isDone_219 : decode cX12_isDone 219 = .ok (.if_icmp .gt 7, 3) := by decide +kernel
theorem dX12_isDone_222 : decode cX12_isDone 222 = .ok (.iconst 1, 1) := by decide +kernel
theorem dX12_isDone_223 : decode cX12_isDone 223 = .ok (.goto 4, 3) := by decide +kernel
theorem dX12_isDone_226 : decode cX12_isDone 226 = .ok (.iconst 0, 1) := by decide +kernel
theorem dX12_isDone_227 : decode cX12_isDone 227 = .ok (.ireturn, 1) := by decide +kernel
theorem dX12_isDone_228 : decode cX12_isDone 228 = .ok (.aload_n 0, 1) := by decide +kernel
theorem dX12_isDone_229 : decode cX12_isDone 229 = .ok (.iload_n 2, 1) := by decide +kernel
theorem dX12_isDone_230 : decode cX12_isDone 230 = .ok (.invokevirtual 118, 3) := by decide +kernel
theorem dX12_isDone_233 : decode cX12_isDone 233 = .ok (.ifCond .ne 5, 3) := by decide +kernel
theorem dX12_isDone_236 : decode cX12_isDone 236 = .ok (.iconst 0, 1) := by decide +kernel
theorem dX12_isDone_237 : decode cX12_isDone 237 = .ok (.ireturn, 1) := by decide +kernel
theorem dX12_isDone_238 : decode cX12_isDone 238 = .ok (.aload_n 0, 1) := by decide +kernel
theorem dX12_isDone_239 : decode cX12_isDone 239 = .ok (.getfield 9, 3) := by decide +kernel
theorem dX12_isDone_242 : decode cX12_isDone 242 = .ok (.iload_n 2, 1) := by decide +kernel
theorem dX12_isDone_243 : decode cX12_isDone 243 = .ok (.iload_n 1, 1) := by decide +kernel
theorem dX12_isDone_244 : decode cX12_isDone 244 = .ok (.bipush 104, 2) := by decide +kernel
theorem dX12_isDone_246 : decode cX12_isDone 246 = .ok (.if_icmp .ne 7, 3) := by decide +kernel
theorem dX12_isDone_249 : decode cX12_isDone 249 = .ok (.iconst 1, 1) := by decide +kernel
theorem dX12_isDone_250 : decode cX12_isDone 250 = .ok (.goto 4, 3) := by decide +kernel
theorem dX12_isDone_253 : decode cX12_isDone 253 = .ok (.iconst 2, 1) := by decide +kernel
theorem dX12_isDone_254 : decode cX12_isDone 254 = .ok (.invokestatic 107, 3) := by decide +kernel
theorem dX12_isDone_257 : decode cX12_isDone 257 = .ok (.iconst 1, 1) := by decide +kernel
theorem dX12_isDone_258 : decode cX12_isDone 258 = .ok (.ireturn, 1) := by decide +kernel
theorem dX12_isDone_259 : decode cX12_isDone 259 = .ok (.aload_n 0, 1) := by decide +kernel
theorem dX12_isDone_260 : decode cX12_isDone 260 = .ok (.iload_n 2, 1) := by decide +kernel
theorem dX12_isDone_261 : decode cX12_isDone 261 = .ok (.invokevirtual 103, 3) := by decide +kernel
theorem dX12_isDone_264 : decode cX12_isDone 264 = .ok (.ifCond .ne 5, 3) := by decide +kernel
theorem dX12_isDone_267 : decode cX12_isDone 267 = .ok (.iconst 0, 1) := by decide +kernel
theorem dX12_isDone_268 : decode cX12_isDone 268 = .ok (.ireturn, 1) := by decide +kernel
theorem dX12_isDone_269 : decode cX12_isDone 269 = .ok (.aload_n 0, 1) := by decide +kernel
theorem dX12_isDone_270 : decode cX12_isDone 270 = .ok (.getfield 9, 3) := by decide +kernel
theorem dX12_isDone_273 : decode cX12_isDone 273 = .ok (.iload_n 2, 1) := by decide +kernel
theorem dX12_isDone_274 : decode cX12_isDone 274 = .ok (.aload_n 0, 1) := by decide +kernel
theorem dX12_isDone_275 : decode cX12_isDone 275 = .ok (.getfield 9, 3) := by decide +kernel
theorem dX12_isDone_278 : decode cX12_isDone 278 = .ok (.iload_n 2, 1) := by decide +kernel
theorem dX12_isDone_279 : decode cX12_isDone 279 = .ok (.iconst 4, 1) := by decide +kernel
theorem dX12_isDone_280 : decode cX12_isDone 280 = .ok (.invokestatic 53, 3) := by decide +kernel
theorem dX12_isDone_283 : decode cX12_isDone 283 = .ok (.iaload, 1) := by decide +kernel
theorem dX12_isDone_284 : decode cX12_isDone 284 = .ok (.iconst 3, 1) := by decide +kernel
theorem dX12_isDone_285 : decode cX12_isDone 285 = .ok (.if_icmp .ne 7, 3) := by decide +kernel
theorem dX12_isDone_288 : decode cX12_isDone 288 = .ok (.iconst 0, 1) := by decide +kernel
theorem dX12_isDone_289 : decode cX12_isDone 289 = .ok (.goto 4, 3) := by decide +kernel
theorem dX12_isDone_292 : decode cX12_isDone 292 = .ok (.iconst 3, 1) := by decide +kernel
theorem dX12_isDone_293 : decode cX12_isDone 293 = .ok (.invokestatic 107, 3) := by decide +kernel
theorem dX12_isDone_296 : decode cX12_isDone 296 = .ok (.iconst 1, 1) := by decide +kernel
theorem dX12_isDone_297 : decode cX12_isDone 297 = .ok (.ireturn, 1) := by decide +kernel
theorem dX12_isDone_298 : decode cX12_isDone 298 = .ok (.aload_n 0, 1) := by decide +kernel
theorem dX12_isDone_299 : decode cX12_isDone 299 = .ok (.iload_n 2, 1) := by decide +kernel
theorem dX12_isDone_300 : decode cX12_isDone 300 = .ok (.invokevirtual 103, 3) := by decide +kernel
theorem dX12_isDone_303 : decode cX12_isDone 303 = .ok (.ifCond .ne 5, 3) := by decide +kernel
theorem dX12_isDone_306 : decode cX12_isDone 306 = .ok (.iconst 0, 1) := by decide +kernel
theorem dX12_isDone_307 : decode cX12_isDone 307 = .ok (.ireturn, 1) := by decide +kernel
theorem dX12_isDone_308 : decode cX12_isDone 308 = .ok (.aload_n 0, 1) := by decide +kernel
theorem dX12_isDone_309 : decode cX12_isDone 309 = .ok (.getfield 9, 3) := by decide +kernel
theorem dX12_isDone_312 : decode cX12_isDone 312 = .ok (.iload_n 2, 1) := by decide +kernel
theorem dX12_isDone_313 : decode cX12_isDone 313 = .ok (.invokestatic 121, 3) := by decide +kernel
theorem dX12_isDone_316 : decode cX12_isDone 316 = .ok (.istore_n 3, 1) := by decide +kernel
theorem dX12_isDone_317 : decode cX12_isDone 317 = .ok (.iconst 1, 1) := by decide +kernel
theorem dX12_isDone_318 : decode cX12_isDone 318 = .ok (.ireturn, 1) := by decide +kernel
theorem dX12_isDone_319 : decode cX12_isDone 319 = .ok (.iload_n 2, 1) := by decide +kernel
theorem dX12_isDone_320 : decode cX12_isDone 320 = .ok (.ifCond .eq 17, 3) := by decide +kernel
theorem dX12_isDone_323 : decode cX12_isDone 323 = .ok (.aload_n 0, 1) := by decide +kernel
theorem dX12_isDone_324 : decode cX12_isDone 324 = .ok (.getfield 9, 3) := by decide +kernel
theorem dX12_isDone_327 : decode cX12_isDone 327 = .ok (.iconst 1, 1) := by decide +kernel
theorem dX12_isDone_328 : decode cX12_isDone 328 = .ok (.iaload, 1) := by decide +kernel
theorem dX12_isDone_329 : decode cX12_isDone 329 = .ok (.iload_n 2, 1) := by decide +kernel
theorem dX12_isDone_330 : decode cX12_isDone 330 = .ok (.iadd, 1) := by decide +kernel
theorem dX12_isDone_331 : decode cX12_isDone 331 = .ok (.sipush 9999, 3) := by decide +kernel
theorem dX12_isDone_334 : decode cX12_isDone 334 = .ok (.if_icmp .le 5, 3) := by decide +kernel
theorem dX12_isDone_337 : decode cX12_isDone 337 = .ok (.iconst 0, 1) := by decide +kernel
theorem dX12_isDone_338 : decode cX12_isDone 338 = .ok (.ireturn, 1) := by decide +kernel
theorem dX12_isDone_339 : decode cX12_isDone 339 = .ok (.aload_n 0, 1) := by decide +kernel
theorem dX12_isDone_340 : decode cX12_isDone 340 = .ok (.getfield 9, 3) := by decide +kernel
theorem dX12_isDone_343 : decode cX12_isDone 343 = .ok (.invokestatic 124, 3) := by decide +kernel
theorem dX12_isDone_346 : decode cX12_isDone 346 = .ok (.istore_n 3, 1) := by decide +kernel
theorem dX12_isDone_347 : decode cX12_isDone 347 = .ok (.aload_n 0, 1) := by decide +kernel
theorem dX12_isDone_348 : decode cX12_isDone 348 = .ok (.getfield 9, 3) := by decide +kernel
theorem dX12_isDone_351 : decode cX12_isDone 351 = .ok (.iconst 1, 1) := by decide +kernel
theorem dX12_isDone_352 : decode cX12_isDone 352 = .ok (.dup2, 1) := by decide +kernel
theorem dX12_isDone_353 : decode cX12_isDone 353 = .ok (.iaload, 1) := by decide +kernel
theorem dX12_isDone_354 : decode cX12_isDone 354 = .ok (.iload_n 2, 1) := by decide +kernel
theorem dX12_isDone_355 : decode cX12_isDone 355 = .ok (.iadd, 1) := by decide +kernel
theorem dX12_isDone_356 : decode cX12_isDone 356 = .ok (.iastore, 1) := by decide +kernel
theorem dX12_isDone_357 : decode cX12_isDone 357 = .ok (.iconst 1, 1) := by decide +kernel
theorem dX12_isDone_358 : decode cX12_isDone 358 = .ok (.ireturn, 1) := by decide +kernel
theorem dX12_road_0 : decode cX12_road 0 = .ok (.aload_n 0, 1) := by decide +kernel
theorem dX12_road_1 : decode cX12_road 1 = .ok (.iload_n 1, 1) := by decide +kernel
theorem dX12_road_2 : decode cX12_road 2 = .ok (.iconst 0, 1) := by decide +kernel
theorem dX12_road_3 : decode cX12_road 3 = .ok (.invokevirtual 127, 3) := by decide +kernel
theorem dX12_road_6 : decode cX12_road 6 = .ok (.istore_n 2, 1) := by decide +kernel
theorem dX12_road_7 : decode cX12_road 7 = .ok (.iload_n 2, 1) := by decide +kernel
theorem dX12_road_8 : decode cX12_road 8 = .ok (.ifCond .eq 5, 3) := by decide +kernel
theorem dX12_road_11 : decode cX12_road 11 = .ok (.iload_n 2, 1) := by decide +kernel
theorem dX12_road_12 : decode cX12_road 12 = .ok (.ireturn, 1) := by decide +kernel
theorem dX12_road_13 : decode cX12_road 13 = .ok (.aload_n 0, 1) := by decide +kernel
theorem dX12_road_14 : decode cX12_road 14 = .ok (.bipush 100, 2) := by decide +kernel
theorem dX12_road_16 : decode cX12_road 16 = .ok (.iload_n 1, 1) := by decide +kernel
theorem dX12_road_17 : decode cX12_road 17 = .ok (.imul, 1) := by decide +kernel
theorem dX12_road_18 : decode cX12_road 18 = .ok (.putfield 92, 3) := by decide +kernel
theorem dX12_road_21 : decode cX12_road 21 = .ok (.aload_n 0, 1) := by decide +kernel
theorem dX12_road_22 : decode cX12_road 22 = .ok (.aload_n 0, 1) := by decide +kernel
theorem dX12_road_23 : decode cX12_road 23 = .ok (.getfield 43, 3) := by decide +kernel
theorem dX12_road_26 : decode cX12_road 26 = .ok (.iload_n 1, 1) := by decide +kernel
theorem dX12_road_27 : decode cX12_road 27 = .ok (.iaload, 1) := by decide +kernel
theorem dX12_road_28 : decode cX12_road 28 = .ok (.putfield 89, 3) := by decide +kernel
theorem dX12_road_31 : decode cX12_road 31 = .ok (.aload_n 0, 1) := by decide +kernel
theorem dX12_road_32 : decode cX12_road 32 = .ok (.iconst 0, 1) := by decide +kernel
theorem dX12_road_33 : decode cX12_road 33 = .ok (.putfield 85, 3) := by decide +kernel
theorem dX12_road_36 : decode cX12_road 36 = .ok (.iconst 0, 1) := by decide +kernel
theorem dX12_road_37 : decode cX12_road 37 = .ok (.istore_n 3, 1) := by decide +kernel
theorem dX12_road_38 : decode cX12_road 38 = .ok (.iconst 0, 1) := by decide +kernel
theorem dX12_road_39 : decode cX12_road 39 = .ok (.istore 4, 2) := by decide +kernel
theorem dX12_road_41 : decode cX12_road 41 = .ok (.aload_n 0, 1) := by decide +kernel
theorem dX12_road_42 : decode cX12_road 42 = .ok (.invokevirtual 130, 3) := by decide +kernel
theorem dX12_road_45 : decode cX12_road 45 = .ok (.ifCond .ne 13, 3) := by decide +kernel
theorem dX12_road_48 : decode cX12_road 48 = .ok (.sipush (-1000), 3) := by decide +kernel
theorem dX12_road_51 : decode cX12_road 51 = .ok (.aload_n 0, 1) := by decide +kernel
theorem dX12_road_52 : decode cX12_road 52 = .ok (.getfield 85, 3) := by decide +kernel
theorem dX12_road_55 : decode cX12_road 55 = .ok (.isub, 1) := by decide +kernel
theorem dX12_road_56 : decode cX12_road 56 = .ok (.istore 4, 2) := by decide +kernel
theorem dX12_road_58 : decode cX12_road 58 = .ok (.iinc 3 1, 3) := by decide +kernel
theorem dX12_road_61 : decode cX12_road 61 = .ok (.iload 4, 2) := by decide +kernel
theorem dX12_road_63 : decode cX12_road 63 = .ok (.ifCond .ne 14, 3) := by decide +kernel
theorem dX12_road_66 : decode cX12_road 66 = .ok (.aload_n 0, 1) := by decide +kernel
theorem dX12_road_67 : decode cX12_road 67 = .ok (.getfield 85, 3) := by decide +kernel
theorem dX12_road_70 : decode cX12_road 70 = .ok (.aload_n 0, 1) := by decide +kernel
theorem dX12_road_71 : decode cX12_road 71 = .ok (.getfield 89, 3) := by decide +kernel
theorem dX12_road_74 : decode cX12_road 74 = .ok (.if_icmp .lt (-33), 3) := by decide +kernel
theorem dX12_road_77 : decode cX12_road 77 = .ok (.aload_n 0, 1) := by decide +kernel
theorem dX12_road_78 : decode cX12_road 78 = .ok (.getfield 9, 3) := by decide +kernel
theorem dX12_road_81 : decode cX12_road 81 = .ok (.aload_n 0, 1) := by decide +kernel
theorem dX12_road_82 : decode cX12_road 82 = .ok (.getfield 19, 3) := by decide +kernel
theorem dX12_road_85 : decode cX12_road 85 = .ok (.invokestatic 134, 3) := by decide +kernel
theorem dX12_road_88 : decode cX12_road 88 = .ok (.aload_n 0, 1) := by decide +kernel
theorem dX12_road_89 : decode cX12_road 89 = .ok (.iconst 0, 1) := by decide +kernel
theorem dX12_road_90 : decode cX12_road 90 = .ok (.putfield 85, 3) := by decide +kernel
theorem dX12_road_93 : decode cX12_road 93 = .ok (.iload 4, 2) := by decide +kernel
theorem dX12_road_95 : decode cX12_road 95 = .ok (.ifCond .ne 66, 3) := by decide +kernel
theorem dX12_road_98 : decode cX12_road 98 = .ok (.aload_n 0, 1) := by decide +kernel
theorem dX12_road_99 : decode cX12_road 99 = .ok (.getfield 85, 3) := by decide +kernel
theorem dX12_road_102 : decode cX12_road 102 = .ok (.aload_n 0, 1) := by decide +kernel
theorem dX12_road_103 : decode cX12_road 103 = .ok (.getfield 89, 3) := by decide +kernel
theorem dX12_road_106 : decode cX12_road 106 = .ok (.if_icmp .ge 55, 3) := by decide +kernel
theorem dX12_road_109 : decode cX12_road 109 = .ok (.aload_n 0, 1) := by decide +kernel
theorem dX12_road_110 : decode cX12_road 110 = .ok (.getfield 85, 3) := by decide +kernel
theorem dX12_road_113 : decode cX12_road 113 = .ok (.istore 5, 2) := by decide +kernel
theorem dX12_road_115 : decode cX12_road 115 = .ok (.aload_n 0, 1) := by decide +kernel
theorem dX12_road_116 : decode cX12_road 116 = .ok (.invokevirtual 95, 3) := by decide +kernel
theorem dX12_road_119 : decode cX12_road 119 = .ok (.istore 6, 2) := by decide +kernel
theorem dX12_road_121 : decode cX12_road 121 = .ok (.aload_n 0, 1) := by decide +kernel
theorem dX12_road_122 : decode cX12_road 122 = .ok (.invokevirtual 130, 3) := by decide +kernel
theorem dX12_road_125 : decode cX12_road 125 = .ok (.istore 7, 2) := by decide +kernel
theorem dX12_road_127 : decode cX12_road 127 = .ok (.aload_n 0, 1) := by decide +kernel
theorem dX12_road_128 : decode cX12_road 128 = .ok (.iload 6, 2) := by decide +kernel
theorem dX12_road_130 : decode cX12_road 130 = .ok (.invokevirtual 138, 3) := by decide +kernel
theorem dX12_road_133 : decode cX12_road 133 = .ok (.ifCond .eq 6, 3) := by decide +kernel
theorem dX12_road_136 : decode cX12_road 136 = .ok (.goto (-43), 3) := by decide +kernel
theorem dX12_road_139 : decode cX12_road 139 = .ok (.sipush (-2000), 3) := by decide +kernel
theorem dX12_road_142 : decode cX12_road 142 = .ok (.iload 5, 2) := by decide +kernel
theorem dX12_road_144 : decode cX12_road 144 = .ok (.isub, 1) := by decide +kernel
theorem dX12_road_145 : decode cX12_road 145 = .ok (.istore 4, 2) := by decide +kernel
theorem dX12_road_147 : decode cX12_road 147 = .ok (.aload_n 0, 1) := by decide +kernel
theorem dX12_road_148 : decode cX12_road 148 = .ok (.getfield 19, 3) := by decide +kernel
theorem dX12_road_151 : decode cX12_road 151 = .ok (.aload_n 0, 1) := by decide +kernel
theorem dX12_road_152 : decode cX12_road 152 = .ok (.getfield 9, 3) := by decide +kernel
theorem dX12_road_155 : decode cX12_road 155 = .ok (.invokestatic 134, 3) := by decide +kernel
theorem dX12_road_158 : decode cX12_road 158 = .ok (.goto (-65), 3) := by decide +kernel
theorem dX12_road_161 : decode cX12_road 161 = .ok (.iload 4, 2) := by decide +kernel
theorem dX12_road_163 : decode cX12_road 163 = .ok (.ifCond .ne 7, 3) := by decide +kernel
theorem dX12_road_166 : decode cX12_road 166 = .ok (.iload_n 3, 1) := by decide +kernel
theorem dX12_road_167 : decode cX12_road 167 = .ok (.goto 5, 3) := by decide +kernel
theorem dX12_road_170 : decode cX12_road 170 = .ok (.iload 4, 2) := by decide +kernel
theorem dX12_road_172 : decode cX12_road 172 = .ok (.ireturn, 1) := by decide +kernel
theorem dX12_part_0 : decode cX12_part 0 = .ok (.aload_n 0, 1) := by decide +kernel
theorem dX12_part_1 : decode cX12_part 1 = .ok (.iload_n 1, 1) := by decide +kernel
theorem dX12_part_2 : decode cX12_part 2 = .ok (.invokevirtual 103, 3) := by decide +kernel
theorem dX12_part_5 : decode cX12_part 5 = .ok (.ifCond .eq 13, 3) := by decide +kernel
theorem dX12_part_8 : decode cX12_part 8 = .ok (.iload_n 2, 1) := by decide +kernel
theorem dX12_part_9 : decode cX12_part 9 = .ok (.iconst 0, 1) := by decide +kernel
theorem dX12_part_10 : decode cX12_part 10 = .ok (.bipush 7, 2) := by decide +kernel
theorem dX12_part_12 : decode cX12_part 12 = .ok (.invokestatic 49, 3) := by decide +kernel
theorem dX12_part_15 : decode cX12_part 15 = .ok (.ifCond .ne 5, 3) := by decide +kernel
theorem dX12_part_18 : decode cX12_part 18 = .ok (.iconst (-1), 1) := by decide +kernel
theorem dX12_part_19 : decode cX12_part 19 = .ok (.ireturn, 1) := by decide +kernel
theorem dX12_part_20 : decode cX12_part 20 = .ok (.iload_n 2, 1) := by decide +kernel
theorem dX12_part_21 : decode cX12_part 21 = .ok (.iconst 5, 1) := by decide +kernel
theorem dX12_part_22 : decode cX12_part 22 = .ok (.if_icmp .ge 16, 3) := by decide +kernel
theorem dX12_part_25 : decode cX12_part 25 = .ok (.aload_n 0, 1) := by decide +kernel
theorem dX12_part_26 : decode cX12_part 26 = .ok (.getfield 9, 3) := by decide +kernel
theorem dX12_part_29 : decode cX12_part 29 = .ok (.iload_n 1, 1) := by decide +kernel
theorem dX12_part_30 : decode cX12_part 30 = .ok (.iload_n 2, 1) := by decide +kernel
theorem dX12_part_31 : decode cX12_part 31 = .ok (.invokestatic 53, 3) := by decide +kernel
theorem dX12_part_34 : decode cX12_part 34 = .ok (.iaload, 1) := by decide +kernel
theorem dX12_part_35 : decode cX12_part 35 = .ok (.goto 50, 3) := by decide +kernel
theorem dX12_part_38 : decode cX12_part 38 = .ok (.iload_n 2, 1) := by decide +kernel
theorem dX12_part_39 : decode cX12_part 39 = .ok (.iconst 5, 1) := by decide +kernel
theorem dX12_part_40 : decode cX12_part 40 = .ok (.if_icmp .ne 20, 3) := by decide +kernel
theorem dX12_part_43 : decode cX12_part 43 = .ok (.aload_n 0, 1) := by decide +kernel
theorem dX12_part_44 : decode cX12_part 44 = .ok (.getfield 9, 3) := by decide +kernel
theorem dX12_part_47 : decode cX12_part 47 = .ok (.iload_n 1, 1) := by decide +kernel
theorem dX12_part_48 : decode cX12_part 48 = .ok (.aload_n 0, 1) := by decide +kernel
theorem dX12_part_49 : decode cX12_part 49 = .ok (.getfield 9, 3) := by decide +kernel
theorem dX12_part_52 : decode cX12_part 52 = .ok (.iconst 2, 1) := by decide +kernel
theorem dX12_part_53 : decode cX12_part 53 = .ok (.iaload, 1) := by decide +kernel
theorem dX12_part_54 : decode cX12_part 54 = .ok (.invokestatic 60, 3) := by decide +kernel
theorem dX12_part_57 : decode cX12_part 57 = .ok (.goto 28, 3) := by decide +kernel
theorem dX12_part_60 : decode cX12_part 60 = .ok (.iload_n 2, 1) := by decide +kernel
theorem dX12_part_61 : decode cX12_part 61 = .ok (.bipush 6, 2) := by decide +kernel
theorem dX12_part_63 : decode cX12_part 63 = .ok (.if_icmp .ne 14, 3) := by decide +kernel
theorem dX12_part_66 : decode cX12_part 66 = .ok (.aload_n 0, 1) := by decide +kernel
theorem dX12_part_67 : decode cX12_part 67 = .ok (.getfield 9, 3) := by decide +kernel
theorem dX12_part_70 : decode cX12_part 70 = .ok (.iload_n 1, 1) := by decide +kernel
theorem dX12_part_71 : decode cX12_part 71 = .ok (.invokestatic 141, 3) := by decide +kernel
theorem dX12_part_74 : decode cX12_part 74 = .ok (.goto 11, 3) := by decide +kernel
theorem dX12_part_77 : decode cX12_part 77 = .ok (.aload_n 0, 1) := by decide +kernel
theorem dX12_part_78 : decode cX12_part 78 = .ok (.getfield 9, 3) := by decide +kernel
theorem dX12_part_81 : decode cX12_part 81 = .ok (.iload_n 1, 1) := by decide +kernel
theorem dX12_part_82 : decode cX12_part 82 = .ok (.invokestatic 81, 3) := by decide +kernel
theorem dX12_part_85 : decode cX12_part 85 = .ok (.ireturn, 1) := by decide +kernel
theorem dX12_adds_0 : decode cX12_adds 0 = .ok (.iload_n 1, 1) := by decide +kernel
theorem dX12_adds_1 : decode cX12_adds 1 = .ok (.invokestatic 144, 3) := by decide +kernel
theorem dX12_adds_4 : decode cX12_adds 4 = .ok (.ifCond .eq 20, 3) := by decide +kernel
theorem dX12_adds_7 : decode cX12_adds 7 = .ok (.iload_n 2, 1) := by decide +kernel
theorem dX12_adds_8 : decode cX12_adds 8 = .ok (.invokestatic 111, 3) := by decide +kernel
theorem dX12_adds_11 : decode cX12_adds 11 = .ok (.ifCond .eq 13, 3) := by decide +kernel
theorem dX12_adds_14 : decode cX12_adds 14 = .ok (.iload_n 3, 1) := by decide +kernel
theorem dX12_adds_15 : decode cX12_adds 15 = .ok (.iconst 1, 1) := by decide +kernel
theorem dX12_adds_16 : decode cX12_adds 16 = .ok (.bipush 9, 2) := by decide +kernel
theorem dX12_adds_18 : decode cX12_adds 18 = .ok (.invokestatic 49, 3) := by decide +kernel
theorem dX12_adds_21 : decode cX12_adds 21 = .ok (.ifCond .ne 5, 3) := by decide +kernel
theorem dX12_adds_24 : decode cX12_adds 24 = .ok (.iconst (-1), 1) := by decide +kernel
theorem dX12_adds_25 : decode cX12_adds 25 = .ok (.ireturn, 1) := by decide +kernel
theorem dX12_adds_26 : decode cX12_adds 26 = .ok (.aload_n 0, 1) := by decide +kernel
theorem dX12_adds_27 : decode cX12_adds 27 = .ok (.iload_n 1, 1) := by decide +kernel
theorem dX12_adds_28 : decode cX12_adds 28 = .ok (.invokevirtual 147, 3) := by decide +kernel
theorem dX12_adds_31 : decode cX12_adds 31 = .ok (.istore 4, 2) := by decide +kernel
theorem dX12_adds_33 : decode cX12_adds 33 = .ok (.iload 4, 2) := by decide +kernel
theorem dX12_adds_35 : decode cX12_adds 35 = .ok (.ifCond .eq 6, 3) := by decide +kernel
theorem dX12_adds_38 : decode cX12_adds 38 = .ok (.iload 4, 2) := by decide +kernel
theorem dX12_adds_40 : decode cX12_adds 40 = .ok (.ireturn, 1) := by decide +kernel
theorem dX12_adds_41 : decode cX12_adds 41 = .ok (.aload_n 0, 1) := by decide +kernel
theorem dX12_adds_42 : decode cX12_adds 42 = .ok (.getfield 9, 3) := by decide +kernel
theorem dX12_adds_45 : decode cX12_adds 45 = .ok (.iconst 0, 1) := by decide +kernel
theorem dX12_adds_46 : decode cX12_adds 46 = .ok (.iaload, 1) := by decide +kernel
theorem dX12_adds_47 : decode cX12_adds 47 = .ok (.bipush 7, 2) := by decide +kernel
theorem dX12_adds_49 : decode cX12_adds 49 = .ok (.if_icmp .ne 6, 3) := by decide +kernel
theorem dX12_adds_52 : decode cX12_adds 52 = .ok (.bipush (-2), 2) := by decide +kernel
theorem dX12_adds_54 : decode cX12_adds 54 = .ok (.ireturn, 1) := by decide +kernel
theorem dX12_adds_55 : decode cX12_adds 55 = .ok (.aload_n 0, 1) := by decide +kernel
theorem dX12_adds_56 : decode cX12_adds 56 = .ok (.aload_n 0, 1) := by decide +kernel
theorem dX12_adds_57 : decode cX12_adds 57 = .ok (.getfield 34, 3) := by decide +kernel
theorem dX12_adds_60 : decode cX12_adds 60 = .ok (.iload_n 1, 1) := by decide +kernel
theorem dX12_adds_61 : decode cX12_adds 61 = .ok (.iaload, 1) := by decide +kernel
theorem dX12_adds_62 : decode cX12_adds 62 = .ok (.aload_n 0, 1) := by decide +kernel
theorem dX12_adds_63 : decode cX12_adds 63 = .ok (.getfield 37, 3) := by decide +kernel
theorem dX12_adds_66 : decode cX12_adds 66 = .ok (.iload_n 1, 1) := by decide +kernel
theorem dX12_adds_67 : decode cX12_adds 67 = .ok (.iaload, 1) := by decide +kernel
theorem dX12_adds_68 : decode cX12_adds 68 = .ok (.iload_n 2, 1) := by decide +kernel
theorem dX12_adds_69 : decode cX12_adds 69 = .ok (.iload_n 3, 1) := by decide +kernel
theorem dX12_adds_70 : decode cX12_adds 70 = .ok (.invokevirtual 114, 3) := by decide +kernel
theorem dX12_adds_73 : decode cX12_adds 73 = .ok (.aload_n 0, 1) := by decide +kernel
theorem dX12_adds_74 : decode cX12_adds 74 = .ok (.getfield 9, 3) := by decide +kernel
theorem dX12_adds_77 : decode cX12_adds 77 = .ok (.iconst 0, 1) := by decide +kernel
theorem dX12_adds_78 : decode cX12_adds 78 = .ok (.iaload, 1) := by decide +kernel
theorem dX12_adds_79 : decode cX12_adds 79 = .ok (.iconst 1, 1) := by decide +kernel
theorem dX12_adds_80 : decode cX12_adds 80 = .ok (.isub, 1) := by decide +kernel
theorem dX12_adds_81 : decode cX12_adds 81 = .ok (.ireturn, 1) := by decide +kernel
theorem dX12_holds_0 : decode cX12_holds 0 = .ok (.aload_n 0, 1) := by decide +kernel
theorem dX12_holds_1 : decode cX12_holds 1 = .ok (.iload_n 1, 1) := by decide +kernel
theorem dX12_holds_2 : decode cX12_holds 2 = .ok (.invokevirtual 103, 3) := by decide +kernel
theorem dX12_holds_5 : decode cX12_holds 5 = .ok (.ifCond .ne 5, 3) := by decide +kernel
theorem dX12_holds_8 : decode cX12_holds 8 = .ok (.iconst (-1), 1) := by decide +kernel
theorem dX12_holds_9 : decode cX12_holds 9 = .ok (.ireturn, 1) := by decide +kernel
theorem dX12_holds_10 : decode cX12_holds 10 = .ok (.aload_n 0, 1) := by decide +kernel
theorem dX12_holds_11 : decode cX12_holds 11 = .ok (.iload_n 1, 1) := by decide +kernel
theorem dX12_holds_12 : decode cX12_holds 12 = .ok (.invokevirtual 118, 3) := by decide +kernel
theorem dX12_holds_15 : decode cX12_holds 15 = .ok (.ifCond .ne 6, 3) := by decide +kernel
theorem dX12_holds_18 : decode cX12_holds 18 = .ok (.bipush (-3), 2) := by decide +kernel
theorem dX12_holds_20 : decode cX12_holds 20 = .ok (.ireturn, 1) := by decide +kernel
theorem dX12_holds_21 : decode cX12_holds 21 = .ok (.aload_n 0, 1) := by decide +kernel
theorem dX12_holds_22 : decode cX12_holds 22 = .ok (.getfield 9, 3) := by decide +kernel
theorem dX12_holds_25 : decode cX12_holds 25 = .ok (.iload_n 1, 1) := by decide +kernel
theorem dX12_holds_26 : decode cX12_holds 26 = .ok (.iconst 1, 1) := by decide +kernel
theorem dX12_holds_27 : decode cX12_holds 27 = .ok (.invokestatic 107, 3) := by decide +kernel
theorem dX12_holds_30 : decode cX12_holds 30 = .ok (.aload_n 0, 1) := by decide +kernel
theorem dX12_holds_31 : decode cX12_holds 31 = .ok (.getfield 9, 3) := by decide +kernel
theorem dX12_holds_34 : decode cX12_holds 34 = .ok (.iload_n 1, 1) := by decide +kernel
theorem dX12_holds_35 : decode cX12_holds 35 = .ok (.invokestatic 141, 3) := by decide +kernel
theorem dX12_holds_38 : decode cX12_holds 38 = .ok (.ireturn, 1) := by decide +kernel
theorem dX12_wedges_0 : decode cX12_wedges 0 = .ok (.aload_n 0, 1) := by decide +kernel
theorem dX12_wedges_1 : decode cX12_wedges 1 = .ok (.iload_n 1, 1) := by decide +kernel
theorem dX12_wedges_2 : decode cX12_wedges 2 = .ok (.invokevirtual 103, 3) := by decide +kernel
theorem dX12_wedges_5 : decode cX12_wedges 5 = .ok (.ifCond .ne 5, 3) := by decide +kernel
theorem dX12_wedges_8 : decode cX12_wedges 8 = .ok (.iconst (-1), 1) := by decide +kernel
theorem dX12_wedges_9 : decode cX12_wedges 9 = .ok (.ireturn, 1) := by decide +kernel
theorem dX12_wedges_10 : decode cX12_wedges 10 = .ok (.aload_n 0, 1) := by decide +kernel
theorem dX12_wedges_11 : decode cX12_wedges 11 = .ok (.iload_n 1, 1) := by decide +kernel
theorem dX12_wedges_12 : decode cX12_wedges 12 = .ok (.invokevirtual 118, 3) := by decide +kernel
theorem dX12_wedges_15 : decode cX12_wedges 15 = .ok (.ifCond .ne 6, 3) := by decide +kernel
theorem dX12_wedges_18 : decode cX12_wedges 18 = .ok (.bipush (-3), 2) := by decide +kernel
theorem dX12_wedges_20 : decode cX12_wedges 20 = .ok (.ireturn, 1) := by decide +kernel
theorem dX12_wedges_21 : decode cX12_wedges 21 = .ok (.aload_n 0, 1) := by decide +kernel
theorem dX12_wedges_22 : decode cX12_wedges 22 = .ok (.getfield 9, 3) := by decide +kernel
theorem dX12_wedges_25 : decode cX12_wedges 25 = .ok (.iload_n 1, 1) := by decide +kernel
theorem dX12_wedges_26 : decode cX12_wedges 26 = .ok (.iconst 4, 1) := by decide +kernel
theorem dX12_wedges_27 : decode cX12_wedges 27 = .ok (.invokestatic 53, 3) := by decide +kernel
theorem dX12_wedges_30 : decode cX12_wedges 30 = .ok (.iaload, 1) := by decide +kernel
theorem dX12_wedges_31 : decode cX12_wedges 31 = .ok (.istore_n 2, 1) := by decide +kernel
theorem dX12_wedges_32 : decode cX12_wedges 32 = .ok (.aload_n 0, 1) := by decide +kernel
theorem dX12_wedges_33 : decode cX12_wedges 33 = .ok (.getfield 9, 3) := by decide +kernel
theorem dX12_wedges_36 : decode cX12_wedges 36 = .ok (.iload_n 1, 1) := by decide +kernel
theorem dX12_wedges_37 : decode cX12_wedges 37 = .ok (.iconst 2, 1) := by decide +kernel
theorem dX12_wedges_38 : decode cX12_wedges 38 = .ok (.invokestatic 107, 3) := by decide +kernel
theorem dX12_wedges_41 : decode cX12_wedges 41 = .ok (.iload_n 2, 1) := by decide +kernel
theorem dX12_wedges_42 : decode cX12_wedges 42 = .ok (.ireturn, 1) := by decide +kernel
theorem dX12_outs_0 : decode cX12_outs 0 = .ok (.aload_n 0, 1) := by decide +kernel
theorem dX12_outs_1 : decode cX12_outs 1 = .ok (.iload_n 1, 1) := by decide +kernel
theorem dX12_outs_2 : decode cX12_outs 2 = .ok (.invokevirtual 103, 3) := by decide +kernel
theorem dX12_outs_5 : decode cX12_outs 5 = .ok (.ifCond .ne 5, 3) := by decide +kernel
theorem dX12_outs_8 : decode cX12_outs 8 = .ok (.iconst (-1), 1) := by decide +kernel
theorem dX12_outs_9 : decode cX12_outs 9 = .ok (.ireturn, 1) := by decide +kernel
theorem dX12_outs_10 : decode cX12_outs 10 = .ok (.aload_n 0, 1) := by decide +kernel
theorem dX12_outs_11 : decode cX12_outs 11 = .ok (.getfield 9, 3) := by decide +kernel
theorem dX12_outs_14 : decode cX12_outs 14 = .ok (.iload_n 1, 1) := by decide +kernel
theorem dX12_outs_15 : decode cX12_outs 15 = .ok (.aload_n 0, 1) := by decide +kernel
theorem dX12_outs_16 : decode cX12_outs 16 = .ok (.getfield 9, 3) := by decide +kernel
theorem dX12_outs_19 : decode cX12_outs 19 = .ok (.iload_n 1, 1) := by decide +kernel
theorem dX12_outs_20 : decode cX12_outs 20 = .ok (.iconst 4, 1) := by decide +kernel
theorem dX12_outs_21 : decode cX12_outs 21 = .ok (.invokestatic 53, 3) := by decide +kernel
theorem dX12_outs_24 : decode cX12_outs 24 = .ok (.iaload, 1) := by decide +kernel
theorem dX12_outs_25 : decode cX12_outs 25 = .ok (.iconst 3, 1) := by decide +kernel
theorem dX12_outs_26 : decode cX12_outs 26 = .ok (.if_icmp .ne 7, 3) := by decide +kernel
theorem dX12_outs_29 : decode cX12_outs 29 = .ok (.iconst 0, 1) := by decide +kernel
theorem dX12_outs_30 : decode cX12_outs 30 = .ok (.goto 4, 3) := by decide +kernel
theorem dX12_outs_33 : decode cX12_outs 33 = .ok (.iconst 3, 1) := by decide +kernel
theorem dX12_outs_34 : decode cX12_outs 34 = .ok (.invokestatic 107, 3) := by decide +kernel
theorem dX12_outs_37 : decode cX12_outs 37 = .ok (.aload_n 0, 1) := by decide +kernel
theorem dX12_outs_38 : decode cX12_outs 38 = .ok (.getfield 9, 3) := by decide +kernel
theorem dX12_outs_41 : decode cX12_outs 41 = .ok (.iload_n 1, 1) := by decide +kernel
theorem dX12_outs_42 : decode cX12_outs 42 = .ok (.iconst 4, 1) := by decide +kernel
theorem dX12_outs_43 : decode cX12_outs 43 = .ok (.invokestatic 53, 3) := by decide +kernel
theorem dX12_outs_46 : decode cX12_outs 46 = .ok (.iaload, 1) := by decide +kernel
theorem dX12_outs_47 : decode cX12_outs 47 = .ok (.ireturn, 1) := by decide +kernel
theorem dX12_screws_0 : decode cX12_screws 0 = .ok (.aload_n 0, 1) := by decide +kernel
theorem dX12_screws_1 : decode cX12_screws 1 = .ok (.iload_n 1, 1) := by decide +kernel
theorem dX12_screws_2 : decode cX12_screws 2 = .ok (.invokevirtual 103, 3) := by decide +kernel
theorem dX12_screws_5 : decode cX12_screws 5 = .ok (.ifCond .eq 14, 3) := by decide +kernel
theorem dX12_screws_8 : decode cX12_screws 8 = .ok (.aload_n 0, 1) := by decide +kernel
theorem dX12_screws_9 : decode cX12_screws 9 = .ok (.getfield 9, 3) := by decide +kernel
theorem dX12_screws_12 : decode cX12_screws 12 = .ok (.iload_n 1, 1) := by decide +kernel
theorem dX12_screws_13 : decode cX12_screws 13 = .ok (.invokestatic 121, 3) := by decide +kernel
theorem dX12_screws_16 : decode cX12_screws 16 = .ok (.goto 4, 3) := by decide +kernel
theorem dX12_screws_19 : decode cX12_screws 19 = .ok (.iconst (-1), 1) := by decide +kernel
theorem dX12_screws_20 : decode cX12_screws 20 = .ok (.ireturn, 1) := by decide +kernel
theorem dX12_set_0 : decode cX12_set 0 = .ok (.iload_n 1, 1) := by decide +kernel
theorem dX12_set_1 : decode cX12_set 1 = .ok (.iconst 0, 1) := by decide +kernel
theorem dX12_set_2 : decode cX12_set 2 = .ok (.iconst 3, 1) := by decide +kernel
theorem dX12_set_3 : decode cX12_set 3 = .ok (.invokestatic 49, 3) := by decide +kernel
theorem dX12_set_6 : decode cX12_set 6 = .ok (.ifCond .eq 41, 3) := by decide +kernel
theorem dX12_set_9 : decode cX12_set 9 = .ok (.iload_n 2, 1) := by decide +kernel
theorem dX12_set_10 : decode cX12_set 10 = .ok (.iconst 0, 1) := by decide +kernel
theorem dX12_set_11 : decode cX12_set 11 = .ok (.iload_n 1, 1) := by decide +kernel
theorem dX12_set_12 : decode cX12_set 12 = .ok (.ifCond .ne 8, 3) := by decide +kernel
theorem dX12_set_15 : decode cX12_set 15 = .ok (.bipush 99, 2) := by decide +kernel
theorem dX12_set_17 : decode cX12_set 17 = .ok (.goto 24, 3) := by decide +kernel
theorem dX12_set_20 : decode cX12_set 20 = .ok (.iload_n 1, 1) := by decide +kernel
theorem dX12_set_21 : decode cX12_set 21 = .ok (.iconst 1, 1) := by decide +kernel
theorem dX12_set_22 : decode cX12_set 22 = .ok (.if_icmp .ne 8, 3) := by decide +kernel
theorem dX12_set_25 : decode cX12_set 25 = .ok (.bipush 9, 2) := by decide +kernel
theorem dX12_set_27 : decode cX12_set 27 = .ok (.goto 14, 3) := by decide +kernel
theorem dX12_set_30 : decode cX12_set 30 = .ok (.iload_n 1, 1) := by decide +kernel
theorem dX12_set_31 : decode cX12_set 31 = .ok (.iconst 2, 1) := by decide +kernel
theorem dX12_set_32 : decode cX12_set 32 = .ok (.if_icmp .ne 7, 3) := by decide +kernel
theorem dX12_set_35 : decode cX12_set 35 = .ok (.iconst 5, 1) := by decide +kernel
theorem dX12_set_36 : decode cX12_set 36 = .ok (.goto 5, 3) := by decide +kernel
theorem dX12_set_39 : decode cX12_set 39 = .ok (.bipush 40, 2) := by decide +kernel
theorem dX12_set_41 : decode cX12_set 41 = .ok (.invokestatic 49, 3) := by decide +kernel
theorem dX12_set_44 : decode cX12_set 44 = .ok (.ifCond .ne 5, 3) := by decide +kernel
theorem dX12_set_47 : decode cX12_set 47 = .ok (.iconst (-1), 1) := by decide +kernel
theorem dX12_set_48 : decode cX12_set 48 = .ok (.ireturn, 1) := by decide +kernel
theorem dX12_set_49 : decode cX12_set 49 = .ok (.aload_n 0, 1) := by decide +kernel
theorem dX12_set_50 : decode cX12_set 50 = .ok (.getfield 9, 3) := by decide +kernel
theorem dX12_set_53 : decode cX12_set 53 = .ok (.iconst 2, 1) := by decide +kernel
theorem dX12_set_54 : decode cX12_set 54 = .ok (.iload_n 1, 1) := by decide +kernel
theorem dX12_set_55 : decode cX12_set 55 = .ok (.iadd, 1) := by decide +kernel
theorem dX12_set_56 : decode cX12_set 56 = .ok (.iaload, 1) := by decide +kernel
theorem dX12_set_57 : decode cX12_set 57 = .ok (.istore_n 3, 1) := by decide +kernel
theorem dX12_set_58 : decode cX12_set 58 = .ok (.aload_n 0, 1) := by decide +kernel
theorem dX12_set_59 : decode cX12_set 59 = .ok (.getfield 9, 3) := by decide +kernel
theorem dX12_set_62 : decode cX12_set 62 = .ok (.iconst 2, 1) := by decide +kernel
theorem dX12_set_63 : decode cX12_set 63 = .ok (.iload_n 1, 1) := by decide +kernel
theorem dX12_set_64 : decode cX12_set 64 = .ok (.iadd, 1) := by decide +kernel
theorem dX12_set_65 : decode cX12_set 65 = .ok (.iload_n 2, 1) := by decide +kernel
theorem dX12_set_66 : decode cX12_set 66 = .ok (.iastore, 1) := by decide +kernel
theorem dX12_set_67 : decode cX12_set 67 = .ok (.iload_n 3, 1) := by decide +kernel
theorem dX12_set_68 : decode cX12_set 68 = .ok (.ireturn, 1) := by decide +kernel
theorem dX12_drives_0 : decode cX12_drives 0 = .ok (.iload_n 1, 1) := by decide +kernel
theorem dX12_drives_1 : decode cX12_drives 1 = .ok (.iconst 1, 1) := by decide +kernel
theorem dX12_drives_2 : decode cX12_drives 2 = .ok (.bipush 99, 2) := by decide +kernel
theorem dX12_drives_4 : decode cX12_drives 4 = .ok (.invokestatic 49, 3) := by decide +kernel
theorem dX12_drives_7 : decode cX12_drives 7 = .ok (.ifCond .ne 5, 3) := by decide +kernel
theorem dX12_drives_10 : decode cX12_drives 10 = .ok (.iconst (-1), 1) := by decide +kernel
theorem dX12_drives_11 : decode cX12_drives 11 = .ok (.ireturn, 1) := by decide +kernel
theorem dX12_drives_12 : decode cX12_drives 12 = .ok (.aload_n 0, 1) := by decide +kernel
theorem dX12_drives_13 : decode cX12_drives 13 = .ok (.getfield 9, 3) := by decide +kernel
theorem dX12_drives_16 : decode cX12_drives 16 = .ok (.iconst 1, 1) := by decide +kernel
theorem dX12_drives_17 : decode cX12_drives 17 = .ok (.iaload, 1) := by decide +kernel
theorem dX12_drives_18 : decode cX12_drives 18 = .ok (.iload_n 1, 1) := by decide +kernel
theorem dX12_drives_19 : decode cX12_drives 19 = .ok (.iadd, 1) := by decide +kernel
theorem dX12_drives_20 : decode cX12_drives 20 = .ok (.sipush 9999, 3) := by decide +kernel
theorem dX12_drives_23 : decode cX12_drives 23 = .ok (.if_icmp .le 6, 3) := by decide +kernel
theorem dX12_drives_26 : decode cX12_drives 26 = .ok (.bipush (-3), 2) := by decide +kernel
theorem dX12_drives_28 : decode cX12_drives 28 = .ok (.ireturn, 1) := by decide +kernel
theorem dX12_drives_29 : decode cX12_drives 29 = .ok (.aload_n 0, 1) := by decide +kernel
theorem dX12_drives_30 : decode cX12_drives 30 = .ok (.getfield 9, 3) := by decide +kernel
theorem dX12_drives_33 : decode cX12_drives 33 = .ok (.iconst 1, 1) := by decide +kernel
theorem dX12_drives_34 : decode cX12_drives 34 = .ok (.dup2, 1) := by decide +kernel
theorem dX12_drives_35 : decode cX12_drives 35 = .ok (.iaload, 1) := by decide +kernel
theorem dX12_drives_36 : decode cX12_drives 36 = .ok (.iload_n 1, 1) := by decide +kernel
theorem dX12_drives_37 : decode cX12_drives 37 = .ok (.iadd, 1) := by decide +kernel
theorem dX12_drives_38 : decode cX12_drives 38 = .ok (.iastore, 1) := by decide +kernel
theorem dX12_drives_39 : decode cX12_drives 39 = .ok (.aload_n 0, 1) := by decide +kernel
theorem dX12_drives_40 : decode cX12_drives 40 = .ok (.getfield 9, 3) := by decide +kernel
theorem dX12_drives_43 : decode cX12_drives 43 = .ok (.invokestatic 124, 3) := by decide +kernel
theorem dX12_drives_46 : decode cX12_drives 46 = .ok (.ireturn, 1) := by decide +kernel
theorem dX12_heard_0 : decode cX12_heard 0 = .ok (.iload_n 1, 1) := by decide +kernel
theorem dX12_heard_1 : decode cX12_heard 1 = .ok (.invokestatic 111, 3) := by decide +kernel
theorem dX12_heard_4 : decode cX12_heard 4 = .ok (.ifCond .eq 25, 3) := by decide +kernel
theorem dX12_heard_7 : decode cX12_heard 7 = .ok (.iload_n 2, 1) := by decide +kernel
theorem dX12_heard_8 : decode cX12_heard 8 = .ok (.iconst 0, 1) := by decide +kernel
theorem dX12_heard_9 : decode cX12_heard 9 = .ok (.bipush 99, 2) := by decide +kernel
theorem dX12_heard_11 : decode cX12_heard 11 = .ok (.invokestatic 49, 3) := by decide +kernel
theorem dX12_heard_14 : decode cX12_heard 14 = .ok (.ifCond .eq 15, 3) := by decide +kernel
theorem dX12_heard_17 : decode cX12_heard 17 = .ok (.aload_n 0, 1) := by decide +kernel
theorem dX12_heard_18 : decode cX12_heard 18 = .ok (.getfield 9, 3) := by decide +kernel
theorem dX12_heard_21 : decode cX12_heard 21 = .ok (.iload_n 1, 1) := by decide +kernel
theorem dX12_heard_22 : decode cX12_heard 22 = .ok (.iload_n 2, 1) := by decide +kernel
theorem dX12_heard_23 : decode cX12_heard 23 = .ok (.invokestatic 74, 3) := by decide +kernel
theorem dX12_heard_26 : decode cX12_heard 26 = .ok (.goto 4, 3) := by decide +kernel
theorem dX12_heard_29 : decode cX12_heard 29 = .ok (.iconst (-1), 1) := by decide +kernel
theorem dX12_heard_30 : decode cX12_heard 30 = .ok (.ireturn, 1) := by decide +kernel
theorem dX12_loudest_0 : decode cX12_loudest 0 = .ok (.iload_n 1, 1) := by decide +kernel
theorem dX12_loudest_1 : decode cX12_loudest 1 = .ok (.invokestatic 111, 3) := by decide +kernel
theorem dX12_loudest_4 : decode cX12_loudest 4 = .ok (.ifCond .eq 14, 3) := by decide +kernel
theorem dX12_loudest_7 : decode cX12_loudest 7 = .ok (.aload_n 0, 1) := by decide +kernel
theorem dX12_loudest_8 : decode cX12_loudest 8 = .ok (.getfield 9, 3) := by decide +kernel
theorem dX12_loudest_11 : decode cX12_loudest 11 = .ok (.iload_n 1, 1) := by decide +kernel
theorem dX12_loudest_12 : decode cX12_loudest 12 = .ok (.invokestatic 150, 3) := by decide +kernel
theorem dX12_loudest_15 : decode cX12_loudest 15 = .ok (.goto 4, 3) := by decide +kernel
theorem dX12_loudest_18 : decode cX12_loudest 18 = .ok (.iconst (-1), 1) := by decide +kernel
theorem dX12_loudest_19 : decode cX12_loudest 19 = .ok (.ireturn, 1) := by decide +kernel
theorem dX12_paces_0 : decode cX12_paces 0 = .ok (.iload_n 1, 1) := by decide +kernel
theorem dX12_paces_1 : decode cX12_paces 1 = .ok (.invokestatic 111, 3) := by decide +kernel
theorem dX12_paces_4 : decode cX12_paces 4 = .ok (.ifCond .eq 12, 3) := by decide +kernel
theorem dX12_paces_7 : decode cX12_paces 7 = .ok (.iload_n 2, 1) := by decide +kernel
theorem dX12_paces_8 : decode cX12_paces 8 = .ok (.iconst 0, 1) := by decide +kernel
theorem dX12_paces_9 : decode cX12_paces 9 = .ok (.iconst 2, 1) := by decide +kernel
theorem dX12_paces_10 : decode cX12_paces 10 = .ok (.invokestatic 49, 3) := by decide +kernel
theorem dX12_paces_13 : decode cX12_paces 13 = .ok (.ifCond .ne 5, 3) := by decide +kernel
theorem dX12_paces_16 : decode cX12_paces 16 = .ok (.iconst (-1), 1) := by decide +kernel
theorem dX12_paces_17 : decode cX12_paces 17 = .ok (.ireturn, 1) := by decide +kernel
theorem dX12_paces_18 : decode cX12_paces 18 = .ok (.iconst 0, 1) := by decide +kernel
theorem dX12_paces_19 : decode cX12_paces 19 = .ok (.istore_n 3, 1) := by decide +kernel
theorem dX12_paces_20 : decode cX12_paces 20 = .ok (.bipush (-4), 2) := by decide +kernel
theorem dX12_paces_22 : decode cX12_paces 22 = .ok (.istore 4, 2) := by decide +kernel
theorem dX12_paces_24 : decode cX12_paces 24 = .ok (.bipush (-4), 2) := by decide +kernel
theorem dX12_paces_26 : decode cX12_paces 26 = .ok (.istore 5, 2) := by decide +kernel
theorem dX12_paces_28 : decode cX12_paces 28 = .ok (.iconst 0, 1) := by decide +kernel
theorem dX12_paces_29 : decode cX12_paces 29 = .ok (.istore 6, 2) := by decide +kernel
theorem dX12_paces_31 : decode cX12_paces 31 = .ok (.iload 6, 2) := by decide +kernel
theorem dX12_paces_33 : decode cX12_paces 33 = .ok (.bipush 100, 2) := by decide +kernel
theorem dX12_paces_35 : decode cX12_paces 35 = .ok (.if_icmp .ge 45, 3) := by decide +kernel
theorem dX12_paces_38 : decode cX12_paces 38 = .ok (.aload_n 0, 1) := by decide +kernel
theorem dX12_paces_39 : decode cX12_paces 39 = .ok (.getfield 9, 3) := by decide +kernel
theorem dX12_paces_42 : decode cX12_paces 42 = .ok (.iload_n 1, 1) := by decide +kernel
theorem dX12_paces_43 : decode cX12_paces 43 = .ok (.iload 6, 2) := by decide +kernel
theorem dX12_paces_45 : decode cX12_paces 45 = .ok (.invokestatic 74, 3) := by decide +kernel
theorem dX12_paces_48 : decode cX12_paces 48 = .ok (.ifCond .ne 6, 3) := by decide +kernel
theorem dX12_paces_51 : decode cX12_paces 51 = .ok (.goto 23, 3) := by decide +kernel
theorem dX12_paces_54 : decode cX12_paces 54 = .ok (.iload_n 3, 1) := by decide +kernel
theorem dX12_paces_55 : decode cX12_paces 55 = .ok (.ifCond .ne 8, 3) := by decide +kernel
theorem dX12_paces_58 : decode cX12_paces 58 = .ok (.iload 6, 2) := by decide +kernel
theorem dX12_paces_60 : decode cX12_paces 60 = .ok (.goto 5, 3) := by decide +kernel
theorem dX12_paces_63 : decode cX12_paces 63 = .ok (.iload 4, 2) := by decide +kernel
theorem dX12_paces_65 : decode cX12_paces 65 = .ok (.istore 4, 2) := by decide +kernel
theorem dX12_paces_67 : decode cX12_paces 67 = .ok (.iload 6, 2) := by decide +kernel
theorem dX12_paces_69 : decode cX12_paces 69 = .ok (.istore 5, 2) := by decide +kernel
theorem dX12_paces_71 : decode cX12_paces 71 = .ok (.iinc 3 1, 3) := by decide +kernel
theorem dX12_paces_74 : decode cX12_paces 74 = .ok (.iinc 6 1, 3) := by decide +kernel
theorem dX12_paces_77 : decode cX12_paces 77 = .ok (.goto (-46), 3) := by decide +kernel
theorem dX12_paces_80 : decode cX12_paces 80 = .ok (.iload_n 2, 1) := by decide +kernel
theorem dX12_paces_81 : decode cX12_paces 81 = .ok (.ifCond .ne 7, 3) := by decide +kernel
theorem dX12_paces_84 : decode cX12_paces 84 = .ok (.iload_n 3, 1) := by decide +kernel
theorem dX12_paces_85 : decode cX12_paces 85 = .ok (.goto 15, 3) := by decide +kernel
theorem dX12_paces_88 : decode cX12_paces 88 = .ok (.iload_n 2, 1) := by decide +kernel
theorem dX12_paces_89 : decode cX12_paces 89 = .ok (.iconst 1, 1) := by decide +kernel
theorem dX12_paces_90 : decode cX12_paces 90 = .ok (.if_icmp .ne 8, 3) := by decide +kernel
theorem dX12_paces_93 : decode cX12_paces 93 = .ok (.iload 4, 2) := by decide +kernel
theorem dX12_paces_95 : decode cX12_paces 95 = .ok (.goto 5, 3) := by decide +kernel
theorem dX12_paces_98 : decode cX12_paces 98 = .ok (.iload 5, 2) := by decide +kernel
theorem dX12_paces_100 : decode cX12_paces 100 = .ok (.ireturn, 1) := by decide +kernel
theorem dX12_silentFrom_0 : decode cX12_silentFrom 0 = .ok (.iload_n 1, 1) := by decide +kernel
theorem dX12_silentFrom_1 : decode cX12_silentFrom 1 = .ok (.invokestatic 111, 3) := by decide +kernel
theorem dX12_silentFrom_4 : decode cX12_silentFrom 4 = .ok (.ifCond .eq 13, 3) := by decide +kernel
theorem dX12_silentFrom_7 : decode cX12_silentFrom 7 = .ok (.iload_n 2, 1) := by decide +kernel
theorem dX12_silentFrom_8 : decode cX12_silentFrom 8 = .ok (.iconst 0, 1) := by decide +kernel
theorem dX12_silentFrom_9 : decode cX12_silentFrom 9 = .ok (.bipush 99, 2) := by decide +kernel
theorem dX12_silentFrom_11 : decode cX12_silentFrom 11 = .ok (.invokestatic 49, 3) := by decide +kernel
theorem dX12_silentFrom_14 : decode cX12_silentFrom 14 = .ok (.ifCond .ne 5, 3) := by decide +kernel
theorem dX12_silentFrom_17 : decode cX12_silentFrom 17 = .ok (.iconst (-1), 1) := by decide +kernel
theorem dX12_silentFrom_18 : decode cX12_silentFrom 18 = .ok (.ireturn, 1) := by decide +kernel
theorem dX12_silentFrom_19 : decode cX12_silentFrom 19 = .ok (.iload_n 2, 1) := by decide +kernel
theorem dX12_silentFrom_20 : decode cX12_silentFrom 20 = .ok (.istore_n 3, 1) := by decide +kernel
theorem dX12_silentFrom_21 : decode cX12_silentFrom 21 = .ok (.iload_n 3, 1) := by decide +kernel
theorem dX12_silentFrom_22 : decode cX12_silentFrom 22 = .ok (.bipush 100, 2) := by decide +kernel
theorem dX12_silentFrom_24 : decode cX12_silentFrom 24 = .ok (.if_icmp .ge 23, 3) := by decide +kernel
theorem dX12_silentFrom_27 : decode cX12_silentFrom 27 = .ok (.aload_n 0, 1) := by decide +kernel
theorem dX12_silentFrom_28 : decode cX12_silentFrom 28 = .ok (.getfield 9, 3) := by decide +kernel
theorem dX12_silentFrom_31 : decode cX12_silentFrom 31 = .ok (.iload_n 1, 1) := by decide +kernel
theorem dX12_silentFrom_32 : decode cX12_silentFrom 32 = .ok (.iload_n 3, 1) := by decide +kernel
theorem dX12_silentFrom_33 : decode cX12_silentFrom 33 = .ok (.invokestatic 74, 3) := by decide +kernel
theorem dX12_silentFrom_36 : decode cX12_silentFrom 36 = .ok (.ifCond .ne 5, 3) := by decide +kernel
theorem dX12_silentFrom_39 : decode cX12_silentFrom 39 = .ok (.iload_n 3, 1) := by decide +kernel
theorem dX12_silentFrom_40 : decode cX12_silentFrom 40 = .ok (.ireturn, 1) := by decide +kernel
theorem dX12_silentFrom_41 : decode cX12_silentFrom 41 = .ok (.iinc 3 1, 3) := by decide +kernel
theorem dX12_silentFrom_44 : decode cX12_silentFrom 44 = .ok (.goto (-23), 3) := by decide +kernel
theorem dX12_silentFrom_47 : decode cX12_silentFrom 47 = .ok (.bipush (-4), 2) := by decide +kernel
theorem dX12_silentFrom_49 : decode cX12_silentFrom 49 = .ok (.ireturn, 1) := by decide +kernel
theorem dX12_bits_0 : decode cX12_bits 0 = .ok (.iconst 0, 1) := by decide +kernel
theorem dX12_bits_1 : decode cX12_bits 1 = .ok (.istore_n 1, 1) := by decide +kernel
theorem dX12_bits_2 : decode cX12_bits 2 = .ok (.iconst 0, 1) := by decide +kernel
theorem dX12_bits_3 : decode cX12_bits 3 = .ok (.istore_n 2, 1) := by decide +kernel
theorem dX12_bits_4 : decode cX12_bits 4 = .ok (.iload_n 2, 1) := by decide +kernel
theorem dX12_bits_5 : decode cX12_bits 5 = .ok (.bipush 7, 2) := by decide +kernel
theorem dX12_bits_7 : decode cX12_bits 7 = .ok (.if_icmp .ge 17, 3) := by decide +kernel
theorem dX12_bits_10 : decode cX12_bits 10 = .ok (.iload_n 1, 1) := by decide +kernel
theorem dX12_bits_11 : decode cX12_bits 11 = .ok (.iload_n 0, 1) := by decide +kernel
theorem dX12_bits_12 : decode cX12_bits 12 = .ok (.iload_n 2, 1) := by decide +kernel
theorem dX12_bits_13 : decode cX12_bits 13 = .ok (.ishr, 1) := by decide +kernel
theorem dX12_bits_14 : decode cX12_bits 14 = .ok (.iconst 1, 1) := by decide +kernel
theorem dX12_bits_15 : decode cX12_bits 15 = .ok (.iand, 1) := by decide +kernel
theorem dX12_bits_16 : decode cX12_bits 16 = .ok (.iadd, 1) := by decide +kernel
theorem dX12_bits_17 : decode cX12_bits 17 = .ok (.istore_n 1, 1) := by decide +kernel
theorem dX12_bits_18 : decode cX12_bits 18 = .ok (.iinc 2 1, 3) := by decide +kernel
theorem dX12_bits_21 : decode cX12_bits 21 = .ok (.goto (-17), 3) := by decide +kernel
theorem dX12_bits_24 : decode cX12_bits 24 = .ok (.iload_n 1, 1) := by decide +kernel
theorem dX12_bits_25 : decode cX12_bits 25 = .ok (.ireturn, 1) := by decide +kernel
theorem dX12_holdAll_0 : decode cX12_holdAll 0 = .ok (.iload_n 1, 1) := by decide +kernel
theorem dX12_holdAll_1 : decode cX12_holdAll 1 = .ok (.iconst 0, 1) := by decide +kernel
theorem dX12_holdAll_2 : decode cX12_holdAll 2 = .ok (.iconst 1, 1) := by decide +kernel
theorem dX12_holdAll_3 : decode cX12_holdAll 3 = .ok (.invokestatic 49, 3) := by decide +kernel
theorem dX12_holdAll_6 : decode cX12_holdAll 6 = .ok (.ifCond .ne 5, 3) := by decide +kernel
theorem dX12_holdAll_9 : decode cX12_holdAll 9 = .ok (.iconst (-1), 1) := by decide +kernel
theorem dX12_holdAll_10 : decode cX12_holdAll 10 = .ok (.ireturn, 1) := by decide +kernel
theorem dX12_holdAll_11 : decode cX12_holdAll 11 = .ok (.iconst (-1), 1) := by decide +kernel
theorem dX12_holdAll_12 : decode cX12_holdAll 12 = .ok (.istore_n 2, 1) := by decide +kernel
theorem dX12_holdAll_13 : decode cX12_holdAll 13 = .ok (.iconst 0, 1) := by decide +kernel
theorem dX12_holdAll_14 : decode cX12_holdAll 14 = .ok (.istore_n 3, 1) := by decide +kernel
theorem dX12_holdAll_15 : decode cX12_holdAll 15 = .ok (.iload_n 3, 1) := by decide +kernel
theorem dX12_holdAll_16 : decode cX12_holdAll 16 = .ok (.iconst 1, 1) := by decide +kernel
theorem dX12_holdAll_17 : decode cX12_holdAll 17 = .ok (.aload_n 0, 1) := by decide +kernel
theorem dX12_holdAll_18 : decode cX12_holdAll 18 = .ok (.getfield 9, 3) := by decide +kernel
theorem dX12_holdAll_21 : decode cX12_holdAll 21 = .ok (.iconst 0, 1) := by decide +kernel
theorem dX12_holdAll_22 : decode cX12_holdAll 22 = .ok (.iaload, 1) := by decide +kernel
theorem dX12_holdAll_23 : decode cX12_holdAll 23 = .ok (.ishl, 1) := by decide +kernel
theorem dX12_holdAll_24 : decode cX12_holdAll 24 = .ok (.if_icmp .ge 126, 3) := by decide +kernel
theorem dX12_holdAll_27 : decode cX12_holdAll 27 = .ok (.iload_n 2, 1) := by decide +kernel
theorem dX12_holdAll_28 : decode cX12_holdAll 28 = .ok (.ifCond .lt 17, 3) := by decide +kernel
theorem dX12_holdAll_31 : decode cX12_holdAll 31 = .ok (.iload_n 3, 1) := by decide +kernel
theorem dX12_holdAll_32 : decode cX12_holdAll 32 = .ok (.invokestatic 153, 3) := by decide +kernel
theorem dX12_holdAll_35 : decode cX12_holdAll 35 = .ok (.iload_n 2, 1) := by decide +kernel
theorem dX12_holdAll_36 : decode cX12_holdAll 36 = .ok (.invokestatic 153, 3) := by decide +kernel
theorem dX12_holdAll_39 : decode cX12_holdAll 39 = .ok (.if_icmp .lt 6, 3) := by decide +kernel
theorem dX12_holdAll_42 : decode cX12_holdAll 42 = .ok (.goto 102, 3) := by decide +kernel
theorem dX12_holdAll_45 : decode cX12_holdAll 45 = .ok (.aload_n 0, 1) := by decide +kernel
theorem dX12_holdAll_46 : decode cX12_holdAll 46 = .ok (.getfield 9, 3) := by decide +kernel
theorem dX12_holdAll_49 : decode cX12_holdAll 49 = .ok (.aload_n 0, 1) := by decide +kernel
theorem dX12_holdAll_50 : decode cX12_holdAll 50 = .ok (.getfield 13, 3) := by decide +kernel
theorem dX12_holdAll_53 : decode cX12_holdAll 53 = .ok (.invokestatic 134, 3) := by decide +kernel
theorem dX12_holdAll_56 : decode cX12_holdAll 56 = .ok (.iconst 1, 1) := by decide +kernel
theorem dX12_holdAll_57 : decode cX12_holdAll 57 = .ok (.istore 4, 2) := by decide +kernel
theorem dX12_holdAll_59 : decode cX12_holdAll 59 = .ok (.iconst 0, 1) := by decide +kernel
theorem dX12_holdAll_60 : decode cX12_holdAll 60 = .ok (.istore 5, 2) := by decide +kernel
theorem dX12_holdAll_62 : decode cX12_holdAll 62 = .ok (.iload 5, 2) := by decide +kernel
theorem dX12_holdAll_64 : decode cX12_holdAll 64 = .ok (.aload_n 0, 1) := by decide +kernel
theorem dX12_holdAll_65 : decode cX12_holdAll 65 = .ok (.getfield 9, 3) := by decide +kernel
theorem dX12_holdAll_68 : decode cX12_holdAll 68 = .ok (.iconst 0, 1) := by decide +kernel
theorem dX12_holdAll_69 : decode cX12_holdAll 69 = .ok (.iaload, 1) := by decide +kernel
theorem dX12_holdAll_70 : decode cX12_holdAll 70 = .ok (.if_icmp .ge 57, 3) := by decide +kernel
theorem dX12_holdAll_73 : decode cX12_holdAll 73 = .ok (.iload_n 3, 1) := by decide +kernel
theorem dX12_holdAll_74 : decode cX12_holdAll 74 = .ok (.iload 5, 2) := by decide +kernel
theorem dX12_holdAll_76 : decode cX12_holdAll 76 = .ok (.ishr, 1) := by decide +kernel
theorem dX12_holdAll_77 : decode cX12_holdAll 77 = .ok (.iconst 1, 1) := by decide +kernel
theorem dX12_holdAll_78 : decode cX12_holdAll 78 = .ok (.iand, 1) := by decide +kernel
theorem dX12_holdAll_79 : decode cX12_holdAll 79 = .ok (.ifCond .ne 6, 3) := by decide +kernel
theorem dX12_holdAll_82 : decode cX12_holdAll 82 = .ok (.goto 39, 3) := by decide +kernel
theorem dX12_holdAll_85 : decode cX12_holdAll 85 = .ok (.iload 4, 2) := by decide +kernel
theorem dX12_holdAll_87 : decode cX12_holdAll 87 = .ok (.aload_n 0, 1) := by decide +kernel
theorem dX12_holdAll_88 : decode cX12_holdAll 88 = .ok (.getfield 9, 3) := by decide +kernel
theorem dX12_holdAll_91 : decode cX12_holdAll 91 = .ok (.iload 5, 2) := by decide +kernel
theorem dX12_holdAll_93 : decode cX12_holdAll 93 = .ok (.iconst 4, 1) := by decide +kernel
theorem dX12_holdAll_94 : decode cX12_holdAll 94 = .ok (.invokestatic 53, 3) := by decide +kernel
theorem dX12_holdAll_97 : decode cX12_holdAll 97 = .ok (.iaload, 1) := by decide +kernel
theorem dX12_holdAll_98 : decode cX12_holdAll 98 = .ok (.ifCond .ne 7, 3) := by decide +kernel
theorem dX12_holdAll_101 : decode cX12_holdAll 101 = .ok (.iconst 1, 1) := by decide +kernel
theorem dX12_holdAll_102 : decode cX12_holdAll 102 = .ok (.goto 4, 3) := by decide +kernel
theorem dX12_holdAll_105 : decode cX12_holdAll 105 = .ok (.iconst 0, 1) := by decide +kernel
theorem dX12_holdAll_106 : decode cX12_holdAll 106 = .ok (.iand, 1) := by decide +kernel
theorem dX12_holdAll_107 : decode cX12_holdAll 107 = .ok (.istore 4, 2) := by decide +kernel
theorem dX12_holdAll_109 : decode cX12_holdAll 109 = .ok (.aload_n 0, 1) := by decide +kernel
theorem dX12_holdAll_110 : decode cX12_holdAll 110 = .ok (.getfield 13, 3) := by decide +kernel
theorem dX12_holdAll_113 : decode cX12_holdAll 113 = .ok (.iload 5, 2) := by decide +kernel
theorem dX12_holdAll_115 : decode cX12_holdAll 115 = .ok (.iconst 4, 1) := by decide +kernel
theorem dX12_holdAll_116 : decode cX12_holdAll 116 = .ok (.invokestatic 53, 3) := by decide +kernel
theorem dX12_holdAll_119 : decode cX12_holdAll 119 = .ok (.iconst 1, 1) := by decide +kernel
theorem dX12_holdAll_120 : decode cX12_holdAll 120 = .ok (.iastore, 1) := by decide +kernel
theorem dX12_holdAll_121 : decode cX12_holdAll 121 = .ok (.iinc 5 1, 3) := by decide +kernel
theorem dX12_holdAll_124 : decode cX12_holdAll 124 = .ok (.goto (-62), 3) := by decide +kernel
theorem dX12_holdAll_127 : decode cX12_holdAll 127 = .ok (.iload 4, 2) := by decide +kernel
theorem dX12_holdAll_129 : decode cX12_holdAll 129 = .ok (.ifCond .eq 15, 3) := by decide +kernel
theorem dX12_holdAll_132 : decode cX12_holdAll 132 = .ok (.aload_n 0, 1) := by decide +kernel
theorem dX12_holdAll_133 : decode cX12_holdAll 133 = .ok (.getfield 13, 3) := by decide +kernel
theorem dX12_holdAll_136 : decode cX12_holdAll 136 = .ok (.invokestatic 77, 3) := by decide +kernel
theorem dX12_holdAll_139 : decode cX12_holdAll 139 = .ok (.ifCond .ne 5, 3) := by decide +kernel
theorem dX12_holdAll_142 : decode cX12_holdAll 142 = .ok (.iload_n 3, 1) := by decide +kernel
theorem dX12_holdAll_143 : decode cX12_holdAll 143 = .ok (.istore_n 2, 1) := by decide +kernel
theorem dX12_holdAll_144 : decode cX12_holdAll 144 = .ok (.iinc 3 1, 3) := by decide +kernel
theorem dX12_holdAll_147 : decode cX12_holdAll 147 = .ok (.goto (-132), 3) := by decide +kernel
theorem dX12_holdAll_150 : decode cX12_holdAll 150 = .ok (.iload_n 1, 1) := by decide +kernel
theorem dX12_holdAll_151 : decode cX12_holdAll 151 = .ok (.ifCond .ne 5, 3) := by decide +kernel
theorem dX12_holdAll_154 : decode cX12_holdAll 154 = .ok (.iload_n 2, 1) := by decide +kernel
theorem dX12_holdAll_155 : decode cX12_holdAll 155 = .ok (.ireturn, 1) := by decide +kernel
theorem dX12_holdAll_156 : decode cX12_holdAll 156 = .ok (.iconst 0, 1) := by decide +kernel
theorem dX12_holdAll_157 : decode cX12_holdAll 157 = .ok (.istore_n 3, 1) := by decide +kernel
theorem dX12_holdAll_158 : decode cX12_holdAll 158 = .ok (.iconst 0, 1) := by decide +kernel
theorem dX12_holdAll_159 : decode cX12_holdAll 159 = .ok (.istore 4, 2) := by decide +kernel
theorem dX12_holdAll_161 : decode cX12_holdAll 161 = .ok (.iload 4, 2) := by decide +kernel
theorem dX12_holdAll_163 : decode cX12_holdAll 163 = .ok (.aload_n 0, 1) := by decide +kernel
theorem dX12_holdAll_164 : decode cX12_holdAll 164 = .ok (.getfield 9, 3) := by decide +kernel
theorem dX12_holdAll_167 : decode cX12_holdAll 167 = .ok (.iconst 0, 1) := by decide +kernel
theorem dX12_holdAll_168 : decode cX12_holdAll 168 = .ok (.iaload, 1) := by decide +kernel
theorem dX12_holdAll_169 : decode cX12_holdAll 169 = .ok (.if_icmp .ge 35, 3) := by decide +kernel
theorem dX12_holdAll_172 : decode cX12_holdAll 172 = .ok (.iload_n 3, 1) := by decide +kernel
theorem dX12_holdAll_173 : decode cX12_holdAll 173 = .ok (.iload_n 2, 1) := by decide +kernel
theorem dX12_holdAll_174 : decode cX12_holdAll 174 = .ok (.iload 4, 2) := by decide +kernel
theorem dX12_holdAll_176 : decode cX12_holdAll 176 = .ok (.ishr, 1) := by decide +kernel
theorem dX12_holdAll_177 : decode cX12_holdAll 177 = .ok (.iconst 1, 1) := by decide +kernel
theorem dX12_holdAll_178 : decode cX12_holdAll 178 = .ok (.iand, 1) := by decide +kernel
theorem dX12_holdAll_179 : decode cX12_holdAll 179 = .ok (.iconst 1, 1) := by decide +kernel
theorem dX12_holdAll_180 : decode cX12_holdAll 180 = .ok (.if_icmp .ne 15, 3) := by decide +kernel
theorem dX12_holdAll_183 : decode cX12_holdAll 183 = .ok (.aload_n 0, 1) := by decide +kernel
theorem dX12_holdAll_184 : decode cX12_holdAll 184 = .ok (.getfield 9, 3) := by decide +kernel
theorem dX12_holdAll_187 : decode cX12_holdAll 187 = .ok (.iload 4, 2) := by decide +kernel
theorem dX12_holdAll_189 : decode cX12_holdAll 189 = .ok (.invokestatic 141, 3) := by decide +kernel
theorem dX12_holdAll_192 : decode cX12_holdAll 192 = .ok (.goto 4, 3) := by decide +kernel
theorem dX12_holdAll_195 : decode cX12_holdAll 195 = .ok (.iconst 0, 1) := by decide +kernel
theorem dX12_holdAll_196 : decode cX12_holdAll 196 = .ok (.iadd, 1) := by decide +kernel
theorem dX12_holdAll_197 : decode cX12_holdAll 197 = .ok (.istore_n 3, 1) := by decide +kernel
theorem dX12_holdAll_198 : decode cX12_holdAll 198 = .ok (.iinc 4 1, 3) := by decide +kernel
theorem dX12_holdAll_201 : decode cX12_holdAll 201 = .ok (.goto (-40), 3) := by decide +kernel
theorem dX12_holdAll_204 : decode cX12_holdAll 204 = .ok (.iload_n 3, 1) := by decide +kernel
theorem dX12_holdAll_205 : decode cX12_holdAll 205 = .ok (.ireturn, 1) := by decide +kernel
theorem dX12_radio_0 : decode cX12_radio 0 = .ok (.iload_n 1, 1) := by decide +kernel
theorem dX12_radio_1 : decode cX12_radio 1 = .ok (.invokestatic 111, 3) := by decide +kernel
theorem dX12_radio_4 : decode cX12_radio 4 = .ok (.ifCond .ne 5, 3) := by decide +kernel
theorem dX12_radio_7 : decode cX12_radio 7 = .ok (.iconst (-1), 1) := by decide +kernel
theorem dX12_radio_8 : decode cX12_radio 8 = .ok (.ireturn, 1) := by decide +kernel
theorem dX12_radio_9 : decode cX12_radio 9 = .ok (.aload_n 0, 1) := by decide +kernel
theorem dX12_radio_10 : decode cX12_radio 10 = .ok (.getfield 9, 3) := by decide +kernel
theorem dX12_radio_13 : decode cX12_radio 13 = .ok (.iload_n 1, 1) := by decide +kernel
theorem dX12_radio_14 : decode cX12_radio 14 = .ok (.aload_n 0, 1) := by decide +kernel
theorem dX12_radio_15 : decode cX12_radio 15 = .ok (.getfield 9, 3) := by decide +kernel
theorem dX12_radio_18 : decode cX12_radio 18 = .ok (.iconst 2, 1) := by decide +kernel
theorem dX12_radio_19 : decode cX12_radio 19 = .ok (.iaload, 1) := by decide +kernel
theorem dX12_radio_20 : decode cX12_radio 20 = .ok (.invokestatic 71, 3) := by decide +kernel
theorem dX12_radio_23 : decode cX12_radio 23 = .ok (.istore_n 2, 1) := by decide +kernel
theorem dX12_radio_24 : decode cX12_radio 24 = .ok (.iload_n 2, 1) := by decide +kernel
theorem dX12_radio_25 : decode cX12_radio 25 = .ok (.bipush 40, 2) := by decide +kernel
theorem dX12_radio_27 : decode cX12_radio 27 = .ok (.if_icmp .le 8, 3) := by decide +kernel
theorem dX12_radio_30 : decode cX12_radio 30 = .ok (.bipush (-4), 2) := by decide +kernel
theorem dX12_radio_32 : decode cX12_radio 32 = .ok (.goto 4, 3) := by decide +kernel
theorem dX12_radio_35 : decode cX12_radio 35 = .ok (.iload_n 2, 1) := by decide +kernel
theorem dX12_radio_36 : decode cX12_radio 36 = .ok (.ireturn, 1) := by decide +kernel
theorem dX12_wanted_0 : decode cX12_wanted 0 = .ok (.iload_n 1, 1) := by decide +kernel
theorem dX12_wanted_1 : decode cX12_wanted 1 = .ok (.iconst 0, 1) := by decide +kernel
theorem dX12_wanted_2 : decode cX12_wanted 2 = .ok (.iconst 1, 1) := by decide +kernel
theorem dX12_wanted_3 : decode cX12_wanted 3 = .ok (.invokestatic 49, 3) := by decide +kernel
theorem dX12_wanted_6 : decode cX12_wanted 6 = .ok (.ifCond .ne 5, 3) := by decide +kernel
theorem dX12_wanted_9 : decode cX12_wanted 9 = .ok (.iconst (-1), 1) := by decide +kernel
theorem dX12_wanted_10 : decode cX12_wanted 10 = .ok (.ireturn, 1) := by decide +kernel
theorem dX12_wanted_11 : decode cX12_wanted 11 = .ok (.aload_n 0, 1) := by decide +kernel
theorem dX12_wanted_12 : decode cX12_wanted 12 = .ok (.getfield 9, 3) := by decide +kernel
theorem dX12_wanted_15 : decode cX12_wanted 15 = .ok (.aload_n 0, 1) := by decide +kernel
theorem dX12_wanted_16 : decode cX12_wanted 16 = .ok (.getfield 13, 3) := by decide +kernel
theorem dX12_wanted_19 : decode cX12_wanted 19 = .ok (.invokestatic 134, 3) := by decide +kernel
theorem dX12_wanted_22 : decode cX12_wanted 22 = .ok (.bipush (-4), 2) := by decide +kernel
theorem dX12_wanted_24 : decode cX12_wanted 24 = .ok (.istore_n 2, 1) := by decide +kernel
theorem dX12_wanted_25 : decode cX12_wanted 25 = .ok (.iconst 0, 1) := by decide +kernel
theorem dX12_wanted_26 : decode cX12_wanted 26 = .ok (.istore_n 3, 1) := by decide +kernel
theorem dX12_wanted_27 : decode cX12_wanted 27 = .ok (.iload_n 3, 1) := by decide +kernel
theorem dX12_wanted_28 : decode cX12_wanted 28 = .ok (.iload_n 1, 1) := by decide +kernel
theorem dX12_wanted_29 : decode cX12_wanted 29 = .ok (.ifCond .ne 8, 3) := by decide +kernel
theorem dX12_wanted_32 : decode cX12_wanted 32 = .ok (.bipush 6, 2) := by decide +kernel
theorem dX12_wanted_34 : decode cX12_wanted 34 = .ok (.goto 5, 3) := by decide +kernel
theorem dX12_wanted_37 : decode cX12_wanted 37 = .ok (.bipush 10, 2) := by decide +kernel
theorem dX12_wanted_39 : decode cX12_wanted 39 = .ok (.if_icmp .ge 55, 3) := by decide +kernel
theorem dX12_wanted_42 : decode cX12_wanted 42 = .ok (.iload_n 1, 1) := by decide +kernel
theorem dX12_wanted_43 : decode cX12_wanted 43 = .ok (.ifCond .ne 9, 3) := by decide +kernel
theorem dX12_wanted_46 : decode cX12_wanted 46 = .ok (.iconst 5, 1) := by decide +kernel
theorem dX12_wanted_47 : decode cX12_wanted 47 = .ok (.iload_n 3, 1) := by decide +kernel
theorem dX12_wanted_48 : decode cX12_wanted 48 = .ok (.isub, 1) := by decide +kernel
theorem dX12_wanted_49 : decode cX12_wanted 49 = .ok (.goto 4, 3) := by decide +kernel
theorem dX12_wanted_52 : decode cX12_wanted 52 = .ok (.iload_n 3, 1) := by decide +kernel
theorem dX12_wanted_53 : decode cX12_wanted 53 = .ok (.istore 4, 2) := by decide +kernel
theorem dX12_wanted_55 : decode cX12_wanted 55 = .ok (.aload_n 0, 1) := by decide +kernel
theorem dX12_wanted_56 : decode cX12_wanted 56 = .ok (.getfield 13, 3) := by decide +kernel
theorem dX12_wanted_59 : decode cX12_wanted 59 = .ok (.iload_n 1, 1) := by decide +kernel
theorem dX12_wanted_60 : decode cX12_wanted 60 = .ok (.ifCond .ne 7, 3) := by decide +kernel
theorem dX12_wanted_63 : decode cX12_wanted 63 = .ok (.iconst 4, 1) := by decide +kernel
theorem dX12_wanted_64 : decode cX12_wanted 64 = .ok (.goto 4, 3) := by decide +kernel
theorem dX12_wanted_67 : decode cX12_wanted 67 = .ok (.iconst 3, 1) := by decide +kernel
theorem dX12_wanted_68 : decode cX12_wanted 68 = .ok (.iload 4, 2) := by decide +kernel
theorem dX12_wanted_70 : decode cX12_wanted 70 = .ok (.iastore, 1) := by decide +kernel
theorem dX12_wanted_71 : decode cX12_wanted 71 = .ok (.aload_n 0, 1) := by decide +kernel
theorem dX12_wanted_72 : decode cX12_wanted 72 = .ok (.getfield 13, 3) := by decide +kernel
theorem dX12_wanted_75 : decode cX12_wanted 75 = .ok (.invokestatic 77, 3) := by decide +kernel
theorem dX12_wanted_78 : decode cX12_wanted 78 = .ok (.ifCond .ne 8, 3) := by decide +kernel
theorem dX12_wanted_81 : decode cX12_wanted 81 = .ok (.iload 4, 2) := by decide +kernel
theorem dX12_wanted_83 : decode cX12_wanted 83 = .ok (.goto 4, 3) := by decide +kernel
theorem dX12_wanted_86 : decode cX12_wanted 86 = .ok (.iload_n 2, 1) := by decide +kernel
theorem dX12_wanted_87 : decode cX12_wanted 87 = .ok (.istore_n 2, 1) := by decide +kernel
theorem dX12_wanted_88 : decode cX12_wanted 88 = .ok (.iinc 3 1, 3) := by decide +kernel
theorem dX12_wanted_91 : decode cX12_wanted 91 = .ok (.goto (-64), 3) := by decide +kernel
theorem dX12_wanted_94 : decode cX12_wanted 94 = .ok (.iload_n 2, 1) := by decide +kernel
theorem dX12_wanted_95 : decode cX12_wanted 95 = .ok (.ireturn, 1) := by decide +kernel
theorem dX12_bestSeat_0 : decode cX12_bestSeat 0 = .ok (.iconst 0, 1) := by decide +kernel
theorem dX12_bestSeat_1 : decode cX12_bestSeat 1 = .ok (.istore_n 1, 1) := by decide +kernel
theorem dX12_bestSeat_2 : decode cX12_bestSeat 2 = .ok (.iconst 1, 1) := by decide +kernel
theorem dX12_bestSeat_3 : decode cX12_bestSeat 3 = .ok (.istore_n 2, 1) := by decide +kernel
theorem dX12_bestSeat_4 : decode cX12_bestSeat 4 = .ok (.iload_n 2, 1) := by decide +kernel
theorem dX12_bestSeat_5 : decode cX12_bestSeat 5 = .ok (.iconst 4, 1) := by decide +kernel
theorem dX12_bestSeat_6 : decode cX12_bestSeat 6 = .ok (.if_icmp .ge 42, 3) := by decide +kernel
theorem dX12_bestSeat_9 : decode cX12_bestSeat 9 = .ok (.aload_n 0, 1) := by decide +kernel
theorem dX12_bestSeat_10 : decode cX12_bestSeat 10 = .ok (.getfield 9, 3) := by decide +kernel
theorem dX12_bestSeat_13 : decode cX12_bestSeat 13 = .ok (.iload_n 2, 1) := by decide +kernel
theorem dX12_bestSeat_14 : decode cX12_bestSeat 14 = .ok (.aload_n 0, 1) := by decide +kernel
theorem dX12_bestSeat_15 : decode cX12_bestSeat 15 = .ok (.getfield 9, 3) := by decide +kernel
theorem dX12_bestSeat_18 : decode cX12_bestSeat 18 = .ok (.iconst 2, 1) := by decide +kernel
theorem dX12_bestSeat_19 : decode cX12_bestSeat 19 = .ok (.iaload, 1) := by decide +kernel
theorem dX12_bestSeat_20 : decode cX12_bestSeat 20 = .ok (.invokestatic 74, 3) := by decide +kernel
theorem dX12_bestSeat_23 : decode cX12_bestSeat 23 = .ok (.aload_n 0, 1) := by decide +kernel
theorem dX12_bestSeat_24 : decode cX12_bestSeat 24 = .ok (.getfield 9, 3) := by decide +kernel
theorem dX12_bestSeat_27 : decode cX12_bestSeat 27 = .ok (.iload_n 1, 1) := by decide +kernel
theorem dX12_bestSeat_28 : decode cX12_bestSeat 28 = .ok (.aload_n 0, 1) := by decide +kernel
theorem dX12_bestSeat_29 : decode cX12_bestSeat 29 = .ok (.getfield 9, 3) := by decide +kernel
theorem dX12_bestSeat_32 : decode cX12_bestSeat 32 = .ok (.iconst 2, 1) := by decide +kernel
theorem dX12_bestSeat_33 : decode cX12_bestSeat 33 = .ok (.iaload, 1) := by decide +kernel
theorem dX12_bestSeat_34 : decode cX12_bestSeat 34 = .ok (.invokestatic 74, 3) := by decide +kernel
theorem dX12_bestSeat_37 : decode cX12_bestSeat 37 = .ok (.if_icmp .le 5, 3) := by decide +kernel
theorem dX12_bestSeat_40 : decode cX12_bestSeat 40 = .ok (.iload_n 2, 1) := by decide +kernel
theorem dX12_bestSeat_41 : decode cX12_bestSeat 41 = .ok (.istore_n 1, 1) := by decide +kernel
theorem dX12_bestSeat_42 : decode cX12_bestSeat 42 = .ok (.iinc 2 1, 3) := by decide +kernel
theorem dX12_bestSeat_45 : decode cX12_bestSeat 45 = .ok (.goto (-41), 3) := by decide +kernel
theorem dX12_bestSeat_48 : decode cX12_bestSeat 48 = .ok (.iload_n 1, 1) := by decide +kernel
theorem dX12_bestSeat_49 : decode cX12_bestSeat 49 = .ok (.ireturn, 1) := by decide +kernel
theorem dX12_wrongPairs_0 : decode cX12_wrongPairs 0 = .ok (.aload_n 0, 1) := by decide +kernel
theorem dX12_wrongPairs_1 : decode cX12_wrongPairs 1 = .ok (.iload_n 1, 1) := by decide +kernel
theorem dX12_wrongPairs_2 : decode cX12_wrongPairs 2 = .ok (.iconst (-1), 1) := by decide +kernel
theorem dX12_wrongPairs_3 : decode cX12_wrongPairs 3 = .ok (.invokevirtual 127, 3) := by decide +kernel
theorem dX12_wrongPairs_6 : decode cX12_wrongPairs 6 = .ok (.istore_n 2, 1) := by decide +kernel
theorem dX12_wrongPairs_7 : decode cX12_wrongPairs 7 = .ok (.iload_n 2, 1) := by decide +kernel
theorem dX12_wrongPairs_8 : decode cX12_wrongPairs 8 = .ok (.ifCond .eq 5, 3) := by decide +kernel
theorem dX12_wrongPairs_11 : decode cX12_wrongPairs 11 = .ok (.iload_n 2, 1) := by decide +kernel
theorem dX12_wrongPairs_12 : decode cX12_wrongPairs 12 = .ok (.ireturn, 1) := by decide +kernel
theorem dX12_wrongPairs_13 : decode cX12_wrongPairs 13 = .ok (.aload_n 0, 1) := by decide +kernel
theorem dX12_wrongPairs_14 : decode cX12_wrongPairs 14 = .ok (.getfield 43, 3) := by decide +kernel
theorem dX12_wrongPairs_17 : decode cX12_wrongPairs 17 = .ok (.iload_n 1, 1) := by decide +kernel
theorem dX12_wrongPairs_18 : decode cX12_wrongPairs 18 = .ok (.iaload, 1) := by decide +kernel
theorem dX12_wrongPairs_19 : decode cX12_wrongPairs 19 = .ok (.iconst 2, 1) := by decide +kernel
theorem dX12_wrongPairs_20 : decode cX12_wrongPairs 20 = .ok (.irem, 1) := by decide +kernel
theorem dX12_wrongPairs_21 : decode cX12_wrongPairs 21 = .ok (.iconst 1, 1) := by decide +kernel
theorem dX12_wrongPairs_22 : decode cX12_wrongPairs 22 = .ok (.if_icmp .ne 6, 3) := by decide +kernel
theorem dX12_wrongPairs_25 : decode cX12_wrongPairs 25 = .ok (.bipush (-13), 2) := by decide +kernel
theorem dX12_wrongPairs_27 : decode cX12_wrongPairs 27 = .ok (.ireturn, 1) := by decide +kernel
theorem dX12_wrongPairs_28 : decode cX12_wrongPairs 28 = .ok (.iconst 0, 1) := by decide +kernel
theorem dX12_wrongPairs_29 : decode cX12_wrongPairs 29 = .ok (.istore_n 3, 1) := by decide +kernel
theorem dX12_wrongPairs_30 : decode cX12_wrongPairs 30 = .ok (.iload_n 3, 1) := by decide +kernel
theorem dX12_wrongPairs_31 : decode cX12_wrongPairs 31 = .ok (.aload_n 0, 1) := by decide +kernel
theorem dX12_wrongPairs_32 : decode cX12_wrongPairs 32 = .ok (.getfield 43, 3) := by decide +kernel
theorem dX12_wrongPairs_35 : decode cX12_wrongPairs 35 = .ok (.iload_n 1, 1) := by decide +kernel
theorem dX12_wrongPairs_36 : decode cX12_wrongPairs 36 = .ok (.iaload, 1) := by decide +kernel
theorem dX12_wrongPairs_37 : decode cX12_wrongPairs 37 = .ok (.if_icmp .ge 53, 3) := by decide +kernel
theorem dX12_wrongPairs_40 : decode cX12_wrongPairs 40 = .ok (.aload_n 0, 1) := by decide +kernel
theorem dX12_wrongPairs_41 : decode cX12_wrongPairs 41 = .ok (.getfield 46, 3) := by decide +kernel
theorem dX12_wrongPairs_44 : decode cX12_wrongPairs 44 = .ok (.bipush 100, 2) := by decide +kernel
theorem dX12_wrongPairs_46 : decode cX12_wrongPairs 46 = .ok (.iload_n 1, 1) := by decide +kernel
theorem dX12_wrongPairs_47 : decode cX12_wrongPairs 47 = .ok (.imul, 1) := by decide +kernel
theorem dX12_wrongPairs_48 : decode cX12_wrongPairs 48 = .ok (.iload_n 3, 1) := by decide +kernel
theorem dX12_wrongPairs_49 : decode cX12_wrongPairs 49 = .ok (.iadd, 1) := by decide +kernel
theorem dX12_wrongPairs_50 : decode cX12_wrongPairs 50 = .ok (.iaload, 1) := by decide +kernel
theorem dX12_wrongPairs_51 : decode cX12_wrongPairs 51 = .ok (.iconst 0, 1) := by decide +kernel
theorem dX12_wrongPairs_52 : decode cX12_wrongPairs 52 = .ok (.bipush 99, 2) := by decide +kernel
theorem dX12_wrongPairs_54 : decode cX12_wrongPairs 54 = .ok (.invokestatic 49, 3) := by decide +kernel
theorem dX12_wrongPairs_57 : decode cX12_wrongPairs 57 = .ok (.ifCond .eq 24, 3) := by decide +kernel
theorem dX12_wrongPairs_60 : decode cX12_wrongPairs 60 = .ok (.aload_n 0, 1) := by decide +kernel
theorem dX12_wrongPairs_61 : decode cX12_wrongPairs 61 = .ok (.getfield 46, 3) := by decide +kernel
theorem dX12_wrongPairs_64 : decode cX12_wrongPairs 64 = .ok (.bipush 100, 2) := by decide +kernel
theorem dX12_wrongPairs_66 : decode cX12_wrongPairs 66 = .ok (.iload_n 1, 1) := by decide +kernel
theorem dX12_wrongPairs_67 : decode cX12_wrongPairs 67 = .ok (.imul, 1) := by decide +kernel
theorem dX12_wrongPairs_68 : decode cX12_wrongPairs 68 = .ok (.iload_n 3, 1) := by decide +kernel
theorem dX12_wrongPairs_69 : decode cX12_wrongPairs 69 = .ok (.iadd, 1) := by decide +kernel
theorem dX12_wrongPairs_70 : decode cX12_wrongPairs 70 = .ok (.iconst 1, 1) := by decide +kernel
theorem dX12_wrongPairs_71 : decode cX12_wrongPairs 71 = .ok (.iadd, 1) := by decide +kernel
theorem dX12_wrongPairs_72 : decode cX12_wrongPairs 72 = .ok (.iaload, 1) := by decide +kernel
theorem dX12_wrongPairs_73 : decode cX12_wrongPairs 73 = .ok (.iconst 0, 1) := by decide +kernel
theorem dX12_wrongPairs_74 : decode cX12_wrongPairs 74 = .ok (.iconst 1, 1) := by decide +kernel
theorem dX12_wrongPairs_75 : decode cX12_wrongPairs 75 = .ok (.invokestatic 49, 3) := by decide +kernel
theorem dX12_wrongPairs_78 : decode cX12_wrongPairs 78 = .ok (.ifCond .ne 6, 3) := by decide +kernel
theorem dX12_wrongPairs_81 : decode cX12_wrongPairs 81 = .ok (.bipush (-13), 2) := by decide +kernel
theorem dX12_wrongPairs_83 : decode cX12_wrongPairs 83 = .ok (.ireturn, 1) := by decide +kernel
theorem dX12_wrongPairs_84 : decode cX12_wrongPairs 84 = .ok (.iinc 3 2, 3) := by decide +kernel
theorem dX12_wrongPairs_87 : decode cX12_wrongPairs 87 = .ok (.goto (-57), 3) := by decide +kernel
theorem dX12_wrongPairs_90 : decode cX12_wrongPairs 90 = .ok (.iconst 0, 1) := by decide +kernel
theorem dX12_wrongPairs_91 : decode cX12_wrongPairs 91 = .ok (.ireturn, 1) := by decide +kernel
theorem dX12_isTold_0 : decode cX12_isTold 0 = .ok (.iconst 0, 1) := by decide +kernel
theorem dX12_isTold_1 : decode cX12_isTold 1 = .ok (.istore_n 3, 1) := by decide +kernel
theorem dX12_isTold_2 : decode cX12_isTold 2 = .ok (.iload_n 3, 1) := by decide +kernel
theorem dX12_isTold_3 : decode cX12_isTold 3 = .ok (.aload_n 0, 1) := by decide +kernel
theorem dX12_isTold_4 : decode cX12_isTold 4 = .ok (.getfield 43, 3) := by decide +kernel
theorem dX12_isTold_7 : decode cX12_isTold 7 = .ok (.iload_n 1, 1) := by decide +kernel
theorem dX12_isTold_8 : decode cX12_isTold 8 = .ok (.iaload, 1) := by decide +kernel
theorem dX12_isTold_9 : decode cX12_isTold 9 = .ok (.if_icmp .ge 104, 3) := by decide +kernel
theorem dX12_isTold_12 : decode cX12_isTold 12 = .ok (.iconst 0, 1) := by decide +kernel
theorem dX12_isTold_13 : decode cX12_isTold 13 = .ok (.istore 4, 2) := by decide +kernel
theorem dX12_isTold_15 : decode cX12_isTold 15 = .ok (.iconst 0, 1) := by decide +kernel
theorem dX12_isTold_16 : decode cX12_isTold 16 = .ok (.istore 5, 2) := by decide +kernel
theorem dX12_isTold_18 : decode cX12_isTold 18 = .ok (.iload 5, 2) := by decide +kernel
theorem dX12_isTold_20 : decode cX12_isTold 20 = .ok (.aload_n 0, 1) := by decide +kernel
theorem dX12_isTold_21 : decode cX12_isTold 21 = .ok (.getfield 9, 3) := by decide +kernel
theorem dX12_isTold_24 : decode cX12_isTold 24 = .ok (.iconst 0, 1) := by decide +kernel
theorem dX12_isTold_25 : decode cX12_isTold 25 = .ok (.iaload, 1) := by decide +kernel
theorem dX12_isTold_26 : decode cX12_isTold 26 = .ok (.if_icmp .ge 52, 3) := by decide +kernel
theorem dX12_isTold_29 : decode cX12_isTold 29 = .ok (.iload 4, 2) := by decide +kernel
theorem dX12_isTold_31 : decode cX12_isTold 31 = .ok (.iload_n 2, 1) := by decide +kernel
theorem dX12_isTold_32 : decode cX12_isTold 32 = .ok (.iload 5, 2) := by decide +kernel
theorem dX12_isTold_34 : decode cX12_isTold 34 = .ok (.ishr, 1) := by decide +kernel
theorem dX12_isTold_35 : decode cX12_isTold 35 = .ok (.iconst 1, 1) := by decide +kernel
theorem dX12_isTold_36 : decode cX12_isTold 36 = .ok (.iand, 1) := by decide +kernel
theorem dX12_isTold_37 : decode cX12_isTold 37 = .ok (.iconst 1, 1) := by decide +kernel
theorem dX12_isTold_38 : decode cX12_isTold 38 = .ok (.if_icmp .ne 30, 3) := by decide +kernel
theorem dX12_isTold_41 : decode cX12_isTold 41 = .ok (.aload_n 0, 1) := by decide +kernel
theorem dX12_isTold_42 : decode cX12_isTold 42 = .ok (.getfield 9, 3) := by decide +kernel
theorem dX12_isTold_45 : decode cX12_isTold 45 = .ok (.iload 5, 2) := by decide +kernel
theorem dX12_isTold_47 : decode cX12_isTold 47 = .ok (.aload_n 0, 1) := by decide +kernel
theorem dX12_isTold_48 : decode cX12_isTold 48 = .ok (.getfield 46, 3) := by decide +kernel
theorem dX12_isTold_51 : decode cX12_isTold 51 = .ok (.bipush 100, 2) := by decide +kernel
theorem dX12_isTold_53 : decode cX12_isTold 53 = .ok (.iload_n 1, 1) := by decide +kernel
theorem dX12_isTold_54 : decode cX12_isTold 54 = .ok (.imul, 1) := by decide +kernel
theorem dX12_isTold_55 : decode cX12_isTold 55 = .ok (.iload_n 3, 1) := by decide +kernel
theorem dX12_isTold_56 : decode cX12_isTold 56 = .ok (.iadd, 1) := by decide +kernel
theorem dX12_isTold_57 : decode cX12_isTold 57 = .ok (.iaload, 1) := by decide +kernel
theorem dX12_isTold_58 : decode cX12_isTold 58 = .ok (.invokestatic 60, 3) := by decide +kernel
theorem dX12_isTold_61 : decode cX12_isTold 61 = .ok (.ifCond .le 7, 3) := by decide +kernel
theorem dX12_isTold_64 : decode cX12_isTold 64 = .ok (.iconst 1, 1) := by decide +kernel
theorem dX12_isTold_65 : decode cX12_isTold 65 = .ok (.goto 4, 3) := by decide +kernel
theorem dX12_isTold_68 : decode cX12_isTold 68 = .ok (.iconst 0, 1) := by decide +kernel
theorem dX12_isTold_69 : decode cX12_isTold 69 = .ok (.ior, 1) := by decide +kernel
theorem dX12_isTold_70 : decode cX12_isTold 70 = .ok (.istore 4, 2) := by decide +kernel
theorem dX12_isTold_72 : decode cX12_isTold 72 = .ok (.iinc 5 1, 3) := by decide +kernel
theorem dX12_isTold_75 : decode cX12_isTold 75 = .ok (.goto (-57), 3) := by decide +kernel
theorem dX12_isTold_78 : decode cX12_isTold 78 = .ok (.iload 4, 2) := by decide +kernel
theorem dX12_isTold_80 : decode cX12_isTold 80 = .ok (.aload_n 0, 1) := by decide +kernel
theorem dX12_isTold_81 : decode cX12_isTold 81 = .ok (.getfield 46, 3) := by decide +kernel
theorem dX12_isTold_84 : decode cX12_isTold 84 = .ok (.bipush 100, 2) := by decide +kernel
theorem dX12_isTold_86 : decode cX12_isTold 86 = .ok (.iload_n 1, 1) := by decide +kernel
theorem dX12_isTold_87 : decode cX12_isTold 87 = .ok (.imul, 1) := by decide +kernel
theorem dX12_isTold_88 : decode cX12_isTold 88 = .ok (.iload_n 3, 1) := by decide +kernel
theorem dX12_isTold_89 : decode cX12_isTold 89 = .ok (.iadd, 1) := by decide +kernel
theorem dX12_isTold_90 : decode cX12_isTold 90 = .ok (.iconst 1, 1) := by decide +kernel
theorem dX12_isTold_91 : decode cX12_isTold 91 = .ok (.iadd, 1) := by decide +kernel
theorem dX12_isTold_92 : decode cX12_isTold 92 = .ok (.iaload, 1) := by decide +kernel
theorem dX12_isTold_93 : decode cX12_isTold 93 = .ok (.iconst 1, 1) := by decide +kernel
theorem dX12_isTold_94 : decode cX12_isTold 94 = .ok (.if_icmp .ne 7, 3) := by decide +kernel
theorem dX12_isTold_97 : decode cX12_isTold 97 = .ok (.iconst 1, 1) := by decide +kernel
theorem dX12_isTold_98 : decode cX12_isTold 98 = .ok (.goto 4, 3) := by decide +kernel
theorem dX12_isTold_101 : decode cX12_isTold 101 = .ok (.iconst 0, 1) := by decide +kernel
theorem dX12_isTold_102 : decode cX12_isTold 102 = .ok (.if_icmp .eq 5, 3) := by decide +kernel
theorem dX12_isTold_105 : decode cX12_isTold 105 = .ok (.iconst 0, 1) := by decide +kernel
theorem dX12_isTold_106 : decode cX12_isTold 106 = .ok (.ireturn, 1) := by decide +kernel
theorem dX12_isTold_107 : decode cX12_isTold 107 = .ok (.iinc 3 2, 3) := by decide +kernel
theorem dX12_isTold_110 : decode cX12_isTold 110 = .ok (.goto (-108), 3) := by decide +kernel
theorem dX12_isTold_113 : decode cX12_isTold 113 = .ok (.iconst 1, 1) := by decide +kernel
theorem dX12_isTold_114 : decode cX12_isTold 114 = .ok (.ireturn, 1) := by decide +kernel
theorem dX12_whichOf_0 : decode cX12_whichOf 0 = .ok (.iconst 0, 1) := by decide +kernel
theorem dX12_whichOf_1 : decode cX12_whichOf 1 = .ok (.istore_n 2, 1) := by decide +kernel
theorem dX12_whichOf_2 : decode cX12_whichOf 2 = .ok (.iconst 0, 1) := by decide +kernel
theorem dX12_whichOf_3 : decode cX12_whichOf 3 = .ok (.istore_n 3, 1) := by decide +kernel
theorem dX12_whichOf_4 : decode cX12_whichOf 4 = .ok (.iload_n 3, 1) := by decide +kernel
theorem dX12_whichOf_5 : decode cX12_whichOf 5 = .ok (.aload_n 0, 1) := by decide +kernel
theorem dX12_whichOf_6 : decode cX12_whichOf 6 = .ok (.getfield 9, 3) := by decide +kernel
theorem dX12_whichOf_9 : decode cX12_whichOf 9 = .ok (.iconst 0, 1) := by decide +kernel
theorem dX12_whichOf_10 : decode cX12_whichOf 10 = .ok (.iaload, 1) := by decide +kernel
theorem dX12_whichOf_11 : decode cX12_whichOf 11 = .ok (.if_icmp .ge 30, 3) := by decide +kernel
theorem dX12_whichOf_14 : decode cX12_whichOf 14 = .ok (.iload_n 2, 1) := by decide +kernel
theorem dX12_whichOf_15 : decode cX12_whichOf 15 = .ok (.aload_n 0, 1) := by decide +kernel
theorem dX12_whichOf_16 : decode cX12_whichOf 16 = .ok (.iload_n 1, 1) := by decide +kernel
theorem dX12_whichOf_17 : decode cX12_whichOf 17 = .ok (.iconst 1, 1) := by decide +kernel
theorem dX12_whichOf_18 : decode cX12_whichOf 18 = .ok (.iload_n 3, 1) := by decide +kernel
theorem dX12_whichOf_19 : decode cX12_whichOf 19 = .ok (.ishl, 1) := by decide +kernel
theorem dX12_whichOf_20 : decode cX12_whichOf 20 = .ok (.invokevirtual 156, 3) := by decide +kernel
theorem dX12_whichOf_23 : decode cX12_whichOf 23 = .ok (.ifCond .eq 9, 3) := by decide +kernel
theorem dX12_whichOf_26 : decode cX12_whichOf 26 = .ok (.iconst 1, 1) := by decide +kernel
theorem dX12_whichOf_27 : decode cX12_whichOf 27 = .ok (.iload_n 3, 1) := by decide +kernel
theorem dX12_whichOf_28 : decode cX12_whichOf 28 = .ok (.ishl, 1) := by decide +kernel
theorem dX12_whichOf_29 : decode cX12_whichOf 29 = .ok (.goto 4, 3) := by decide +kernel
theorem dX12_whichOf_32 : decode cX12_whichOf 32 = .ok (.iconst 0, 1) := by decide +kernel
theorem dX12_whichOf_33 : decode cX12_whichOf 33 = .ok (.ior, 1) := by decide +kernel
theorem dX12_whichOf_34 : decode cX12_whichOf 34 = .ok (.istore_n 2, 1) := by decide +kernel
theorem dX12_whichOf_35 : decode cX12_whichOf 35 = .ok (.iinc 3 1, 3) := by decide +kernel
theorem dX12_whichOf_38 : decode cX12_whichOf 38 = .ok (.goto (-34), 3) := by decide +kernel
theorem dX12_whichOf_41 : decode cX12_whichOf 41 = .ok (.iload_n 2, 1) := by decide +kernel
theorem dX12_whichOf_42 : decode cX12_whichOf 42 = .ok (.ireturn, 1) := by decide +kernel
theorem dX12_which_0 : decode cX12_which 0 = .ok (.iload_n 2, 1) := by decide +kernel
theorem dX12_which_1 : decode cX12_which 1 = .ok (.iconst 0, 1) := by decide +kernel
theorem dX12_which_2 : decode cX12_which 2 = .ok (.iconst 1, 1) := by decide +kernel
theorem dX12_which_3 : decode cX12_which 3 = .ok (.invokestatic 49, 3) := by decide +kernel
theorem dX12_which_6 : decode cX12_which 6 = .ok (.ifCond .ne 5, 3) := by decide +kernel
theorem dX12_which_9 : decode cX12_which 9 = .ok (.iconst (-1), 1) := by decide +kernel
theorem dX12_which_10 : decode cX12_which 10 = .ok (.ireturn, 1) := by decide +kernel
theorem dX12_which_11 : decode cX12_which 11 = .ok (.aload_n 0, 1) := by decide +kernel
theorem dX12_which_12 : decode cX12_which 12 = .ok (.iload_n 1, 1) := by decide +kernel
theorem dX12_which_13 : decode cX12_which 13 = .ok (.invokevirtual 159, 3) := by decide +kernel
theorem dX12_which_16 : decode cX12_which 16 = .ok (.istore_n 3, 1) := by decide +kernel
theorem dX12_which_17 : decode cX12_which 17 = .ok (.iload_n 3, 1) := by decide +kernel
theorem dX12_which_18 : decode cX12_which 18 = .ok (.ifCond .eq 5, 3) := by decide +kernel
theorem dX12_which_21 : decode cX12_which 21 = .ok (.iload_n 3, 1) := by decide +kernel
theorem dX12_which_22 : decode cX12_which 22 = .ok (.ireturn, 1) := by decide +kernel
theorem dX12_which_23 : decode cX12_which 23 = .ok (.iload_n 2, 1) := by decide +kernel
theorem dX12_which_24 : decode cX12_which 24 = .ok (.ifCond .ne 11, 3) := by decide +kernel
theorem dX12_which_27 : decode cX12_which 27 = .ok (.aload_n 0, 1) := by decide +kernel
theorem dX12_which_28 : decode cX12_which 28 = .ok (.iload_n 1, 1) := by decide +kernel
theorem dX12_which_29 : decode cX12_which 29 = .ok (.invokevirtual 162, 3) := by decide +kernel
theorem dX12_which_32 : decode cX12_which 32 = .ok (.goto 11, 3) := by decide +kernel
theorem dX12_which_35 : decode cX12_which 35 = .ok (.aload_n 0, 1) := by decide +kernel
theorem dX12_which_36 : decode cX12_which 36 = .ok (.iload_n 1, 1) := by decide +kernel
theorem dX12_which_37 : decode cX12_which 37 = .ok (.invokevirtual 162, 3) := by decide +kernel
theorem dX12_which_40 : decode cX12_which 40 = .ok (.invokestatic 153, 3) := by decide +kernel
theorem dX12_which_43 : decode cX12_which 43 = .ok (.ireturn, 1) := by decide +kernel
theorem dX12_two_0 : decode cX12_two 0 = .ok (.iload_n 2, 1) := by decide +kernel
theorem dX12_two_1 : decode cX12_two 1 = .ok (.iconst 0, 1) := by decide +kernel
theorem dX12_two_2 : decode cX12_two 2 = .ok (.iconst 1, 1) := by decide +kernel
theorem dX12_two_3 : decode cX12_two 3 = .ok (.invokestatic 49, 3) := by decide +kernel
theorem dX12_two_6 : decode cX12_two 6 = .ok (.ifCond .ne 5, 3) := by decide +kernel
theorem dX12_two_9 : decode cX12_two 9 = .ok (.iconst (-1), 1) := by decide +kernel
theorem dX12_two_10 : decode cX12_two 10 = .ok (.ireturn, 1) := by decide +kernel
theorem dX12_two_11 : decode cX12_two 11 = .ok (.aload_n 0, 1) := by decide +kernel
theorem dX12_two_12 : decode cX12_two 12 = .ok (.iload_n 1, 1) := by decide +kernel
theorem dX12_two_13 : decode cX12_two 13 = .ok (.invokevirtual 159, 3) := by decide +kernel
theorem dX12_two_16 : decode cX12_two 16 = .ok (.istore_n 3, 1) := by decide +kernel
theorem dX12_two_17 : decode cX12_two 17 = .ok (.iload_n 3, 1) := by decide +kernel
theorem dX12_two_18 : decode cX12_two 18 = .ok (.ifCond .eq 5, 3) := by decide +kernel
theorem dX12_two_21 : decode cX12_two 21 = .ok (.iload_n 3, 1) := by decide +kernel
theorem dX12_two_22 : decode cX12_two 22 = .ok (.ireturn, 1) := by decide +kernel
theorem dX12_two_23 : decode cX12_two 23 = .ok (.aload_n 0, 1) := by decide +kernel
theorem dX12_two_24 : decode cX12_two 24 = .ok (.iload_n 1, 1) := by decide +kernel
theorem dX12_two_25 : decode cX12_two 25 = .ok (.invokevirtual 162, 3) := by decide +kernel
theorem dX12_two_28 : decode cX12_two 28 = .ok (.istore 4, 2) := by decide +kernel
theorem dX12_two_30 : decode cX12_two 30 = .ok (.iconst 0, 1) := by decide +kernel
theorem dX12_two_31 : decode cX12_two 31 = .ok (.istore 5, 2) := by decide +kernel
theorem dX12_two_33 : decode cX12_two 33 = .ok (.bipush (-4), 2) := by decide +kernel
theorem dX12_two_35 : decode cX12_two 35 = .ok (.istore 6, 2) := by decide +kernel
theorem dX12_two_37 : decode cX12_two 37 = .ok (.iconst 0, 1) := by decide +kernel
theorem dX12_two_38 : decode cX12_two 38 = .ok (.istore 7, 2) := by decide +kernel
theorem dX12_two_40 : decode cX12_two 40 = .ok (.iload 7, 2) := by decide +kernel
theorem dX12_two_42 : decode cX12_two 42 = .ok (.aload_n 0, 1) := by decide +kernel
theorem dX12_two_43 : decode cX12_two 43 = .ok (.getfield 9, 3) := by decide +kernel
theorem dX12_two_46 : decode cX12_two 46 = .ok (.iconst 0, 1) := by decide +kernel
theorem dX12_two_47 : decode cX12_two 47 = .ok (.iaload, 1) := by decide +kernel
theorem dX12_two_48 : decode cX12_two 48 = .ok (.if_icmp .ge 87, 3) := by decide +kernel
theorem dX12_two_51 : decode cX12_two 51 = .ok (.iload 7, 2) := by decide +kernel
theorem dX12_two_53 : decode cX12_two 53 = .ok (.iconst 1, 1) := by decide +kernel
theorem dX12_two_54 : decode cX12_two 54 = .ok (.iadd, 1) := by decide +kernel
theorem dX12_two_55 : decode cX12_two 55 = .ok (.istore 8, 2) := by decide +kernel
theorem dX12_two_57 : decode cX12_two 57 = .ok (.iload 8, 2) := by decide +kernel
theorem dX12_two_59 : decode cX12_two 59 = .ok (.aload_n 0, 1) := by decide +kernel
theorem dX12_two_60 : decode cX12_two 60 = .ok (.getfield 9, 3) := by decide +kernel
theorem dX12_two_63 : decode cX12_two 63 = .ok (.iconst 0, 1) := by decide +kernel
theorem dX12_two_64 : decode cX12_two 64 = .ok (.iaload, 1) := by decide +kernel
theorem dX12_two_65 : decode cX12_two 65 = .ok (.if_icmp .ge 64, 3) := by decide +kernel
theorem dX12_two_68 : decode cX12_two 68 = .ok (.iconst 1, 1) := by decide +kernel
theorem dX12_two_69 : decode cX12_two 69 = .ok (.iload 7, 2) := by decide +kernel
theorem dX12_two_71 : decode cX12_two 71 = .ok (.ishl, 1) := by decide +kernel
theorem dX12_two_72 : decode cX12_two 72 = .ok (.iconst 1, 1) := by decide +kernel
theorem dX12_two_73 : decode cX12_two 73 = .ok (.iload 8, 2) := by decide +kernel
theorem dX12_two_75 : decode cX12_two 75 = .ok (.ishl, 1) := by decide +kernel
theorem dX12_two_76 : decode cX12_two 76 = .ok (.ior, 1) := by decide +kernel
theorem dX12_two_77 : decode cX12_two 77 = .ok (.istore 9, 2) := by decide +kernel
theorem dX12_two_79 : decode cX12_two 79 = .ok (.iload 4, 2) := by decide +kernel
theorem dX12_two_81 : decode cX12_two 81 = .ok (.iload 9, 2) := by decide +kernel
theorem dX12_two_83 : decode cX12_two 83 = .ok (.iand, 1) := by decide +kernel
theorem dX12_two_84 : decode cX12_two 84 = .ok (.ifCond .ne 39, 3) := by decide +kernel
theorem dX12_two_87 : decode cX12_two 87 = .ok (.aload_n 0, 1) := by decide +kernel
theorem dX12_two_88 : decode cX12_two 88 = .ok (.iload_n 1, 1) := by decide +kernel
theorem dX12_two_89 : decode cX12_two 89 = .ok (.iload 9, 2) := by decide +kernel
theorem dX12_two_91 : decode cX12_two 91 = .ok (.invokevirtual 156, 3) := by decide +kernel
theorem dX12_two_94 : decode cX12_two 94 = .ok (.ifCond .ne 6, 3) := by decide +kernel
theorem dX12_two_97 : decode cX12_two 97 = .ok (.goto 26, 3) := by decide +kernel
theorem dX12_two_100 : decode cX12_two 100 = .ok (.iload 5, 2) := by decide +kernel
theorem dX12_two_102 : decode cX12_two 102 = .ok (.ifCond .ne 14, 3) := by decide +kernel
theorem dX12_two_105 : decode cX12_two 105 = .ok (.bipush 10, 2) := by decide +kernel
theorem dX12_two_107 : decode cX12_two 107 = .ok (.iload 7, 2) := by decide +kernel
theorem dX12_two_109 : decode cX12_two 109 = .ok (.imul, 1) := by decide +kernel
theorem dX12_two_110 : decode cX12_two 110 = .ok (.iload 8, 2) := by decide +kernel
theorem dX12_two_112 : decode cX12_two 112 = .ok (.iadd, 1) := by decide +kernel
theorem dX12_two_113 : decode cX12_two 113 = .ok (.goto 5, 3) := by decide +kernel
theorem dX12_two_116 : decode cX12_two 116 = .ok (.iload 6, 2) := by decide +kernel
theorem dX12_two_118 : decode cX12_two 118 = .ok (.istore 6, 2) := by decide +kernel
theorem dX12_two_120 : decode cX12_two 120 = .ok (.iinc 5 1, 3) := by decide +kernel
theorem dX12_two_123 : decode cX12_two 123 = .ok (.iinc 8 1, 3) := by decide +kernel
theorem dX12_two_126 : decode cX12_two 126 = .ok (.goto (-69), 3) := by decide +kernel
theorem dX12_two_129 : decode cX12_two 129 = .ok (.iinc 7 1, 3) := by decide +kernel
theorem dX12_two_132 : decode cX12_two 132 = .ok (.goto (-92), 3) := by decide +kernel
theorem dX12_two_135 : decode cX12_two 135 = .ok (.iload_n 2, 1) := by decide +kernel
theorem dX12_two_136 : decode cX12_two 136 = .ok (.ifCond .ne 8, 3) := by decide +kernel
theorem dX12_two_139 : decode cX12_two 139 = .ok (.iload 5, 2) := by decide +kernel
theorem dX12_two_141 : decode cX12_two 141 = .ok (.goto 5, 3) := by decide +kernel
theorem dX12_two_144 : decode cX12_two 144 = .ok (.iload 6, 2) := by decide +kernel
theorem dX12_two_146 : decode cX12_two 146 = .ok (.ireturn, 1) := by decide +kernel
theorem dX12_tryNext_0 : decode cX12_tryNext 0 = .ok (.aload_n 0, 1) := by decide +kernel
theorem dX12_tryNext_1 : decode cX12_tryNext 1 = .ok (.iload_n 1, 1) := by decide +kernel
theorem dX12_tryNext_2 : decode cX12_tryNext 2 = .ok (.invokevirtual 159, 3) := by decide +kernel
theorem dX12_tryNext_5 : decode cX12_tryNext 5 = .ok (.istore_n 2, 1) := by decide +kernel
theorem dX12_tryNext_6 : decode cX12_tryNext 6 = .ok (.iload_n 2, 1) := by decide +kernel
theorem dX12_tryNext_7 : decode cX12_tryNext 7 = .ok (.ifCond .eq 5, 3) := by decide +kernel
theorem dX12_tryNext_10 : decode cX12_tryNext 10 = .ok (.iload_n 2, 1) := by decide +kernel
theorem dX12_tryNext_11 : decode cX12_tryNext 11 = .ok (.ireturn, 1) := by decide +kernel
theorem dX12_tryNext_12 : decode cX12_tryNext 12 = .ok (.aload_n 0, 1) := by decide +kernel
theorem dX12_tryNext_13 : decode cX12_tryNext 13 = .ok (.iload_n 1, 1) := by decide +kernel
theorem dX12_tryNext_14 : decode cX12_tryNext 14 = .ok (.invokevirtual 162, 3) := by decide +kernel
theorem dX12_tryNext_17 : decode cX12_tryNext 17 = .ok (.istore_n 3, 1) := by decide +kernel
theorem dX12_tryNext_18 : decode cX12_tryNext 18 = .ok (.iload_n 3, 1) := by decide +kernel
theorem dX12_tryNext_19 : decode cX12_tryNext 19 = .ok (.invokestatic 153, 3) := by decide +kernel
theorem dX12_tryNext_22 : decode cX12_tryNext 22 = .ok (.iconst 2, 1) := by decide +kernel
theorem dX12_tryNext_23 : decode cX12_tryNext 23 = .ok (.if_icmp .ge 6, 3) := by decide +kernel
theorem dX12_tryNext_26 : decode cX12_tryNext 26 = .ok (.bipush (-4), 2) := by decide +kernel
theorem dX12_tryNext_28 : decode cX12_tryNext 28 = .ok (.ireturn, 1) := by decide +kernel
theorem dX12_tryNext_29 : decode cX12_tryNext 29 = .ok (.iconst 0, 1) := by decide +kernel
theorem dX12_tryNext_30 : decode cX12_tryNext 30 = .ok (.istore 4, 2) := by decide +kernel
theorem dX12_tryNext_32 : decode cX12_tryNext 32 = .ok (.iconst (-1), 1) := by decide +kernel
theorem dX12_tryNext_33 : decode cX12_tryNext 33 = .ok (.istore 5, 2) := by decide +kernel
theorem dX12_tryNext_35 : decode cX12_tryNext 35 = .ok (.iconst 0, 1) := by decide +kernel
theorem dX12_tryNext_36 : decode cX12_tryNext 36 = .ok (.istore 6, 2) := by decide +kernel
theorem dX12_tryNext_38 : decode cX12_tryNext 38 = .ok (.iload 6, 2) := by decide +kernel
theorem dX12_tryNext_40 : decode cX12_tryNext 40 = .ok (.bipush 100, 2) := by decide +kernel
theorem dX12_tryNext_42 : decode cX12_tryNext 42 = .ok (.if_icmp .ge 130, 3) := by decide +kernel
theorem dX12_tryNext_45 : decode cX12_tryNext 45 = .ok (.iconst 0, 1) := by decide +kernel
theorem dX12_tryNext_46 : decode cX12_tryNext 46 = .ok (.istore 7, 2) := by decide +kernel
theorem dX12_tryNext_48 : decode cX12_tryNext 48 = .ok (.iconst 0, 1) := by decide +kernel
theorem dX12_tryNext_49 : decode cX12_tryNext 49 = .ok (.istore 8, 2) := by decide +kernel
theorem dX12_tryNext_51 : decode cX12_tryNext 51 = .ok (.iconst 0, 1) := by decide +kernel
theorem dX12_tryNext_52 : decode cX12_tryNext 52 = .ok (.istore 9, 2) := by decide +kernel
theorem dX12_tryNext_54 : decode cX12_tryNext 54 = .ok (.iload 9, 2) := by decide +kernel
theorem dX12_tryNext_56 : decode cX12_tryNext 56 = .ok (.aload_n 0, 1) := by decide +kernel
theorem dX12_tryNext_57 : decode cX12_tryNext 57 = .ok (.getfield 9, 3) := by decide +kernel
theorem dX12_tryNext_60 : decode cX12_tryNext 60 = .ok (.iconst 0, 1) := by decide +kernel
theorem dX12_tryNext_61 : decode cX12_tryNext 61 = .ok (.iaload, 1) := by decide +kernel
theorem dX12_tryNext_62 : decode cX12_tryNext 62 = .ok (.if_icmp .ge 70, 3) := by decide +kernel
theorem dX12_tryNext_65 : decode cX12_tryNext 65 = .ok (.iload_n 3, 1) := by decide +kernel
theorem dX12_tryNext_66 : decode cX12_tryNext 66 = .ok (.iload 9, 2) := by decide +kernel
theorem dX12_tryNext_68 : decode cX12_tryNext 68 = .ok (.ishr, 1) := by decide +kernel
theorem dX12_tryNext_69 : decode cX12_tryNext 69 = .ok (.iconst 1, 1) := by decide +kernel
theorem dX12_tryNext_70 : decode cX12_tryNext 70 = .ok (.iand, 1) := by decide +kernel
theorem dX12_tryNext_71 : decode cX12_tryNext 71 = .ok (.ifCond .ne 6, 3) := by decide +kernel
theorem dX12_tryNext_74 : decode cX12_tryNext 74 = .ok (.goto 52, 3) := by decide +kernel
theorem dX12_tryNext_77 : decode cX12_tryNext 77 = .ok (.aload_n 0, 1) := by decide +kernel
theorem dX12_tryNext_78 : decode cX12_tryNext 78 = .ok (.getfield 9, 3) := by decide +kernel
theorem dX12_tryNext_81 : decode cX12_tryNext 81 = .ok (.iload 9, 2) := by decide +kernel
theorem dX12_tryNext_83 : decode cX12_tryNext 83 = .ok (.iload 6, 2) := by decide +kernel
theorem dX12_tryNext_85 : decode cX12_tryNext 85 = .ok (.invokestatic 60, 3) := by decide +kernel
theorem dX12_tryNext_88 : decode cX12_tryNext 88 = .ok (.ifCond .le 22, 3) := by decide +kernel
theorem dX12_tryNext_91 : decode cX12_tryNext 91 = .ok (.iload 7, 2) := by decide +kernel
theorem dX12_tryNext_93 : decode cX12_tryNext 93 = .ok (.aload_n 0, 1) := by decide +kernel
theorem dX12_tryNext_94 : decode cX12_tryNext 94 = .ok (.getfield 9, 3) := by decide +kernel
theorem dX12_tryNext_97 : decode cX12_tryNext 97 = .ok (.iload 9, 2) := by decide +kernel
theorem dX12_tryNext_99 : decode cX12_tryNext 99 = .ok (.iconst 3, 1) := by decide +kernel
theorem dX12_tryNext_100 : decode cX12_tryNext 100 = .ok (.invokestatic 53, 3) := by decide +kernel
theorem dX12_tryNext_103 : decode cX12_tryNext 103 = .ok (.iaload, 1) := by decide +kernel
theorem dX12_tryNext_104 : decode cX12_tryNext 104 = .ok (.iadd, 1) := by decide +kernel
theorem dX12_tryNext_105 : decode cX12_tryNext 105 = .ok (.istore 7, 2) := by decide +kernel
theorem dX12_tryNext_107 : decode cX12_tryNext 107 = .ok (.goto 19, 3) := by decide +kernel
theorem dX12_tryNext_110 : decode cX12_tryNext 110 = .ok (.iload 8, 2) := by decide +kernel
theorem dX12_tryNext_112 : decode cX12_tryNext 112 = .ok (.aload_n 0, 1) := by decide +kernel
theorem dX12_tryNext_113 : decode cX12_tryNext 113 = .ok (.getfield 9, 3) := by decide +kernel
theorem dX12_tryNext_116 : decode cX12_tryNext 116 = .ok (.iload 9, 2) := by decide +kernel
theorem dX12_tryNext_118 : decode cX12_tryNext 118 = .ok (.iconst 3, 1) := by decide +kernel
theorem dX12_tryNext_119 : decode cX12_tryNext 119 = .ok (.invokestatic 53, 3) := by decide +kernel
theorem dX12_tryNext_122 : decode cX12_tryNext 122 = .ok (.iaload, 1) := by decide +kernel
theorem dX12_tryNext_123 : decode cX12_tryNext 123 = .ok (.iadd, 1) := by decide +kernel
theorem dX12_tryNext_124 : decode cX12_tryNext 124 = .ok (.istore 8, 2) := by decide +kernel
theorem dX12_tryNext_126 : decode cX12_tryNext 126 = .ok (.iinc 9 1, 3) := by decide +kernel
theorem dX12_tryNext_129 : decode cX12_tryNext 129 = .ok (.goto (-75), 3) := by decide +kernel
theorem dX12_tryNext_132 : decode cX12_tryNext 132 = .ok (.iload 7, 2) := by decide +kernel
theorem dX12_tryNext_134 : decode cX12_tryNext 134 = .ok (.iload 8, 2) := by decide +kernel
theorem dX12_tryNext_136 : decode cX12_tryNext 136 = .ok (.if_icmp .ge 8, 3) := by decide +kernel
theorem dX12_tryNext_139 : decode cX12_tryNext 139 = .ok (.iload 7, 2) := by decide +kernel
theorem dX12_tryNext_141 : decode cX12_tryNext 141 = .ok (.goto 5, 3) := by decide +kernel
theorem dX12_tryNext_144 : decode cX12_tryNext 144 = .ok (.iload 8, 2) := by decide +kernel
theorem dX12_tryNext_146 : decode cX12_tryNext 146 = .ok (.istore 9, 2) := by decide +kernel
theorem dX12_tryNext_148 : decode cX12_tryNext 148 = .ok (.iload 9, 2) := by decide +kernel
theorem dX12_tryNext_150 : decode cX12_tryNext 150 = .ok (.iload 5, 2) := by decide +kernel
theorem dX12_tryNext_152 : decode cX12_tryNext 152 = .ok (.if_icmp .gt 6, 3) := by decide +kernel
theorem dX12_tryNext_155 : decode cX12_tryNext 155 = .ok (.goto 11, 3) := by decide +kernel
theorem dX12_tryNext_158 : decode cX12_tryNext 158 = .ok (.iload 6, 2) := by decide +kernel
theorem dX12_tryNext_160 : decode cX12_tryNext 160 = .ok (.istore 4, 2) := by decide +kernel
theorem dX12_tryNext_162 : decode cX12_tryNext 162 = .ok (.iload 9, 2) := by decide +kernel
theorem dX12_tryNext_164 : decode cX12_tryNext 164 = .ok (.istore 5, 2) := by decide +kernel
theorem dX12_tryNext_166 : decode cX12_tryNext 166 = .ok (.iinc 6 1, 3) := by decide +kernel
theorem dX12_tryNext_169 : decode cX12_tryNext 169 = .ok (.goto (-131), 3) := by decide +kernel
theorem dX12_tryNext_172 : decode cX12_tryNext 172 = .ok (.iload 4, 2) := by decide +kernel
theorem dX12_tryNext_174 : decode cX12_tryNext 174 = .ok (.ireturn, 1) := by decide +kernel
theorem dX12_weightOf_0 : decode cX12_weightOf 0 = .ok (.iconst 0, 1) := by decide +kernel
theorem dX12_weightOf_1 : decode cX12_weightOf 1 = .ok (.istore_n 2, 1) := by decide +kernel
theorem dX12_weightOf_2 : decode cX12_weightOf 2 = .ok (.iconst 0, 1) := by decide +kernel
theorem dX12_weightOf_3 : decode cX12_weightOf 3 = .ok (.istore_n 3, 1) := by decide +kernel
theorem dX12_weightOf_4 : decode cX12_weightOf 4 = .ok (.iload_n 3, 1) := by decide +kernel
theorem dX12_weightOf_5 : decode cX12_weightOf 5 = .ok (.aload_n 0, 1) := by decide +kernel
theorem dX12_weightOf_6 : decode cX12_weightOf 6 = .ok (.getfield 9, 3) := by decide +kernel
theorem dX12_weightOf_9 : decode cX12_weightOf 9 = .ok (.iconst 0, 1) := by decide +kernel
theorem dX12_weightOf_10 : decode cX12_weightOf 10 = .ok (.iaload, 1) := by decide +kernel
theorem dX12_weightOf_11 : decode cX12_weightOf 11 = .ok (.if_icmp .ge 35, 3) := by decide +kernel
theorem dX12_weightOf_14 : decode cX12_weightOf 14 = .ok (.iload_n 2, 1) := by decide +kernel
theorem dX12_weightOf_15 : decode cX12_weightOf 15 = .ok (.iload_n 1, 1) := by decide +kernel
theorem dX12_weightOf_16 : decode cX12_weightOf 16 = .ok (.iload_n 3, 1) := by decide +kernel
theorem dX12_weightOf_17 : decode cX12_weightOf 17 = .ok (.ishr, 1) := by decide +kernel
theorem dX12_weightOf_18 : decode cX12_weightOf 18 = .ok (.iconst 1, 1) := by decide +kernel
theorem dX12_weightOf_19 : decode cX12_weightOf 19 = .ok (.iand, 1) := by decide +kernel
theorem dX12_weightOf_20 : decode cX12_weightOf 20 = .ok (.iconst 1, 1) := by decide +kernel
theorem dX12_weightOf_21 : decode cX12_weightOf 21 = .ok (.if_icmp .ne 16, 3) := by decide +kernel
theorem dX12_weightOf_24 : decode cX12_weightOf 24 = .ok (.aload_n 0, 1) := by decide +kernel
theorem dX12_weightOf_25 : decode cX12_weightOf 25 = .ok (.getfield 9, 3) := by decide +kernel
theorem dX12_weightOf_28 : decode cX12_weightOf 28 = .ok (.iload_n 3, 1) := by decide +kernel
theorem dX12_weightOf_29 : decode cX12_weightOf 29 = .ok (.iconst 3, 1) := by decide +kernel
theorem dX12_weightOf_30 : decode cX12_weightOf 30 = .ok (.invokestatic 53, 3) := by decide +kernel
theorem dX12_weightOf_33 : decode cX12_weightOf 33 = .ok (.iaload, 1) := by decide +kernel
theorem dX12_weightOf_34 : decode cX12_weightOf 34 = .ok (.goto 4, 3) := by decide +kernel
theorem dX12_weightOf_37 : decode cX12_weightOf 37 = .ok (.iconst 0, 1) := by decide +kernel
theorem dX12_weightOf_38 : decode cX12_weightOf 38 = .ok (.iadd, 1) := by decide +kernel
theorem dX12_weightOf_39 : decode cX12_weightOf 39 = .ok (.istore_n 2, 1) := by decide +kernel
theorem dX12_weightOf_40 : decode cX12_weightOf 40 = .ok (.iinc 3 1, 3) := by decide +kernel
theorem dX12_weightOf_43 : decode cX12_weightOf 43 = .ok (.goto (-39), 3) := by decide +kernel
theorem dX12_weightOf_46 : decode cX12_weightOf 46 = .ok (.iload_n 2, 1) := by decide +kernel
theorem dX12_weightOf_47 : decode cX12_weightOf 47 = .ok (.ireturn, 1) := by decide +kernel
theorem dX12_halvesOf_0 : decode cX12_halvesOf 0 = .ok (.iconst 1, 1) := by decide +kernel
theorem dX12_halvesOf_1 : decode cX12_halvesOf 1 = .ok (.istore_n 2, 1) := by decide +kernel
theorem dX12_halvesOf_2 : decode cX12_halvesOf 2 = .ok (.iload_n 2, 1) := by decide +kernel
theorem dX12_halvesOf_3 : decode cX12_halvesOf 3 = .ok (.iload_n 1, 1) := by decide +kernel
theorem dX12_halvesOf_4 : decode cX12_halvesOf 4 = .ok (.if_icmp .gt 117, 3) := by decide +kernel
theorem dX12_halvesOf_7 : decode cX12_halvesOf 7 = .ok (.iload_n 2, 1) := by decide +kernel
theorem dX12_halvesOf_8 : decode cX12_halvesOf 8 = .ok (.iload_n 1, 1) := by decide +kernel
theorem dX12_halvesOf_9 : decode cX12_halvesOf 9 = .ok (.iconst (-1), 1) := by decide +kernel
theorem dX12_halvesOf_10 : decode cX12_halvesOf 10 = .ok (.ixor, 1) := by decide +kernel
theorem dX12_halvesOf_11 : decode cX12_halvesOf 11 = .ok (.iand, 1) := by decide +kernel
theorem dX12_halvesOf_12 : decode cX12_halvesOf 12 = .ok (.ifCond .eq 6, 3) := by decide +kernel
theorem dX12_halvesOf_15 : decode cX12_halvesOf 15 = .ok (.goto 100, 3) := by decide +kernel
theorem dX12_halvesOf_18 : decode cX12_halvesOf 18 = .ok (.aload_n 0, 1) := by decide +kernel
theorem dX12_halvesOf_19 : decode cX12_halvesOf 19 = .ok (.getfield 25, 3) := by decide +kernel
theorem dX12_halvesOf_22 : decode cX12_halvesOf 22 = .ok (.iload_n 2, 1) := by decide +kernel
theorem dX12_halvesOf_23 : decode cX12_halvesOf 23 = .ok (.iload_n 2, 1) := by decide +kernel
theorem dX12_halvesOf_24 : decode cX12_halvesOf 24 = .ok (.invokestatic 153, 3) := by decide +kernel
theorem dX12_halvesOf_27 : decode cX12_halvesOf 27 = .ok (.iconst 1, 1) := by decide +kernel
theorem dX12_halvesOf_28 : decode cX12_halvesOf 28 = .ok (.if_icmp .ne 7, 3) := by decide +kernel
theorem dX12_halvesOf_31 : decode cX12_halvesOf 31 = .ok (.iconst 0, 1) := by decide +kernel
theorem dX12_halvesOf_32 : decode cX12_halvesOf 32 = .ok (.goto 5, 3) := by decide +kernel
theorem dX12_halvesOf_35 : decode cX12_halvesOf 35 = .ok (.ldc 165, 2) := by decide +kernel
theorem dX12_halvesOf_37 : decode cX12_halvesOf 37 = .ok (.iastore, 1) := by decide +kernel
theorem dX12_halvesOf_38 : decode cX12_halvesOf 38 = .ok (.iconst 1, 1) := by decide +kernel
theorem dX12_halvesOf_39 : decode cX12_halvesOf 39 = .ok (.istore_n 3, 1) := by decide +kernel
theorem dX12_halvesOf_40 : decode cX12_halvesOf 40 = .ok (.iload_n 3, 1) := by decide +kernel
theorem dX12_halvesOf_41 : decode cX12_halvesOf 41 = .ok (.iload_n 2, 1) := by decide +kernel
theorem dX12_halvesOf_42 : decode cX12_halvesOf 42 = .ok (.if_icmp .ge 73, 3) := by decide +kernel
theorem dX12_halvesOf_45 : decode cX12_halvesOf 45 = .ok (.iload_n 3, 1) := by decide +kernel
theorem dX12_halvesOf_46 : decode cX12_halvesOf 46 = .ok (.iload_n 2, 1) := by decide +kernel
theorem dX12_halvesOf_47 : decode cX12_halvesOf 47 = .ok (.iconst (-1), 1) := by decide +kernel
theorem dX12_halvesOf_48 : decode cX12_halvesOf 48 = .ok (.ixor, 1) := by decide +kernel
theorem dX12_halvesOf_49 : decode cX12_halvesOf 49 = .ok (.iand, 1) := by decide +kernel
theorem dX12_halvesOf_50 : decode cX12_halvesOf 50 = .ok (.ifCond .eq 6, 3) := by decide +kernel
theorem dX12_halvesOf_53 : decode cX12_halvesOf 53 = .ok (.goto 56, 3) := by decide +kernel
theorem dX12_halvesOf_56 : decode cX12_halvesOf 56 = .ok (.aload_n 0, 1) := by decide +kernel
theorem dX12_halvesOf_57 : decode cX12_halvesOf 57 = .ok (.getfield 25, 3) := by decide +kernel
theorem dX12_halvesOf_60 : decode cX12_halvesOf 60 = .ok (.iload_n 3, 1) := by decide +kernel
theorem dX12_halvesOf_61 : decode cX12_halvesOf 61 = .ok (.iaload, 1) := by decide +kernel
theorem dX12_halvesOf_62 : decode cX12_halvesOf 62 = .ok (.aload_n 0, 1) := by decide +kernel
theorem dX12_halvesOf_63 : decode cX12_halvesOf 63 = .ok (.getfield 25, 3) := by decide +kernel
theorem dX12_halvesOf_66 : decode cX12_halvesOf 66 = .ok (.iload_n 2, 1) := by decide +kernel
theorem dX12_halvesOf_67 : decode cX12_halvesOf 67 = .ok (.iload_n 3, 1) := by decide +kernel
theorem dX12_halvesOf_68 : decode cX12_halvesOf 68 = .ok (.iconst (-1), 1) := by decide +kernel
theorem dX12_halvesOf_69 : decode cX12_halvesOf 69 = .ok (.ixor, 1) := by decide +kernel
theorem dX12_halvesOf_70 : decode cX12_halvesOf 70 = .ok (.iand, 1) := by decide +kernel
theorem dX12_halvesOf_71 : decode cX12_halvesOf 71 = .ok (.iaload, 1) := by decide +kernel
theorem dX12_halvesOf_72 : decode cX12_halvesOf 72 = .ok (.iadd, 1) := by decide +kernel
theorem dX12_halvesOf_73 : decode cX12_halvesOf 73 = .ok (.aload_n 0, 1) := by decide +kernel
theorem dX12_halvesOf_74 : decode cX12_halvesOf 74 = .ok (.iload_n 2, 1) := by decide +kernel
theorem dX12_halvesOf_75 : decode cX12_halvesOf 75 = .ok (.invokevirtual 166, 3) := by decide +kernel
theorem dX12_halvesOf_78 : decode cX12_halvesOf 78 = .ok (.iadd, 1) := by decide +kernel
theorem dX12_halvesOf_79 : decode cX12_halvesOf 79 = .ok (.istore 4, 2) := by decide +kernel
theorem dX12_halvesOf_81 : decode cX12_halvesOf 81 = .ok (.aload_n 0, 1) := by decide +kernel
theorem dX12_halvesOf_82 : decode cX12_halvesOf 82 = .ok (.getfield 25, 3) := by decide +kernel
theorem dX12_halvesOf_85 : decode cX12_halvesOf 85 = .ok (.iload_n 2, 1) := by decide +kernel
theorem dX12_halvesOf_86 : decode cX12_halvesOf 86 = .ok (.iload 4, 2) := by decide +kernel
theorem dX12_halvesOf_88 : decode cX12_halvesOf 88 = .ok (.aload_n 0, 1) := by decide +kernel
theorem dX12_halvesOf_89 : decode cX12_halvesOf 89 = .ok (.getfield 25, 3) := by decide +kernel
theorem dX12_halvesOf_92 : decode cX12_halvesOf 92 = .ok (.iload_n 2, 1) := by decide +kernel
theorem dX12_halvesOf_93 : decode cX12_halvesOf 93 = .ok (.iaload, 1) := by decide +kernel
theorem dX12_halvesOf_94 : decode cX12_halvesOf 94 = .ok (.if_icmp .ge 8, 3) := by decide +kernel
theorem dX12_halvesOf_97 : decode cX12_halvesOf 97 = .ok (.iload 4, 2) := by decide +kernel
theorem dX12_halvesOf_99 : decode cX12_halvesOf 99 = .ok (.goto 9, 3) := by decide +kernel
theorem dX12_halvesOf_102 : decode cX12_halvesOf 102 = .ok (.aload_n 0, 1) := by decide +kernel
theorem dX12_halvesOf_103 : decode cX12_halvesOf 103 = .ok (.getfield 25, 3) := by decide +kernel
theorem dX12_halvesOf_106 : decode cX12_halvesOf 106 = .ok (.iload_n 2, 1) := by decide +kernel
theorem dX12_halvesOf_107 : decode cX12_halvesOf 107 = .ok (.iaload, 1) := by decide +kernel
theorem dX12_halvesOf_108 : decode cX12_halvesOf 108 = .ok (.iastore, 1) := by decide +kernel
theorem dX12_halvesOf_109 : decode cX12_halvesOf 109 = .ok (.iinc 3 1, 3) := by decide +kernel
theorem dX12_halvesOf_112 : decode cX12_halvesOf 112 = .ok (.goto (-72), 3) := by decide +kernel
theorem dX12_halvesOf_115 : decode cX12_halvesOf 115 = .ok (.iinc 2 1, 3) := by decide +kernel
theorem dX12_halvesOf_118 : decode cX12_halvesOf 118 = .ok (.goto (-116), 3) := by decide +kernel
theorem dX12_halvesOf_121 : decode cX12_halvesOf 121 = .ok (.aload_n 0, 1) := by decide +kernel
theorem dX12_halvesOf_122 : decode cX12_halvesOf 122 = .ok (.getfield 25, 3) := by decide +kernel
theorem dX12_halvesOf_125 : decode cX12_halvesOf 125 = .ok (.iload_n 1, 1) := by decide +kernel
theorem dX12_halvesOf_126 : decode cX12_halvesOf 126 = .ok (.iaload, 1) := by decide +kernel
theorem dX12_halvesOf_127 : decode cX12_halvesOf 127 = .ok (.ireturn, 1) := by decide +kernel
theorem dX12_oneByOneOf_0 : decode cX12_oneByOneOf 0 = .ok (.iload_n 1, 1) := by decide +kernel
theorem dX12_oneByOneOf_1 : decode cX12_oneByOneOf 1 = .ok (.istore_n 2, 1) := by decide +kernel
theorem dX12_oneByOneOf_2 : decode cX12_oneByOneOf 2 = .ok (.iconst 0, 1) := by decide +kernel
theorem dX12_oneByOneOf_3 : decode cX12_oneByOneOf 3 = .ok (.istore_n 3, 1) := by decide +kernel
theorem dX12_oneByOneOf_4 : decode cX12_oneByOneOf 4 = .ok (.iconst 1, 1) := by decide +kernel
theorem dX12_oneByOneOf_5 : decode cX12_oneByOneOf 5 = .ok (.istore 4, 2) := by decide +kernel
theorem dX12_oneByOneOf_7 : decode cX12_oneByOneOf 7 = .ok (.iload_n 2, 1) := by decide +kernel
theorem dX12_oneByOneOf_8 : decode cX12_oneByOneOf 8 = .ok (.ifCond .eq 114, 3) := by decide +kernel
theorem dX12_oneByOneOf_11 : decode cX12_oneByOneOf 11 = .ok (.bipush (-4), 2) := by decide +kernel
theorem dX12_oneByOneOf_13 : decode cX12_oneByOneOf 13 = .ok (.istore 5, 2) := by decide +kernel
theorem dX12_oneByOneOf_15 : decode cX12_oneByOneOf 15 = .ok (.iconst 0, 1) := by decide +kernel
theorem dX12_oneByOneOf_16 : decode cX12_oneByOneOf 16 = .ok (.istore 6, 2) := by decide +kernel
theorem dX12_oneByOneOf_18 : decode cX12_oneByOneOf 18 = .ok (.iload 6, 2) := by decide +kernel
theorem dX12_oneByOneOf_20 : decode cX12_oneByOneOf 20 = .ok (.aload_n 0, 1) := by decide +kernel
theorem dX12_oneByOneOf_21 : decode cX12_oneByOneOf 21 = .ok (.getfield 9, 3) := by decide +kernel
theorem dX12_oneByOneOf_24 : decode cX12_oneByOneOf 24 = .ok (.iconst 0, 1) := by decide +kernel
theorem dX12_oneByOneOf_25 : decode cX12_oneByOneOf 25 = .ok (.iaload, 1) := by decide +kernel
theorem dX12_oneByOneOf_26 : decode cX12_oneByOneOf 26 = .ok (.if_icmp .ge 53, 3) := by decide +kernel
theorem dX12_oneByOneOf_29 : decode cX12_oneByOneOf 29 = .ok (.iload_n 2, 1) := by decide +kernel
theorem dX12_oneByOneOf_30 : decode cX12_oneByOneOf 30 = .ok (.iload 6, 2) := by decide +kernel
theorem dX12_oneByOneOf_32 : decode cX12_oneByOneOf 32 = .ok (.ishr, 1) := by decide +kernel
theorem dX12_oneByOneOf_33 : decode cX12_oneByOneOf 33 = .ok (.iconst 1, 1) := by decide +kernel
theorem dX12_oneByOneOf_34 : decode cX12_oneByOneOf 34 = .ok (.iand, 1) := by decide +kernel
theorem dX12_oneByOneOf_35 : decode cX12_oneByOneOf 35 = .ok (.iconst 1, 1) := by decide +kernel
theorem dX12_oneByOneOf_36 : decode cX12_oneByOneOf 36 = .ok (.if_icmp .ne 37, 3) := by decide +kernel
theorem dX12_oneByOneOf_39 : decode cX12_oneByOneOf 39 = .ok (.iload 5, 2) := by decide +kernel
theorem dX12_oneByOneOf_41 : decode cX12_oneByOneOf 41 = .ok (.ifCond .lt 28, 3) := by decide +kernel
theorem dX12_oneByOneOf_44 : decode cX12_oneByOneOf 44 = .ok (.aload_n 0, 1) := by decide +kernel
theorem dX12_oneByOneOf_45 : decode cX12_oneByOneOf 45 = .ok (.getfield 9, 3) := by decide +kernel
theorem dX12_oneByOneOf_48 : decode cX12_oneByOneOf 48 = .ok (.iload 6, 2) := by decide +kernel
theorem dX12_oneByOneOf_50 : decode cX12_oneByOneOf 50 = .ok (.iconst 3, 1) := by decide +kernel
theorem dX12_oneByOneOf_51 : decode cX12_oneByOneOf 51 = .ok (.invokestatic 53, 3) := by decide +kernel
theorem dX12_oneByOneOf_54 : decode cX12_oneByOneOf 54 = .ok (.iaload, 1) := by decide +kernel
theorem dX12_oneByOneOf_55 : decode cX12_oneByOneOf 55 = .ok (.aload_n 0, 1) := by decide +kernel
theorem dX12_oneByOneOf_56 : decode cX12_oneByOneOf 56 = .ok (.getfield 9, 3) := by decide +kernel
theorem dX12_oneByOneOf_59 : decode cX12_oneByOneOf 59 = .ok (.iload 5, 2) := by decide +kernel
theorem dX12_oneByOneOf_61 : decode cX12_oneByOneOf 61 = .ok (.iconst 3, 1) := by decide +kernel
theorem dX12_oneByOneOf_62 : decode cX12_oneByOneOf 62 = .ok (.invokestatic 53, 3) := by decide +kernel
theorem dX12_oneByOneOf_65 : decode cX12_oneByOneOf 65 = .ok (.iaload, 1) := by decide +kernel
theorem dX12_oneByOneOf_66 : decode cX12_oneByOneOf 66 = .ok (.if_icmp .le 7, 3) := by decide +kernel
theorem dX12_oneByOneOf_69 : decode cX12_oneByOneOf 69 = .ok (.iload 6, 2) := by decide +kernel
theorem dX12_oneByOneOf_71 : decode cX12_oneByOneOf 71 = .ok (.istore 5, 2) := by decide +kernel
theorem dX12_oneByOneOf_73 : decode cX12_oneByOneOf 73 = .ok (.iinc 6 1, 3) := by decide +kernel
theorem dX12_oneByOneOf_76 : decode cX12_oneByOneOf 76 = .ok (.goto (-58), 3) := by decide +kernel
theorem dX12_oneByOneOf_79 : decode cX12_oneByOneOf 79 = .ok (.iload_n 2, 1) := by decide +kernel
theorem dX12_oneByOneOf_80 : decode cX12_oneByOneOf 80 = .ok (.iconst 1, 1) := by decide +kernel
theorem dX12_oneByOneOf_81 : decode cX12_oneByOneOf 81 = .ok (.iload 5, 2) := by decide +kernel
theorem dX12_oneByOneOf_83 : decode cX12_oneByOneOf 83 = .ok (.ishl, 1) := by decide +kernel
theorem dX12_oneByOneOf_84 : decode cX12_oneByOneOf 84 = .ok (.iconst (-1), 1) := by decide +kernel
theorem dX12_oneByOneOf_85 : decode cX12_oneByOneOf 85 = .ok (.ixor, 1) := by decide +kernel
theorem dX12_oneByOneOf_86 : decode cX12_oneByOneOf 86 = .ok (.iand, 1) := by decide +kernel
theorem dX12_oneByOneOf_87 : decode cX12_oneByOneOf 87 = .ok (.istore_n 2, 1) := by decide +kernel
theorem dX12_oneByOneOf_88 : decode cX12_oneByOneOf 88 = .ok (.iload_n 3, 1) := by decide +kernel
theorem dX12_oneByOneOf_89 : decode cX12_oneByOneOf 89 = .ok (.iload_n 2, 1) := by decide +kernel
theorem dX12_oneByOneOf_90 : decode cX12_oneByOneOf 90 = .ok (.ifCond .ne 10, 3) := by decide +kernel
theorem dX12_oneByOneOf_93 : decode cX12_oneByOneOf 93 = .ok (.iload 4, 2) := by decide +kernel
theorem dX12_oneByOneOf_95 : decode cX12_oneByOneOf 95 = .ok (.iconst 1, 1) := by decide +kernel
theorem dX12_oneByOneOf_96 : decode cX12_oneByOneOf 96 = .ok (.isub, 1) := by decide +kernel
theorem dX12_oneByOneOf_97 : decode cX12_oneByOneOf 97 = .ok (.goto 5, 3) := by decide +kernel
theorem dX12_oneByOneOf_100 : decode cX12_oneByOneOf 100 = .ok (.iload 4, 2) := by decide +kernel
theorem dX12_oneByOneOf_102 : decode cX12_oneByOneOf 102 = .ok (.aload_n 0, 1) := by decide +kernel
theorem dX12_oneByOneOf_103 : decode cX12_oneByOneOf 103 = .ok (.getfield 9, 3) := by decide +kernel
theorem dX12_oneByOneOf_106 : decode cX12_oneByOneOf 106 = .ok (.iload 5, 2) := by decide +kernel
theorem dX12_oneByOneOf_108 : decode cX12_oneByOneOf 108 = .ok (.iconst 3, 1) := by decide +kernel
theorem dX12_oneByOneOf_109 : decode cX12_oneByOneOf 109 = .ok (.invokestatic 53, 3) := by decide +kernel
theorem dX12_oneByOneOf_112 : decode cX12_oneByOneOf 112 = .ok (.iaload, 1) := by decide +kernel
theorem dX12_oneByOneOf_113 : decode cX12_oneByOneOf 113 = .ok (.imul, 1) := by decide +kernel
theorem dX12_oneByOneOf_114 : decode cX12_oneByOneOf 114 = .ok (.iadd, 1) := by decide +kernel
theorem dX12_oneByOneOf_115 : decode cX12_oneByOneOf 115 = .ok (.istore_n 3, 1) := by decide +kernel
theorem dX12_oneByOneOf_116 : decode cX12_oneByOneOf 116 = .ok (.iinc 4 1, 3) := by decide +kernel
theorem dX12_oneByOneOf_119 : decode cX12_oneByOneOf 119 = .ok (.goto (-112), 3) := by decide +kernel
theorem dX12_oneByOneOf_122 : decode cX12_oneByOneOf 122 = .ok (.iload_n 3, 1) := by decide +kernel
theorem dX12_oneByOneOf_123 : decode cX12_oneByOneOf 123 = .ok (.ireturn, 1) := by decide +kernel
theorem dX12_isSet_0 : decode cX12_isSet 0 = .ok (.iload_n 1, 1) := by decide +kernel
theorem dX12_isSet_1 : decode cX12_isSet 1 = .ok (.iconst 1, 1) := by decide +kernel
theorem dX12_isSet_2 : decode cX12_isSet 2 = .ok (.if_icmp .lt 19, 3) := by decide +kernel
theorem dX12_isSet_5 : decode cX12_isSet 5 = .ok (.iload_n 1, 1) := by decide +kernel
theorem dX12_isSet_6 : decode cX12_isSet 6 = .ok (.iconst 1, 1) := by decide +kernel
theorem dX12_isSet_7 : decode cX12_isSet 7 = .ok (.aload_n 0, 1) := by decide +kernel
theorem dX12_isSet_8 : decode cX12_isSet 8 = .ok (.getfield 9, 3) := by decide +kernel
theorem dX12_isSet_11 : decode cX12_isSet 11 = .ok (.iconst 0, 1) := by decide +kernel
theorem dX12_isSet_12 : decode cX12_isSet 12 = .ok (.iaload, 1) := by decide +kernel
theorem dX12_isSet_13 : decode cX12_isSet 13 = .ok (.ishl, 1) := by decide +kernel
theorem dX12_isSet_14 : decode cX12_isSet 14 = .ok (.if_icmp .ge 7, 3) := by decide +kernel
theorem dX12_isSet_17 : decode cX12_isSet 17 = .ok (.iconst 1, 1) := by decide +kernel
theorem dX12_isSet_18 : decode cX12_isSet 18 = .ok (.goto 4, 3) := by decide +kernel
theorem dX12_isSet_21 : decode cX12_isSet 21 = .ok (.iconst 0, 1) := by decide +kernel
theorem dX12_isSet_22 : decode cX12_isSet 22 = .ok (.ireturn, 1) := by decide +kernel
theorem dX12_gcd_0 : decode cX12_gcd 0 = .ok (.lload_n 0, 1) := by decide +kernel
theorem dX12_gcd_1 : decode cX12_gcd 1 = .ok (.lstore 4, 2) := by decide +kernel
theorem dX12_gcd_3 : decode cX12_gcd 3 = .ok (.lload_n 2, 1) := by decide +kernel
theorem dX12_gcd_4 : decode cX12_gcd 4 = .ok (.lstore 6, 2) := by decide +kernel
theorem dX12_gcd_6 : decode cX12_gcd 6 = .ok (.lload 6, 2) := by decide +kernel
theorem dX12_gcd_8 : decode cX12_gcd 8 = .ok (.lconst 0, 1) := by decide +kernel
theorem dX12_gcd_9 : decode cX12_gcd 9 = .ok (.lcmp, 1) := by decide +kernel
theorem dX12_gcd_10 : decode cX12_gcd 10 = .ok (.ifCond .eq 21, 3) := by decide +kernel
theorem dX12_gcd_13 : decode cX12_gcd 13 = .ok (.lload 4, 2) := by decide +kernel
theorem dX12_gcd_15 : decode cX12_gcd 15 = .ok (.lload 6, 2) := by decide +kernel
theorem dX12_gcd_17 : decode cX12_gcd 17 = .ok (.lrem, 1) := by decide +kernel
theorem dX12_gcd_18 : decode cX12_gcd 18 = .ok (.lstore 8, 2) := by decide +kernel
theorem dX12_gcd_20 : decode cX12_gcd 20 = .ok (.lload 6, 2) := by decide +kernel
theorem dX12_gcd_22 : decode cX12_gcd 22 = .ok (.lstore 4, 2) := by decide +kernel
theorem dX12_gcd_24 : decode cX12_gcd 24 = .ok (.lload 8, 2) := by decide +kernel
theorem dX12_gcd_26 : decode cX12_gcd 26 = .ok (.lstore 6, 2) := by decide +kernel
theorem dX12_gcd_28 : decode cX12_gcd 28 = .ok (.goto (-22), 3) := by decide +kernel
theorem dX12_gcd_31 : decode cX12_gcd 31 = .ok (.lload 4, 2) := by decide +kernel
theorem dX12_gcd_33 : decode cX12_gcd 33 = .ok (.lreturn, 1) := by decide +kernel
theorem dX12_partOf_0 : decode cX12_partOf 0 = .ok (.lload_n 0, 1) := by decide +kernel
theorem dX12_partOf_1 : decode cX12_partOf 1 = .ok (.lconst 0, 1) := by decide +kernel
theorem dX12_partOf_2 : decode cX12_partOf 2 = .ok (.lcmp, 1) := by decide +kernel
theorem dX12_partOf_3 : decode cX12_partOf 3 = .ok (.ifCond .ne 7, 3) := by decide +kernel
theorem dX12_partOf_6 : decode cX12_partOf 6 = .ok (.iload 4, 2) := by decide +kernel
theorem dX12_partOf_8 : decode cX12_partOf 8 = .ok (.i2l, 1) := by decide +kernel
theorem dX12_partOf_9 : decode cX12_partOf 9 = .ok (.lreturn, 1) := by decide +kernel
theorem dX12_partOf_10 : decode cX12_partOf 10 = .ok (.iload 4, 2) := by decide +kernel
theorem dX12_partOf_12 : decode cX12_partOf 12 = .ok (.ifCond .ne 7, 3) := by decide +kernel
theorem dX12_partOf_15 : decode cX12_partOf 15 = .ok (.lload_n 0, 1) := by decide +kernel
theorem dX12_partOf_16 : decode cX12_partOf 16 = .ok (.goto 4, 3) := by decide +kernel
theorem dX12_partOf_19 : decode cX12_partOf 19 = .ok (.lload_n 2, 1) := by decide +kernel
theorem dX12_partOf_20 : decode cX12_partOf 20 = .ok (.lload_n 0, 1) := by decide +kernel
theorem dX12_partOf_21 : decode cX12_partOf 21 = .ok (.lload_n 2, 1) := by decide +kernel
theorem dX12_partOf_22 : decode cX12_partOf 22 = .ok (.invokestatic 169, 3) := by decide +kernel
theorem dX12_partOf_25 : decode cX12_partOf 25 = .ok (.ldiv, 1) := by decide +kernel
theorem dX12_partOf_26 : decode cX12_partOf 26 = .ok (.lreturn, 1) := by decide +kernel
theorem dX12_halves_0 : decode cX12_halves 0 = .ok (.aload_n 0, 1) := by decide +kernel
theorem dX12_halves_1 : decode cX12_halves 1 = .ok (.iload_n 1, 1) := by decide +kernel
theorem dX12_halves_2 : decode cX12_halves 2 = .ok (.invokevirtual 173, 3) := by decide +kernel
theorem dX12_halves_5 : decode cX12_halves 5 = .ok (.ifCond .eq 31, 3) := by decide +kernel
theorem dX12_halves_8 : decode cX12_halves 8 = .ok (.iload_n 2, 1) := by decide +kernel
theorem dX12_halves_9 : decode cX12_halves 9 = .ok (.iconst 0, 1) := by decide +kernel
theorem dX12_halves_10 : decode cX12_halves 10 = .ok (.iconst 1, 1) := by decide +kernel
theorem dX12_halves_11 : decode cX12_halves 11 = .ok (.invokestatic 49, 3) := by decide +kernel
theorem dX12_halves_14 : decode cX12_halves 14 = .ok (.ifCond .eq 22, 3) := by decide +kernel
theorem dX12_halves_17 : decode cX12_halves 17 = .ok (.aload_n 0, 1) := by decide +kernel
theorem dX12_halves_18 : decode cX12_halves 18 = .ok (.iload_n 1, 1) := by decide +kernel
theorem dX12_halves_19 : decode cX12_halves 19 = .ok (.invokevirtual 176, 3) := by decide +kernel
theorem dX12_halves_22 : decode cX12_halves 22 = .ok (.i2l, 1) := by decide +kernel
theorem dX12_halves_23 : decode cX12_halves 23 = .ok (.aload_n 0, 1) := by decide +kernel
theorem dX12_halves_24 : decode cX12_halves 24 = .ok (.iload_n 1, 1) := by decide +kernel
theorem dX12_halves_25 : decode cX12_halves 25 = .ok (.invokevirtual 166, 3) := by decide +kernel
theorem dX12_halves_28 : decode cX12_halves 28 = .ok (.i2l, 1) := by decide +kernel
theorem dX12_halves_29 : decode cX12_halves 29 = .ok (.iload_n 2, 1) := by decide +kernel
theorem dX12_halves_30 : decode cX12_halves 30 = .ok (.invokestatic 179, 3) := by decide +kernel
theorem dX12_halves_33 : decode cX12_halves 33 = .ok (.goto 6, 3) := by decide +kernel
theorem dX12_halves_36 : decode cX12_halves 36 = .ok (.ldc2_w 183, 3) := by decide +kernel
theorem dX12_halves_39 : decode cX12_halves 39 = .ok (.lreturn, 1) := by decide +kernel
theorem dX12_oneByOne_0 : decode cX12_oneByOne 0 = .ok (.aload_n 0, 1) := by decide +kernel
theorem dX12_oneByOne_1 : decode cX12_oneByOne 1 = .ok (.iload_n 1, 1) := by decide +kernel
theorem dX12_oneByOne_2 : decode cX12_oneByOne 2 = .ok (.invokevirtual 173, 3) := by decide +kernel
theorem dX12_oneByOne_5 : decode cX12_oneByOne 5 = .ok (.ifCond .eq 31, 3) := by decide +kernel
theorem dX12_oneByOne_8 : decode cX12_oneByOne 8 = .ok (.iload_n 2, 1) := by decide +kernel
theorem dX12_oneByOne_9 : decode cX12_oneByOne 9 = .ok (.iconst 0, 1) := by decide +kernel
theorem dX12_oneByOne_10 : decode cX12_oneByOne 10 = .ok (.iconst 1, 1) := by decide +kernel
theorem dX12_oneByOne_11 : decode cX12_oneByOne 11 = .ok (.invokestatic 49, 3) := by decide +kernel
theorem dX12_oneByOne_14 : decode cX12_oneByOne 14 = .ok (.ifCond .eq 22, 3) := by decide +kernel
theorem dX12_oneByOne_17 : decode cX12_oneByOne 17 = .ok (.aload_n 0, 1) := by decide +kernel
theorem dX12_oneByOne_18 : decode cX12_oneByOne 18 = .ok (.iload_n 1, 1) := by decide +kernel
theorem dX12_oneByOne_19 : decode cX12_oneByOne 19 = .ok (.invokevirtual 185, 3) := by decide +kernel
theorem dX12_oneByOne_22 : decode cX12_oneByOne 22 = .ok (.i2l, 1) := by decide +kernel
theorem dX12_oneByOne_23 : decode cX12_oneByOne 23 = .ok (.aload_n 0, 1) := by decide +kernel
theorem dX12_oneByOne_24 : decode cX12_oneByOne 24 = .ok (.iload_n 1, 1) := by decide +kernel
theorem dX12_oneByOne_25 : decode cX12_oneByOne 25 = .ok (.invokevirtual 166, 3) := by decide +kernel
theorem dX12_oneByOne_28 : decode cX12_oneByOne 28 = .ok (.i2l, 1) := by decide +kernel
theorem dX12_oneByOne_29 : decode cX12_oneByOne 29 = .ok (.iload_n 2, 1) := by decide +kernel
theorem dX12_oneByOne_30 : decode cX12_oneByOne 30 = .ok (.invokestatic 179, 3) := by decide +kernel
theorem dX12_oneByOne_33 : decode cX12_oneByOne 33 = .ok (.goto 6, 3) := by decide +kernel
theorem dX12_oneByOne_36 : decode cX12_oneByOne 36 = .ok (.ldc2_w 183, 3) := by decide +kernel
theorem dX12_oneByOne_39 : decode cX12_oneByOne 39 = .ok (.lreturn, 1) := by decide +kernel
theorem dX12_worse_0 : decode cX12_worse 0 = .ok (.aload_n 0, 1) := by decide +kernel
theorem dX12_worse_1 : decode cX12_worse 1 = .ok (.iload_n 1, 1) := by decide +kernel
theorem dX12_worse_2 : decode cX12_worse 2 = .ok (.invokevirtual 173, 3) := by decide +kernel
theorem dX12_worse_5 : decode cX12_worse 5 = .ok (.ifCond .eq 17, 3) := by decide +kernel
theorem dX12_worse_8 : decode cX12_worse 8 = .ok (.aload_n 0, 1) := by decide +kernel
theorem dX12_worse_9 : decode cX12_worse 9 = .ok (.iload_n 1, 1) := by decide +kernel
theorem dX12_worse_10 : decode cX12_worse 10 = .ok (.invokevirtual 185, 3) := by decide +kernel
theorem dX12_worse_13 : decode cX12_worse 13 = .ok (.aload_n 0, 1) := by decide +kernel
theorem dX12_worse_14 : decode cX12_worse 14 = .ok (.iload_n 1, 1) := by decide +kernel
theorem dX12_worse_15 : decode cX12_worse 15 = .ok (.invokevirtual 176, 3) := by decide +kernel
theorem dX12_worse_18 : decode cX12_worse 18 = .ok (.isub, 1) := by decide +kernel
theorem dX12_worse_19 : decode cX12_worse 19 = .ok (.goto 4, 3) := by decide +kernel
theorem dX12_worse_22 : decode cX12_worse 22 = .ok (.iconst (-1), 1) := by decide +kernel
theorem dX12_worse_23 : decode cX12_worse 23 = .ok (.ireturn, 1) := by decide +kernel
theorem dX12_timesFigures_0 : decode cX12_timesFigures 0 = .ok (.iconst 0, 1) := by decide +kernel
theorem dX12_timesFigures_1 : decode cX12_timesFigures 1 = .ok (.istore_n 2, 1) := by decide +kernel
theorem dX12_timesFigures_2 : decode cX12_timesFigures 2 = .ok (.iconst 0, 1) := by decide +kernel
theorem dX12_timesFigures_3 : decode cX12_timesFigures 3 = .ok (.istore_n 3, 1) := by decide +kernel
theorem dX12_timesFigures_4 : decode cX12_timesFigures 4 = .ok (.iload_n 3, 1) := by decide +kernel
theorem dX12_timesFigures_5 : decode cX12_timesFigures 5 = .ok (.bipush 78, 2) := by decide +kernel
theorem dX12_timesFigures_7 : decode cX12_timesFigures 7 = .ok (.if_icmp .ge 54, 3) := by decide +kernel
theorem dX12_timesFigures_10 : decode cX12_timesFigures 10 = .ok (.aload_n 0, 1) := by decide +kernel
theorem dX12_timesFigures_11 : decode cX12_timesFigures 11 = .ok (.getfield 28, 3) := by decide +kernel
theorem dX12_timesFigures_14 : decode cX12_timesFigures 14 = .ok (.iload_n 3, 1) := by decide +kernel
theorem dX12_timesFigures_15 : decode cX12_timesFigures 15 = .ok (.iaload, 1) := by decide +kernel
theorem dX12_timesFigures_16 : decode cX12_timesFigures 16 = .ok (.iload_n 1, 1) := by decide +kernel
theorem dX12_timesFigures_17 : decode cX12_timesFigures 17 = .ok (.imul, 1) := by decide +kernel
theorem dX12_timesFigures_18 : decode cX12_timesFigures 18 = .ok (.iload_n 2, 1) := by decide +kernel
theorem dX12_timesFigures_19 : decode cX12_timesFigures 19 = .ok (.iadd, 1) := by decide +kernel
theorem dX12_timesFigures_20 : decode cX12_timesFigures 20 = .ok (.istore 4, 2) := by decide +kernel
theorem dX12_timesFigures_22 : decode cX12_timesFigures 22 = .ok (.aload_n 0, 1) := by decide +kernel
theorem dX12_timesFigures_23 : decode cX12_timesFigures 23 = .ok (.getfield 28, 3) := by decide +kernel
theorem dX12_timesFigures_26 : decode cX12_timesFigures 26 = .ok (.iload_n 3, 1) := by decide +kernel
theorem dX12_timesFigures_27 : decode cX12_timesFigures 27 = .ok (.iload 4, 2) := by decide +kernel
theorem dX12_timesFigures_29 : decode cX12_timesFigures 29 = .ok (.bipush 10, 2) := by decide +kernel
theorem dX12_timesFigures_31 : decode cX12_timesFigures 31 = .ok (.irem, 1) := by decide +kernel
theorem dX12_timesFigures_32 : decode cX12_timesFigures 32 = .ok (.iastore, 1) := by decide +kernel
theorem dX12_timesFigures_33 : decode cX12_timesFigures 33 = .ok (.iload 4, 2) := by decide +kernel
theorem dX12_timesFigures_35 : decode cX12_timesFigures 35 = .ok (.bipush 10, 2) := by decide +kernel
theorem dX12_timesFigures_37 : decode cX12_timesFigures 37 = .ok (.idiv, 1) := by decide +kernel
theorem dX12_timesFigures_38 : decode cX12_timesFigures 38 = .ok (.istore_n 2, 1) := by decide +kernel
theorem dX12_timesFigures_39 : decode cX12_timesFigures 39 = .ok (.aload_n 0, 1) := by decide +kernel
theorem dX12_timesFigures_40 : decode cX12_timesFigures 40 = .ok (.getfield 28, 3) := by decide +kernel
theorem dX12_timesFigures_43 : decode cX12_timesFigures 43 = .ok (.iload_n 3, 1) := by decide +kernel
theorem dX12_timesFigures_44 : decode cX12_timesFigures 44 = .ok (.iaload, 1) := by decide +kernel
theorem dX12_timesFigures_45 : decode cX12_timesFigures 45 = .ok (.ifCond .eq 10, 3) := by decide +kernel
theorem dX12_timesFigures_48 : decode cX12_timesFigures 48 = .ok (.aload_n 0, 1) := by decide +kernel
theorem dX12_timesFigures_49 : decode cX12_timesFigures 49 = .ok (.iload_n 3, 1) := by decide +kernel
theorem dX12_timesFigures_50 : decode cX12_timesFigures 50 = .ok (.iconst 1, 1) := by decide +kernel
theorem dX12_timesFigures_51 : decode cX12_timesFigures 51 = .ok (.iadd, 1) := by decide +kernel
theorem dX12_timesFigures_52 : decode cX12_timesFigures 52 = .ok (.putfield 188, 3) := by decide +kernel
theorem dX12_timesFigures_55 : decode cX12_timesFigures 55 = .ok (.iinc 3 1, 3) := by decide +kernel
theorem dX12_timesFigures_58 : decode cX12_timesFigures 58 = .ok (.goto (-54), 3) := by decide +kernel
theorem dX12_timesFigures_61 : decode cX12_timesFigures 61 = .ok (.return_, 1) := by decide +kernel
theorem dX12_isWithinTen_0 : decode cX12_isWithinTen 0 = .ok (.aload_n 0, 1) := by decide +kernel
theorem dX12_isWithinTen_1 : decode cX12_isWithinTen 1 = .ok (.getfield 188, 3) := by decide +kernel
theorem dX12_isWithinTen_4 : decode cX12_isWithinTen 4 = .ok (.iload_n 1, 1) := by decide +kernel
theorem dX12_isWithinTen_5 : decode cX12_isWithinTen 5 = .ok (.if_icmp .gt 5, 3) := by decide +kernel
theorem dX12_isWithinTen_8 : decode cX12_isWithinTen 8 = .ok (.iconst 1, 1) := by decide +kernel
theorem dX12_isWithinTen_9 : decode cX12_isWithinTen 9 = .ok (.ireturn, 1) := by decide +kernel
theorem dX12_isWithinTen_10 : decode cX12_isWithinTen 10 = .ok (.aload_n 0, 1) := by decide +kernel
theorem dX12_isWithinTen_11 : decode cX12_isWithinTen 11 = .ok (.getfield 188, 3) := by decide +kernel
theorem dX12_isWithinTen_14 : decode cX12_isWithinTen 14 = .ok (.iload_n 1, 1) := by decide +kernel
theorem dX12_isWithinTen_15 : decode cX12_isWithinTen 15 = .ok (.iconst 1, 1) := by decide +kernel
theorem dX12_isWithinTen_16 : decode cX12_isWithinTen 16 = .ok (.iadd, 1) := by decide +kernel
theorem dX12_isWithinTen_17 : decode cX12_isWithinTen 17 = .ok (.if_icmp .gt 13, 3) := by decide +kernel
theorem dX12_isWithinTen_20 : decode cX12_isWithinTen 20 = .ok (.aload_n 0, 1) := by decide +kernel
theorem dX12_isWithinTen_21 : decode cX12_isWithinTen 21 = .ok (.getfield 28, 3) := by decide +kernel
theorem dX12_isWithinTen_24 : decode cX12_isWithinTen 24 = .ok (.iload_n 1, 1) := by decide +kernel
theorem dX12_isWithinTen_25 : decode cX12_isWithinTen 25 = .ok (.iaload, 1) := by decide +kernel
theorem dX12_isWithinTen_26 : decode cX12_isWithinTen 26 = .ok (.iconst 1, 1) := by decide +kernel
theorem dX12_isWithinTen_27 : decode cX12_isWithinTen 27 = .ok (.if_icmp .eq 5, 3) := by decide +kernel
theorem dX12_isWithinTen_30 : decode cX12_isWithinTen 30 = .ok (.iconst 0, 1) := by decide +kernel
theorem dX12_isWithinTen_31 : decode cX12_isWithinTen 31 = .ok (.ireturn, 1) := by decide +kernel
theorem dX12_isWithinTen_32 : decode cX12_isWithinTen 32 = .ok (.iconst 0, 1) := by decide +kernel
theorem dX12_isWithinTen_33 : decode cX12_isWithinTen 33 = .ok (.istore_n 2, 1) := by decide +kernel
theorem dX12_isWithinTen_34 : decode cX12_isWithinTen 34 = .ok (.iload_n 2, 1) := by decide +kernel
theorem dX12_isWithinTen_35 : decode cX12_isWithinTen 35 = .ok (.iload_n 1, 1) := by decide +kernel
theorem dX12_isWithinTen_36 : decode cX12_isWithinTen 36 = .ok (.if_icmp .ge 20, 3) := by decide +kernel
theorem dX12_isWithinTen_39 : decode cX12_isWithinTen 39 = .ok (.aload_n 0, 1) := by decide +kernel
theorem dX12_isWithinTen_40 : decode cX12_isWithinTen 40 = .ok (.getfield 28, 3) := by decide +kernel
theorem dX12_isWithinTen_43 : decode cX12_isWithinTen 43 = .ok (.iload_n 2, 1) := by decide +kernel
theorem dX12_isWithinTen_44 : decode cX12_isWithinTen 44 = .ok (.iaload, 1) := by decide +kernel
theorem dX12_isWithinTen_45 : decode cX12_isWithinTen 45 = .ok (.ifCond .eq 5, 3) := by decide +kernel
theorem dX12_isWithinTen_48 : decode cX12_isWithinTen 48 = .ok (.iconst 0, 1) := by decide +kernel
theorem dX12_isWithinTen_49 : decode cX12_isWithinTen 49 = .ok (.ireturn, 1) := by decide +kernel
theorem dX12_isWithinTen_50 : decode cX12_isWithinTen 50 = .ok (.iinc 2 1, 3) := by decide +kernel
theorem dX12_isWithinTen_53 : decode cX12_isWithinTen 53 = .ok (.goto (-19), 3) := by decide +kernel
theorem dX12_isWithinTen_56 : decode cX12_isWithinTen 56 = .ok (.iconst 1, 1) := by decide +kernel
theorem dX12_isWithinTen_57 : decode cX12_isWithinTen 57 = .ok (.ireturn, 1) := by decide +kernel
theorem dX12_gone_0 : decode cX12_gone 0 = .ok (.iload_n 1, 1) := by decide +kernel
theorem dX12_gone_1 : decode cX12_gone 1 = .ok (.iconst 1, 1) := by decide +kernel
theorem dX12_gone_2 : decode cX12_gone 2 = .ok (.bipush 9, 2) := by decide +kernel
theorem dX12_gone_4 : decode cX12_gone 4 = .ok (.invokestatic 49, 3) := by decide +kernel
theorem dX12_gone_7 : decode cX12_gone 7 = .ok (.ifCond .eq 13, 3) := by decide +kernel
theorem dX12_gone_10 : decode cX12_gone 10 = .ok (.iload_n 2, 1) := by decide +kernel
theorem dX12_gone_11 : decode cX12_gone 11 = .ok (.iconst 2, 1) := by decide +kernel
theorem dX12_gone_12 : decode cX12_gone 12 = .ok (.bipush 50, 2) := by decide +kernel
theorem dX12_gone_14 : decode cX12_gone 14 = .ok (.invokestatic 49, 3) := by decide +kernel
theorem dX12_gone_17 : decode cX12_gone 17 = .ok (.ifCond .ne 5, 3) := by decide +kernel
theorem dX12_gone_20 : decode cX12_gone 20 = .ok (.iconst (-1), 1) := by decide +kernel
theorem dX12_gone_21 : decode cX12_gone 21 = .ok (.ireturn, 1) := by decide +kernel
theorem dX12_gone_22 : decode cX12_gone 22 = .ok (.iconst 0, 1) := by decide +kernel
theorem dX12_gone_23 : decode cX12_gone 23 = .ok (.istore_n 3, 1) := by decide +kernel
theorem dX12_gone_24 : decode cX12_gone 24 = .ok (.iload_n 3, 1) := by decide +kernel
theorem dX12_gone_25 : decode cX12_gone 25 = .ok (.bipush 80, 2) := by decide +kernel
theorem dX12_gone_27 : decode cX12_gone 27 = .ok (.if_icmp .ge 24, 3) := by decide +kernel
theorem dX12_gone_30 : decode cX12_gone 30 = .ok (.aload_n 0, 1) := by decide +kernel
theorem dX12_gone_31 : decode cX12_gone 31 = .ok (.getfield 28, 3) := by decide +kernel
theorem dX12_gone_34 : decode cX12_gone 34 = .ok (.iload_n 3, 1) := by decide +kernel
theorem dX12_gone_35 : decode cX12_gone 35 = .ok (.iload_n 3, 1) := by decide +kernel
theorem dX12_gone_36 : decode cX12_gone 36 = .ok (.ifCond .ne 7, 3) := by decide +kernel
theorem dX12_gone_39 : decode cX12_gone 39 = .ok (.iconst 1, 1) := by decide +kernel
theorem dX12_gone_40 : decode cX12_gone 40 = .ok (.goto 4, 3) := by decide +kernel
theorem dX12_gone_43 : decode cX12_gone 43 = .ok (.iconst 0, 1) := by decide +kernel
theorem dX12_gone_44 : decode cX12_gone 44 = .ok (.iastore, 1) := by decide +kernel
theorem dX12_gone_45 : decode cX12_gone 45 = .ok (.iinc 3 1, 3) := by decide +kernel
theorem dX12_gone_48 : decode cX12_gone 48 = .ok (.goto (-24), 3) := by decide +kernel
theorem dX12_gone_51 : decode cX12_gone 51 = .ok (.aload_n 0, 1) := by decide +kernel
theorem dX12_gone_52 : decode cX12_gone 52 = .ok (.iconst 0, 1) := by decide +kernel
theorem dX12_gone_53 : decode cX12_gone 53 = .ok (.putfield 188, 3) := by decide +kernel
theorem dX12_gone_56 : decode cX12_gone 56 = .ok (.aload_n 0, 1) := by decide +kernel
theorem dX12_gone_57 : decode cX12_gone 57 = .ok (.iload_n 2, 1) := by decide +kernel
theorem dX12_gone_58 : decode cX12_gone 58 = .ok (.iconst 1, 1) := by decide +kernel
theorem dX12_gone_59 : decode cX12_gone 59 = .ok (.isub, 1) := by decide +kernel
theorem dX12_gone_60 : decode cX12_gone 60 = .ok (.invokevirtual 191, 3) := by decide +kernel
theorem dX12_gone_63 : decode cX12_gone 63 = .ok (.iconst 0, 1) := by decide +kernel
theorem dX12_gone_64 : decode cX12_gone 64 = .ok (.istore_n 3, 1) := by decide +kernel
theorem dX12_gone_65 : decode cX12_gone 65 = .ok (.iload_n 3, 1) := by decide +kernel
theorem dX12_gone_66 : decode cX12_gone 66 = .ok (.bipush 60, 2) := by decide +kernel
theorem dX12_gone_68 : decode cX12_gone 68 = .ok (.if_icmp .gt 32, 3) := by decide +kernel
theorem dX12_gone_71 : decode cX12_gone 71 = .ok (.aload_n 0, 1) := by decide +kernel
theorem dX12_gone_72 : decode cX12_gone 72 = .ok (.iload_n 3, 1) := by decide +kernel
theorem dX12_gone_73 : decode cX12_gone 73 = .ok (.invokevirtual 195, 3) := by decide +kernel
theorem dX12_gone_76 : decode cX12_gone 76 = .ok (.ifCond .eq 5, 3) := by decide +kernel
theorem dX12_gone_79 : decode cX12_gone 79 = .ok (.iload_n 3, 1) := by decide +kernel
theorem dX12_gone_80 : decode cX12_gone 80 = .ok (.ireturn, 1) := by decide +kernel
theorem dX12_gone_81 : decode cX12_gone 81 = .ok (.aload_n 0, 1) := by decide +kernel
theorem dX12_gone_82 : decode cX12_gone 82 = .ok (.iconst 0, 1) := by decide +kernel
theorem dX12_gone_83 : decode cX12_gone 83 = .ok (.putfield 188, 3) := by decide +kernel
theorem dX12_gone_86 : decode cX12_gone 86 = .ok (.aload_n 0, 1) := by decide +kernel
theorem dX12_gone_87 : decode cX12_gone 87 = .ok (.bipush 10, 2) := by decide +kernel
theorem dX12_gone_89 : decode cX12_gone 89 = .ok (.iload_n 1, 1) := by decide +kernel
theorem dX12_gone_90 : decode cX12_gone 90 = .ok (.isub, 1) := by decide +kernel
theorem dX12_gone_91 : decode cX12_gone 91 = .ok (.invokevirtual 191, 3) := by decide +kernel
theorem dX12_gone_94 : decode cX12_gone 94 = .ok (.iinc 3 1, 3) := by decide +kernel
theorem dX12_gone_97 : decode cX12_gone 97 = .ok (.goto (-32), 3) := by decide +kernel
theorem dX12_gone_100 : decode cX12_gone 100 = .ok (.bipush (-4), 2) := by decide +kernel
theorem dX12_gone_102 : decode cX12_gone 102 = .ok (.ireturn, 1) := by decide +kernel
theorem dX12_wrongEar_0 : decode cX12_wrongEar 0 = .ok (.iload_n 2, 1) := by decide +kernel
theorem dX12_wrongEar_1 : decode cX12_wrongEar 1 = .ok (.iconst 0, 1) := by decide +kernel
theorem dX12_wrongEar_2 : decode cX12_wrongEar 2 = .ok (.bipush 9, 2) := by decide +kernel
theorem dX12_wrongEar_4 : decode cX12_wrongEar 4 = .ok (.invokestatic 49, 3) := by decide +kernel
theorem dX12_wrongEar_7 : decode cX12_wrongEar 7 = .ok (.ifCond .ne 5, 3) := by decide +kernel
theorem dX12_wrongEar_10 : decode cX12_wrongEar 10 = .ok (.iconst (-1), 1) := by decide +kernel
theorem dX12_wrongEar_11 : decode cX12_wrongEar 11 = .ok (.ireturn, 1) := by decide +kernel
theorem dX12_wrongEar_12 : decode cX12_wrongEar 12 = .ok (.aload_n 0, 1) := by decide +kernel
theorem dX12_wrongEar_13 : decode cX12_wrongEar 13 = .ok (.iload_n 1, 1) := by decide +kernel
theorem dX12_wrongEar_14 : decode cX12_wrongEar 14 = .ok (.iconst (-1), 1) := by decide +kernel
theorem dX12_wrongEar_15 : decode cX12_wrongEar 15 = .ok (.invokevirtual 127, 3) := by decide +kernel
theorem dX12_wrongEar_18 : decode cX12_wrongEar 18 = .ok (.istore_n 3, 1) := by decide +kernel
theorem dX12_wrongEar_19 : decode cX12_wrongEar 19 = .ok (.iload_n 3, 1) := by decide +kernel
theorem dX12_wrongEar_20 : decode cX12_wrongEar 20 = .ok (.ifCond .eq 5, 3) := by decide +kernel
theorem dX12_wrongEar_23 : decode cX12_wrongEar 23 = .ok (.iload_n 3, 1) := by decide +kernel
theorem dX12_wrongEar_24 : decode cX12_wrongEar 24 = .ok (.ireturn, 1) := by decide +kernel
theorem dX12_wrongEar_25 : decode cX12_wrongEar 25 = .ok (.aload_n 0, 1) := by decide +kernel
theorem dX12_wrongEar_26 : decode cX12_wrongEar 26 = .ok (.getfield 43, 3) := by decide +kernel
theorem dX12_wrongEar_29 : decode cX12_wrongEar 29 = .ok (.iload_n 1, 1) := by decide +kernel
theorem dX12_wrongEar_30 : decode cX12_wrongEar 30 = .ok (.iaload, 1) := by decide +kernel
theorem dX12_wrongEar_31 : decode cX12_wrongEar 31 = .ok (.bipush 8, 2) := by decide +kernel
theorem dX12_wrongEar_33 : decode cX12_wrongEar 33 = .ok (.if_icmp .le 6, 3) := by decide +kernel
theorem dX12_wrongEar_36 : decode cX12_wrongEar 36 = .ok (.bipush (-13), 2) := by decide +kernel
theorem dX12_wrongEar_38 : decode cX12_wrongEar 38 = .ok (.ireturn, 1) := by decide +kernel
theorem dX12_wrongEar_39 : decode cX12_wrongEar 39 = .ok (.iconst 0, 1) := by decide +kernel
theorem dX12_wrongEar_40 : decode cX12_wrongEar 40 = .ok (.istore 4, 2) := by decide +kernel
theorem dX12_wrongEar_42 : decode cX12_wrongEar 42 = .ok (.iload 4, 2) := by decide +kernel
theorem dX12_wrongEar_44 : decode cX12_wrongEar 44 = .ok (.aload_n 0, 1) := by decide +kernel
theorem dX12_wrongEar_45 : decode cX12_wrongEar 45 = .ok (.getfield 43, 3) := by decide +kernel
theorem dX12_wrongEar_48 : decode cX12_wrongEar 48 = .ok (.iload_n 1, 1) := by decide +kernel
theorem dX12_wrongEar_49 : decode cX12_wrongEar 49 = .ok (.iaload, 1) := by decide +kernel
theorem dX12_wrongEar_50 : decode cX12_wrongEar 50 = .ok (.if_icmp .ge 30, 3) := by decide +kernel
theorem dX12_wrongEar_53 : decode cX12_wrongEar 53 = .ok (.aload_n 0, 1) := by decide +kernel
theorem dX12_wrongEar_54 : decode cX12_wrongEar 54 = .ok (.getfield 46, 3) := by decide +kernel
theorem dX12_wrongEar_57 : decode cX12_wrongEar 57 = .ok (.bipush 100, 2) := by decide +kernel
theorem dX12_wrongEar_59 : decode cX12_wrongEar 59 = .ok (.iload_n 1, 1) := by decide +kernel
theorem dX12_wrongEar_60 : decode cX12_wrongEar 60 = .ok (.imul, 1) := by decide +kernel
theorem dX12_wrongEar_61 : decode cX12_wrongEar 61 = .ok (.iload 4, 2) := by decide +kernel
theorem dX12_wrongEar_63 : decode cX12_wrongEar 63 = .ok (.iadd, 1) := by decide +kernel
theorem dX12_wrongEar_64 : decode cX12_wrongEar 64 = .ok (.iaload, 1) := by decide +kernel
theorem dX12_wrongEar_65 : decode cX12_wrongEar 65 = .ok (.invokestatic 111, 3) := by decide +kernel
theorem dX12_wrongEar_68 : decode cX12_wrongEar 68 = .ok (.ifCond .ne 6, 3) := by decide +kernel
theorem dX12_wrongEar_71 : decode cX12_wrongEar 71 = .ok (.bipush (-13), 2) := by decide +kernel
theorem dX12_wrongEar_73 : decode cX12_wrongEar 73 = .ok (.ireturn, 1) := by decide +kernel
theorem dX12_wrongEar_74 : decode cX12_wrongEar 74 = .ok (.iinc 4 1, 3) := by decide +kernel
theorem dX12_wrongEar_77 : decode cX12_wrongEar 77 = .ok (.goto (-35), 3) := by decide +kernel
theorem dX12_wrongEar_80 : decode cX12_wrongEar 80 = .ok (.iconst 0, 1) := by decide +kernel
theorem dX12_wrongEar_81 : decode cX12_wrongEar 81 = .ok (.ireturn, 1) := by decide +kernel
theorem dX12_earOf_0 : decode cX12_earOf 0 = .ok (.lconst 1, 1) := by decide +kernel
theorem dX12_earOf_1 : decode cX12_earOf 1 = .ok (.lstore 4, 2) := by decide +kernel
theorem dX12_earOf_3 : decode cX12_earOf 3 = .ok (.iconst 0, 1) := by decide +kernel
theorem dX12_earOf_4 : decode cX12_earOf 4 = .ok (.istore 6, 2) := by decide +kernel
theorem dX12_earOf_6 : decode cX12_earOf 6 = .ok (.iload 6, 2) := by decide +kernel
theorem dX12_earOf_8 : decode cX12_earOf 8 = .ok (.aload_n 0, 1) := by decide +kernel
theorem dX12_earOf_9 : decode cX12_earOf 9 = .ok (.getfield 43, 3) := by decide +kernel
theorem dX12_earOf_12 : decode cX12_earOf 12 = .ok (.iload_n 1, 1) := by decide +kernel
theorem dX12_earOf_13 : decode cX12_earOf 13 = .ok (.iaload, 1) := by decide +kernel
theorem dX12_earOf_14 : decode cX12_earOf 14 = .ok (.if_icmp .ge 42, 3) := by decide +kernel
theorem dX12_earOf_17 : decode cX12_earOf 17 = .ok (.lload 4, 2) := by decide +kernel
theorem dX12_earOf_19 : decode cX12_earOf 19 = .ok (.aload_n 0, 1) := by decide +kernel
theorem dX12_earOf_20 : decode cX12_earOf 20 = .ok (.getfield 46, 3) := by decide +kernel
theorem dX12_earOf_23 : decode cX12_earOf 23 = .ok (.bipush 100, 2) := by decide +kernel
theorem dX12_earOf_25 : decode cX12_earOf 25 = .ok (.iload_n 1, 1) := by decide +kernel
theorem dX12_earOf_26 : decode cX12_earOf 26 = .ok (.imul, 1) := by decide +kernel
theorem dX12_earOf_27 : decode cX12_earOf 27 = .ok (.iload 6, 2) := by decide +kernel
theorem dX12_earOf_29 : decode cX12_earOf 29 = .ok (.iadd, 1) := by decide +kernel
theorem dX12_earOf_30 : decode cX12_earOf 30 = .ok (.iaload, 1) := by decide +kernel
theorem dX12_earOf_31 : decode cX12_earOf 31 = .ok (.iload_n 3, 1) := by decide +kernel
theorem dX12_earOf_32 : decode cX12_earOf 32 = .ok (.if_icmp .ne 10, 3) := by decide +kernel
theorem dX12_earOf_35 : decode cX12_earOf 35 = .ok (.iconst 3, 1) := by decide +kernel
theorem dX12_earOf_36 : decode cX12_earOf 36 = .ok (.iload_n 2, 1) := by decide +kernel
theorem dX12_earOf_37 : decode cX12_earOf 37 = .ok (.imul, 1) := by decide +kernel
theorem dX12_earOf_38 : decode cX12_earOf 38 = .ok (.i2l, 1) := by decide +kernel
theorem dX12_earOf_39 : decode cX12_earOf 39 = .ok (.goto 8, 3) := by decide +kernel
theorem dX12_earOf_42 : decode cX12_earOf 42 = .ok (.bipush 10, 2) := by decide +kernel
theorem dX12_earOf_44 : decode cX12_earOf 44 = .ok (.iload_n 2, 1) := by decide +kernel
theorem dX12_earOf_45 : decode cX12_earOf 45 = .ok (.isub, 1) := by decide +kernel
theorem dX12_earOf_46 : decode cX12_earOf 46 = .ok (.i2l, 1) := by decide +kernel
theorem dX12_earOf_47 : decode cX12_earOf 47 = .ok (.lmul, 1) := by decide +kernel
theorem dX12_earOf_48 : decode cX12_earOf 48 = .ok (.lstore 4, 2) := by decide +kernel
theorem dX12_earOf_50 : decode cX12_earOf 50 = .ok (.iinc 6 1, 3) := by decide +kernel
theorem dX12_earOf_53 : decode cX12_earOf 53 = .ok (.goto (-47), 3) := by decide +kernel
theorem dX12_earOf_56 : decode cX12_earOf 56 = .ok (.lload 4, 2) := by decide +kernel
theorem dX12_earOf_58 : decode cX12_earOf 58 = .ok (.lreturn, 1) := by decide +kernel
theorem dX12_ear_0 : decode cX12_ear 0 = .ok (.iload_n 3, 1) := by decide +kernel
theorem dX12_ear_1 : decode cX12_ear 1 = .ok (.invokestatic 111, 3) := by decide +kernel
theorem dX12_ear_4 : decode cX12_ear 4 = .ok (.ifCond .eq 13, 3) := by decide +kernel
theorem dX12_ear_7 : decode cX12_ear 7 = .ok (.iload 4, 2) := by decide +kernel
theorem dX12_ear_9 : decode cX12_ear 9 = .ok (.iconst 0, 1) := by decide +kernel
theorem dX12_ear_10 : decode cX12_ear 10 = .ok (.iconst 1, 1) := by decide +kernel
theorem dX12_ear_11 : decode cX12_ear 11 = .ok (.invokestatic 49, 3) := by decide +kernel
theorem dX12_ear_14 : decode cX12_ear 14 = .ok (.ifCond .ne 7, 3) := by decide +kernel
theorem dX12_ear_17 : decode cX12_ear 17 = .ok (.ldc2_w 183, 3) := by decide +kernel
theorem dX12_ear_20 : decode cX12_ear 20 = .ok (.lreturn, 1) := by decide +kernel
theorem dX12_ear_21 : decode cX12_ear 21 = .ok (.aload_n 0, 1) := by decide +kernel
theorem dX12_ear_22 : decode cX12_ear 22 = .ok (.iload_n 1, 1) := by decide +kernel
theorem dX12_ear_23 : decode cX12_ear 23 = .ok (.iload_n 2, 1) := by decide +kernel
theorem dX12_ear_24 : decode cX12_ear 24 = .ok (.invokevirtual 198, 3) := by decide +kernel
theorem dX12_ear_27 : decode cX12_ear 27 = .ok (.istore 5, 2) := by decide +kernel
theorem dX12_ear_29 : decode cX12_ear 29 = .ok (.iload 5, 2) := by decide +kernel
theorem dX12_ear_31 : decode cX12_ear 31 = .ok (.ifCond .eq 10, 3) := by decide +kernel
theorem dX12_ear_34 : decode cX12_ear 34 = .ok (.ldc 201, 2) := by decide +kernel
theorem dX12_ear_36 : decode cX12_ear 36 = .ok (.iload 5, 2) := by decide +kernel
theorem dX12_ear_38 : decode cX12_ear 38 = .ok (.iadd, 1) := by decide +kernel
theorem dX12_ear_39 : decode cX12_ear 39 = .ok (.i2l, 1) := by decide +kernel
theorem dX12_ear_40 : decode cX12_ear 40 = .ok (.lreturn, 1) := by decide +kernel
theorem dX12_ear_41 : decode cX12_ear 41 = .ok (.lconst 0, 1) := by decide +kernel
theorem dX12_ear_42 : decode cX12_ear 42 = .ok (.lstore 6, 2) := by decide +kernel
theorem dX12_ear_44 : decode cX12_ear 44 = .ok (.iconst 0, 1) := by decide +kernel
theorem dX12_ear_45 : decode cX12_ear 45 = .ok (.istore 8, 2) := by decide +kernel
theorem dX12_ear_47 : decode cX12_ear 47 = .ok (.iload 8, 2) := by decide +kernel
theorem dX12_ear_49 : decode cX12_ear 49 = .ok (.iconst 4, 1) := by decide +kernel
theorem dX12_ear_50 : decode cX12_ear 50 = .ok (.if_icmp .ge 22, 3) := by decide +kernel
theorem dX12_ear_53 : decode cX12_ear 53 = .ok (.lload 6, 2) := by decide +kernel
theorem dX12_ear_55 : decode cX12_ear 55 = .ok (.aload_n 0, 1) := by decide +kernel
theorem dX12_ear_56 : decode cX12_ear 56 = .ok (.iload_n 1, 1) := by decide +kernel
theorem dX12_ear_57 : decode cX12_ear 57 = .ok (.iload_n 2, 1) := by decide +kernel
theorem dX12_ear_58 : decode cX12_ear 58 = .ok (.iload 8, 2) := by decide +kernel
theorem dX12_ear_60 : decode cX12_ear 60 = .ok (.invokevirtual 202, 3) := by decide +kernel
theorem dX12_ear_63 : decode cX12_ear 63 = .ok (.ladd, 1) := by decide +kernel
theorem dX12_ear_64 : decode cX12_ear 64 = .ok (.lstore 6, 2) := by decide +kernel
theorem dX12_ear_66 : decode cX12_ear 66 = .ok (.iinc 8 1, 3) := by decide +kernel
theorem dX12_ear_69 : decode cX12_ear 69 = .ok (.goto (-22), 3) := by decide +kernel
theorem dX12_ear_72 : decode cX12_ear 72 = .ok (.aload_n 0, 1) := by decide +kernel
theorem dX12_ear_73 : decode cX12_ear 73 = .ok (.iload_n 1, 1) := by decide +kernel
theorem dX12_ear_74 : decode cX12_ear 74 = .ok (.iload_n 2, 1) := by decide +kernel
theorem dX12_ear_75 : decode cX12_ear 75 = .ok (.iload_n 3, 1) := by decide +kernel
theorem dX12_ear_76 : decode cX12_ear 76 = .ok (.invokevirtual 202, 3) := by decide +kernel
theorem dX12_ear_79 : decode cX12_ear 79 = .ok (.lload 6, 2) := by decide +kernel
theorem dX12_ear_81 : decode cX12_ear 81 = .ok (.iload 4, 2) := by decide +kernel
theorem dX12_ear_83 : decode cX12_ear 83 = .ok (.invokestatic 179, 3) := by decide +kernel
theorem dX12_ear_86 : decode cX12_ear 86 = .ok (.lreturn, 1) := by decide +kernel
theorem dX12_likeliest_0 : decode cX12_likeliest 0 = .ok (.aload_n 0, 1) := by decide +kernel
theorem dX12_likeliest_1 : decode cX12_likeliest 1 = .ok (.iload_n 1, 1) := by decide +kernel
theorem dX12_likeliest_2 : decode cX12_likeliest 2 = .ok (.iload_n 2, 1) := by decide +kernel
theorem dX12_likeliest_3 : decode cX12_likeliest 3 = .ok (.invokevirtual 198, 3) := by decide +kernel
theorem dX12_likeliest_6 : decode cX12_likeliest 6 = .ok (.istore_n 3, 1) := by decide +kernel
theorem dX12_likeliest_7 : decode cX12_likeliest 7 = .ok (.iload_n 3, 1) := by decide +kernel
theorem dX12_likeliest_8 : decode cX12_likeliest 8 = .ok (.ifCond .eq 5, 3) := by decide +kernel
theorem dX12_likeliest_11 : decode cX12_likeliest 11 = .ok (.iload_n 3, 1) := by decide +kernel
theorem dX12_likeliest_12 : decode cX12_likeliest 12 = .ok (.ireturn, 1) := by decide +kernel
theorem dX12_likeliest_13 : decode cX12_likeliest 13 = .ok (.iconst 0, 1) := by decide +kernel
theorem dX12_likeliest_14 : decode cX12_likeliest 14 = .ok (.istore 4, 2) := by decide +kernel
theorem dX12_likeliest_16 : decode cX12_likeliest 16 = .ok (.iconst 1, 1) := by decide +kernel
theorem dX12_likeliest_17 : decode cX12_likeliest 17 = .ok (.istore 5, 2) := by decide +kernel
theorem dX12_likeliest_19 : decode cX12_likeliest 19 = .ok (.iload 5, 2) := by decide +kernel
theorem dX12_likeliest_21 : decode cX12_likeliest 21 = .ok (.iconst 4, 1) := by decide +kernel
theorem dX12_likeliest_22 : decode cX12_likeliest 22 = .ok (.if_icmp .ge 33, 3) := by decide +kernel
theorem dX12_likeliest_25 : decode cX12_likeliest 25 = .ok (.aload_n 0, 1) := by decide +kernel
theorem dX12_likeliest_26 : decode cX12_likeliest 26 = .ok (.iload_n 1, 1) := by decide +kernel
theorem dX12_likeliest_27 : decode cX12_likeliest 27 = .ok (.iload_n 2, 1) := by decide +kernel
theorem dX12_likeliest_28 : decode cX12_likeliest 28 = .ok (.iload 5, 2) := by decide +kernel
theorem dX12_likeliest_30 : decode cX12_likeliest 30 = .ok (.invokevirtual 202, 3) := by decide +kernel
theorem dX12_likeliest_33 : decode cX12_likeliest 33 = .ok (.aload_n 0, 1) := by decide +kernel
theorem dX12_likeliest_34 : decode cX12_likeliest 34 = .ok (.iload_n 1, 1) := by decide +kernel
theorem dX12_likeliest_35 : decode cX12_likeliest 35 = .ok (.iload_n 2, 1) := by decide +kernel
theorem dX12_likeliest_36 : decode cX12_likeliest 36 = .ok (.iload 4, 2) := by decide +kernel
theorem dX12_likeliest_38 : decode cX12_likeliest 38 = .ok (.invokevirtual 202, 3) := by decide +kernel
theorem dX12_likeliest_41 : decode cX12_likeliest 41 = .ok (.lcmp, 1) := by decide +kernel
theorem dX12_likeliest_42 : decode cX12_likeliest 42 = .ok (.ifCond .le 7, 3) := by decide +kernel
theorem dX12_likeliest_45 : decode cX12_likeliest 45 = .ok (.iload 5, 2) := by decide +kernel
theorem dX12_likeliest_47 : decode cX12_likeliest 47 = .ok (.istore 4, 2) := by decide +kernel
theorem dX12_likeliest_49 : decode cX12_likeliest 49 = .ok (.iinc 5 1, 3) := by decide +kernel
theorem dX12_likeliest_52 : decode cX12_likeliest 52 = .ok (.goto (-33), 3) := by decide +kernel
theorem dX12_likeliest_55 : decode cX12_likeliest 55 = .ok (.iload 4, 2) := by decide +kernel
theorem dX12_likeliest_57 : decode cX12_likeliest 57 = .ok (.ireturn, 1) := by decide +kernel
theorem dX12_mends_0 : decode cX12_mends 0 = .ok (.iload_n 1, 1) := by decide +kernel
theorem dX12_mends_1 : decode cX12_mends 1 = .ok (.iconst 0, 1) := by decide +kernel
theorem dX12_mends_2 : decode cX12_mends 2 = .ok (.iconst 1, 1) := by decide +kernel
theorem dX12_mends_3 : decode cX12_mends 3 = .ok (.invokestatic 49, 3) := by decide +kernel
theorem dX12_mends_6 : decode cX12_mends 6 = .ok (.ifCond .ne 5, 3) := by decide +kernel
theorem dX12_mends_9 : decode cX12_mends 9 = .ok (.iconst (-1), 1) := by decide +kernel
theorem dX12_mends_10 : decode cX12_mends 10 = .ok (.ireturn, 1) := by decide +kernel
theorem dX12_mends_11 : decode cX12_mends 11 = .ok (.aload_n 0, 1) := by decide +kernel
theorem dX12_mends_12 : decode cX12_mends 12 = .ok (.getfield 9, 3) := by decide +kernel
theorem dX12_mends_15 : decode cX12_mends 15 = .ok (.aload_n 0, 1) := by decide +kernel
theorem dX12_mends_16 : decode cX12_mends 16 = .ok (.getfield 13, 3) := by decide +kernel
theorem dX12_mends_19 : decode cX12_mends 19 = .ok (.invokestatic 134, 3) := by decide +kernel
theorem dX12_mends_22 : decode cX12_mends 22 = .ok (.iconst 0, 1) := by decide +kernel
theorem dX12_mends_23 : decode cX12_mends 23 = .ok (.istore_n 2, 1) := by decide +kernel
theorem dX12_mends_24 : decode cX12_mends 24 = .ok (.aload_n 0, 1) := by decide +kernel
theorem dX12_mends_25 : decode cX12_mends 25 = .ok (.getfield 13, 3) := by decide +kernel
theorem dX12_mends_28 : decode cX12_mends 28 = .ok (.iconst 0, 1) := by decide +kernel
theorem dX12_mends_29 : decode cX12_mends 29 = .ok (.invokestatic 150, 3) := by decide +kernel
theorem dX12_mends_32 : decode cX12_mends 32 = .ok (.istore_n 3, 1) := by decide +kernel
theorem dX12_mends_33 : decode cX12_mends 33 = .ok (.iload_n 3, 1) := by decide +kernel
theorem dX12_mends_34 : decode cX12_mends 34 = .ok (.ifCond .lt 34, 3) := by decide +kernel
theorem dX12_mends_37 : decode cX12_mends 37 = .ok (.iload_n 2, 1) := by decide +kernel
theorem dX12_mends_38 : decode cX12_mends 38 = .ok (.bipush 60, 2) := by decide +kernel
theorem dX12_mends_40 : decode cX12_mends 40 = .ok (.if_icmp .ge 28, 3) := by decide +kernel
theorem dX12_mends_43 : decode cX12_mends 43 = .ok (.aload_n 0, 1) := by decide +kernel
theorem dX12_mends_44 : decode cX12_mends 44 = .ok (.getfield 13, 3) := by decide +kernel
theorem dX12_mends_47 : decode cX12_mends 47 = .ok (.iload_n 3, 1) := by decide +kernel
theorem dX12_mends_48 : decode cX12_mends 48 = .ok (.invokestatic 121, 3) := by decide +kernel
theorem dX12_mends_51 : decode cX12_mends 51 = .ok (.istore 4, 2) := by decide +kernel
theorem dX12_mends_53 : decode cX12_mends 53 = .ok (.iinc 2 1, 3) := by decide +kernel
theorem dX12_mends_56 : decode cX12_mends 56 = .ok (.aload_n 0, 1) := by decide +kernel
theorem dX12_mends_57 : decode cX12_mends 57 = .ok (.getfield 13, 3) := by decide +kernel
theorem dX12_mends_60 : decode cX12_mends 60 = .ok (.iconst 0, 1) := by decide +kernel
theorem dX12_mends_61 : decode cX12_mends 61 = .ok (.invokestatic 150, 3) := by decide +kernel
theorem dX12_mends_64 : decode cX12_mends 64 = .ok (.istore_n 3, 1) := by decide +kernel
theorem dX12_mends_65 : decode cX12_mends 65 = .ok (.goto (-32), 3) := by decide +kernel
theorem dX12_mends_68 : decode cX12_mends 68 = .ok (.iload_n 1, 1) := by decide +kernel
theorem dX12_mends_69 : decode cX12_mends 69 = .ok (.ifCond .ne 14, 3) := by decide +kernel
theorem dX12_mends_72 : decode cX12_mends 72 = .ok (.iload_n 3, 1) := by decide +kernel
theorem dX12_mends_73 : decode cX12_mends 73 = .ok (.ifCond .lt 8, 3) := by decide +kernel
theorem dX12_mends_76 : decode cX12_mends 76 = .ok (.bipush (-4), 2) := by decide +kernel
theorem dX12_mends_78 : decode cX12_mends 78 = .ok (.goto 4, 3) := by decide +kernel
theorem dX12_mends_81 : decode cX12_mends 81 = .ok (.iload_n 2, 1) := by decide +kernel
theorem dX12_mends_82 : decode cX12_mends 82 = .ok (.ireturn, 1) := by decide +kernel
theorem dX12_mends_83 : decode cX12_mends 83 = .ok (.aload_n 0, 1) := by decide +kernel
theorem dX12_mends_84 : decode cX12_mends 84 = .ok (.getfield 13, 3) := by decide +kernel
theorem dX12_mends_87 : decode cX12_mends 87 = .ok (.invokestatic 206, 3) := by decide +kernel
theorem dX12_mends_90 : decode cX12_mends 90 = .ok (.ireturn, 1) := by decide +kernel
theorem dX12_figuresOf_0 : decode cX12_figuresOf 0 = .ok (.iconst 0, 1) := by decide +kernel
theorem dX12_figuresOf_1 : decode cX12_figuresOf 1 = .ok (.istore_n 1, 1) := by decide +kernel
theorem dX12_figuresOf_2 : decode cX12_figuresOf 2 = .ok (.iconst 0, 1) := by decide +kernel
theorem dX12_figuresOf_3 : decode cX12_figuresOf 3 = .ok (.istore_n 2, 1) := by decide +kernel
theorem dX12_figuresOf_4 : decode cX12_figuresOf 4 = .ok (.iload_n 2, 1) := by decide +kernel
theorem dX12_figuresOf_5 : decode cX12_figuresOf 5 = .ok (.aload_n 0, 1) := by decide +kernel
theorem dX12_figuresOf_6 : decode cX12_figuresOf 6 = .ok (.iconst 0, 1) := by decide +kernel
theorem dX12_figuresOf_7 : decode cX12_figuresOf 7 = .ok (.iaload, 1) := by decide +kernel
theorem dX12_figuresOf_8 : decode cX12_figuresOf 8 = .ok (.if_icmp .ge 19, 3) := by decide +kernel
theorem dX12_figuresOf_11 : decode cX12_figuresOf 11 = .ok (.iload_n 1, 1) := by decide +kernel
theorem dX12_figuresOf_12 : decode cX12_figuresOf 12 = .ok (.aload_n 0, 1) := by decide +kernel
theorem dX12_figuresOf_13 : decode cX12_figuresOf 13 = .ok (.iload_n 2, 1) := by decide +kernel
theorem dX12_figuresOf_14 : decode cX12_figuresOf 14 = .ok (.iconst 1, 1) := by decide +kernel
theorem dX12_figuresOf_15 : decode cX12_figuresOf 15 = .ok (.invokestatic 53, 3) := by decide +kernel
theorem dX12_figuresOf_18 : decode cX12_figuresOf 18 = .ok (.iaload, 1) := by decide +kernel
theorem dX12_figuresOf_19 : decode cX12_figuresOf 19 = .ok (.iadd, 1) := by decide +kernel
theorem dX12_figuresOf_20 : decode cX12_figuresOf 20 = .ok (.istore_n 1, 1) := by decide +kernel
theorem dX12_figuresOf_21 : decode cX12_figuresOf 21 = .ok (.iinc 2 1, 3) := by decide +kernel
theorem dX12_figuresOf_24 : decode cX12_figuresOf 24 = .ok (.goto (-20), 3) := by decide +kernel
theorem dX12_figuresOf_27 : decode cX12_figuresOf 27 = .ok (.iload_n 1, 1) := by decide +kernel
theorem dX12_figuresOf_28 : decode cX12_figuresOf 28 = .ok (.ireturn, 1) := by decide +kernel
theorem dX12_mechanic_0 : decode cX12_mechanic 0 = .ok (.iload_n 1, 1) := by decide +kernel
theorem dX12_mechanic_1 : decode cX12_mechanic 1 = .ok (.iconst 0, 1) := by decide +kernel
theorem dX12_mechanic_2 : decode cX12_mechanic 2 = .ok (.bipush 9, 2) := by decide +kernel
theorem dX12_mechanic_4 : decode cX12_mechanic 4 = .ok (.invokestatic 49, 3) := by decide +kernel
theorem dX12_mechanic_7 : decode cX12_mechanic 7 = .ok (.ifCond .eq 33, 3) := by decide +kernel
theorem dX12_mechanic_10 : decode cX12_mechanic 10 = .ok (.iload_n 2, 1) := by decide +kernel
theorem dX12_mechanic_11 : decode cX12_mechanic 11 = .ok (.iconst 1, 1) := by decide +kernel
theorem dX12_mechanic_12 : decode cX12_mechanic 12 = .ok (.bipush 9, 2) := by decide +kernel
theorem dX12_mechanic_14 : decode cX12_mechanic 14 = .ok (.invokestatic 49, 3) := by decide +kernel
theorem dX12_mechanic_17 : decode cX12_mechanic 17 = .ok (.ifCond .eq 23, 3) := by decide +kernel
theorem dX12_mechanic_20 : decode cX12_mechanic 20 = .ok (.iload_n 3, 1) := by decide +kernel
theorem dX12_mechanic_21 : decode cX12_mechanic 21 = .ok (.iconst 0, 1) := by decide +kernel
theorem dX12_mechanic_22 : decode cX12_mechanic 22 = .ok (.bipush 99, 2) := by decide +kernel
theorem dX12_mechanic_24 : decode cX12_mechanic 24 = .ok (.invokestatic 49, 3) := by decide +kernel
theorem dX12_mechanic_27 : decode cX12_mechanic 27 = .ok (.ifCond .eq 13, 3) := by decide +kernel
theorem dX12_mechanic_30 : decode cX12_mechanic 30 = .ok (.iload 4, 2) := by decide +kernel
theorem dX12_mechanic_32 : decode cX12_mechanic 32 = .ok (.iconst 0, 1) := by decide +kernel
theorem dX12_mechanic_33 : decode cX12_mechanic 33 = .ok (.iconst 1, 1) := by decide +kernel
theorem dX12_mechanic_34 : decode cX12_mechanic 34 = .ok (.invokestatic 49, 3) := by decide +kernel
theorem dX12_mechanic_37 : decode cX12_mechanic 37 = .ok (.ifCond .ne 5, 3) := by decide +kernel
theorem dX12_mechanic_40 : decode cX12_mechanic 40 = .ok (.iconst (-1), 1) := by decide +kernel
theorem dX12_mechanic_41 : decode cX12_mechanic 41 = .ok (.ireturn, 1) := by decide +kernel
theorem dX12_mechanic_42 : decode cX12_mechanic 42 = .ok (.lconst 1, 1) := by decide +kernel
theorem dX12_mechanic_43 : decode cX12_mechanic 43 = .ok (.lstore 5, 2) := by decide +kernel
theorem dX12_mechanic_45 : decode cX12_mechanic 45 = .ok (.lconst 1, 1) := by decide +kernel
theorem dX12_mechanic_46 : decode cX12_mechanic 46 = .ok (.lstore 7, 2) := by decide +kernel
theorem dX12_mechanic_48 : decode cX12_mechanic 48 = .ok (.iconst 0, 1) := by decide +kernel
theorem dX12_mechanic_49 : decode cX12_mechanic 49 = .ok (.istore 9, 2) := by decide +kernel
theorem dX12_mechanic_51 : decode cX12_mechanic 51 = .ok (.iload 9, 2) := by decide +kernel
theorem dX12_mechanic_53 : decode cX12_mechanic 53 = .ok (.bipush 10, 2) := by decide +kernel
theorem dX12_mechanic_55 : decode cX12_mechanic 55 = .ok (.if_icmp .ge 60, 3) := by decide +kernel
theorem dX12_mechanic_58 : decode cX12_mechanic 58 = .ok (.lload 5, 2) := by decide +kernel
theorem dX12_mechanic_60 : decode cX12_mechanic 60 = .ok (.lload 7, 2) := by decide +kernel
theorem dX12_mechanic_62 : decode cX12_mechanic 62 = .ok (.lsub, 1) := by decide +kernel
theorem dX12_mechanic_63 : decode cX12_mechanic 63 = .ok (.ldc2_w 209, 3) := by decide +kernel
theorem dX12_mechanic_66 : decode cX12_mechanic 66 = .ok (.lmul, 1) := by decide +kernel
theorem dX12_mechanic_67 : decode cX12_mechanic 67 = .ok (.iload_n 2, 1) := by decide +kernel
theorem dX12_mechanic_68 : decode cX12_mechanic 68 = .ok (.i2l, 1) := by decide +kernel
theorem dX12_mechanic_69 : decode cX12_mechanic 69 = .ok (.lload 5, 2) := by decide +kernel
theorem dX12_mechanic_71 : decode cX12_mechanic 71 = .ok (.lmul, 1) := by decide +kernel
theorem dX12_mechanic_72 : decode cX12_mechanic 72 = .ok (.lcmp, 1) := by decide +kernel
theorem dX12_mechanic_73 : decode cX12_mechanic 73 = .ok (.ifCond .lt 18, 3) := by decide +kernel
theorem dX12_mechanic_76 : decode cX12_mechanic 76 = .ok (.iload 4, 2) := by decide +kernel
theorem dX12_mechanic_78 : decode cX12_mechanic 78 = .ok (.ifCond .ne 8, 3) := by decide +kernel
theorem dX12_mechanic_81 : decode cX12_mechanic 81 = .ok (.iload 9, 2) := by decide +kernel
theorem dX12_mechanic_83 : decode cX12_mechanic 83 = .ok (.goto 7, 3) := by decide +kernel
theorem dX12_mechanic_86 : decode cX12_mechanic 86 = .ok (.iload 9, 2) := by decide +kernel
theorem dX12_mechanic_88 : decode cX12_mechanic 88 = .ok (.iload_n 3, 1) := by decide +kernel
theorem dX12_mechanic_89 : decode cX12_mechanic 89 = .ok (.imul, 1) := by decide +kernel
theorem dX12_mechanic_90 : decode cX12_mechanic 90 = .ok (.ireturn, 1) := by decide +kernel
theorem dX12_mechanic_91 : decode cX12_mechanic 91 = .ok (.lload 5, 2) := by decide +kernel
theorem dX12_mechanic_93 : decode cX12_mechanic 93 = .ok (.ldc2_w 209, 3) := by decide +kernel
theorem dX12_mechanic_96 : decode cX12_mechanic 96 = .ok (.lmul, 1) := by decide +kernel
theorem dX12_mechanic_97 : decode cX12_mechanic 97 = .ok (.lstore 5, 2) := by decide +kernel
theorem dX12_mechanic_99 : decode cX12_mechanic 99 = .ok (.lload 7, 2) := by decide +kernel
theorem dX12_mechanic_101 : decode cX12_mechanic 101 = .ok (.bipush 10, 2) := by decide +kernel
theorem dX12_mechanic_103 : decode cX12_mechanic 103 = .ok (.iload_n 1, 1) := by decide +kernel
theorem dX12_mechanic_104 : decode cX12_mechanic 104 = .ok (.isub, 1) := by decide +kernel
theorem dX12_mechanic_105 : decode cX12_mechanic 105 = .ok (.i2l, 1) := by decide +kernel
theorem dX12_mechanic_106 : decode cX12_mechanic 106 = .ok (.lmul, 1) := by decide +kernel
theorem dX12_mechanic_107 : decode cX12_mechanic 107 = .ok (.lstore 7, 2) := by decide +kernel
theorem dX12_mechanic_109 : decode cX12_mechanic 109 = .ok (.iinc 9 1, 3) := by decide +kernel
theorem dX12_mechanic_112 : decode cX12_mechanic 112 = .ok (.goto (-61), 3) := by decide +kernel
theorem dX12_mechanic_115 : decode cX12_mechanic 115 = .ok (.bipush (-4), 2) := by decide +kernel
theorem dX12_mechanic_117 : decode cX12_mechanic 117 = .ok (.ireturn, 1) := by decide +kernel
theorem dX12_worth_0 : decode cX12_worth 0 = .ok (.iload_n 1, 1) := by decide +kernel
theorem dX12_worth_1 : decode cX12_worth 1 = .ok (.iconst 0, 1) := by decide +kernel
theorem dX12_worth_2 : decode cX12_worth 2 = .ok (.sipush 9999, 3) := by decide +kernel
theorem dX12_worth_5 : decode cX12_worth 5 = .ok (.invokestatic 49, 3) := by decide +kernel
theorem dX12_worth_8 : decode cX12_worth 8 = .ok (.ifCond .ne 5, 3) := by decide +kernel
theorem dX12_worth_11 : decode cX12_worth 11 = .ok (.iconst (-1), 1) := by decide +kernel
theorem dX12_worth_12 : decode cX12_worth 12 = .ok (.ireturn, 1) := by decide +kernel
theorem dX12_worth_13 : decode cX12_worth 13 = .ok (.aload_n 0, 1) := by decide +kernel
theorem dX12_worth_14 : decode cX12_worth 14 = .ok (.getfield 9, 3) := by decide +kernel
theorem dX12_worth_17 : decode cX12_worth 17 = .ok (.invokestatic 77, 3) := by decide +kernel
theorem dX12_worth_20 : decode cX12_worth 20 = .ok (.istore_n 2, 1) := by decide +kernel
theorem dX12_worth_21 : decode cX12_worth 21 = .ok (.iload_n 2, 1) := by decide +kernel
theorem dX12_worth_22 : decode cX12_worth 22 = .ok (.ifCond .ne 6, 3) := by decide +kernel
theorem dX12_worth_25 : decode cX12_worth 25 = .ok (.bipush (-4), 2) := by decide +kernel
theorem dX12_worth_27 : decode cX12_worth 27 = .ok (.ireturn, 1) := by decide +kernel
theorem dX12_worth_28 : decode cX12_worth 28 = .ok (.iload_n 1, 1) := by decide +kernel
theorem dX12_worth_29 : decode cX12_worth 29 = .ok (.iload_n 2, 1) := by decide +kernel
theorem dX12_worth_30 : decode cX12_worth 30 = .ok (.idiv, 1) := by decide +kernel
theorem dX12_worth_31 : decode cX12_worth 31 = .ok (.bipush 99, 2) := by decide +kernel
theorem dX12_worth_33 : decode cX12_worth 33 = .ok (.if_icmp .le 8, 3) := by decide +kernel
theorem dX12_worth_36 : decode cX12_worth 36 = .ok (.bipush 99, 2) := by decide +kernel
theorem dX12_worth_38 : decode cX12_worth 38 = .ok (.goto 6, 3) := by decide +kernel
theorem dX12_worth_41 : decode cX12_worth 41 = .ok (.iload_n 1, 1) := by decide +kernel
theorem dX12_worth_42 : decode cX12_worth 42 = .ok (.iload_n 2, 1) := by decide +kernel
theorem dX12_worth_43 : decode cX12_worth 43 = .ok (.idiv, 1) := by decide +kernel
theorem dX12_worth_44 : decode cX12_worth 44 = .ok (.ireturn, 1) := by decide +kernel
theorem dX12_leastOf_0 : decode cX12_leastOf 0 = .ok (.iload_n 0, 1) := by decide +kernel
theorem dX12_leastOf_1 : decode cX12_leastOf 1 = .ok (.ifCond .ne 8, 3) := by decide +kernel
theorem dX12_leastOf_4 : decode cX12_leastOf 4 = .ok (.bipush (-128), 2) := by decide +kernel
theorem dX12_leastOf_6 : decode cX12_leastOf 6 = .ok (.goto 16, 3) := by decide +kernel
theorem dX12_leastOf_9 : decode cX12_leastOf 9 = .ok (.iload_n 0, 1) := by decide +kernel
theorem dX12_leastOf_10 : decode cX12_leastOf 10 = .ok (.iconst 1, 1) := by decide +kernel
theorem dX12_leastOf_11 : decode cX12_leastOf 11 = .ok (.if_icmp .ne 9, 3) := by decide +kernel
theorem dX12_leastOf_14 : decode cX12_leastOf 14 = .ok (.sipush (-32768), 3) := by decide +kernel
theorem dX12_leastOf_17 : decode cX12_leastOf 17 = .ok (.goto 5, 3) := by decide +kernel
theorem dX12_leastOf_20 : decode cX12_leastOf 20 = .ok (.ldc 211, 2) := by decide +kernel
theorem dX12_leastOf_22 : decode cX12_leastOf 22 = .ok (.ireturn, 1) := by decide +kernel
theorem dX12_quiet_0 : decode cX12_quiet 0 = .ok (.iload_n 2, 1) := by decide +kernel
theorem dX12_quiet_1 : decode cX12_quiet 1 = .ok (.iconst 0, 1) := by decide +kernel
theorem dX12_quiet_2 : decode cX12_quiet 2 = .ok (.iconst 1, 1) := by decide +kernel
theorem dX12_quiet_3 : decode cX12_quiet 3 = .ok (.invokestatic 49, 3) := by decide +kernel
theorem dX12_quiet_6 : decode cX12_quiet 6 = .ok (.ifCond .ne 5, 3) := by decide +kernel
theorem dX12_quiet_9 : decode cX12_quiet 9 = .ok (.iconst (-1), 1) := by decide +kernel
theorem dX12_quiet_10 : decode cX12_quiet 10 = .ok (.ireturn, 1) := by decide +kernel
theorem dX12_quiet_11 : decode cX12_quiet 11 = .ok (.aload_n 0, 1) := by decide +kernel
theorem dX12_quiet_12 : decode cX12_quiet 12 = .ok (.iload_n 1, 1) := by decide +kernel
theorem dX12_quiet_13 : decode cX12_quiet 13 = .ok (.iconst (-1), 1) := by decide +kernel
theorem dX12_quiet_14 : decode cX12_quiet 14 = .ok (.invokevirtual 127, 3) := by decide +kernel
theorem dX12_quiet_17 : decode cX12_quiet 17 = .ok (.istore_n 3, 1) := by decide +kernel
theorem dX12_quiet_18 : decode cX12_quiet 18 = .ok (.iload_n 3, 1) := by decide +kernel
theorem dX12_quiet_19 : decode cX12_quiet 19 = .ok (.ifCond .ne 21, 3) := by decide +kernel
theorem dX12_quiet_22 : decode cX12_quiet 22 = .ok (.aload_n 0, 1) := by decide +kernel
theorem dX12_quiet_23 : decode cX12_quiet 23 = .ok (.getfield 43, 3) := by decide +kernel
theorem dX12_quiet_26 : decode cX12_quiet 26 = .ok (.iload_n 1, 1) := by decide +kernel
theorem dX12_quiet_27 : decode cX12_quiet 27 = .ok (.iaload, 1) := by decide +kernel
theorem dX12_quiet_28 : decode cX12_quiet 28 = .ok (.aload_n 0, 1) := by decide +kernel
theorem dX12_quiet_29 : decode cX12_quiet 29 = .ok (.getfield 9, 3) := by decide +kernel
theorem dX12_quiet_32 : decode cX12_quiet 32 = .ok (.iconst 0, 1) := by decide +kernel
theorem dX12_quiet_33 : decode cX12_quiet 33 = .ok (.iaload, 1) := by decide +kernel
theorem dX12_quiet_34 : decode cX12_quiet 34 = .ok (.if_icmp .le 6, 3) := by decide +kernel
theorem dX12_quiet_37 : decode cX12_quiet 37 = .ok (.bipush (-13), 2) := by decide +kernel
theorem dX12_quiet_39 : decode cX12_quiet 39 = .ok (.istore_n 3, 1) := by decide +kernel
theorem dX12_quiet_40 : decode cX12_quiet 40 = .ok (.iload_n 3, 1) := by decide +kernel
theorem dX12_quiet_41 : decode cX12_quiet 41 = .ok (.ifCond .eq 5, 3) := by decide +kernel
theorem dX12_quiet_44 : decode cX12_quiet 44 = .ok (.iload_n 3, 1) := by decide +kernel
theorem dX12_quiet_45 : decode cX12_quiet 45 = .ok (.ireturn, 1) := by decide +kernel
theorem dX12_quiet_46 : decode cX12_quiet 46 = .ok (.aload_n 0, 1) := by decide +kernel
theorem dX12_quiet_47 : decode cX12_quiet 47 = .ok (.getfield 9, 3) := by decide +kernel
theorem dX12_quiet_50 : decode cX12_quiet 50 = .ok (.aload_n 0, 1) := by decide +kernel
theorem dX12_quiet_51 : decode cX12_quiet 51 = .ok (.getfield 13, 3) := by decide +kernel
theorem dX12_quiet_54 : decode cX12_quiet 54 = .ok (.invokestatic 134, 3) := by decide +kernel
theorem dX12_quiet_57 : decode cX12_quiet 57 = .ok (.iconst 0, 1) := by decide +kernel
theorem dX12_quiet_58 : decode cX12_quiet 58 = .ok (.istore 4, 2) := by decide +kernel
theorem dX12_quiet_60 : decode cX12_quiet 60 = .ok (.iload 4, 2) := by decide +kernel
theorem dX12_quiet_62 : decode cX12_quiet 62 = .ok (.aload_n 0, 1) := by decide +kernel
theorem dX12_quiet_63 : decode cX12_quiet 63 = .ok (.getfield 43, 3) := by decide +kernel
theorem dX12_quiet_66 : decode cX12_quiet 66 = .ok (.iload_n 1, 1) := by decide +kernel
theorem dX12_quiet_67 : decode cX12_quiet 67 = .ok (.iaload, 1) := by decide +kernel
theorem dX12_quiet_68 : decode cX12_quiet 68 = .ok (.if_icmp .ge 66, 3) := by decide +kernel
theorem dX12_quiet_71 : decode cX12_quiet 71 = .ok (.aload_n 0, 1) := by decide +kernel
theorem dX12_quiet_72 : decode cX12_quiet 72 = .ok (.getfield 46, 3) := by decide +kernel
theorem dX12_quiet_75 : decode cX12_quiet 75 = .ok (.bipush 100, 2) := by decide +kernel
theorem dX12_quiet_77 : decode cX12_quiet 77 = .ok (.iload_n 1, 1) := by decide +kernel
theorem dX12_quiet_78 : decode cX12_quiet 78 = .ok (.imul, 1) := by decide +kernel
theorem dX12_quiet_79 : decode cX12_quiet 79 = .ok (.iload 4, 2) := by decide +kernel
theorem dX12_quiet_81 : decode cX12_quiet 81 = .ok (.iadd, 1) := by decide +kernel
theorem dX12_quiet_82 : decode cX12_quiet 82 = .ok (.iaload, 1) := by decide +kernel
theorem dX12_quiet_83 : decode cX12_quiet 83 = .ok (.istore 5, 2) := by decide +kernel
theorem dX12_quiet_85 : decode cX12_quiet 85 = .ok (.iload 5, 2) := by decide +kernel
theorem dX12_quiet_87 : decode cX12_quiet 87 = .ok (.aload_n 0, 1) := by decide +kernel
theorem dX12_quiet_88 : decode cX12_quiet 88 = .ok (.getfield 40, 3) := by decide +kernel
theorem dX12_quiet_91 : decode cX12_quiet 91 = .ok (.iload_n 1, 1) := by decide +kernel
theorem dX12_quiet_92 : decode cX12_quiet 92 = .ok (.iaload, 1) := by decide +kernel
theorem dX12_quiet_93 : decode cX12_quiet 93 = .ok (.invokestatic 212, 3) := by decide +kernel
theorem dX12_quiet_96 : decode cX12_quiet 96 = .ok (.if_icmp .ne 6, 3) := by decide +kernel
theorem dX12_quiet_99 : decode cX12_quiet 99 = .ok (.goto 29, 3) := by decide +kernel
theorem dX12_quiet_102 : decode cX12_quiet 102 = .ok (.iload 5, 2) := by decide +kernel
theorem dX12_quiet_104 : decode cX12_quiet 104 = .ok (.iconst 0, 1) := by decide +kernel
theorem dX12_quiet_105 : decode cX12_quiet 105 = .ok (.iconst 3, 1) := by decide +kernel
theorem dX12_quiet_106 : decode cX12_quiet 106 = .ok (.invokestatic 49, 3) := by decide +kernel
theorem dX12_quiet_109 : decode cX12_quiet 109 = .ok (.ifCond .ne 6, 3) := by decide +kernel
theorem dX12_quiet_112 : decode cX12_quiet 112 = .ok (.bipush (-13), 2) := by decide +kernel
theorem dX12_quiet_114 : decode cX12_quiet 114 = .ok (.ireturn, 1) := by decide +kernel
theorem dX12_quiet_115 : decode cX12_quiet 115 = .ok (.aload_n 0, 1) := by decide +kernel
theorem dX12_quiet_116 : decode cX12_quiet 116 = .ok (.getfield 13, 3) := by decide +kernel
theorem dX12_quiet_119 : decode cX12_quiet 119 = .ok (.iload 4, 2) := by decide +kernel
theorem dX12_quiet_121 : decode cX12_quiet 121 = .ok (.iconst 4, 1) := by decide +kernel
theorem dX12_quiet_122 : decode cX12_quiet 122 = .ok (.invokestatic 53, 3) := by decide +kernel
theorem dX12_quiet_125 : decode cX12_quiet 125 = .ok (.iload 5, 2) := by decide +kernel
theorem dX12_quiet_127 : decode cX12_quiet 127 = .ok (.iastore, 1) := by decide +kernel
theorem dX12_quiet_128 : decode cX12_quiet 128 = .ok (.iinc 4 1, 3) := by decide +kernel
theorem dX12_quiet_131 : decode cX12_quiet 131 = .ok (.goto (-71), 3) := by decide +kernel
theorem dX12_quiet_134 : decode cX12_quiet 134 = .ok (.iconst 0, 1) := by decide +kernel
theorem dX12_quiet_135 : decode cX12_quiet 135 = .ok (.istore 4, 2) := by decide +kernel
theorem dX12_quiet_137 : decode cX12_quiet 137 = .ok (.bipush (-4), 2) := by decide +kernel
theorem dX12_quiet_139 : decode cX12_quiet 139 = .ok (.istore 5, 2) := by decide +kernel
theorem dX12_quiet_141 : decode cX12_quiet 141 = .ok (.iconst 0, 1) := by decide +kernel
theorem dX12_quiet_142 : decode cX12_quiet 142 = .ok (.istore 6, 2) := by decide +kernel
theorem dX12_quiet_144 : decode cX12_quiet 144 = .ok (.iload 6, 2) := by decide +kernel
theorem dX12_quiet_146 : decode cX12_quiet 146 = .ok (.bipush 100, 2) := by decide +kernel
theorem dX12_quiet_148 : decode cX12_quiet 148 = .ok (.if_icmp .ge 42, 3) := by decide +kernel
theorem dX12_quiet_151 : decode cX12_quiet 151 = .ok (.aload_n 0, 1) := by decide +kernel
theorem dX12_quiet_152 : decode cX12_quiet 152 = .ok (.getfield 13, 3) := by decide +kernel
theorem dX12_quiet_155 : decode cX12_quiet 155 = .ok (.iconst 0, 1) := by decide +kernel
theorem dX12_quiet_156 : decode cX12_quiet 156 = .ok (.iload 6, 2) := by decide +kernel
theorem dX12_quiet_158 : decode cX12_quiet 158 = .ok (.invokestatic 74, 3) := by decide +kernel
theorem dX12_quiet_161 : decode cX12_quiet 161 = .ok (.ifCond .le 6, 3) := by decide +kernel
theorem dX12_quiet_164 : decode cX12_quiet 164 = .ok (.goto 20, 3) := by decide +kernel
theorem dX12_quiet_167 : decode cX12_quiet 167 = .ok (.iload 4, 2) := by decide +kernel
theorem dX12_quiet_169 : decode cX12_quiet 169 = .ok (.ifCond .ne 8, 3) := by decide +kernel
theorem dX12_quiet_172 : decode cX12_quiet 172 = .ok (.iload 6, 2) := by decide +kernel
theorem dX12_quiet_174 : decode cX12_quiet 174 = .ok (.goto 5, 3) := by decide +kernel
theorem dX12_quiet_177 : decode cX12_quiet 177 = .ok (.iload 5, 2) := by decide +kernel
theorem dX12_quiet_179 : decode cX12_quiet 179 = .ok (.istore 5, 2) := by decide +kernel
theorem dX12_quiet_181 : decode cX12_quiet 181 = .ok (.iinc 4 1, 3) := by decide +kernel
theorem dX12_quiet_184 : decode cX12_quiet 184 = .ok (.iinc 6 1, 3) := by decide +kernel
theorem dX12_quiet_187 : decode cX12_quiet 187 = .ok (.goto (-43), 3) := by decide +kernel
theorem dX12_quiet_190 : decode cX12_quiet 190 = .ok (.iload_n 2, 1) := by decide +kernel
theorem dX12_quiet_191 : decode cX12_quiet 191 = .ok (.ifCond .ne 8, 3) := by decide +kernel
theorem dX12_quiet_194 : decode cX12_quiet 194 = .ok (.iload 4, 2) := by decide +kernel
theorem dX12_quiet_196 : decode cX12_quiet 196 = .ok (.goto 5, 3) := by decide +kernel
theorem dX12_quiet_199 : decode cX12_quiet 199 = .ok (.iload 5, 2) := by decide +kernel
theorem dX12_quiet_201 : decode cX12_quiet 201 = .ok (.ireturn, 1) := by decide +kernel
theorem dX12_wrongBy_0 : decode cX12_wrongBy 0 = .ok (.aload_n 0, 1) := by decide +kernel
theorem dX12_wrongBy_1 : decode cX12_wrongBy 1 = .ok (.getfield 9, 3) := by decide +kernel
theorem dX12_wrongBy_4 : decode cX12_wrongBy 4 = .ok (.aload_n 0, 1) := by decide +kernel
theorem dX12_wrongBy_5 : decode cX12_wrongBy 5 = .ok (.getfield 13, 3) := by decide +kernel
theorem dX12_wrongBy_8 : decode cX12_wrongBy 8 = .ok (.invokestatic 134, 3) := by decide +kernel
theorem dX12_wrongBy_11 : decode cX12_wrongBy 11 = .ok (.aload_n 0, 1) := by decide +kernel
theorem dX12_wrongBy_12 : decode cX12_wrongBy 12 = .ok (.getfield 13, 3) := by decide +kernel
theorem dX12_wrongBy_15 : decode cX12_wrongBy 15 = .ok (.iconst 4, 1) := by decide +kernel
theorem dX12_wrongBy_16 : decode cX12_wrongBy 16 = .ok (.iload_n 2, 1) := by decide +kernel
theorem dX12_wrongBy_17 : decode cX12_wrongBy 17 = .ok (.iastore, 1) := by decide +kernel
theorem dX12_wrongBy_18 : decode cX12_wrongBy 18 = .ok (.iconst 0, 1) := by decide +kernel
theorem dX12_wrongBy_19 : decode cX12_wrongBy 19 = .ok (.istore_n 3, 1) := by decide +kernel
theorem dX12_wrongBy_20 : decode cX12_wrongBy 20 = .ok (.iload_n 3, 1) := by decide +kernel
theorem dX12_wrongBy_21 : decode cX12_wrongBy 21 = .ok (.aload_n 0, 1) := by decide +kernel
theorem dX12_wrongBy_22 : decode cX12_wrongBy 22 = .ok (.getfield 43, 3) := by decide +kernel
theorem dX12_wrongBy_25 : decode cX12_wrongBy 25 = .ok (.iload_n 1, 1) := by decide +kernel
theorem dX12_wrongBy_26 : decode cX12_wrongBy 26 = .ok (.iaload, 1) := by decide +kernel
theorem dX12_wrongBy_27 : decode cX12_wrongBy 27 = .ok (.if_icmp .ge 52, 3) := by decide +kernel
theorem dX12_wrongBy_30 : decode cX12_wrongBy 30 = .ok (.aload_n 0, 1) := by decide +kernel
theorem dX12_wrongBy_31 : decode cX12_wrongBy 31 = .ok (.getfield 46, 3) := by decide +kernel
theorem dX12_wrongBy_34 : decode cX12_wrongBy 34 = .ok (.bipush 100, 2) := by decide +kernel
theorem dX12_wrongBy_36 : decode cX12_wrongBy 36 = .ok (.iload_n 1, 1) := by decide +kernel
theorem dX12_wrongBy_37 : decode cX12_wrongBy 37 = .ok (.imul, 1) := by decide +kernel
theorem dX12_wrongBy_38 : decode cX12_wrongBy 38 = .ok (.iload_n 3, 1) := by decide +kernel
theorem dX12_wrongBy_39 : decode cX12_wrongBy 39 = .ok (.iadd, 1) := by decide +kernel
theorem dX12_wrongBy_40 : decode cX12_wrongBy 40 = .ok (.iaload, 1) := by decide +kernel
theorem dX12_wrongBy_41 : decode cX12_wrongBy 41 = .ok (.istore 4, 2) := by decide +kernel
theorem dX12_wrongBy_43 : decode cX12_wrongBy 43 = .ok (.iload 4, 2) := by decide +kernel
theorem dX12_wrongBy_45 : decode cX12_wrongBy 45 = .ok (.aload_n 0, 1) := by decide +kernel
theorem dX12_wrongBy_46 : decode cX12_wrongBy 46 = .ok (.getfield 40, 3) := by decide +kernel
theorem dX12_wrongBy_49 : decode cX12_wrongBy 49 = .ok (.iload_n 1, 1) := by decide +kernel
theorem dX12_wrongBy_50 : decode cX12_wrongBy 50 = .ok (.iaload, 1) := by decide +kernel
theorem dX12_wrongBy_51 : decode cX12_wrongBy 51 = .ok (.invokestatic 212, 3) := by decide +kernel
theorem dX12_wrongBy_54 : decode cX12_wrongBy 54 = .ok (.if_icmp .eq 19, 3) := by decide +kernel
theorem dX12_wrongBy_57 : decode cX12_wrongBy 57 = .ok (.iload 4, 2) := by decide +kernel
theorem dX12_wrongBy_59 : decode cX12_wrongBy 59 = .ok (.aload_n 0, 1) := by decide +kernel
theorem dX12_wrongBy_60 : decode cX12_wrongBy 60 = .ok (.getfield 13, 3) := by decide +kernel
theorem dX12_wrongBy_63 : decode cX12_wrongBy 63 = .ok (.iconst 0, 1) := by decide +kernel
theorem dX12_wrongBy_64 : decode cX12_wrongBy 64 = .ok (.iload_n 3, 1) := by decide +kernel
theorem dX12_wrongBy_65 : decode cX12_wrongBy 65 = .ok (.invokestatic 74, 3) := by decide +kernel
theorem dX12_wrongBy_68 : decode cX12_wrongBy 68 = .ok (.if_icmp .eq 5, 3) := by decide +kernel
theorem dX12_wrongBy_71 : decode cX12_wrongBy 71 = .ok (.iload_n 3, 1) := by decide +kernel
theorem dX12_wrongBy_72 : decode cX12_wrongBy 72 = .ok (.ireturn, 1) := by decide +kernel
theorem dX12_wrongBy_73 : decode cX12_wrongBy 73 = .ok (.iinc 3 1, 3) := by decide +kernel
theorem dX12_wrongBy_76 : decode cX12_wrongBy 76 = .ok (.goto (-56), 3) := by decide +kernel
theorem dX12_wrongBy_79 : decode cX12_wrongBy 79 = .ok (.aload_n 0, 1) := by decide +kernel
theorem dX12_wrongBy_80 : decode cX12_wrongBy 80 = .ok (.getfield 43, 3) := by decide +kernel
theorem dX12_wrongBy_83 : decode cX12_wrongBy 83 = .ok (.iload_n 1, 1) := by decide +kernel
theorem dX12_wrongBy_84 : decode cX12_wrongBy 84 = .ok (.iaload, 1) := by decide +kernel
theorem dX12_wrongBy_85 : decode cX12_wrongBy 85 = .ok (.ireturn, 1) := by decide +kernel
theorem dX12_forged_0 : decode cX12_forged 0 = .ok (.aload_n 0, 1) := by decide +kernel
theorem dX12_forged_1 : decode cX12_forged 1 = .ok (.iload_n 1, 1) := by decide +kernel
theorem dX12_forged_2 : decode cX12_forged 2 = .ok (.iconst (-1), 1) := by decide +kernel
theorem dX12_forged_3 : decode cX12_forged 3 = .ok (.invokevirtual 127, 3) := by decide +kernel
theorem dX12_forged_6 : decode cX12_forged 6 = .ok (.istore_n 2, 1) := by decide +kernel
theorem dX12_forged_7 : decode cX12_forged 7 = .ok (.iload_n 2, 1) := by decide +kernel
theorem dX12_forged_8 : decode cX12_forged 8 = .ok (.ifCond .eq 5, 3) := by decide +kernel
theorem dX12_forged_11 : decode cX12_forged 11 = .ok (.iload_n 2, 1) := by decide +kernel
theorem dX12_forged_12 : decode cX12_forged 12 = .ok (.ireturn, 1) := by decide +kernel
theorem dX12_forged_13 : decode cX12_forged 13 = .ok (.iconst 0, 1) := by decide +kernel
theorem dX12_forged_14 : decode cX12_forged 14 = .ok (.istore_n 3, 1) := by decide +kernel
theorem dX12_forged_15 : decode cX12_forged 15 = .ok (.iconst 0, 1) := by decide +kernel
theorem dX12_forged_16 : decode cX12_forged 16 = .ok (.istore 4, 2) := by decide +kernel
theorem dX12_forged_18 : decode cX12_forged 18 = .ok (.iload 4, 2) := by decide +kernel
theorem dX12_forged_20 : decode cX12_forged 20 = .ok (.bipush 6, 2) := by decide +kernel
theorem dX12_forged_22 : decode cX12_forged 22 = .ok (.if_icmp .ge 21, 3) := by decide +kernel
theorem dX12_forged_25 : decode cX12_forged 25 = .ok (.iload_n 3, 1) := by decide +kernel
theorem dX12_forged_26 : decode cX12_forged 26 = .ok (.aload_n 0, 1) := by decide +kernel
theorem dX12_forged_27 : decode cX12_forged 27 = .ok (.iload_n 1, 1) := by decide +kernel
theorem dX12_forged_28 : decode cX12_forged 28 = .ok (.iload 4, 2) := by decide +kernel
theorem dX12_forged_30 : decode cX12_forged 30 = .ok (.invokevirtual 215, 3) := by decide +kernel
theorem dX12_forged_33 : decode cX12_forged 33 = .ok (.invokestatic 57, 3) := by decide +kernel
theorem dX12_forged_36 : decode cX12_forged 36 = .ok (.istore_n 3, 1) := by decide +kernel
theorem dX12_forged_37 : decode cX12_forged 37 = .ok (.iinc 4 1, 3) := by decide +kernel
theorem dX12_forged_40 : decode cX12_forged 40 = .ok (.goto (-22), 3) := by decide +kernel
theorem dX12_forged_43 : decode cX12_forged 43 = .ok (.iload_n 3, 1) := by decide +kernel
theorem dX12_forged_44 : decode cX12_forged 44 = .ok (.aload_n 0, 1) := by decide +kernel
theorem dX12_forged_45 : decode cX12_forged 45 = .ok (.getfield 43, 3) := by decide +kernel
theorem dX12_forged_48 : decode cX12_forged 48 = .ok (.iload_n 1, 1) := by decide +kernel
theorem dX12_forged_49 : decode cX12_forged 49 = .ok (.iaload, 1) := by decide +kernel
theorem dX12_forged_50 : decode cX12_forged 50 = .ok (.if_icmp .ne 8, 3) := by decide +kernel
theorem dX12_forged_53 : decode cX12_forged 53 = .ok (.bipush (-4), 2) := by decide +kernel
theorem dX12_forged_55 : decode cX12_forged 55 = .ok (.goto 4, 3) := by decide +kernel
theorem dX12_forged_58 : decode cX12_forged 58 = .ok (.iload_n 3, 1) := by decide +kernel
theorem dX12_forged_59 : decode cX12_forged 59 = .ok (.ireturn, 1) := by decide +kernel
theorem dX12_judge_0 : decode cX12_judge 0 = .ok (.aload_n 0, 1) := by decide +kernel
theorem dX12_judge_1 : decode cX12_judge 1 = .ok (.iload_n 1, 1) := by decide +kernel
theorem dX12_judge_2 : decode cX12_judge 2 = .ok (.iconst (-1), 1) := by decide +kernel
theorem dX12_judge_3 : decode cX12_judge 3 = .ok (.invokevirtual 127, 3) := by decide +kernel
theorem dX12_judge_6 : decode cX12_judge 6 = .ok (.istore_n 2, 1) := by decide +kernel
theorem dX12_judge_7 : decode cX12_judge 7 = .ok (.iload_n 2, 1) := by decide +kernel
theorem dX12_judge_8 : decode cX12_judge 8 = .ok (.ifCond .eq 5, 3) := by decide +kernel
theorem dX12_judge_11 : decode cX12_judge 11 = .ok (.iload_n 2, 1) := by decide +kernel
theorem dX12_judge_12 : decode cX12_judge 12 = .ok (.ireturn, 1) := by decide +kernel
theorem dX12_judge_13 : decode cX12_judge 13 = .ok (.aload_n 0, 1) := by decide +kernel
theorem dX12_judge_14 : decode cX12_judge 14 = .ok (.getfield 9, 3) := by decide +kernel
theorem dX12_judge_17 : decode cX12_judge 17 = .ok (.aload_n 0, 1) := by decide +kernel
theorem dX12_judge_18 : decode cX12_judge 18 = .ok (.getfield 13, 3) := by decide +kernel
theorem dX12_judge_21 : decode cX12_judge 21 = .ok (.invokestatic 134, 3) := by decide +kernel
theorem dX12_judge_24 : decode cX12_judge 24 = .ok (.iconst 0, 1) := by decide +kernel
theorem dX12_judge_25 : decode cX12_judge 25 = .ok (.istore_n 3, 1) := by decide +kernel
theorem dX12_judge_26 : decode cX12_judge 26 = .ok (.iload_n 3, 1) := by decide +kernel
theorem dX12_judge_27 : decode cX12_judge 27 = .ok (.aload_n 0, 1) := by decide +kernel
theorem dX12_judge_28 : decode cX12_judge 28 = .ok (.getfield 43, 3) := by decide +kernel
theorem dX12_judge_31 : decode cX12_judge 31 = .ok (.iload_n 1, 1) := by decide +kernel
theorem dX12_judge_32 : decode cX12_judge 32 = .ok (.iaload, 1) := by decide +kernel
theorem dX12_judge_33 : decode cX12_judge 33 = .ok (.if_icmp .ge 59, 3) := by decide +kernel
theorem dX12_judge_36 : decode cX12_judge 36 = .ok (.aload_n 0, 1) := by decide +kernel
theorem dX12_judge_37 : decode cX12_judge 37 = .ok (.getfield 13, 3) := by decide +kernel
theorem dX12_judge_40 : decode cX12_judge 40 = .ok (.invokestatic 124, 3) := by decide +kernel
theorem dX12_judge_43 : decode cX12_judge 43 = .ok (.istore 4, 2) := by decide +kernel
theorem dX12_judge_45 : decode cX12_judge 45 = .ok (.aload_n 0, 1) := by decide +kernel
theorem dX12_judge_46 : decode cX12_judge 46 = .ok (.getfield 46, 3) := by decide +kernel
theorem dX12_judge_49 : decode cX12_judge 49 = .ok (.bipush 100, 2) := by decide +kernel
theorem dX12_judge_51 : decode cX12_judge 51 = .ok (.iload_n 1, 1) := by decide +kernel
theorem dX12_judge_52 : decode cX12_judge 52 = .ok (.imul, 1) := by decide +kernel
theorem dX12_judge_53 : decode cX12_judge 53 = .ok (.iload_n 3, 1) := by decide +kernel
theorem dX12_judge_54 : decode cX12_judge 54 = .ok (.iadd, 1) := by decide +kernel
theorem dX12_judge_55 : decode cX12_judge 55 = .ok (.iaload, 1) := by decide +kernel
theorem dX12_judge_56 : decode cX12_judge 56 = .ok (.aload_n 0, 1) := by decide +kernel
theorem dX12_judge_57 : decode cX12_judge 57 = .ok (.getfield 40, 3) := by decide +kernel
theorem dX12_judge_60 : decode cX12_judge 60 = .ok (.iload_n 1, 1) := by decide +kernel
theorem dX12_judge_61 : decode cX12_judge 61 = .ok (.iaload, 1) := by decide +kernel
theorem dX12_judge_62 : decode cX12_judge 62 = .ok (.invokestatic 212, 3) := by decide +kernel
theorem dX12_judge_65 : decode cX12_judge 65 = .ok (.if_icmp .eq 21, 3) := by decide +kernel
theorem dX12_judge_68 : decode cX12_judge 68 = .ok (.aload_n 0, 1) := by decide +kernel
theorem dX12_judge_69 : decode cX12_judge 69 = .ok (.getfield 46, 3) := by decide +kernel
theorem dX12_judge_72 : decode cX12_judge 72 = .ok (.bipush 100, 2) := by decide +kernel
theorem dX12_judge_74 : decode cX12_judge 74 = .ok (.iload_n 1, 1) := by decide +kernel
theorem dX12_judge_75 : decode cX12_judge 75 = .ok (.imul, 1) := by decide +kernel
theorem dX12_judge_76 : decode cX12_judge 76 = .ok (.iload_n 3, 1) := by decide +kernel
theorem dX12_judge_77 : decode cX12_judge 77 = .ok (.iadd, 1) := by decide +kernel
theorem dX12_judge_78 : decode cX12_judge 78 = .ok (.iaload, 1) := by decide +kernel
theorem dX12_judge_79 : decode cX12_judge 79 = .ok (.iload 4, 2) := by decide +kernel
theorem dX12_judge_81 : decode cX12_judge 81 = .ok (.if_icmp .eq 5, 3) := by decide +kernel
theorem dX12_judge_84 : decode cX12_judge 84 = .ok (.iload_n 3, 1) := by decide +kernel
theorem dX12_judge_85 : decode cX12_judge 85 = .ok (.ireturn, 1) := by decide +kernel
theorem dX12_judge_86 : decode cX12_judge 86 = .ok (.iinc 3 1, 3) := by decide +kernel
theorem dX12_judge_89 : decode cX12_judge 89 = .ok (.goto (-63), 3) := by decide +kernel
theorem dX12_judge_92 : decode cX12_judge 92 = .ok (.bipush (-4), 2) := by decide +kernel
theorem dX12_judge_94 : decode cX12_judge 94 = .ok (.ireturn, 1) := by decide +kernel
theorem dX12_drawn_0 : decode cX12_drawn 0 = .ok (.aload_n 0, 1) := by decide +kernel
theorem dX12_drawn_1 : decode cX12_drawn 1 = .ok (.aload_n 0, 1) := by decide +kernel
theorem dX12_drawn_2 : decode cX12_drawn 2 = .ok (.getfield 218, 3) := by decide +kernel
theorem dX12_drawn_5 : decode cX12_drawn 5 = .ok (.ldc 221, 2) := by decide +kernel
theorem dX12_drawn_7 : decode cX12_drawn 7 = .ok (.imul, 1) := by decide +kernel
theorem dX12_drawn_8 : decode cX12_drawn 8 = .ok (.sipush 12345, 3) := by decide +kernel
theorem dX12_drawn_11 : decode cX12_drawn 11 = .ok (.iadd, 1) := by decide +kernel
theorem dX12_drawn_12 : decode cX12_drawn 12 = .ok (.putfield 218, 3) := by decide +kernel
theorem dX12_drawn_15 : decode cX12_drawn 15 = .ok (.aload_n 0, 1) := by decide +kernel
theorem dX12_drawn_16 : decode cX12_drawn 16 = .ok (.getfield 218, 3) := by decide +kernel
theorem dX12_drawn_19 : decode cX12_drawn 19 = .ok (.ldc 222, 2) := by decide +kernel
theorem dX12_drawn_21 : decode cX12_drawn 21 = .ok (.iand, 1) := by decide +kernel
theorem dX12_drawn_22 : decode cX12_drawn 22 = .ok (.ldc 223, 2) := by decide +kernel
theorem dX12_drawn_24 : decode cX12_drawn 24 = .ok (.idiv, 1) := by decide +kernel
theorem dX12_drawn_25 : decode cX12_drawn 25 = .ok (.iload_n 1, 1) := by decide +kernel
theorem dX12_drawn_26 : decode cX12_drawn 26 = .ok (.irem, 1) := by decide +kernel
theorem dX12_drawn_27 : decode cX12_drawn 27 = .ok (.ireturn, 1) := by decide +kernel
theorem dX12_winters_0 : decode cX12_winters 0 = .ok (.iload_n 1, 1) := by decide +kernel
theorem dX12_winters_1 : decode cX12_winters 1 = .ok (.iconst 1, 1) := by decide +kernel
theorem dX12_winters_2 : decode cX12_winters 2 = .ok (.bipush 20, 2) := by decide +kernel
theorem dX12_winters_4 : decode cX12_winters 4 = .ok (.invokestatic 49, 3) := by decide +kernel
theorem dX12_winters_7 : decode cX12_winters 7 = .ok (.ifCond .eq 12, 3) := by decide +kernel
theorem dX12_winters_10 : decode cX12_winters 10 = .ok (.iload_n 3, 1) := by decide +kernel
theorem dX12_winters_11 : decode cX12_winters 11 = .ok (.iconst 0, 1) := by decide +kernel
theorem dX12_winters_12 : decode cX12_winters 12 = .ok (.iconst 1, 1) := by decide +kernel
theorem dX12_winters_13 : decode cX12_winters 13 = .ok (.invokestatic 49, 3) := by decide +kernel
theorem dX12_winters_16 : decode cX12_winters 16 = .ok (.ifCond .ne 5, 3) := by decide +kernel
theorem dX12_winters_19 : decode cX12_winters 19 = .ok (.iconst (-1), 1) := by decide +kernel
theorem dX12_winters_20 : decode cX12_winters 20 = .ok (.ireturn, 1) := by decide +kernel
theorem dX12_winters_21 : decode cX12_winters 21 = .ok (.aload_n 0, 1) := by decide +kernel
theorem dX12_winters_22 : decode cX12_winters 22 = .ok (.iload_n 2, 1) := by decide +kernel
theorem dX12_winters_23 : decode cX12_winters 23 = .ok (.putfield 218, 3) := by decide +kernel
theorem dX12_winters_26 : decode cX12_winters 26 = .ok (.iconst 0, 1) := by decide +kernel
theorem dX12_winters_27 : decode cX12_winters 27 = .ok (.istore 4, 2) := by decide +kernel
theorem dX12_winters_29 : decode cX12_winters 29 = .ok (.iconst 0, 1) := by decide +kernel
theorem dX12_winters_30 : decode cX12_winters 30 = .ok (.istore 5, 2) := by decide +kernel
theorem dX12_winters_32 : decode cX12_winters 32 = .ok (.iload 5, 2) := by decide +kernel
theorem dX12_winters_34 : decode cX12_winters 34 = .ok (.iload_n 1, 1) := by decide +kernel
theorem dX12_winters_35 : decode cX12_winters 35 = .ok (.if_icmp .ge 94, 3) := by decide +kernel
theorem dX12_winters_38 : decode cX12_winters 38 = .ok (.aload_n 0, 1) := by decide +kernel
theorem dX12_winters_39 : decode cX12_winters 39 = .ok (.getfield 9, 3) := by decide +kernel
theorem dX12_winters_42 : decode cX12_winters 42 = .ok (.aload_n 0, 1) := by decide +kernel
theorem dX12_winters_43 : decode cX12_winters 43 = .ok (.getfield 13, 3) := by decide +kernel
theorem dX12_winters_46 : decode cX12_winters 46 = .ok (.invokestatic 134, 3) := by decide +kernel
theorem dX12_winters_49 : decode cX12_winters 49 = .ok (.iconst 0, 1) := by decide +kernel
theorem dX12_winters_50 : decode cX12_winters 50 = .ok (.istore 6, 2) := by decide +kernel
theorem dX12_winters_52 : decode cX12_winters 52 = .ok (.iload 6, 2) := by decide +kernel
theorem dX12_winters_54 : decode cX12_winters 54 = .ok (.bipush 10, 2) := by decide +kernel
theorem dX12_winters_56 : decode cX12_winters 56 = .ok (.if_icmp .ge 67, 3) := by decide +kernel
theorem dX12_winters_59 : decode cX12_winters 59 = .ok (.aload_n 0, 1) := by decide +kernel
theorem dX12_winters_60 : decode cX12_winters 60 = .ok (.getfield 13, 3) := by decide +kernel
theorem dX12_winters_63 : decode cX12_winters 63 = .ok (.iconst 2, 1) := by decide +kernel
theorem dX12_winters_64 : decode cX12_winters 64 = .ok (.aload_n 0, 1) := by decide +kernel
theorem dX12_winters_65 : decode cX12_winters 65 = .ok (.bipush 100, 2) := by decide +kernel
theorem dX12_winters_67 : decode cX12_winters 67 = .ok (.invokevirtual 224, 3) := by decide +kernel
theorem dX12_winters_70 : decode cX12_winters 70 = .ok (.iastore, 1) := by decide +kernel
theorem dX12_winters_71 : decode cX12_winters 71 = .ok (.aload_n 0, 1) := by decide +kernel
theorem dX12_winters_72 : decode cX12_winters 72 = .ok (.getfield 13, 3) := by decide +kernel
theorem dX12_winters_75 : decode cX12_winters 75 = .ok (.iconst 3, 1) := by decide +kernel
theorem dX12_winters_76 : decode cX12_winters 76 = .ok (.aload_n 0, 1) := by decide +kernel
theorem dX12_winters_77 : decode cX12_winters 77 = .ok (.bipush 10, 2) := by decide +kernel
theorem dX12_winters_79 : decode cX12_winters 79 = .ok (.invokevirtual 224, 3) := by decide +kernel
theorem dX12_winters_82 : decode cX12_winters 82 = .ok (.iastore, 1) := by decide +kernel
theorem dX12_winters_83 : decode cX12_winters 83 = .ok (.aload_n 0, 1) := by decide +kernel
theorem dX12_winters_84 : decode cX12_winters 84 = .ok (.getfield 13, 3) := by decide +kernel
theorem dX12_winters_87 : decode cX12_winters 87 = .ok (.invokestatic 124, 3) := by decide +kernel
theorem dX12_winters_90 : decode cX12_winters 90 = .ok (.istore 7, 2) := by decide +kernel
theorem dX12_winters_92 : decode cX12_winters 92 = .ok (.iload 4, 2) := by decide +kernel
theorem dX12_winters_94 : decode cX12_winters 94 = .ok (.iload_n 3, 1) := by decide +kernel
theorem dX12_winters_95 : decode cX12_winters 95 = .ok (.iconst 1, 1) := by decide +kernel
theorem dX12_winters_96 : decode cX12_winters 96 = .ok (.if_icmp .ne 8, 3) := by decide +kernel
theorem dX12_winters_99 : decode cX12_winters 99 = .ok (.iload 7, 2) := by decide +kernel
theorem dX12_winters_101 : decode cX12_winters 101 = .ok (.goto 13, 3) := by decide +kernel
theorem dX12_winters_104 : decode cX12_winters 104 = .ok (.iload 7, 2) := by decide +kernel
theorem dX12_winters_106 : decode cX12_winters 106 = .ok (.ifCond .le 7, 3) := by decide +kernel
theorem dX12_winters_109 : decode cX12_winters 109 = .ok (.iconst 1, 1) := by decide +kernel
theorem dX12_winters_110 : decode cX12_winters 110 = .ok (.goto 4, 3) := by decide +kernel
theorem dX12_winters_113 : decode cX12_winters 113 = .ok (.iconst 0, 1) := by decide +kernel
theorem dX12_winters_114 : decode cX12_winters 114 = .ok (.iadd, 1) := by decide +kernel
theorem dX12_winters_115 : decode cX12_winters 115 = .ok (.istore 4, 2) := by decide +kernel
theorem dX12_winters_117 : decode cX12_winters 117 = .ok (.iinc 6 1, 3) := by decide +kernel
theorem dX12_winters_120 : decode cX12_winters 120 = .ok (.goto (-68), 3) := by decide +kernel
theorem dX12_winters_123 : decode cX12_winters 123 = .ok (.iinc 5 1, 3) := by decide +kernel
theorem dX12_winters_126 : decode cX12_winters 126 = .ok (.goto (-94), 3) := by decide +kernel
theorem dX12_winters_129 : decode cX12_winters 129 = .ok (.iload 4, 2) := by decide +kernel
theorem dX12_winters_131 : decode cX12_winters 131 = .ok (.ireturn, 1) := by decide +kernel
theorem dX12_image_0 : decode cX12_image 0 = .ok (.aload_n 0, 1) := by decide +kernel
theorem dX12_image_1 : decode cX12_image 1 = .ok (.getfield 9, 3) := by decide +kernel
theorem dX12_image_4 : decode cX12_image 4 = .ok (.aload_n 0, 1) := by decide +kernel
theorem dX12_image_5 : decode cX12_image 5 = .ok (.getfield 16, 3) := by decide +kernel
theorem dX12_image_8 : decode cX12_image 8 = .ok (.invokestatic 134, 3) := by decide +kernel
theorem dX12_image_11 : decode cX12_image 11 = .ok (.aload_n 0, 1) := by decide +kernel
theorem dX12_image_12 : decode cX12_image 12 = .ok (.iconst 1, 1) := by decide +kernel
theorem dX12_image_13 : decode cX12_image 13 = .ok (.putfield 227, 3) := by decide +kernel
theorem dX12_image_16 : decode cX12_image 16 = .ok (.aload_n 0, 1) := by decide +kernel
theorem dX12_image_17 : decode cX12_image 17 = .ok (.getfield 9, 3) := by decide +kernel
theorem dX12_image_20 : decode cX12_image 20 = .ok (.iconst 1, 1) := by decide +kernel
theorem dX12_image_21 : decode cX12_image 21 = .ok (.iaload, 1) := by decide +kernel
theorem dX12_image_22 : decode cX12_image 22 = .ok (.ireturn, 1) := by decide +kernel
theorem dX12_restore_0 : decode cX12_restore 0 = .ok (.aload_n 0, 1) := by decide +kernel
theorem dX12_restore_1 : decode cX12_restore 1 = .ok (.getfield 227, 3) := by decide +kernel
theorem dX12_restore_4 : decode cX12_restore 4 = .ok (.ifCond .ne 6, 3) := by decide +kernel
theorem dX12_restore_7 : decode cX12_restore 7 = .ok (.bipush (-3), 2) := by decide +kernel
theorem dX12_restore_9 : decode cX12_restore 9 = .ok (.ireturn, 1) := by decide +kernel
theorem dX12_restore_10 : decode cX12_restore 10 = .ok (.aload_n 0, 1) := by decide +kernel
theorem dX12_restore_11 : decode cX12_restore 11 = .ok (.getfield 16, 3) := by decide +kernel
theorem dX12_restore_14 : decode cX12_restore 14 = .ok (.aload_n 0, 1) := by decide +kernel
theorem dX12_restore_15 : decode cX12_restore 15 = .ok (.getfield 9, 3) := by decide +kernel
theorem dX12_restore_18 : decode cX12_restore 18 = .ok (.invokestatic 134, 3) := by decide +kernel
theorem dX12_restore_21 : decode cX12_restore 21 = .ok (.aload_n 0, 1) := by decide +kernel
theorem dX12_restore_22 : decode cX12_restore 22 = .ok (.getfield 9, 3) := by decide +kernel
theorem dX12_restore_25 : decode cX12_restore 25 = .ok (.iconst 1, 1) := by decide +kernel
theorem dX12_restore_26 : decode cX12_restore 26 = .ok (.iaload, 1) := by decide +kernel
theorem dX12_restore_27 : decode cX12_restore 27 = .ok (.ireturn, 1) := by decide +kernel
theorem dX12_count_0 : decode cX12_count 0 = .ok (.iload_n 1, 1) := by decide +kernel
theorem dX12_count_1 : decode cX12_count 1 = .ok (.iconst 0, 1) := by decide +kernel
theorem dX12_count_2 : decode cX12_count 2 = .ok (.iconst 5, 1) := by decide +kernel
theorem dX12_count_3 : decode cX12_count 3 = .ok (.invokestatic 49, 3) := by decide +kernel
theorem dX12_count_6 : decode cX12_count 6 = .ok (.ifCond .eq 10, 3) := by decide +kernel
theorem dX12_count_9 : decode cX12_count 9 = .ok (.aload_n 0, 1) := by decide +kernel
theorem dX12_count_10 : decode cX12_count 10 = .ok (.getfield 9, 3) := by decide +kernel
theorem dX12_count_13 : decode cX12_count 13 = .ok (.iload_n 1, 1) := by decide +kernel
theorem dX12_count_14 : decode cX12_count 14 = .ok (.iaload, 1) := by decide +kernel
theorem dX12_count_15 : decode cX12_count 15 = .ok (.ireturn, 1) := by decide +kernel
theorem dX12_count_16 : decode cX12_count 16 = .ok (.iload_n 1, 1) := by decide +kernel
theorem dX12_count_17 : decode cX12_count 17 = .ok (.bipush 6, 2) := by decide +kernel
theorem dX12_count_19 : decode cX12_count 19 = .ok (.if_icmp .ne 11, 3) := by decide +kernel
theorem dX12_count_22 : decode cX12_count 22 = .ok (.aload_n 0, 1) := by decide +kernel
theorem dX12_count_23 : decode cX12_count 23 = .ok (.getfield 9, 3) := by decide +kernel
theorem dX12_count_26 : decode cX12_count 26 = .ok (.invokestatic 206, 3) := by decide +kernel
theorem dX12_count_29 : decode cX12_count 29 = .ok (.ireturn, 1) := by decide +kernel
theorem dX12_count_30 : decode cX12_count 30 = .ok (.iload_n 1, 1) := by decide +kernel
theorem dX12_count_31 : decode cX12_count 31 = .ok (.bipush 7, 2) := by decide +kernel
theorem dX12_count_33 : decode cX12_count 33 = .ok (.if_icmp .eq 5, 3) := by decide +kernel
theorem dX12_count_36 : decode cX12_count 36 = .ok (.iconst (-1), 1) := by decide +kernel
theorem dX12_count_37 : decode cX12_count 37 = .ok (.ireturn, 1) := by decide +kernel
theorem dX12_count_38 : decode cX12_count 38 = .ok (.iconst 0, 1) := by decide +kernel
theorem dX12_count_39 : decode cX12_count 39 = .ok (.istore_n 2, 1) := by decide +kernel
theorem dX12_count_40 : decode cX12_count 40 = .ok (.iconst 0, 1) := by decide +kernel
theorem dX12_count_41 : decode cX12_count 41 = .ok (.istore_n 3, 1) := by decide +kernel
theorem dX12_count_42 : decode cX12_count 42 = .ok (.iload_n 3, 1) := by decide +kernel
theorem dX12_count_43 : decode cX12_count 43 = .ok (.aload_n 0, 1) := by decide +kernel
theorem dX12_count_44 : decode cX12_count 44 = .ok (.getfield 9, 3) := by decide +kernel
theorem dX12_count_47 : decode cX12_count 47 = .ok (.iconst 0, 1) := by decide +kernel
theorem dX12_count_48 : decode cX12_count 48 = .ok (.iaload, 1) := by decide +kernel
theorem dX12_count_49 : decode cX12_count 49 = .ok (.if_icmp .ge 32, 3) := by decide +kernel
theorem dX12_count_52 : decode cX12_count 52 = .ok (.iload_n 2, 1) := by decide +kernel
theorem dX12_count_53 : decode cX12_count 53 = .ok (.aload_n 0, 1) := by decide +kernel
theorem dX12_count_54 : decode cX12_count 54 = .ok (.getfield 9, 3) := by decide +kernel
theorem dX12_count_57 : decode cX12_count 57 = .ok (.iload_n 3, 1) := by decide +kernel
theorem dX12_count_58 : decode cX12_count 58 = .ok (.iconst 4, 1) := by decide +kernel
theorem dX12_count_59 : decode cX12_count 59 = .ok (.invokestatic 53, 3) := by decide +kernel
theorem dX12_count_62 : decode cX12_count 62 = .ok (.iaload, 1) := by decide +kernel
theorem dX12_count_63 : decode cX12_count 63 = .ok (.ifCond .ne 9, 3) := by decide +kernel
theorem dX12_count_66 : decode cX12_count 66 = .ok (.iconst 1, 1) := by decide +kernel
theorem dX12_count_67 : decode cX12_count 67 = .ok (.iload_n 3, 1) := by decide +kernel
theorem dX12_count_68 : decode cX12_count 68 = .ok (.ishl, 1) := by decide +kernel
theorem dX12_count_69 : decode cX12_count 69 = .ok (.goto 4, 3) := by decide +kernel
theorem dX12_count_72 : decode cX12_count 72 = .ok (.iconst 0, 1) := by decide +kernel
theorem dX12_count_73 : decode cX12_count 73 = .ok (.ior, 1) := by decide +kernel
theorem dX12_count_74 : decode cX12_count 74 = .ok (.istore_n 2, 1) := by decide +kernel
theorem dX12_count_75 : decode cX12_count 75 = .ok (.iinc 3 1, 3) := by decide +kernel
theorem dX12_count_78 : decode cX12_count 78 = .ok (.goto (-36), 3) := by decide +kernel
theorem dX12_count_81 : decode cX12_count 81 = .ok (.iload_n 2, 1) := by decide +kernel
theorem dX12_count_82 : decode cX12_count 82 = .ok (.ireturn, 1) := by decide +kernel
theorem dX12_thrown_0 : decode cX12_thrown 0 = .ok (.aload_n 0, 1) := by decide +kernel
theorem dX12_thrown_1 : decode cX12_thrown 1 = .ok (.getfield 231, 3) := by decide +kernel
theorem dX12_thrown_4 : decode cX12_thrown 4 = .ok (.ireturn, 1) := by decide +kernel
theorem dX12_isShelf_0 : decode cX12_isShelf 0 = .ok (.iload_n 0, 1) := by decide +kernel
theorem dX12_isShelf_1 : decode cX12_isShelf 1 = .ok (.iconst 0, 1) := by decide +kernel
theorem dX12_isShelf_2 : decode cX12_isShelf 2 = .ok (.bipush 7, 2) := by decide +kernel
theorem dX12_isShelf_4 : decode cX12_isShelf 4 = .ok (.invokestatic 49, 3) := by decide +kernel
theorem dX12_isShelf_7 : decode cX12_isShelf 7 = .ok (.ireturn, 1) := by decide +kernel
theorem dX12_wrongRow_0 : decode cX12_wrongRow 0 = .ok (.iload_n 1, 1) := by decide +kernel
theorem dX12_wrongRow_1 : decode cX12_wrongRow 1 = .ok (.invokestatic 144, 3) := by decide +kernel
theorem dX12_wrongRow_4 : decode cX12_wrongRow 4 = .ok (.ifCond .ne 7, 3) := by decide +kernel
theorem dX12_wrongRow_7 : decode cX12_wrongRow 7 = .ok (.iconst (-1), 1) := by decide +kernel
theorem dX12_wrongRow_8 : decode cX12_wrongRow 8 = .ok (.goto 47, 3) := by decide +kernel
theorem dX12_wrongRow_11 : decode cX12_wrongRow 11 = .ok (.aload_n 0, 1) := by decide +kernel
theorem dX12_wrongRow_12 : decode cX12_wrongRow 12 = .ok (.getfield 31, 3) := by decide +kernel
theorem dX12_wrongRow_15 : decode cX12_wrongRow 15 = .ok (.iload_n 1, 1) := by decide +kernel
theorem dX12_wrongRow_16 : decode cX12_wrongRow 16 = .ok (.iaload, 1) := by decide +kernel
theorem dX12_wrongRow_17 : decode cX12_wrongRow 17 = .ok (.ifCond .ne 8, 3) := by decide +kernel
theorem dX12_wrongRow_20 : decode cX12_wrongRow 20 = .ok (.bipush (-11), 2) := by decide +kernel
theorem dX12_wrongRow_22 : decode cX12_wrongRow 22 = .ok (.goto 33, 3) := by decide +kernel
theorem dX12_wrongRow_25 : decode cX12_wrongRow 25 = .ok (.aload_n 0, 1) := by decide +kernel
theorem dX12_wrongRow_26 : decode cX12_wrongRow 26 = .ok (.getfield 31, 3) := by decide +kernel
theorem dX12_wrongRow_29 : decode cX12_wrongRow 29 = .ok (.iload_n 1, 1) := by decide +kernel
theorem dX12_wrongRow_30 : decode cX12_wrongRow 30 = .ok (.iaload, 1) := by decide +kernel
theorem dX12_wrongRow_31 : decode cX12_wrongRow 31 = .ok (.iconst 2, 1) := by decide +kernel
theorem dX12_wrongRow_32 : decode cX12_wrongRow 32 = .ok (.if_icmp .ne 17, 3) := by decide +kernel
theorem dX12_wrongRow_35 : decode cX12_wrongRow 35 = .ok (.iload_n 2, 1) := by decide +kernel
theorem dX12_wrongRow_36 : decode cX12_wrongRow 36 = .ok (.ifCond .lt 18, 3) := by decide +kernel
theorem dX12_wrongRow_39 : decode cX12_wrongRow 39 = .ok (.aload_n 0, 1) := by decide +kernel
theorem dX12_wrongRow_40 : decode cX12_wrongRow 40 = .ok (.getfield 40, 3) := by decide +kernel
theorem dX12_wrongRow_43 : decode cX12_wrongRow 43 = .ok (.iload_n 1, 1) := by decide +kernel
theorem dX12_wrongRow_44 : decode cX12_wrongRow 44 = .ok (.iaload, 1) := by decide +kernel
theorem dX12_wrongRow_45 : decode cX12_wrongRow 45 = .ok (.iload_n 2, 1) := by decide +kernel
theorem dX12_wrongRow_46 : decode cX12_wrongRow 46 = .ok (.if_icmp .eq 8, 3) := by decide +kernel
theorem dX12_wrongRow_49 : decode cX12_wrongRow 49 = .ok (.bipush (-12), 2) := by decide +kernel
theorem dX12_wrongRow_51 : decode cX12_wrongRow 51 = .ok (.goto 4, 3) := by decide +kernel
theorem dX12_wrongRow_54 : decode cX12_wrongRow 54 = .ok (.iconst 0, 1) := by decide +kernel
theorem dX12_wrongRow_55 : decode cX12_wrongRow 55 = .ok (.ireturn, 1) := by decide +kernel
theorem dX12_wrongKept_0 : decode cX12_wrongKept 0 = .ok (.iload_n 1, 1) := by decide +kernel
theorem dX12_wrongKept_1 : decode cX12_wrongKept 1 = .ok (.invokestatic 144, 3) := by decide +kernel
theorem dX12_wrongKept_4 : decode cX12_wrongKept 4 = .ok (.ifCond .ne 7, 3) := by decide +kernel
theorem dX12_wrongKept_7 : decode cX12_wrongKept 7 = .ok (.iconst (-1), 1) := by decide +kernel
theorem dX12_wrongKept_8 : decode cX12_wrongKept 8 = .ok (.goto 33, 3) := by decide +kernel
theorem dX12_wrongKept_11 : decode cX12_wrongKept 11 = .ok (.aload_n 0, 1) := by decide +kernel
theorem dX12_wrongKept_12 : decode cX12_wrongKept 12 = .ok (.getfield 31, 3) := by decide +kernel
theorem dX12_wrongKept_15 : decode cX12_wrongKept 15 = .ok (.iload_n 1, 1) := by decide +kernel
theorem dX12_wrongKept_16 : decode cX12_wrongKept 16 = .ok (.iaload, 1) := by decide +kernel
theorem dX12_wrongKept_17 : decode cX12_wrongKept 17 = .ok (.ifCond .ne 8, 3) := by decide +kernel
theorem dX12_wrongKept_20 : decode cX12_wrongKept 20 = .ok (.bipush (-11), 2) := by decide +kernel
theorem dX12_wrongKept_22 : decode cX12_wrongKept 22 = .ok (.goto 19, 3) := by decide +kernel
theorem dX12_wrongKept_25 : decode cX12_wrongKept 25 = .ok (.aload_n 0, 1) := by decide +kernel
theorem dX12_wrongKept_26 : decode cX12_wrongKept 26 = .ok (.getfield 31, 3) := by decide +kernel
theorem dX12_wrongKept_29 : decode cX12_wrongKept 29 = .ok (.iload_n 1, 1) := by decide +kernel
theorem dX12_wrongKept_30 : decode cX12_wrongKept 30 = .ok (.iaload, 1) := by decide +kernel
theorem dX12_wrongKept_31 : decode cX12_wrongKept 31 = .ok (.iconst 2, 1) := by decide +kernel
theorem dX12_wrongKept_32 : decode cX12_wrongKept 32 = .ok (.if_icmp .ne 8, 3) := by decide +kernel
theorem dX12_wrongKept_35 : decode cX12_wrongKept 35 = .ok (.bipush (-12), 2) := by decide +kernel
theorem dX12_wrongKept_37 : decode cX12_wrongKept 37 = .ok (.goto 4, 3) := by decide +kernel
theorem dX12_wrongKept_40 : decode cX12_wrongKept 40 = .ok (.iconst 0, 1) := by decide +kernel
theorem dX12_wrongKept_41 : decode cX12_wrongKept 41 = .ok (.ireturn, 1) := by decide +kernel
theorem dX12_keep_0 : decode cX12_keep 0 = .ok (.iload_n 1, 1) := by decide +kernel
theorem dX12_keep_1 : decode cX12_keep 1 = .ok (.invokestatic 144, 3) := by decide +kernel
theorem dX12_keep_4 : decode cX12_keep 4 = .ok (.ifCond .eq 38, 3) := by decide +kernel
theorem dX12_keep_7 : decode cX12_keep 7 = .ok (.iload_n 2, 1) := by decide +kernel
theorem dX12_keep_8 : decode cX12_keep 8 = .ok (.iconst 0, 1) := by decide +kernel
theorem dX12_keep_9 : decode cX12_keep 9 = .ok (.iconst 1, 1) := by decide +kernel
theorem dX12_keep_10 : decode cX12_keep 10 = .ok (.invokestatic 49, 3) := by decide +kernel
theorem dX12_keep_13 : decode cX12_keep 13 = .ok (.ifCond .eq 29, 3) := by decide +kernel
theorem dX12_keep_16 : decode cX12_keep 16 = .ok (.iload_n 2, 1) := by decide +kernel
theorem dX12_keep_17 : decode cX12_keep 17 = .ok (.iconst 1, 1) := by decide +kernel
theorem dX12_keep_18 : decode cX12_keep 18 = .ok (.if_icmp .ne 26, 3) := by decide +kernel
theorem dX12_keep_21 : decode cX12_keep 21 = .ok (.iload_n 3, 1) := by decide +kernel
theorem dX12_keep_22 : decode cX12_keep 22 = .ok (.iconst 0, 1) := by decide +kernel
theorem dX12_keep_23 : decode cX12_keep 23 = .ok (.bipush 7, 2) := by decide +kernel
theorem dX12_keep_25 : decode cX12_keep 25 = .ok (.invokestatic 49, 3) := by decide +kernel
theorem dX12_keep_28 : decode cX12_keep 28 = .ok (.ifCond .eq 14, 3) := by decide +kernel
theorem dX12_keep_31 : decode cX12_keep 31 = .ok (.iload 4, 2) := by decide +kernel
theorem dX12_keep_33 : decode cX12_keep 33 = .ok (.iconst 0, 1) := by decide +kernel
theorem dX12_keep_34 : decode cX12_keep 34 = .ok (.bipush 9, 2) := by decide +kernel
theorem dX12_keep_36 : decode cX12_keep 36 = .ok (.invokestatic 49, 3) := by decide +kernel
theorem dX12_keep_39 : decode cX12_keep 39 = .ok (.ifCond .ne 5, 3) := by decide +kernel
theorem dX12_keep_42 : decode cX12_keep 42 = .ok (.iconst (-1), 1) := by decide +kernel
theorem dX12_keep_43 : decode cX12_keep 43 = .ok (.ireturn, 1) := by decide +kernel
theorem dX12_keep_44 : decode cX12_keep 44 = .ok (.aload_n 0, 1) := by decide +kernel
theorem dX12_keep_45 : decode cX12_keep 45 = .ok (.getfield 31, 3) := by decide +kernel
theorem dX12_keep_48 : decode cX12_keep 48 = .ok (.iload_n 1, 1) := by decide +kernel
theorem dX12_keep_49 : decode cX12_keep 49 = .ok (.iload_n 2, 1) := by decide +kernel
theorem dX12_keep_50 : decode cX12_keep 50 = .ok (.iastore, 1) := by decide +kernel
theorem dX12_keep_51 : decode cX12_keep 51 = .ok (.aload_n 0, 1) := by decide +kernel
theorem dX12_keep_52 : decode cX12_keep 52 = .ok (.getfield 34, 3) := by decide +kernel
theorem dX12_keep_55 : decode cX12_keep 55 = .ok (.iload_n 1, 1) := by decide +kernel
theorem dX12_keep_56 : decode cX12_keep 56 = .ok (.iload_n 3, 1) := by decide +kernel
theorem dX12_keep_57 : decode cX12_keep 57 = .ok (.iastore, 1) := by decide +kernel
theorem dX12_keep_58 : decode cX12_keep 58 = .ok (.aload_n 0, 1) := by decide +kernel
theorem dX12_keep_59 : decode cX12_keep 59 = .ok (.getfield 37, 3) := by decide +kernel
theorem dX12_keep_62 : decode cX12_keep 62 = .ok (.iload_n 1, 1) := by decide +kernel
theorem dX12_keep_63 : decode cX12_keep 63 = .ok (.iload 4, 2) := by decide +kernel
theorem dX12_keep_65 : decode cX12_keep 65 = .ok (.iastore, 1) := by decide +kernel
theorem dX12_keep_66 : decode cX12_keep 66 = .ok (.iconst 0, 1) := by decide +kernel
theorem dX12_keep_67 : decode cX12_keep 67 = .ok (.ireturn, 1) := by decide +kernel
theorem dX12_row_0 : decode cX12_row 0 = .ok (.iload_n 1, 1) := by decide +kernel
theorem dX12_row_1 : decode cX12_row 1 = .ok (.invokestatic 144, 3) := by decide +kernel
theorem dX12_row_4 : decode cX12_row 4 = .ok (.ifCond .eq 18, 3) := by decide +kernel
theorem dX12_row_7 : decode cX12_row 7 = .ok (.iload_n 2, 1) := by decide +kernel
theorem dX12_row_8 : decode cX12_row 8 = .ok (.iconst 0, 1) := by decide +kernel
theorem dX12_row_9 : decode cX12_row 9 = .ok (.iconst 2, 1) := by decide +kernel
theorem dX12_row_10 : decode cX12_row 10 = .ok (.invokestatic 49, 3) := by decide +kernel
theorem dX12_row_13 : decode cX12_row 13 = .ok (.ifCond .eq 9, 3) := by decide +kernel
theorem dX12_row_16 : decode cX12_row 16 = .ok (.iload_n 3, 1) := by decide +kernel
theorem dX12_row_17 : decode cX12_row 17 = .ok (.bipush 100, 2) := by decide +kernel
theorem dX12_row_19 : decode cX12_row 19 = .ok (.if_icmp .le 5, 3) := by decide +kernel
theorem dX12_row_22 : decode cX12_row 22 = .ok (.iconst (-1), 1) := by decide +kernel
theorem dX12_row_23 : decode cX12_row 23 = .ok (.ireturn, 1) := by decide +kernel
theorem dX12_row_24 : decode cX12_row 24 = .ok (.iload_n 3, 1) := by decide +kernel
theorem dX12_row_25 : decode cX12_row 25 = .ok (.ifCond .ge 6, 3) := by decide +kernel
theorem dX12_row_28 : decode cX12_row 28 = .ok (.bipush (-14), 2) := by decide +kernel
theorem dX12_row_30 : decode cX12_row 30 = .ok (.ireturn, 1) := by decide +kernel
theorem dX12_row_31 : decode cX12_row 31 = .ok (.aload_n 0, 1) := by decide +kernel
theorem dX12_row_32 : decode cX12_row 32 = .ok (.getfield 31, 3) := by decide +kernel
theorem dX12_row_35 : decode cX12_row 35 = .ok (.iload_n 1, 1) := by decide +kernel
theorem dX12_row_36 : decode cX12_row 36 = .ok (.iconst 2, 1) := by decide +kernel
theorem dX12_row_37 : decode cX12_row 37 = .ok (.iastore, 1) := by decide +kernel
theorem dX12_row_38 : decode cX12_row 38 = .ok (.aload_n 0, 1) := by decide +kernel
theorem dX12_row_39 : decode cX12_row 39 = .ok (.getfield 40, 3) := by decide +kernel
theorem dX12_row_42 : decode cX12_row 42 = .ok (.iload_n 1, 1) := by decide +kernel
theorem dX12_row_43 : decode cX12_row 43 = .ok (.iload_n 2, 1) := by decide +kernel
theorem dX12_row_44 : decode cX12_row 44 = .ok (.iastore, 1) := by decide +kernel
theorem dX12_row_45 : decode cX12_row 45 = .ok (.aload_n 0, 1) := by decide +kernel
theorem dX12_row_46 : decode cX12_row 46 = .ok (.getfield 43, 3) := by decide +kernel
theorem dX12_row_49 : decode cX12_row 49 = .ok (.iload_n 1, 1) := by decide +kernel
theorem dX12_row_50 : decode cX12_row 50 = .ok (.iload_n 3, 1) := by decide +kernel
theorem dX12_row_51 : decode cX12_row 51 = .ok (.iastore, 1) := by decide +kernel
theorem dX12_row_52 : decode cX12_row 52 = .ok (.iconst 0, 1) := by decide +kernel
theorem dX12_row_53 : decode cX12_row 53 = .ok (.istore 4, 2) := by decide +kernel
theorem dX12_row_55 : decode cX12_row 55 = .ok (.iload 4, 2) := by decide +kernel
theorem dX12_row_57 : decode cX12_row 57 = .ok (.bipush 100, 2) := by decide +kernel
theorem dX12_row_59 : decode cX12_row 59 = .ok (.if_icmp .ge 22, 3) := by decide +kernel
theorem dX12_row_62 : decode cX12_row 62 = .ok (.aload_n 0, 1) := by decide +kernel
theorem dX12_row_63 : decode cX12_row 63 = .ok (.getfield 46, 3) := by decide +kernel
theorem dX12_row_66 : decode cX12_row 66 = .ok (.bipush 100, 2) := by decide +kernel
theorem dX12_row_68 : decode cX12_row 68 = .ok (.iload_n 1, 1) := by decide +kernel
theorem dX12_row_69 : decode cX12_row 69 = .ok (.imul, 1) := by decide +kernel
theorem dX12_row_70 : decode cX12_row 70 = .ok (.iload 4, 2) := by decide +kernel
theorem dX12_row_72 : decode cX12_row 72 = .ok (.iadd, 1) := by decide +kernel
theorem dX12_row_73 : decode cX12_row 73 = .ok (.iconst 0, 1) := by decide +kernel
theorem dX12_row_74 : decode cX12_row 74 = .ok (.iastore, 1) := by decide +kernel
theorem dX12_row_75 : decode cX12_row 75 = .ok (.iinc 4 1, 3) := by decide +kernel
theorem dX12_row_78 : decode cX12_row 78 = .ok (.goto (-23), 3) := by decide +kernel
theorem dX12_row_81 : decode cX12_row 81 = .ok (.iconst 0, 1) := by decide +kernel
theorem dX12_row_82 : decode cX12_row 82 = .ok (.ireturn, 1) := by decide +kernel
theorem dX12_put_0 : decode cX12_put 0 = .ok (.aload_n 0, 1) := by decide +kernel
theorem dX12_put_1 : decode cX12_put 1 = .ok (.iload_n 1, 1) := by decide +kernel
theorem dX12_put_2 : decode cX12_put 2 = .ok (.iconst (-1), 1) := by decide +kernel
theorem dX12_put_3 : decode cX12_put 3 = .ok (.invokevirtual 127, 3) := by decide +kernel
theorem dX12_put_6 : decode cX12_put 6 = .ok (.istore 4, 2) := by decide +kernel
theorem dX12_put_8 : decode cX12_put 8 = .ok (.iload 4, 2) := by decide +kernel
theorem dX12_put_10 : decode cX12_put 10 = .ok (.ifCond .eq 6, 3) := by decide +kernel
theorem dX12_put_13 : decode cX12_put 13 = .ok (.iload 4, 2) := by decide +kernel
theorem dX12_put_15 : decode cX12_put 15 = .ok (.ireturn, 1) := by decide +kernel
theorem dX12_put_16 : decode cX12_put 16 = .ok (.iload_n 2, 1) := by decide +kernel
theorem dX12_put_17 : decode cX12_put 17 = .ok (.iconst 0, 1) := by decide +kernel
theorem dX12_put_18 : decode cX12_put 18 = .ok (.aload_n 0, 1) := by decide +kernel
theorem dX12_put_19 : decode cX12_put 19 = .ok (.getfield 43, 3) := by decide +kernel
theorem dX12_put_22 : decode cX12_put 22 = .ok (.iload_n 1, 1) := by decide +kernel
theorem dX12_put_23 : decode cX12_put 23 = .ok (.iaload, 1) := by decide +kernel
theorem dX12_put_24 : decode cX12_put 24 = .ok (.iconst 1, 1) := by decide +kernel
theorem dX12_put_25 : decode cX12_put 25 = .ok (.isub, 1) := by decide +kernel
theorem dX12_put_26 : decode cX12_put 26 = .ok (.invokestatic 49, 3) := by decide +kernel
theorem dX12_put_29 : decode cX12_put 29 = .ok (.ifCond .ne 6, 3) := by decide +kernel
theorem dX12_put_32 : decode cX12_put 32 = .ok (.bipush (-13), 2) := by decide +kernel
theorem dX12_put_34 : decode cX12_put 34 = .ok (.ireturn, 1) := by decide +kernel
theorem dX12_put_35 : decode cX12_put 35 = .ok (.aload_n 0, 1) := by decide +kernel
theorem dX12_put_36 : decode cX12_put 36 = .ok (.getfield 46, 3) := by decide +kernel
theorem dX12_put_39 : decode cX12_put 39 = .ok (.bipush 100, 2) := by decide +kernel
theorem dX12_put_41 : decode cX12_put 41 = .ok (.iload_n 1, 1) := by decide +kernel
theorem dX12_put_42 : decode cX12_put 42 = .ok (.imul, 1) := by decide +kernel
theorem dX12_put_43 : decode cX12_put 43 = .ok (.iload_n 2, 1) := by decide +kernel
theorem dX12_put_44 : decode cX12_put 44 = .ok (.iadd, 1) := by decide +kernel
theorem dX12_put_45 : decode cX12_put 45 = .ok (.aload_n 0, 1) := by decide +kernel
theorem dX12_put_46 : decode cX12_put 46 = .ok (.getfield 40, 3) := by decide +kernel
theorem dX12_put_49 : decode cX12_put 49 = .ok (.iload_n 1, 1) := by decide +kernel
theorem dX12_put_50 : decode cX12_put 50 = .ok (.iaload, 1) := by decide +kernel
theorem dX12_put_51 : decode cX12_put 51 = .ok (.ifCond .ne 8, 3) := by decide +kernel
theorem dX12_put_54 : decode cX12_put 54 = .ok (.iload_n 3, 1) := by decide +kernel
theorem dX12_put_55 : decode cX12_put 55 = .ok (.i2b, 1) := by decide +kernel
theorem dX12_put_56 : decode cX12_put 56 = .ok (.goto 19, 3) := by decide +kernel
theorem dX12_put_59 : decode cX12_put 59 = .ok (.aload_n 0, 1) := by decide +kernel
theorem dX12_put_60 : decode cX12_put 60 = .ok (.getfield 40, 3) := by decide +kernel
theorem dX12_put_63 : decode cX12_put 63 = .ok (.iload_n 1, 1) := by decide +kernel
theorem dX12_put_64 : decode cX12_put 64 = .ok (.iaload, 1) := by decide +kernel
theorem dX12_put_65 : decode cX12_put 65 = .ok (.iconst 1, 1) := by decide +kernel
theorem dX12_put_66 : decode cX12_put 66 = .ok (.if_icmp .ne 8, 3) := by decide +kernel
theorem dX12_put_69 : decode cX12_put 69 = .ok (.iload_n 3, 1) := by decide +kernel
theorem dX12_put_70 : decode cX12_put 70 = .ok (.i2s, 1) := by decide +kernel
theorem dX12_put_71 : decode cX12_put 71 = .ok (.goto 4, 3) := by decide +kernel
theorem dX12_put_74 : decode cX12_put 74 = .ok (.iload_n 3, 1) := by decide +kernel
theorem dX12_put_75 : decode cX12_put 75 = .ok (.iastore, 1) := by decide +kernel
theorem dX12_put_76 : decode cX12_put 76 = .ok (.iconst 0, 1) := by decide +kernel
theorem dX12_put_77 : decode cX12_put 77 = .ok (.ireturn, 1) := by decide +kernel
theorem dX12_element_0 : decode cX12_element 0 = .ok (.aload_n 0, 1) := by decide +kernel
theorem dX12_element_1 : decode cX12_element 1 = .ok (.iload_n 1, 1) := by decide +kernel
theorem dX12_element_2 : decode cX12_element 2 = .ok (.invokestatic 144, 3) := by decide +kernel
theorem dX12_element_5 : decode cX12_element 5 = .ok (.ifCond .ne 7, 3) := by decide +kernel
theorem dX12_element_8 : decode cX12_element 8 = .ok (.iconst 1, 1) := by decide +kernel
theorem dX12_element_9 : decode cX12_element 9 = .ok (.goto 34, 3) := by decide +kernel
theorem dX12_element_12 : decode cX12_element 12 = .ok (.aload_n 0, 1) := by decide +kernel
theorem dX12_element_13 : decode cX12_element 13 = .ok (.getfield 31, 3) := by decide +kernel
theorem dX12_element_16 : decode cX12_element 16 = .ok (.iload_n 1, 1) := by decide +kernel
theorem dX12_element_17 : decode cX12_element 17 = .ok (.iaload, 1) := by decide +kernel
theorem dX12_element_18 : decode cX12_element 18 = .ok (.iconst 2, 1) := by decide +kernel
theorem dX12_element_19 : decode cX12_element 19 = .ok (.if_icmp .ne 19, 3) := by decide +kernel
theorem dX12_element_22 : decode cX12_element 22 = .ok (.iload_n 2, 1) := by decide +kernel
theorem dX12_element_23 : decode cX12_element 23 = .ok (.iconst 0, 1) := by decide +kernel
theorem dX12_element_24 : decode cX12_element 24 = .ok (.aload_n 0, 1) := by decide +kernel
theorem dX12_element_25 : decode cX12_element 25 = .ok (.getfield 43, 3) := by decide +kernel
theorem dX12_element_28 : decode cX12_element 28 = .ok (.iload_n 1, 1) := by decide +kernel
theorem dX12_element_29 : decode cX12_element 29 = .ok (.iaload, 1) := by decide +kernel
theorem dX12_element_30 : decode cX12_element 30 = .ok (.iconst 1, 1) := by decide +kernel
theorem dX12_element_31 : decode cX12_element 31 = .ok (.isub, 1) := by decide +kernel
theorem dX12_element_32 : decode cX12_element 32 = .ok (.invokestatic 49, 3) := by decide +kernel
theorem dX12_element_35 : decode cX12_element 35 = .ok (.ifCond .ne 7, 3) := by decide +kernel
theorem dX12_element_38 : decode cX12_element 38 = .ok (.iconst 2, 1) := by decide +kernel
theorem dX12_element_39 : decode cX12_element 39 = .ok (.goto 4, 3) := by decide +kernel
theorem dX12_element_42 : decode cX12_element 42 = .ok (.iconst 0, 1) := by decide +kernel
theorem dX12_element_43 : decode cX12_element 43 = .ok (.putfield 231, 3) := by decide +kernel
theorem dX12_element_46 : decode cX12_element 46 = .ok (.aload_n 0, 1) := by decide +kernel
theorem dX12_element_47 : decode cX12_element 47 = .ok (.getfield 231, 3) := by decide +kernel
theorem dX12_element_50 : decode cX12_element 50 = .ok (.ifCond .ne 18, 3) := by decide +kernel
theorem dX12_element_53 : decode cX12_element 53 = .ok (.aload_n 0, 1) := by decide +kernel
theorem dX12_element_54 : decode cX12_element 54 = .ok (.getfield 46, 3) := by decide +kernel
theorem dX12_element_57 : decode cX12_element 57 = .ok (.bipush 100, 2) := by decide +kernel
theorem dX12_element_59 : decode cX12_element 59 = .ok (.iload_n 1, 1) := by decide +kernel
theorem dX12_element_60 : decode cX12_element 60 = .ok (.imul, 1) := by decide +kernel
theorem dX12_element_61 : decode cX12_element 61 = .ok (.iload_n 2, 1) := by decide +kernel
theorem dX12_element_62 : decode cX12_element 62 = .ok (.iadd, 1) := by decide +kernel
theorem dX12_element_63 : decode cX12_element 63 = .ok (.iaload, 1) := by decide +kernel
theorem dX12_element_64 : decode cX12_element 64 = .ok (.i2l, 1) := by decide +kernel
theorem dX12_element_65 : decode cX12_element 65 = .ok (.goto 4, 3) := by decide +kernel
theorem dX12_element_68 : decode cX12_element 68 = .ok (.lconst 0, 1) := by decide +kernel
theorem dX12_element_69 : decode cX12_element 69 = .ok (.lreturn, 1) := by decide +kernel
theorem dX12_copy_0 : decode cX12_copy 0 = .ok (.iload_n 1, 1) := by decide +kernel
theorem dX12_copy_1 : decode cX12_copy 1 = .ok (.invokestatic 144, 3) := by decide +kernel
theorem dX12_copy_4 : decode cX12_copy 4 = .ok (.ifCond .eq 10, 3) := by decide +kernel
theorem dX12_copy_7 : decode cX12_copy 7 = .ok (.iload_n 3, 1) := by decide +kernel
theorem dX12_copy_8 : decode cX12_copy 8 = .ok (.invokestatic 144, 3) := by decide +kernel
theorem dX12_copy_11 : decode cX12_copy 11 = .ok (.ifCond .ne 5, 3) := by decide +kernel
theorem dX12_copy_14 : decode cX12_copy 14 = .ok (.iconst (-1), 1) := by decide +kernel
theorem dX12_copy_15 : decode cX12_copy 15 = .ok (.ireturn, 1) := by decide +kernel
theorem dX12_copy_16 : decode cX12_copy 16 = .ok (.aload_n 0, 1) := by decide +kernel
theorem dX12_copy_17 : decode cX12_copy 17 = .ok (.getfield 31, 3) := by decide +kernel
theorem dX12_copy_20 : decode cX12_copy 20 = .ok (.iload_n 1, 1) := by decide +kernel
theorem dX12_copy_21 : decode cX12_copy 21 = .ok (.iaload, 1) := by decide +kernel
theorem dX12_copy_22 : decode cX12_copy 22 = .ok (.ifCond .eq 12, 3) := by decide +kernel
theorem dX12_copy_25 : decode cX12_copy 25 = .ok (.aload_n 0, 1) := by decide +kernel
theorem dX12_copy_26 : decode cX12_copy 26 = .ok (.getfield 31, 3) := by decide +kernel
theorem dX12_copy_29 : decode cX12_copy 29 = .ok (.iload_n 3, 1) := by decide +kernel
theorem dX12_copy_30 : decode cX12_copy 30 = .ok (.iaload, 1) := by decide +kernel
theorem dX12_copy_31 : decode cX12_copy 31 = .ok (.ifCond .ne 6, 3) := by decide +kernel
theorem dX12_copy_34 : decode cX12_copy 34 = .ok (.bipush (-11), 2) := by decide +kernel
theorem dX12_copy_36 : decode cX12_copy 36 = .ok (.ireturn, 1) := by decide +kernel
theorem dX12_copy_37 : decode cX12_copy 37 = .ok (.aload_n 0, 1) := by decide +kernel
theorem dX12_copy_38 : decode cX12_copy 38 = .ok (.getfield 31, 3) := by decide +kernel
theorem dX12_copy_41 : decode cX12_copy 41 = .ok (.iload_n 1, 1) := by decide +kernel
theorem dX12_copy_42 : decode cX12_copy 42 = .ok (.iaload, 1) := by decide +kernel
theorem dX12_copy_43 : decode cX12_copy 43 = .ok (.iconst 2, 1) := by decide +kernel
theorem dX12_copy_44 : decode cX12_copy 44 = .ok (.if_icmp .ne 28, 3) := by decide +kernel
theorem dX12_copy_47 : decode cX12_copy 47 = .ok (.aload_n 0, 1) := by decide +kernel
theorem dX12_copy_48 : decode cX12_copy 48 = .ok (.getfield 31, 3) := by decide +kernel
theorem dX12_copy_51 : decode cX12_copy 51 = .ok (.iload_n 3, 1) := by decide +kernel
theorem dX12_copy_52 : decode cX12_copy 52 = .ok (.iaload, 1) := by decide +kernel
theorem dX12_copy_53 : decode cX12_copy 53 = .ok (.iconst 2, 1) := by decide +kernel
theorem dX12_copy_54 : decode cX12_copy 54 = .ok (.if_icmp .ne 18, 3) := by decide +kernel
theorem dX12_copy_57 : decode cX12_copy 57 = .ok (.aload_n 0, 1) := by decide +kernel
theorem dX12_copy_58 : decode cX12_copy 58 = .ok (.getfield 40, 3) := by decide +kernel
theorem dX12_copy_61 : decode cX12_copy 61 = .ok (.iload_n 1, 1) := by decide +kernel
theorem dX12_copy_62 : decode cX12_copy 62 = .ok (.iaload, 1) := by decide +kernel
theorem dX12_copy_63 : decode cX12_copy 63 = .ok (.aload_n 0, 1) := by decide +kernel
theorem dX12_copy_64 : decode cX12_copy 64 = .ok (.getfield 40, 3) := by decide +kernel
theorem dX12_copy_67 : decode cX12_copy 67 = .ok (.iload_n 3, 1) := by decide +kernel
theorem dX12_copy_68 : decode cX12_copy 68 = .ok (.iaload, 1) := by decide +kernel
theorem dX12_copy_69 : decode cX12_copy 69 = .ok (.if_icmp .eq 6, 3) := by decide +kernel
theorem dX12_copy_72 : decode cX12_copy 72 = .ok (.bipush (-12), 2) := by decide +kernel
theorem dX12_copy_74 : decode cX12_copy 74 = .ok (.ireturn, 1) := by decide +kernel
theorem dX12_copy_75 : decode cX12_copy 75 = .ok (.iload 5, 2) := by decide +kernel
theorem dX12_copy_77 : decode cX12_copy 77 = .ok (.ifCond .lt 39, 3) := by decide +kernel
theorem dX12_copy_80 : decode cX12_copy 80 = .ok (.iload_n 2, 1) := by decide +kernel
theorem dX12_copy_81 : decode cX12_copy 81 = .ok (.ifCond .lt 35, 3) := by decide +kernel
theorem dX12_copy_84 : decode cX12_copy 84 = .ok (.iload 4, 2) := by decide +kernel
theorem dX12_copy_86 : decode cX12_copy 86 = .ok (.ifCond .lt 30, 3) := by decide +kernel
theorem dX12_copy_89 : decode cX12_copy 89 = .ok (.iload 5, 2) := by decide +kernel
theorem dX12_copy_91 : decode cX12_copy 91 = .ok (.aload_n 0, 1) := by decide +kernel
theorem dX12_copy_92 : decode cX12_copy 92 = .ok (.getfield 43, 3) := by decide +kernel
theorem dX12_copy_95 : decode cX12_copy 95 = .ok (.iload_n 1, 1) := by decide +kernel
theorem dX12_copy_96 : decode cX12_copy 96 = .ok (.iaload, 1) := by decide +kernel
theorem dX12_copy_97 : decode cX12_copy 97 = .ok (.iload_n 2, 1) := by decide +kernel
theorem dX12_copy_98 : decode cX12_copy 98 = .ok (.isub, 1) := by decide +kernel
theorem dX12_copy_99 : decode cX12_copy 99 = .ok (.if_icmp .gt 17, 3) := by decide +kernel
theorem dX12_copy_102 : decode cX12_copy 102 = .ok (.iload 5, 2) := by decide +kernel
theorem dX12_copy_104 : decode cX12_copy 104 = .ok (.aload_n 0, 1) := by decide +kernel
theorem dX12_copy_105 : decode cX12_copy 105 = .ok (.getfield 43, 3) := by decide +kernel
theorem dX12_copy_108 : decode cX12_copy 108 = .ok (.iload_n 3, 1) := by decide +kernel
theorem dX12_copy_109 : decode cX12_copy 109 = .ok (.iaload, 1) := by decide +kernel
theorem dX12_copy_110 : decode cX12_copy 110 = .ok (.iload 4, 2) := by decide +kernel
theorem dX12_copy_112 : decode cX12_copy 112 = .ok (.isub, 1) := by decide +kernel
theorem dX12_copy_113 : decode cX12_copy 113 = .ok (.if_icmp .le 6, 3) := by decide +kernel
theorem dX12_copy_116 : decode cX12_copy 116 = .ok (.bipush (-13), 2) := by decide +kernel
theorem dX12_copy_118 : decode cX12_copy 118 = .ok (.ireturn, 1) := by decide +kernel
theorem dX12_copy_119 : decode cX12_copy 119 = .ok (.iconst 0, 1) := by decide +kernel
theorem dX12_copy_120 : decode cX12_copy 120 = .ok (.istore 6, 2) := by decide +kernel
theorem dX12_copy_122 : decode cX12_copy 122 = .ok (.iload 6, 2) := by decide +kernel
theorem dX12_copy_124 : decode cX12_copy 124 = .ok (.iload 5, 2) := by decide +kernel
theorem dX12_copy_126 : decode cX12_copy 126 = .ok (.if_icmp .ge 58, 3) := by decide +kernel
theorem dX12_copy_129 : decode cX12_copy 129 = .ok (.iload_n 2, 1) := by decide +kernel
theorem dX12_copy_130 : decode cX12_copy 130 = .ok (.iload 4, 2) := by decide +kernel
theorem dX12_copy_132 : decode cX12_copy 132 = .ok (.if_icmp .le 8, 3) := by decide +kernel
theorem dX12_copy_135 : decode cX12_copy 135 = .ok (.iload 6, 2) := by decide +kernel
theorem dX12_copy_137 : decode cX12_copy 137 = .ok (.goto 10, 3) := by decide +kernel
theorem dX12_copy_140 : decode cX12_copy 140 = .ok (.iload 5, 2) := by decide +kernel
theorem dX12_copy_142 : decode cX12_copy 142 = .ok (.iconst 1, 1) := by decide +kernel
theorem dX12_copy_143 : decode cX12_copy 143 = .ok (.isub, 1) := by decide +kernel
theorem dX12_copy_144 : decode cX12_copy 144 = .ok (.iload 6, 2) := by decide +kernel
theorem dX12_copy_146 : decode cX12_copy 146 = .ok (.isub, 1) := by decide +kernel
theorem dX12_copy_147 : decode cX12_copy 147 = .ok (.istore 7, 2) := by decide +kernel
theorem dX12_copy_149 : decode cX12_copy 149 = .ok (.aload_n 0, 1) := by decide +kernel
theorem dX12_copy_150 : decode cX12_copy 150 = .ok (.getfield 46, 3) := by decide +kernel
theorem dX12_copy_153 : decode cX12_copy 153 = .ok (.bipush 100, 2) := by decide +kernel
theorem dX12_copy_155 : decode cX12_copy 155 = .ok (.iload_n 3, 1) := by decide +kernel
theorem dX12_copy_156 : decode cX12_copy 156 = .ok (.imul, 1) := by decide +kernel
theorem dX12_copy_157 : decode cX12_copy 157 = .ok (.iload 4, 2) := by decide +kernel
theorem dX12_copy_159 : decode cX12_copy 159 = .ok (.iadd, 1) := by decide +kernel
theorem dX12_copy_160 : decode cX12_copy 160 = .ok (.iload 7, 2) := by decide +kernel
theorem dX12_copy_162 : decode cX12_copy 162 = .ok (.iadd, 1) := by decide +kernel
theorem dX12_copy_163 : decode cX12_copy 163 = .ok (.aload_n 0, 1) := by decide +kernel
theorem dX12_copy_164 : decode cX12_copy 164 = .ok (.getfield 46, 3) := by decide +kernel
theorem dX12_copy_167 : decode cX12_copy 167 = .ok (.bipush 100, 2) := by decide +kernel
theorem dX12_copy_169 : decode cX12_copy 169 = .ok (.iload_n 1, 1) := by decide +kernel
theorem dX12_copy_170 : decode cX12_copy 170 = .ok (.imul, 1) := by decide +kernel
theorem dX12_copy_171 : decode cX12_copy 171 = .ok (.iload_n 2, 1) := by decide +kernel
theorem dX12_copy_172 : decode cX12_copy 172 = .ok (.iadd, 1) := by decide +kernel
theorem dX12_copy_173 : decode cX12_copy 173 = .ok (.iload 7, 2) := by decide +kernel
theorem dX12_copy_175 : decode cX12_copy 175 = .ok (.iadd, 1) := by decide +kernel
theorem dX12_copy_176 : decode cX12_copy 176 = .ok (.iaload, 1) := by decide +kernel
theorem dX12_copy_177 : decode cX12_copy 177 = .ok (.iastore, 1) := by decide +kernel
theorem dX12_copy_178 : decode cX12_copy 178 = .ok (.iinc 6 1, 3) := by decide +kernel
theorem dX12_copy_181 : decode cX12_copy 181 = .ok (.goto (-59), 3) := by decide +kernel
theorem dX12_copy_184 : decode cX12_copy 184 = .ok (.iload 5, 2) := by decide +kernel
theorem dX12_copy_186 : decode cX12_copy 186 = .ok (.ireturn, 1) := by decide +kernel
theorem dX12_costBy_0 : decode cX12_costBy 0 = .ok (.iload_n 0, 1) := by decide +kernel
theorem dX12_costBy_1 : decode cX12_costBy 1 = .ok (.tableswitch 65 1 7 #[43, 45, 49, 51, 54, 58, 60], 43) := by decide +kernel
theorem dX12_costBy_44 : decode cX12_costBy 44 = .ok (.iconst 2, 1) := by decide +kernel
theorem dX12_costBy_45 : decode cX12_costBy 45 = .ok (.ireturn, 1) := by decide +kernel
theorem dX12_costBy_46 : decode cX12_costBy 46 = .ok (.iconst 3, 1) := by decide +kernel
theorem dX12_costBy_47 : decode cX12_costBy 47 = .ok (.iload_n 1, 1) := by decide +kernel
theorem dX12_costBy_48 : decode cX12_costBy 48 = .ok (.iadd, 1) := by decide +kernel
theorem dX12_costBy_49 : decode cX12_costBy 49 = .ok (.ireturn, 1) := by decide +kernel
theorem dX12_costBy_50 : decode cX12_costBy 50 = .ok (.iconst 4, 1) := by decide +kernel
theorem dX12_costBy_51 : decode cX12_costBy 51 = .ok (.ireturn, 1) := by decide +kernel
theorem dX12_costBy_52 : decode cX12_costBy 52 = .ok (.bipush 9, 2) := by decide +kernel
theorem dX12_costBy_54 : decode cX12_costBy 54 = .ok (.ireturn, 1) := by decide +kernel
theorem dX12_costBy_55 : decode cX12_costBy 55 = .ok (.iconst 5, 1) := by decide +kernel
theorem dX12_costBy_56 : decode cX12_costBy 56 = .ok (.iload_n 1, 1) := by decide +kernel
theorem dX12_costBy_57 : decode cX12_costBy 57 = .ok (.iadd, 1) := by decide +kernel
theorem dX12_costBy_58 : decode cX12_costBy 58 = .ok (.ireturn, 1) := by decide +kernel
theorem dX12_costBy_59 : decode cX12_costBy 59 = .ok (.iconst 4, 1) := by decide +kernel
theorem dX12_costBy_60 : decode cX12_costBy 60 = .ok (.ireturn, 1) := by decide +kernel
theorem dX12_costBy_61 : decode cX12_costBy 61 = .ok (.bipush 9, 2) := by decide +kernel
theorem dX12_costBy_63 : decode cX12_costBy 63 = .ok (.iload_n 1, 1) := by decide +kernel
theorem dX12_costBy_64 : decode cX12_costBy 64 = .ok (.iadd, 1) := by decide +kernel
theorem dX12_costBy_65 : decode cX12_costBy 65 = .ok (.ireturn, 1) := by decide +kernel
theorem dX12_costBy_66 : decode cX12_costBy 66 = .ok (.iconst 3, 1) := by decide +kernel
theorem dX12_costBy_67 : decode cX12_costBy 67 = .ok (.ireturn, 1) := by decide +kernel
theorem dX12_cost_0 : decode cX12_cost 0 = .ok (.aload_n 0, 1) := by decide +kernel
theorem dX12_cost_1 : decode cX12_cost 1 = .ok (.iload_n 1, 1) := by decide +kernel
theorem dX12_cost_2 : decode cX12_cost 2 = .ok (.invokevirtual 147, 3) := by decide +kernel
theorem dX12_cost_5 : decode cX12_cost 5 = .ok (.istore_n 2, 1) := by decide +kernel
theorem dX12_cost_6 : decode cX12_cost 6 = .ok (.iload_n 2, 1) := by decide +kernel
theorem dX12_cost_7 : decode cX12_cost 7 = .ok (.ifCond .eq 7, 3) := by decide +kernel
theorem dX12_cost_10 : decode cX12_cost 10 = .ok (.iload_n 2, 1) := by decide +kernel
theorem dX12_cost_11 : decode cX12_cost 11 = .ok (.goto 18, 3) := by decide +kernel
theorem dX12_cost_14 : decode cX12_cost 14 = .ok (.aload_n 0, 1) := by decide +kernel
theorem dX12_cost_15 : decode cX12_cost 15 = .ok (.getfield 34, 3) := by decide +kernel
theorem dX12_cost_18 : decode cX12_cost 18 = .ok (.iload_n 1, 1) := by decide +kernel
theorem dX12_cost_19 : decode cX12_cost 19 = .ok (.iaload, 1) := by decide +kernel
theorem dX12_cost_20 : decode cX12_cost 20 = .ok (.aload_n 0, 1) := by decide +kernel
theorem dX12_cost_21 : decode cX12_cost 21 = .ok (.getfield 37, 3) := by decide +kernel
theorem dX12_cost_24 : decode cX12_cost 24 = .ok (.iload_n 1, 1) := by decide +kernel
theorem dX12_cost_25 : decode cX12_cost 25 = .ok (.iaload, 1) := by decide +kernel
theorem dX12_cost_26 : decode cX12_cost 26 = .ok (.invokestatic 234, 3) := by decide +kernel
theorem dX12_cost_29 : decode cX12_cost 29 = .ok (.ireturn, 1) := by decide +kernel
theorem dX12_toss_0 : decode cX12_toss 0 = .ok (.aload_n 0, 1) := by decide +kernel
theorem dX12_toss_1 : decode cX12_toss 1 = .ok (.iload_n 1, 1) := by decide +kernel
theorem dX12_toss_2 : decode cX12_toss 2 = .ok (.invokevirtual 147, 3) := by decide +kernel
theorem dX12_toss_5 : decode cX12_toss 5 = .ok (.istore_n 2, 1) := by decide +kernel
theorem dX12_toss_6 : decode cX12_toss 6 = .ok (.iload_n 2, 1) := by decide +kernel
theorem dX12_toss_7 : decode cX12_toss 7 = .ok (.ifCond .eq 5, 3) := by decide +kernel
theorem dX12_toss_10 : decode cX12_toss 10 = .ok (.iload_n 2, 1) := by decide +kernel
theorem dX12_toss_11 : decode cX12_toss 11 = .ok (.ireturn, 1) := by decide +kernel
theorem dX12_toss_12 : decode cX12_toss 12 = .ok (.aload_n 0, 1) := by decide +kernel
theorem dX12_toss_13 : decode cX12_toss 13 = .ok (.getfield 34, 3) := by decide +kernel
theorem dX12_toss_16 : decode cX12_toss 16 = .ok (.iload_n 1, 1) := by decide +kernel
theorem dX12_toss_17 : decode cX12_toss 17 = .ok (.iaload, 1) := by decide +kernel
theorem dX12_toss_18 : decode cX12_toss 18 = .ok (.istore_n 3, 1) := by decide +kernel
theorem dX12_toss_19 : decode cX12_toss 19 = .ok (.aload_n 0, 1) := by decide +kernel
theorem dX12_toss_20 : decode cX12_toss 20 = .ok (.getfield 37, 3) := by decide +kernel
theorem dX12_toss_23 : decode cX12_toss 23 = .ok (.iload_n 1, 1) := by decide +kernel
theorem dX12_toss_24 : decode cX12_toss 24 = .ok (.iaload, 1) := by decide +kernel
theorem dX12_toss_25 : decode cX12_toss 25 = .ok (.istore 4, 2) := by decide +kernel
theorem dX12_toss_27 : decode cX12_toss 27 = .ok (.iload_n 3, 1) := by decide +kernel
theorem dX12_toss_28 : decode cX12_toss 28 = .ok (.bipush 6, 2) := by decide +kernel
theorem dX12_toss_30 : decode cX12_toss 30 = .ok (.if_icmp .eq 8, 3) := by decide +kernel
theorem dX12_toss_33 : decode cX12_toss 33 = .ok (.iload 4, 2) := by decide +kernel
theorem dX12_toss_35 : decode cX12_toss 35 = .ok (.ifCond .ne 6, 3) := by decide +kernel
theorem dX12_toss_38 : decode cX12_toss 38 = .ok (.bipush (-15), 2) := by decide +kernel
theorem dX12_toss_40 : decode cX12_toss 40 = .ok (.ireturn, 1) := by decide +kernel
theorem dX12_toss_41 : decode cX12_toss 41 = .ok (.iload_n 3, 1) := by decide +kernel
theorem dX12_toss_42 : decode cX12_toss 42 = .ok (.iconst 5, 1) := by decide +kernel
theorem dX12_toss_43 : decode cX12_toss 43 = .ok (.if_icmp .ne 16, 3) := by decide +kernel
theorem dX12_toss_46 : decode cX12_toss 46 = .ok (.sipush 200, 3) := by decide +kernel
theorem dX12_toss_49 : decode cX12_toss 49 = .ok (.iload_n 3, 1) := by decide +kernel
theorem dX12_toss_50 : decode cX12_toss 50 = .ok (.iload 4, 2) := by decide +kernel
theorem dX12_toss_52 : decode cX12_toss 52 = .ok (.invokestatic 234, 3) := by decide +kernel
theorem dX12_toss_55 : decode cX12_toss 55 = .ok (.iadd, 1) := by decide +kernel
theorem dX12_toss_56 : decode cX12_toss 56 = .ok (.goto 18, 3) := by decide +kernel
theorem dX12_toss_59 : decode cX12_toss 59 = .ok (.iload_n 3, 1) := by decide +kernel
theorem dX12_toss_60 : decode cX12_toss 60 = .ok (.iconst 2, 1) := by decide +kernel
theorem dX12_toss_61 : decode cX12_toss 61 = .ok (.if_icmp .ne 11, 3) := by decide +kernel
theorem dX12_toss_64 : decode cX12_toss 64 = .ok (.bipush 100, 2) := by decide +kernel
theorem dX12_toss_66 : decode cX12_toss 66 = .ok (.iload 4, 2) := by decide +kernel
theorem dX12_toss_68 : decode cX12_toss 68 = .ok (.iadd, 1) := by decide +kernel
theorem dX12_toss_69 : decode cX12_toss 69 = .ok (.goto 5, 3) := by decide +kernel
theorem dX12_toss_72 : decode cX12_toss 72 = .ok (.iload 4, 2) := by decide +kernel
theorem dX12_toss_74 : decode cX12_toss 74 = .ok (.ireturn, 1) := by decide +kernel
end
section
theorem dL_element_0 : decode cL_element 0 = .ok (.aload_n 3, 1) := by decide +kernel
theorem dL_element_1 : decode cL_element 1 = .ok (.iconst 0, 1) := by decide +kernel
theorem dL_element_2 : decode cL_element 2 = .ok (.aload_n 0, 1) := by decide +kernel
theorem dL_element_3 : decode cL_element 3 = .ok (.iload_n 1, 1) := by decide +kernel
theorem dL_element_4 : decode cL_element 4 = .ok (.iload_n 2, 1) := by decide +kernel
theorem dL_element_5 : decode cL_element 5 = .ok (.invokevirtual 7, 3) := by decide +kernel
theorem dL_element_8 : decode cL_element 8 = .ok (.lastore, 1) := by decide +kernel
theorem dL_element_9 : decode cL_element 9 = .ok (.goto 11, 3) := by decide +kernel
theorem dL_element_12 : decode cL_element 12 = .ok (.astore 4, 2) := by decide +kernel
theorem dL_element_14 : decode cL_element 14 = .ok (.iconst 1, 1) := by decide +kernel
theorem dL_element_15 : decode cL_element 15 = .ok (.ireturn, 1) := by decide +kernel
theorem dL_element_16 : decode cL_element 16 = .ok (.astore 4, 2) := by decide +kernel
theorem dL_element_18 : decode cL_element 18 = .ok (.iconst 2, 1) := by decide +kernel
theorem dL_element_19 : decode cL_element 19 = .ok (.ireturn, 1) := by decide +kernel
theorem dL_element_20 : decode cL_element 20 = .ok (.iconst 0, 1) := by decide +kernel
theorem dL_element_21 : decode cL_element 21 = .ok (.ireturn, 1) := by decide +kernel
theorem dL_law_0 : decode cL_law 0 = .ok (.new 8, 3) := by decide +kernel
theorem dL_law_3 : decode cL_law 3 = .ok (.dup, 1) := by decide +kernel
theorem dL_law_4 : decode cL_law 4 = .ok (.invokespecial 17, 3) := by decide +kernel
theorem dL_law_7 : decode cL_law 7 = .ok (.astore_n 1, 1) := by decide +kernel
theorem dL_law_8 : decode cL_law 8 = .ok (.new 18, 3) := by decide +kernel
theorem dL_law_11 : decode cL_law 11 = .ok (.dup, 1) := by decide +kernel
theorem dL_law_12 : decode cL_law 12 = .ok (.invokespecial 20, 3) := by decide +kernel
theorem dL_law_15 : decode cL_law 15 = .ok (.astore_n 2, 1) := by decide +kernel
theorem dL_law_16 : decode cL_law 16 = .ok (.iconst 1, 1) := by decide +kernel
theorem dL_law_17 : decode cL_law 17 = .ok (.newarray .long, 2) := by decide +kernel
theorem dL_law_19 : decode cL_law 19 = .ok (.astore_n 3, 1) := by decide +kernel
theorem dL_law_20 : decode cL_law 20 = .ok (.iconst 0, 1) := by decide +kernel
theorem dL_law_21 : decode cL_law 21 = .ok (.istore 4, 2) := by decide +kernel
theorem dL_law_23 : decode cL_law 23 = .ok (.iload 4, 2) := by decide +kernel
theorem dL_law_25 : decode cL_law 25 = .ok (.aload_n 0, 1) := by decide +kernel
theorem dL_law_26 : decode cL_law 26 = .ok (.arraylength, 1) := by decide +kernel
theorem dL_law_27 : decode cL_law 27 = .ok (.bipush 6, 2) := by decide +kernel
theorem dL_law_29 : decode cL_law 29 = .ok (.isub, 1) := by decide +kernel
theorem dL_law_30 : decode cL_law 30 = .ok (.if_icmp .gt 1684, 3) := by decide +kernel
theorem dL_law_33 : decode cL_law 33 = .ok (.aload_n 0, 1) := by decide +kernel
theorem dL_law_34 : decode cL_law 34 = .ok (.iload 4, 2) := by decide +kernel
theorem dL_law_36 : decode cL_law 36 = .ok (.iaload, 1) := by decide +kernel
theorem dL_law_37 : decode cL_law 37 = .ok (.bipush 63, 2) := by decide +kernel
theorem dL_law_39 : decode cL_law 39 = .ok (.iand, 1) := by decide +kernel
theorem dL_law_40 : decode cL_law 40 = .ok (.tableswitch 1668 0 42 #[188, 213, 250, 299, 324, 349, 374, 399, 436, 461, 498, 523, 560, 597, 622, 647, 672, 685, 722, 759, 784, 822, 860, 885, 922, 984, 1021, 1046, 1107, 1132, 1169, 1194, 1219, 1268, 1281, 1294, 1319, 1380, 1429, 1478, 1545, 1618, 1643], 188) := by decide +kernel
theorem dL_law_228 : decode cL_law 228 = .ok (.aload_n 1, 1) := by decide +kernel
theorem dL_law_229 : decode cL_law 229 = .ok (.aload_n 0, 1) := by decide +kernel
theorem dL_law_230 : decode cL_law 230 = .ok (.iload 4, 2) := by decide +kernel
theorem dL_law_232 : decode cL_law 232 = .ok (.iconst 1, 1) := by decide +kernel
theorem dL_law_233 : decode cL_law 233 = .ok (.iadd, 1) := by decide +kernel
theorem dL_law_234 : decode cL_law 234 = .ok (.iaload, 1) := by decide +kernel
theorem dL_law_235 : decode cL_law 235 = .ok (.invokevirtual 21, 3) := by decide +kernel
theorem dL_law_238 : decode cL_law 238 = .ok (.aload_n 2, 1) := by decide +kernel
theorem dL_law_239 : decode cL_law 239 = .ok (.aload_n 0, 1) := by decide +kernel
theorem dL_law_240 : decode cL_law 240 = .ok (.iload 4, 2) := by decide +kernel
theorem dL_law_242 : decode cL_law 242 = .ok (.iconst 1, 1) := by decide +kernel
theorem dL_law_243 : decode cL_law 243 = .ok (.iadd, 1) := by decide +kernel
theorem dL_law_244 : decode cL_law 244 = .ok (.iaload, 1) := by decide +kernel
theorem dL_law_245 : decode cL_law 245 = .ok (.invokevirtual 25, 3) := by decide +kernel
theorem dL_law_248 : decode cL_law 248 = .ok (.if_icmp .eq 1460, 3) := by decide +kernel
theorem dL_law_251 : decode cL_law 251 = .ok (.iconst 0, 1) := by decide +kernel
theorem dL_law_252 : decode cL_law 252 = .ok (.ireturn, 1) := by decide +kernel
theorem dL_law_253 : decode cL_law 253 = .ok (.aload_n 1, 1) := by decide +kernel
theorem dL_law_254 : decode cL_law 254 = .ok (.aload_n 0, 1) := by decide +kernel
theorem dL_law_255 : decode cL_law 255 = .ok (.iload 4, 2) := by decide +kernel
theorem dL_law_257 : decode cL_law 257 = .ok (.iconst 1, 1) := by decide +kernel
theorem dL_law_258 : decode cL_law 258 = .ok (.iadd, 1) := by decide +kernel
theorem dL_law_259 : decode cL_law 259 = .ok (.iaload, 1) := by decide +kernel
theorem dL_law_260 : decode cL_law 260 = .ok (.aload_n 0, 1) := by decide +kernel
theorem dL_law_261 : decode cL_law 261 = .ok (.iload 4, 2) := by decide +kernel
theorem dL_law_263 : decode cL_law 263 = .ok (.iconst 2, 1) := by decide +kernel
theorem dL_law_264 : decode cL_law 264 = .ok (.iadd, 1) := by decide +kernel
theorem dL_law_265 : decode cL_law 265 = .ok (.iaload, 1) := by decide +kernel
theorem dL_law_266 : decode cL_law 266 = .ok (.invokevirtual 26, 3) := by decide +kernel
theorem dL_law_269 : decode cL_law 269 = .ok (.aload_n 2, 1) := by decide +kernel
theorem dL_law_270 : decode cL_law 270 = .ok (.aload_n 0, 1) := by decide +kernel
theorem dL_law_271 : decode cL_law 271 = .ok (.iload 4, 2) := by decide +kernel
theorem dL_law_273 : decode cL_law 273 = .ok (.iconst 1, 1) := by decide +kernel
theorem dL_law_274 : decode cL_law 274 = .ok (.iadd, 1) := by decide +kernel
theorem dL_law_275 : decode cL_law 275 = .ok (.iaload, 1) := by decide +kernel
theorem dL_law_276 : decode cL_law 276 = .ok (.aload_n 0, 1) := by decide +kernel
theorem dL_law_277 : decode cL_law 277 = .ok (.iload 4, 2) := by decide +kernel
theorem dL_law_279 : decode cL_law 279 = .ok (.iconst 2, 1) := by decide +kernel
theorem dL_law_280 : decode cL_law 280 = .ok (.iadd, 1) := by decide +kernel
theorem dL_law_281 : decode cL_law 281 = .ok (.iaload, 1) := by decide +kernel
theorem dL_law_282 : decode cL_law 282 = .ok (.invokevirtual 30, 3) := by decide +kernel
theorem dL_law_285 : decode cL_law 285 = .ok (.if_icmp .eq 1423, 3) := by decide +kernel
theorem dL_law_288 : decode cL_law 288 = .ok (.iconst 0, 1) := by decide +kernel
theorem dL_law_289 : decode cL_law 289 = .ok (.ireturn, 1) := by decide +kernel
theorem dL_law_290 : decode cL_law 290 = .ok (.aload_n 1, 1) := by decide +kernel
theorem dL_law_291 : decode cL_law 291 = .ok (.aload_n 0, 1) := by decide +kernel
theorem dL_law_292 : decode cL_law 292 = .ok (.iload 4, 2) := by decide +kernel
theorem dL_law_294 : decode cL_law 294 = .ok (.iconst 1, 1) := by decide +kernel
theorem dL_law_295 : decode cL_law 295 = .ok (.iadd, 1) := by decide +kernel
theorem dL_law_296 : decode cL_law 296 = .ok (.iaload, 1) := by decide +kernel
theorem dL_law_297 : decode cL_law 297 = .ok (.aload_n 0, 1) := by decide +kernel
theorem dL_law_298 : decode cL_law 298 = .ok (.iload 4, 2) := by decide +kernel
theorem dL_law_300 : decode cL_law 300 = .ok (.iconst 2, 1) := by decide +kernel
theorem dL_law_301 : decode cL_law 301 = .ok (.iadd, 1) := by decide +kernel
theorem dL_law_302 : decode cL_law 302 = .ok (.iaload, 1) := by decide +kernel
theorem dL_law_303 : decode cL_law 303 = .ok (.aload_n 0, 1) := by decide +kernel
theorem dL_law_304 : decode cL_law 304 = .ok (.iload 4, 2) := by decide +kernel
theorem dL_law_306 : decode cL_law 306 = .ok (.iconst 3, 1) := by decide +kernel
theorem dL_law_307 : decode cL_law 307 = .ok (.iadd, 1) := by decide +kernel
theorem dL_law_308 : decode cL_law 308 = .ok (.iaload, 1) := by decide +kernel
theorem dL_law_309 : decode cL_law 309 = .ok (.invokevirtual 31, 3) := by decide +kernel
theorem dL_law_312 : decode cL_law 312 = .ok (.aload_n 2, 1) := by decide +kernel
theorem dL_law_313 : decode cL_law 313 = .ok (.aload_n 0, 1) := by decide +kernel
theorem dL_law_314 : decode cL_law 314 = .ok (.iload 4, 2) := by decide +kernel
theorem dL_law_316 : decode cL_law 316 = .ok (.iconst 1, 1) := by decide +kernel
theorem dL_law_317 : decode cL_law 317 = .ok (.iadd, 1) := by decide +kernel
theorem dL_law_318 : decode cL_law 318 = .ok (.iaload, 1) := by decide +kernel
theorem dL_law_319 : decode cL_law 319 = .ok (.aload_n 0, 1) := by decide +kernel
theorem dL_law_320 : decode cL_law 320 = .ok (.iload 4, 2) := by decide +kernel
theorem dL_law_322 : decode cL_law 322 = .ok (.iconst 2, 1) := by decide +kernel
theorem dL_law_323 : decode cL_law 323 = .ok (.iadd, 1) := by decide +kernel
theorem dL_law_324 : decode cL_law 324 = .ok (.iaload, 1) := by decide +kernel
theorem dL_law_325 : decode cL_law 325 = .ok (.aload_n 0, 1) := by decide +kernel
theorem dL_law_326 : decode cL_law 326 = .ok (.iload 4, 2) := by decide +kernel
theorem dL_law_328 : decode cL_law 328 = .ok (.iconst 3, 1) := by decide +kernel
theorem dL_law_329 : decode cL_law 329 = .ok (.iadd, 1) := by decide +kernel
theorem dL_law_330 : decode cL_law 330 = .ok (.iaload, 1) := by decide +kernel
theorem dL_law_331 : decode cL_law 331 = .ok (.invokevirtual 35, 3) := by decide +kernel
theorem dL_law_334 : decode cL_law 334 = .ok (.if_icmp .eq 1374, 3) := by decide +kernel
theorem dL_law_337 : decode cL_law 337 = .ok (.iconst 0, 1) := by decide +kernel
theorem dL_law_338 : decode cL_law 338 = .ok (.ireturn, 1) := by decide +kernel
theorem dL_law_339 : decode cL_law 339 = .ok (.aload_n 1, 1) := by decide +kernel
theorem dL_law_340 : decode cL_law 340 = .ok (.aload_n 0, 1) := by decide +kernel
theorem dL_law_341 : decode cL_law 341 = .ok (.iload 4, 2) := by decide +kernel
theorem dL_law_343 : decode cL_law 343 = .ok (.iconst 1, 1) := by decide +kernel
theorem dL_law_344 : decode cL_law 344 = .ok (.iadd, 1) := by decide +kernel
theorem dL_law_345 : decode cL_law 345 = .ok (.iaload, 1) := by decide +kernel
theorem dL_law_346 : decode cL_law 346 = .ok (.invokevirtual 36, 3) := by decide +kernel
theorem dL_law_349 : decode cL_law 349 = .ok (.aload_n 2, 1) := by decide +kernel
theorem dL_law_350 : decode cL_law 350 = .ok (.aload_n 0, 1) := by decide +kernel
theorem dL_law_351 : decode cL_law 351 = .ok (.iload 4, 2) := by decide +kernel
theorem dL_law_353 : decode cL_law 353 = .ok (.iconst 1, 1) := by decide +kernel
theorem dL_law_354 : decode cL_law 354 = .ok (.iadd, 1) := by decide +kernel
theorem dL_law_355 : decode cL_law 355 = .ok (.iaload, 1) := by decide +kernel
theorem dL_law_356 : decode cL_law 356 = .ok (.invokevirtual 39, 3) := by decide +kernel
theorem dL_law_359 : decode cL_law 359 = .ok (.if_icmp .eq 1349, 3) := by decide +kernel
theorem dL_law_362 : decode cL_law 362 = .ok (.iconst 0, 1) := by decide +kernel
theorem dL_law_363 : decode cL_law 363 = .ok (.ireturn, 1) := by decide +kernel
theorem dL_law_364 : decode cL_law 364 = .ok (.aload_n 1, 1) := by decide +kernel
theorem dL_law_365 : decode cL_law 365 = .ok (.aload_n 0, 1) := by decide +kernel
theorem dL_law_366 : decode cL_law 366 = .ok (.iload 4, 2) := by decide +kernel
theorem dL_law_368 : decode cL_law 368 = .ok (.iconst 1, 1) := by decide +kernel
theorem dL_law_369 : decode cL_law 369 = .ok (.iadd, 1) := by decide +kernel
theorem dL_law_370 : decode cL_law 370 = .ok (.iaload, 1) := by decide +kernel
theorem dL_law_371 : decode cL_law 371 = .ok (.invokevirtual 40, 3) := by decide +kernel
theorem dL_law_374 : decode cL_law 374 = .ok (.aload_n 2, 1) := by decide +kernel
theorem dL_law_375 : decode cL_law 375 = .ok (.aload_n 0, 1) := by decide +kernel
theorem dL_law_376 : decode cL_law 376 = .ok (.iload 4, 2) := by decide +kernel
theorem dL_law_378 : decode cL_law 378 = .ok (.iconst 1, 1) := by decide +kernel
theorem dL_law_379 : decode cL_law 379 = .ok (.iadd, 1) := by decide +kernel
theorem dL_law_380 : decode cL_law 380 = .ok (.iaload, 1) := by decide +kernel
theorem dL_law_381 : decode cL_law 381 = .ok (.invokevirtual 43, 3) := by decide +kernel
theorem dL_law_384 : decode cL_law 384 = .ok (.if_icmp .eq 1324, 3) := by decide +kernel
theorem dL_law_387 : decode cL_law 387 = .ok (.iconst 0, 1) := by decide +kernel
theorem dL_law_388 : decode cL_law 388 = .ok (.ireturn, 1) := by decide +kernel
theorem dL_law_389 : decode cL_law 389 = .ok (.aload_n 1, 1) := by decide +kernel
theorem dL_law_390 : decode cL_law 390 = .ok (.aload_n 0, 1) := by decide +kernel
theorem dL_law_391 : decode cL_law 391 = .ok (.iload 4, 2) := by decide +kernel
theorem dL_law_393 : decode cL_law 393 = .ok (.iconst 1, 1) := by decide +kernel
theorem dL_law_394 : decode cL_law 394 = .ok (.iadd, 1) := by decide +kernel
theorem dL_law_395 : decode cL_law 395 = .ok (.iaload, 1) := by decide +kernel
theorem dL_law_396 : decode cL_law 396 = .ok (.invokevirtual 44, 3) := by decide +kernel
theorem dL_law_399 : decode cL_law 399 = .ok (.aload_n 2, 1) := by decide +kernel
theorem dL_law_400 : decode cL_law 400 = .ok (.aload_n 0, 1) := by decide +kernel
theorem dL_law_401 : decode cL_law 401 = .ok (.iload 4, 2) := by decide +kernel
theorem dL_law_403 : decode cL_law 403 = .ok (.iconst 1, 1) := by decide +kernel
theorem dL_law_404 : decode cL_law 404 = .ok (.iadd, 1) := by decide +kernel
theorem dL_law_405 : decode cL_law 405 = .ok (.iaload, 1) := by decide +kernel
theorem dL_law_406 : decode cL_law 406 = .ok (.invokevirtual 47, 3) := by decide +kernel
theorem dL_law_409 : decode cL_law 409 = .ok (.if_icmp .eq 1299, 3) := by decide +kernel
theorem dL_law_412 : decode cL_law 412 = .ok (.iconst 0, 1) := by decide +kernel
theorem dL_law_413 : decode cL_law 413 = .ok (.ireturn, 1) := by decide +kernel
theorem dL_law_414 : decode cL_law 414 = .ok (.aload_n 1, 1) := by decide +kernel
theorem dL_law_415 : decode cL_law 415 = .ok (.aload_n 0, 1) := by decide +kernel
theorem dL_law_416 : decode cL_law 416 = .ok (.iload 4, 2) := by decide +kernel
theorem dL_law_418 : decode cL_law 418 = .ok (.iconst 1, 1) := by decide +kernel
theorem dL_law_419 : decode cL_law 419 = .ok (.iadd, 1) := by decide +kernel
theorem dL_law_420 : decode cL_law 420 = .ok (.iaload, 1) := by decide +kernel
theorem dL_law_421 : decode cL_law 421 = .ok (.invokevirtual 48, 3) := by decide +kernel
theorem dL_law_424 : decode cL_law 424 = .ok (.aload_n 2, 1) := by decide +kernel
theorem dL_law_425 : decode cL_law 425 = .ok (.aload_n 0, 1) := by decide +kernel
theorem dL_law_426 : decode cL_law 426 = .ok (.iload 4, 2) := by decide +kernel
theorem dL_law_428 : decode cL_law 428 = .ok (.iconst 1, 1) := by decide +kernel
theorem dL_law_429 : decode cL_law 429 = .ok (.iadd, 1) := by decide +kernel
theorem dL_law_430 : decode cL_law 430 = .ok (.iaload, 1) := by decide +kernel
theorem dL_law_431 : decode cL_law 431 = .ok (.invokevirtual 51, 3) := by decide +kernel
theorem dL_law_434 : decode cL_law 434 = .ok (.if_icmp .eq 1274, 3) := by decide +kernel
theorem dL_law_437 : decode cL_law 437 = .ok (.iconst 0, 1) := by decide +kernel
theorem dL_law_438 : decode cL_law 438 = .ok (.ireturn, 1) := by decide +kernel
theorem dL_law_439 : decode cL_law 439 = .ok (.aload_n 1, 1) := by decide +kernel
theorem dL_law_440 : decode cL_law 440 = .ok (.aload_n 0, 1) := by decide +kernel
theorem dL_law_441 : decode cL_law 441 = .ok (.iload 4, 2) := by decide +kernel
theorem dL_law_443 : decode cL_law 443 = .ok (.iconst 1, 1) := by decide +kernel
theorem dL_law_444 : decode cL_law 444 = .ok (.iadd, 1) := by decide +kernel
theorem dL_law_445 : decode cL_law 445 = .ok (.iaload, 1) := by decide +kernel
theorem dL_law_446 : decode cL_law 446 = .ok (.aload_n 0, 1) := by decide +kernel
theorem dL_law_447 : decode cL_law 447 = .ok (.iload 4, 2) := by decide +kernel
theorem dL_law_449 : decode cL_law 449 = .ok (.iconst 2, 1) := by decide +kernel
theorem dL_law_450 : decode cL_law 450 = .ok (.iadd, 1) := by decide +kernel
theorem dL_law_451 : decode cL_law 451 = .ok (.iaload, 1) := by decide +kernel
theorem dL_law_452 : decode cL_law 452 = .ok (.invokevirtual 52, 3) := by decide +kernel
theorem dL_law_455 : decode cL_law 455 = .ok (.aload_n 2, 1) := by decide +kernel
theorem dL_law_456 : decode cL_law 456 = .ok (.aload_n 0, 1) := by decide +kernel
theorem dL_law_457 : decode cL_law 457 = .ok (.iload 4, 2) := by decide +kernel
theorem dL_law_459 : decode cL_law 459 = .ok (.iconst 1, 1) := by decide +kernel
theorem dL_law_460 : decode cL_law 460 = .ok (.iadd, 1) := by decide +kernel
theorem dL_law_461 : decode cL_law 461 = .ok (.iaload, 1) := by decide +kernel
theorem dL_law_462 : decode cL_law 462 = .ok (.aload_n 0, 1) := by decide +kernel
theorem dL_law_463 : decode cL_law 463 = .ok (.iload 4, 2) := by decide +kernel
theorem dL_law_465 : decode cL_law 465 = .ok (.iconst 2, 1) := by decide +kernel
theorem dL_law_466 : decode cL_law 466 = .ok (.iadd, 1) := by decide +kernel
theorem dL_law_467 : decode cL_law 467 = .ok (.iaload, 1) := by decide +kernel
theorem dL_law_468 : decode cL_law 468 = .ok (.invokevirtual 55, 3) := by decide +kernel
theorem dL_law_471 : decode cL_law 471 = .ok (.if_icmp .eq 1237, 3) := by decide +kernel
theorem dL_law_474 : decode cL_law 474 = .ok (.iconst 0, 1) := by decide +kernel
theorem dL_law_475 : decode cL_law 475 = .ok (.ireturn, 1) := by decide +kernel
theorem dL_law_476 : decode cL_law 476 = .ok (.aload_n 1, 1) := by decide +kernel
theorem dL_law_477 : decode cL_law 477 = .ok (.aload_n 0, 1) := by decide +kernel
theorem dL_law_478 : decode cL_law 478 = .ok (.iload 4, 2) := by decide +kernel
theorem dL_law_480 : decode cL_law 480 = .ok (.iconst 1, 1) := by decide +kernel
theorem dL_law_481 : decode cL_law 481 = .ok (.iadd, 1) := by decide +kernel
theorem dL_law_482 : decode cL_law 482 = .ok (.iaload, 1) := by decide +kernel
theorem dL_law_483 : decode cL_law 483 = .ok (.invokevirtual 56, 3) := by decide +kernel
theorem dL_law_486 : decode cL_law 486 = .ok (.aload_n 2, 1) := by decide +kernel
theorem dL_law_487 : decode cL_law 487 = .ok (.aload_n 0, 1) := by decide +kernel
theorem dL_law_488 : decode cL_law 488 = .ok (.iload 4, 2) := by decide +kernel
theorem dL_law_490 : decode cL_law 490 = .ok (.iconst 1, 1) := by decide +kernel
theorem dL_law_491 : decode cL_law 491 = .ok (.iadd, 1) := by decide +kernel
theorem dL_law_492 : decode cL_law 492 = .ok (.iaload, 1) := by decide +kernel
theorem dL_law_493 : decode cL_law 493 = .ok (.invokevirtual 59, 3) := by decide +kernel
theorem dL_law_496 : decode cL_law 496 = .ok (.if_icmp .eq 1212, 3) := by decide +kernel
theorem dL_law_499 : decode cL_law 499 = .ok (.iconst 0, 1) := by decide +kernel
theorem dL_law_500 : decode cL_law 500 = .ok (.ireturn, 1) := by decide +kernel
theorem dL_law_501 : decode cL_law 501 = .ok (.aload_n 1, 1) := by decide +kernel
theorem dL_law_502 : decode cL_law 502 = .ok (.aload_n 0, 1) := by decide +kernel
theorem dL_law_503 : decode cL_law 503 = .ok (.iload 4, 2) := by decide +kernel
theorem dL_law_505 : decode cL_law 505 = .ok (.iconst 1, 1) := by decide +kernel
theorem dL_law_506 : decode cL_law 506 = .ok (.iadd, 1) := by decide +kernel
theorem dL_law_507 : decode cL_law 507 = .ok (.iaload, 1) := by decide +kernel
theorem dL_law_508 : decode cL_law 508 = .ok (.aload_n 0, 1) := by decide +kernel
theorem dL_law_509 : decode cL_law 509 = .ok (.iload 4, 2) := by decide +kernel
theorem dL_law_511 : decode cL_law 511 = .ok (.iconst 2, 1) := by decide +kernel
theorem dL_law_512 : decode cL_law 512 = .ok (.iadd, 1) := by decide +kernel
theorem dL_law_513 : decode cL_law 513 = .ok (.iaload, 1) := by decide +kernel
theorem dL_law_514 : decode cL_law 514 = .ok (.invokevirtual 60, 3) := by decide +kernel
theorem dL_law_517 : decode cL_law 517 = .ok (.aload_n 2, 1) := by decide +kernel
theorem dL_law_518 : decode cL_law 518 = .ok (.aload_n 0, 1) := by decide +kernel
theorem dL_law_519 : decode cL_law 519 = .ok (.iload 4, 2) := by decide +kernel
theorem dL_law_521 : decode cL_law 521 = .ok (.iconst 1, 1) := by decide +kernel
theorem dL_law_522 : decode cL_law 522 = .ok (.iadd, 1) := by decide +kernel
theorem dL_law_523 : decode cL_law 523 = .ok (.iaload, 1) := by decide +kernel
theorem dL_law_524 : decode cL_law 524 = .ok (.aload_n 0, 1) := by decide +kernel
theorem dL_law_525 : decode cL_law 525 = .ok (.iload 4, 2) := by decide +kernel
theorem dL_law_527 : decode cL_law 527 = .ok (.iconst 2, 1) := by decide +kernel
theorem dL_law_528 : decode cL_law 528 = .ok (.iadd, 1) := by decide +kernel
theorem dL_law_529 : decode cL_law 529 = .ok (.iaload, 1) := by decide +kernel
theorem dL_law_530 : decode cL_law 530 = .ok (.invokevirtual 63, 3) := by decide +kernel
theorem dL_law_533 : decode cL_law 533 = .ok (.if_icmp .eq 1175, 3) := by decide +kernel
theorem dL_law_536 : decode cL_law 536 = .ok (.iconst 0, 1) := by decide +kernel
theorem dL_law_537 : decode cL_law 537 = .ok (.ireturn, 1) := by decide +kernel
theorem dL_law_538 : decode cL_law 538 = .ok (.aload_n 1, 1) := by decide +kernel
theorem dL_law_539 : decode cL_law 539 = .ok (.aload_n 0, 1) := by decide +kernel
theorem dL_law_540 : decode cL_law 540 = .ok (.iload 4, 2) := by decide +kernel
theorem dL_law_542 : decode cL_law 542 = .ok (.iconst 1, 1) := by decide +kernel
theorem dL_law_543 : decode cL_law 543 = .ok (.iadd, 1) := by decide +kernel
theorem dL_law_544 : decode cL_law 544 = .ok (.iaload, 1) := by decide +kernel
theorem dL_law_545 : decode cL_law 545 = .ok (.invokevirtual 64, 3) := by decide +kernel
theorem dL_law_548 : decode cL_law 548 = .ok (.aload_n 2, 1) := by decide +kernel
theorem dL_law_549 : decode cL_law 549 = .ok (.aload_n 0, 1) := by decide +kernel
theorem dL_law_550 : decode cL_law 550 = .ok (.iload 4, 2) := by decide +kernel
theorem dL_law_552 : decode cL_law 552 = .ok (.iconst 1, 1) := by decide +kernel
theorem dL_law_553 : decode cL_law 553 = .ok (.iadd, 1) := by decide +kernel
theorem dL_law_554 : decode cL_law 554 = .ok (.iaload, 1) := by decide +kernel
theorem dL_law_555 : decode cL_law 555 = .ok (.invokevirtual 67, 3) := by decide +kernel
theorem dL_law_558 : decode cL_law 558 = .ok (.if_icmp .eq 1150, 3) := by decide +kernel
theorem dL_law_561 : decode cL_law 561 = .ok (.iconst 0, 1) := by decide +kernel
theorem dL_law_562 : decode cL_law 562 = .ok (.ireturn, 1) := by decide +kernel
theorem dL_law_563 : decode cL_law 563 = .ok (.aload_n 1, 1) := by decide +kernel
theorem dL_law_564 : decode cL_law 564 = .ok (.aload_n 0, 1) := by decide +kernel
theorem dL_law_565 : decode cL_law 565 = .ok (.iload 4, 2) := by decide +kernel
theorem dL_law_567 : decode cL_law 567 = .ok (.iconst 1, 1) := by decide +kernel
theorem dL_law_568 : decode cL_law 568 = .ok (.iadd, 1) := by decide +kernel
theorem dL_law_569 : decode cL_law 569 = .ok (.iaload, 1) := by decide +kernel
theorem dL_law_570 : decode cL_law 570 = .ok (.aload_n 0, 1) := by decide +kernel
theorem dL_law_571 : decode cL_law 571 = .ok (.iload 4, 2) := by decide +kernel
theorem dL_law_573 : decode cL_law 573 = .ok (.iconst 2, 1) := by decide +kernel
theorem dL_law_574 : decode cL_law 574 = .ok (.iadd, 1) := by decide +kernel
theorem dL_law_575 : decode cL_law 575 = .ok (.iaload, 1) := by decide +kernel
theorem dL_law_576 : decode cL_law 576 = .ok (.invokevirtual 68, 3) := by decide +kernel
theorem dL_law_579 : decode cL_law 579 = .ok (.aload_n 2, 1) := by decide +kernel
theorem dL_law_580 : decode cL_law 580 = .ok (.aload_n 0, 1) := by decide +kernel
theorem dL_law_581 : decode cL_law 581 = .ok (.iload 4, 2) := by decide +kernel
theorem dL_law_583 : decode cL_law 583 = .ok (.iconst 1, 1) := by decide +kernel
theorem dL_law_584 : decode cL_law 584 = .ok (.iadd, 1) := by decide +kernel
theorem dL_law_585 : decode cL_law 585 = .ok (.iaload, 1) := by decide +kernel
theorem dL_law_586 : decode cL_law 586 = .ok (.aload_n 0, 1) := by decide +kernel
theorem dL_law_587 : decode cL_law 587 = .ok (.iload 4, 2) := by decide +kernel
theorem dL_law_589 : decode cL_law 589 = .ok (.iconst 2, 1) := by decide +kernel
theorem dL_law_590 : decode cL_law 590 = .ok (.iadd, 1) := by decide +kernel
theorem dL_law_591 : decode cL_law 591 = .ok (.iaload, 1) := by decide +kernel
theorem dL_law_592 : decode cL_law 592 = .ok (.invokevirtual 71, 3) := by decide +kernel
theorem dL_law_595 : decode cL_law 595 = .ok (.if_icmp .eq 1113, 3) := by decide +kernel
theorem dL_law_598 : decode cL_law 598 = .ok (.iconst 0, 1) := by decide +kernel
theorem dL_law_599 : decode cL_law 599 = .ok (.ireturn, 1) := by decide +kernel
theorem dL_law_600 : decode cL_law 600 = .ok (.aload_n 1, 1) := by decide +kernel
theorem dL_law_601 : decode cL_law 601 = .ok (.aload_n 0, 1) := by decide +kernel
theorem dL_law_602 : decode cL_law 602 = .ok (.iload 4, 2) := by decide +kernel
theorem dL_law_604 : decode cL_law 604 = .ok (.iconst 1, 1) := by decide +kernel
theorem dL_law_605 : decode cL_law 605 = .ok (.iadd, 1) := by decide +kernel
theorem dL_law_606 : decode cL_law 606 = .ok (.iaload, 1) := by decide +kernel
theorem dL_law_607 : decode cL_law 607 = .ok (.aload_n 0, 1) := by decide +kernel
theorem dL_law_608 : decode cL_law 608 = .ok (.iload 4, 2) := by decide +kernel
theorem dL_law_610 : decode cL_law 610 = .ok (.iconst 2, 1) := by decide +kernel
theorem dL_law_611 : decode cL_law 611 = .ok (.iadd, 1) := by decide +kernel
theorem dL_law_612 : decode cL_law 612 = .ok (.iaload, 1) := by decide +kernel
theorem dL_law_613 : decode cL_law 613 = .ok (.invokevirtual 72, 3) := by decide +kernel
theorem dL_law_616 : decode cL_law 616 = .ok (.aload_n 2, 1) := by decide +kernel
theorem dL_law_617 : decode cL_law 617 = .ok (.aload_n 0, 1) := by decide +kernel
theorem dL_law_618 : decode cL_law 618 = .ok (.iload 4, 2) := by decide +kernel
theorem dL_law_620 : decode cL_law 620 = .ok (.iconst 1, 1) := by decide +kernel
theorem dL_law_621 : decode cL_law 621 = .ok (.iadd, 1) := by decide +kernel
theorem dL_law_622 : decode cL_law 622 = .ok (.iaload, 1) := by decide +kernel
theorem dL_law_623 : decode cL_law 623 = .ok (.aload_n 0, 1) := by decide +kernel
theorem dL_law_624 : decode cL_law 624 = .ok (.iload 4, 2) := by decide +kernel
theorem dL_law_626 : decode cL_law 626 = .ok (.iconst 2, 1) := by decide +kernel
theorem dL_law_627 : decode cL_law 627 = .ok (.iadd, 1) := by decide +kernel
theorem dL_law_628 : decode cL_law 628 = .ok (.iaload, 1) := by decide +kernel
theorem dL_law_629 : decode cL_law 629 = .ok (.invokevirtual 75, 3) := by decide +kernel
theorem dL_law_632 : decode cL_law 632 = .ok (.if_icmp .eq 1076, 3) := by decide +kernel
theorem dL_law_635 : decode cL_law 635 = .ok (.iconst 0, 1) := by decide +kernel
theorem dL_law_636 : decode cL_law 636 = .ok (.ireturn, 1) := by decide +kernel
theorem dL_law_637 : decode cL_law 637 = .ok (.aload_n 1, 1) := by decide +kernel
theorem dL_law_638 : decode cL_law 638 = .ok (.aload_n 0, 1) := by decide +kernel
theorem dL_law_639 : decode cL_law 639 = .ok (.iload 4, 2) := by decide +kernel
theorem dL_law_641 : decode cL_law 641 = .ok (.iconst 1, 1) := by decide +kernel
theorem dL_law_642 : decode cL_law 642 = .ok (.iadd, 1) := by decide +kernel
theorem dL_law_643 : decode cL_law 643 = .ok (.iaload, 1) := by decide +kernel
theorem dL_law_644 : decode cL_law 644 = .ok (.invokevirtual 76, 3) := by decide +kernel
theorem dL_law_647 : decode cL_law 647 = .ok (.aload_n 2, 1) := by decide +kernel
theorem dL_law_648 : decode cL_law 648 = .ok (.aload_n 0, 1) := by decide +kernel
theorem dL_law_649 : decode cL_law 649 = .ok (.iload 4, 2) := by decide +kernel
theorem dL_law_651 : decode cL_law 651 = .ok (.iconst 1, 1) := by decide +kernel
theorem dL_law_652 : decode cL_law 652 = .ok (.iadd, 1) := by decide +kernel
theorem dL_law_653 : decode cL_law 653 = .ok (.iaload, 1) := by decide +kernel
theorem dL_law_654 : decode cL_law 654 = .ok (.invokevirtual 79, 3) := by decide +kernel
theorem dL_law_657 : decode cL_law 657 = .ok (.if_icmp .eq 1051, 3) := by decide +kernel
theorem dL_law_660 : decode cL_law 660 = .ok (.iconst 0, 1) := by decide +kernel
theorem dL_law_661 : decode cL_law 661 = .ok (.ireturn, 1) := by decide +kernel
theorem dL_law_662 : decode cL_law 662 = .ok (.aload_n 1, 1) := by decide +kernel
theorem dL_law_663 : decode cL_law 663 = .ok (.aload_n 0, 1) := by decide +kernel
theorem dL_law_664 : decode cL_law 664 = .ok (.iload 4, 2) := by decide +kernel
theorem dL_law_666 : decode cL_law 666 = .ok (.iconst 1, 1) := by decide +kernel
theorem dL_law_667 : decode cL_law 667 = .ok (.iadd, 1) := by decide +kernel
theorem dL_law_668 : decode cL_law 668 = .ok (.iaload, 1) := by decide +kernel
theorem dL_law_669 : decode cL_law 669 = .ok (.invokevirtual 80, 3) := by decide +kernel
theorem dL_law_672 : decode cL_law 672 = .ok (.aload_n 2, 1) := by decide +kernel
theorem dL_law_673 : decode cL_law 673 = .ok (.aload_n 0, 1) := by decide +kernel
theorem dL_law_674 : decode cL_law 674 = .ok (.iload 4, 2) := by decide +kernel
theorem dL_law_676 : decode cL_law 676 = .ok (.iconst 1, 1) := by decide +kernel
theorem dL_law_677 : decode cL_law 677 = .ok (.iadd, 1) := by decide +kernel
theorem dL_law_678 : decode cL_law 678 = .ok (.iaload, 1) := by decide +kernel
theorem dL_law_679 : decode cL_law 679 = .ok (.invokevirtual 83, 3) := by decide +kernel
theorem dL_law_682 : decode cL_law 682 = .ok (.if_icmp .eq 1026, 3) := by decide +kernel
theorem dL_law_685 : decode cL_law 685 = .ok (.iconst 0, 1) := by decide +kernel
theorem dL_law_686 : decode cL_law 686 = .ok (.ireturn, 1) := by decide +kernel
theorem dL_law_687 : decode cL_law 687 = .ok (.aload_n 1, 1) := by decide +kernel
theorem dL_law_688 : decode cL_law 688 = .ok (.aload_n 0, 1) := by decide +kernel
theorem dL_law_689 : decode cL_law 689 = .ok (.iload 4, 2) := by decide +kernel
theorem dL_law_691 : decode cL_law 691 = .ok (.iconst 1, 1) := by decide +kernel
theorem dL_law_692 : decode cL_law 692 = .ok (.iadd, 1) := by decide +kernel
theorem dL_law_693 : decode cL_law 693 = .ok (.iaload, 1) := by decide +kernel
theorem dL_law_694 : decode cL_law 694 = .ok (.invokevirtual 84, 3) := by decide +kernel
theorem dL_law_697 : decode cL_law 697 = .ok (.aload_n 2, 1) := by decide +kernel
theorem dL_law_698 : decode cL_law 698 = .ok (.aload_n 0, 1) := by decide +kernel
theorem dL_law_699 : decode cL_law 699 = .ok (.iload 4, 2) := by decide +kernel
theorem dL_law_701 : decode cL_law 701 = .ok (.iconst 1, 1) := by decide +kernel
theorem dL_law_702 : decode cL_law 702 = .ok (.iadd, 1) := by decide +kernel
theorem dL_law_703 : decode cL_law 703 = .ok (.iaload, 1) := by decide +kernel
theorem dL_law_704 : decode cL_law 704 = .ok (.invokevirtual 87, 3) := by decide +kernel
theorem dL_law_707 : decode cL_law 707 = .ok (.if_icmp .eq 1001, 3) := by decide +kernel
theorem dL_law_710 : decode cL_law 710 = .ok (.iconst 0, 1) := by decide +kernel
theorem dL_law_711 : decode cL_law 711 = .ok (.ireturn, 1) := by decide +kernel
theorem dL_law_712 : decode cL_law 712 = .ok (.aload_n 1, 1) := by decide +kernel
theorem dL_law_713 : decode cL_law 713 = .ok (.invokevirtual 88, 3) := by decide +kernel
theorem dL_law_716 : decode cL_law 716 = .ok (.aload_n 2, 1) := by decide +kernel
theorem dL_law_717 : decode cL_law 717 = .ok (.invokevirtual 92, 3) := by decide +kernel
theorem dL_law_720 : decode cL_law 720 = .ok (.if_icmp .eq 988, 3) := by decide +kernel
theorem dL_law_723 : decode cL_law 723 = .ok (.iconst 0, 1) := by decide +kernel
theorem dL_law_724 : decode cL_law 724 = .ok (.ireturn, 1) := by decide +kernel
theorem dL_law_725 : decode cL_law 725 = .ok (.aload_n 1, 1) := by decide +kernel
theorem dL_law_726 : decode cL_law 726 = .ok (.aload_n 0, 1) := by decide +kernel
theorem dL_law_727 : decode cL_law 727 = .ok (.iload 4, 2) := by decide +kernel
theorem dL_law_729 : decode cL_law 729 = .ok (.iconst 1, 1) := by decide +kernel
theorem dL_law_730 : decode cL_law 730 = .ok (.iadd, 1) := by decide +kernel
theorem dL_law_731 : decode cL_law 731 = .ok (.iaload, 1) := by decide +kernel
theorem dL_law_732 : decode cL_law 732 = .ok (.aload_n 0, 1) := by decide +kernel
theorem dL_law_733 : decode cL_law 733 = .ok (.iload 4, 2) := by decide +kernel
theorem dL_law_735 : decode cL_law 735 = .ok (.iconst 2, 1) := by decide +kernel
theorem dL_law_736 : decode cL_law 736 = .ok (.iadd, 1) := by decide +kernel
theorem dL_law_737 : decode cL_law 737 = .ok (.iaload, 1) := by decide +kernel
theorem dL_law_738 : decode cL_law 738 = .ok (.invokevirtual 93, 3) := by decide +kernel
theorem dL_law_741 : decode cL_law 741 = .ok (.aload_n 2, 1) := by decide +kernel
theorem dL_law_742 : decode cL_law 742 = .ok (.aload_n 0, 1) := by decide +kernel
theorem dL_law_743 : decode cL_law 743 = .ok (.iload 4, 2) := by decide +kernel
theorem dL_law_745 : decode cL_law 745 = .ok (.iconst 1, 1) := by decide +kernel
theorem dL_law_746 : decode cL_law 746 = .ok (.iadd, 1) := by decide +kernel
theorem dL_law_747 : decode cL_law 747 = .ok (.iaload, 1) := by decide +kernel
theorem dL_law_748 : decode cL_law 748 = .ok (.aload_n 0, 1) := by decide +kernel
theorem dL_law_749 : decode cL_law 749 = .ok (.iload 4, 2) := by decide +kernel
theorem dL_law_751 : decode cL_law 751 = .ok (.iconst 2, 1) := by decide +kernel
theorem dL_law_752 : decode cL_law 752 = .ok (.iadd, 1) := by decide +kernel
theorem dL_law_753 : decode cL_law 753 = .ok (.iaload, 1) := by decide +kernel
theorem dL_law_754 : decode cL_law 754 = .ok (.invokevirtual 96, 3) := by decide +kernel
theorem dL_law_757 : decode cL_law 757 = .ok (.if_icmp .eq 951, 3) := by decide +kernel
theorem dL_law_760 : decode cL_law 760 = .ok (.iconst 0, 1) := by decide +kernel
theorem dL_law_761 : decode cL_law 761 = .ok (.ireturn, 1) := by decide +kernel
theorem dL_law_762 : decode cL_law 762 = .ok (.aload_n 1, 1) := by decide +kernel
theorem dL_law_763 : decode cL_law 763 = .ok (.aload_n 0, 1) := by decide +kernel
theorem dL_law_764 : decode cL_law 764 = .ok (.iload 4, 2) := by decide +kernel
theorem dL_law_766 : decode cL_law 766 = .ok (.iconst 1, 1) := by decide +kernel
theorem dL_law_767 : decode cL_law 767 = .ok (.iadd, 1) := by decide +kernel
theorem dL_law_768 : decode cL_law 768 = .ok (.iaload, 1) := by decide +kernel
theorem dL_law_769 : decode cL_law 769 = .ok (.aload_n 0, 1) := by decide +kernel
theorem dL_law_770 : decode cL_law 770 = .ok (.iload 4, 2) := by decide +kernel
theorem dL_law_772 : decode cL_law 772 = .ok (.iconst 2, 1) := by decide +kernel
theorem dL_law_773 : decode cL_law 773 = .ok (.iadd, 1) := by decide +kernel
theorem dL_law_774 : decode cL_law 774 = .ok (.iaload, 1) := by decide +kernel
theorem dL_law_775 : decode cL_law 775 = .ok (.invokevirtual 97, 3) := by decide +kernel
theorem dL_law_778 : decode cL_law 778 = .ok (.aload_n 2, 1) := by decide +kernel
theorem dL_law_779 : decode cL_law 779 = .ok (.aload_n 0, 1) := by decide +kernel
theorem dL_law_780 : decode cL_law 780 = .ok (.iload 4, 2) := by decide +kernel
theorem dL_law_782 : decode cL_law 782 = .ok (.iconst 1, 1) := by decide +kernel
theorem dL_law_783 : decode cL_law 783 = .ok (.iadd, 1) := by decide +kernel
theorem dL_law_784 : decode cL_law 784 = .ok (.iaload, 1) := by decide +kernel
theorem dL_law_785 : decode cL_law 785 = .ok (.aload_n 0, 1) := by decide +kernel
theorem dL_law_786 : decode cL_law 786 = .ok (.iload 4, 2) := by decide +kernel
theorem dL_law_788 : decode cL_law 788 = .ok (.iconst 2, 1) := by decide +kernel
theorem dL_law_789 : decode cL_law 789 = .ok (.iadd, 1) := by decide +kernel
theorem dL_law_790 : decode cL_law 790 = .ok (.iaload, 1) := by decide +kernel
theorem dL_law_791 : decode cL_law 791 = .ok (.invokevirtual 100, 3) := by decide +kernel
theorem dL_law_794 : decode cL_law 794 = .ok (.if_icmp .eq 914, 3) := by decide +kernel
theorem dL_law_797 : decode cL_law 797 = .ok (.iconst 0, 1) := by decide +kernel
theorem dL_law_798 : decode cL_law 798 = .ok (.ireturn, 1) := by decide +kernel
theorem dL_law_799 : decode cL_law 799 = .ok (.aload_n 1, 1) := by decide +kernel
theorem dL_law_800 : decode cL_law 800 = .ok (.aload_n 0, 1) := by decide +kernel
theorem dL_law_801 : decode cL_law 801 = .ok (.iload 4, 2) := by decide +kernel
theorem dL_law_803 : decode cL_law 803 = .ok (.iconst 1, 1) := by decide +kernel
theorem dL_law_804 : decode cL_law 804 = .ok (.iadd, 1) := by decide +kernel
theorem dL_law_805 : decode cL_law 805 = .ok (.iaload, 1) := by decide +kernel
theorem dL_law_806 : decode cL_law 806 = .ok (.invokevirtual 101, 3) := by decide +kernel
theorem dL_law_809 : decode cL_law 809 = .ok (.aload_n 2, 1) := by decide +kernel
theorem dL_law_810 : decode cL_law 810 = .ok (.aload_n 0, 1) := by decide +kernel
theorem dL_law_811 : decode cL_law 811 = .ok (.iload 4, 2) := by decide +kernel
theorem dL_law_813 : decode cL_law 813 = .ok (.iconst 1, 1) := by decide +kernel
theorem dL_law_814 : decode cL_law 814 = .ok (.iadd, 1) := by decide +kernel
theorem dL_law_815 : decode cL_law 815 = .ok (.iaload, 1) := by decide +kernel
theorem dL_law_816 : decode cL_law 816 = .ok (.invokevirtual 104, 3) := by decide +kernel
theorem dL_law_819 : decode cL_law 819 = .ok (.if_icmp .eq 889, 3) := by decide +kernel
theorem dL_law_822 : decode cL_law 822 = .ok (.iconst 0, 1) := by decide +kernel
theorem dL_law_823 : decode cL_law 823 = .ok (.ireturn, 1) := by decide +kernel
theorem dL_law_824 : decode cL_law 824 = .ok (.aload_n 1, 1) := by decide +kernel
theorem dL_law_825 : decode cL_law 825 = .ok (.aload_n 0, 1) := by decide +kernel
theorem dL_law_826 : decode cL_law 826 = .ok (.iload 4, 2) := by decide +kernel
theorem dL_law_828 : decode cL_law 828 = .ok (.iconst 1, 1) := by decide +kernel
theorem dL_law_829 : decode cL_law 829 = .ok (.iadd, 1) := by decide +kernel
theorem dL_law_830 : decode cL_law 830 = .ok (.iaload, 1) := by decide +kernel
theorem dL_law_831 : decode cL_law 831 = .ok (.aload_n 0, 1) := by decide +kernel
theorem dL_law_832 : decode cL_law 832 = .ok (.iload 4, 2) := by decide +kernel
theorem dL_law_834 : decode cL_law 834 = .ok (.iconst 2, 1) := by decide +kernel
theorem dL_law_835 : decode cL_law 835 = .ok (.iadd, 1) := by decide +kernel
theorem dL_law_836 : decode cL_law 836 = .ok (.iaload, 1) := by decide +kernel
theorem dL_law_837 : decode cL_law 837 = .ok (.invokevirtual 105, 3) := by decide +kernel
theorem dL_law_840 : decode cL_law 840 = .ok (.aload_n 2, 1) := by decide +kernel
theorem dL_law_841 : decode cL_law 841 = .ok (.aload_n 0, 1) := by decide +kernel
theorem dL_law_842 : decode cL_law 842 = .ok (.iload 4, 2) := by decide +kernel
theorem dL_law_844 : decode cL_law 844 = .ok (.iconst 1, 1) := by decide +kernel
theorem dL_law_845 : decode cL_law 845 = .ok (.iadd, 1) := by decide +kernel
theorem dL_law_846 : decode cL_law 846 = .ok (.iaload, 1) := by decide +kernel
theorem dL_law_847 : decode cL_law 847 = .ok (.aload_n 0, 1) := by decide +kernel
theorem dL_law_848 : decode cL_law 848 = .ok (.iload 4, 2) := by decide +kernel
theorem dL_law_850 : decode cL_law 850 = .ok (.iconst 2, 1) := by decide +kernel
theorem dL_law_851 : decode cL_law 851 = .ok (.iadd, 1) := by decide +kernel
theorem dL_law_852 : decode cL_law 852 = .ok (.iaload, 1) := by decide +kernel
theorem dL_law_853 : decode cL_law 853 = .ok (.invokevirtual 108, 3) := by decide +kernel
theorem dL_law_856 : decode cL_law 856 = .ok (.lcmp, 1) := by decide +kernel
theorem dL_law_857 : decode cL_law 857 = .ok (.ifCond .eq 851, 3) := by decide +kernel
theorem dL_law_860 : decode cL_law 860 = .ok (.iconst 0, 1) := by decide +kernel
theorem dL_law_861 : decode cL_law 861 = .ok (.ireturn, 1) := by decide +kernel
theorem dL_law_862 : decode cL_law 862 = .ok (.aload_n 1, 1) := by decide +kernel
theorem dL_law_863 : decode cL_law 863 = .ok (.aload_n 0, 1) := by decide +kernel
theorem dL_law_864 : decode cL_law 864 = .ok (.iload 4, 2) := by decide +kernel
theorem dL_law_866 : decode cL_law 866 = .ok (.iconst 1, 1) := by decide +kernel
theorem dL_law_867 : decode cL_law 867 = .ok (.iadd, 1) := by decide +kernel
theorem dL_law_868 : decode cL_law 868 = .ok (.iaload, 1) := by decide +kernel
theorem dL_law_869 : decode cL_law 869 = .ok (.aload_n 0, 1) := by decide +kernel
theorem dL_law_870 : decode cL_law 870 = .ok (.iload 4, 2) := by decide +kernel
theorem dL_law_872 : decode cL_law 872 = .ok (.iconst 2, 1) := by decide +kernel
theorem dL_law_873 : decode cL_law 873 = .ok (.iadd, 1) := by decide +kernel
theorem dL_law_874 : decode cL_law 874 = .ok (.iaload, 1) := by decide +kernel
theorem dL_law_875 : decode cL_law 875 = .ok (.invokevirtual 109, 3) := by decide +kernel
theorem dL_law_878 : decode cL_law 878 = .ok (.aload_n 2, 1) := by decide +kernel
theorem dL_law_879 : decode cL_law 879 = .ok (.aload_n 0, 1) := by decide +kernel
theorem dL_law_880 : decode cL_law 880 = .ok (.iload 4, 2) := by decide +kernel
theorem dL_law_882 : decode cL_law 882 = .ok (.iconst 1, 1) := by decide +kernel
theorem dL_law_883 : decode cL_law 883 = .ok (.iadd, 1) := by decide +kernel
theorem dL_law_884 : decode cL_law 884 = .ok (.iaload, 1) := by decide +kernel
theorem dL_law_885 : decode cL_law 885 = .ok (.aload_n 0, 1) := by decide +kernel
theorem dL_law_886 : decode cL_law 886 = .ok (.iload 4, 2) := by decide +kernel
theorem dL_law_888 : decode cL_law 888 = .ok (.iconst 2, 1) := by decide +kernel
theorem dL_law_889 : decode cL_law 889 = .ok (.iadd, 1) := by decide +kernel
theorem dL_law_890 : decode cL_law 890 = .ok (.iaload, 1) := by decide +kernel
theorem dL_law_891 : decode cL_law 891 = .ok (.invokevirtual 112, 3) := by decide +kernel
theorem dL_law_894 : decode cL_law 894 = .ok (.lcmp, 1) := by decide +kernel
theorem dL_law_895 : decode cL_law 895 = .ok (.ifCond .eq 813, 3) := by decide +kernel
theorem dL_law_898 : decode cL_law 898 = .ok (.iconst 0, 1) := by decide +kernel
theorem dL_law_899 : decode cL_law 899 = .ok (.ireturn, 1) := by decide +kernel
theorem dL_law_900 : decode cL_law 900 = .ok (.aload_n 1, 1) := by decide +kernel
theorem dL_law_901 : decode cL_law 901 = .ok (.aload_n 0, 1) := by decide +kernel
theorem dL_law_902 : decode cL_law 902 = .ok (.iload 4, 2) := by decide +kernel
theorem dL_law_904 : decode cL_law 904 = .ok (.iconst 1, 1) := by decide +kernel
theorem dL_law_905 : decode cL_law 905 = .ok (.iadd, 1) := by decide +kernel
theorem dL_law_906 : decode cL_law 906 = .ok (.iaload, 1) := by decide +kernel
theorem dL_law_907 : decode cL_law 907 = .ok (.invokevirtual 113, 3) := by decide +kernel
theorem dL_law_910 : decode cL_law 910 = .ok (.aload_n 2, 1) := by decide +kernel
theorem dL_law_911 : decode cL_law 911 = .ok (.aload_n 0, 1) := by decide +kernel
theorem dL_law_912 : decode cL_law 912 = .ok (.iload 4, 2) := by decide +kernel
theorem dL_law_914 : decode cL_law 914 = .ok (.iconst 1, 1) := by decide +kernel
theorem dL_law_915 : decode cL_law 915 = .ok (.iadd, 1) := by decide +kernel
theorem dL_law_916 : decode cL_law 916 = .ok (.iaload, 1) := by decide +kernel
theorem dL_law_917 : decode cL_law 917 = .ok (.invokevirtual 116, 3) := by decide +kernel
theorem dL_law_920 : decode cL_law 920 = .ok (.if_icmp .eq 788, 3) := by decide +kernel
theorem dL_law_923 : decode cL_law 923 = .ok (.iconst 0, 1) := by decide +kernel
theorem dL_law_924 : decode cL_law 924 = .ok (.ireturn, 1) := by decide +kernel
theorem dL_law_925 : decode cL_law 925 = .ok (.aload_n 1, 1) := by decide +kernel
theorem dL_law_926 : decode cL_law 926 = .ok (.aload_n 0, 1) := by decide +kernel
theorem dL_law_927 : decode cL_law 927 = .ok (.iload 4, 2) := by decide +kernel
theorem dL_law_929 : decode cL_law 929 = .ok (.iconst 1, 1) := by decide +kernel
theorem dL_law_930 : decode cL_law 930 = .ok (.iadd, 1) := by decide +kernel
theorem dL_law_931 : decode cL_law 931 = .ok (.iaload, 1) := by decide +kernel
theorem dL_law_932 : decode cL_law 932 = .ok (.aload_n 0, 1) := by decide +kernel
theorem dL_law_933 : decode cL_law 933 = .ok (.iload 4, 2) := by decide +kernel
theorem dL_law_935 : decode cL_law 935 = .ok (.iconst 2, 1) := by decide +kernel
theorem dL_law_936 : decode cL_law 936 = .ok (.iadd, 1) := by decide +kernel
theorem dL_law_937 : decode cL_law 937 = .ok (.iaload, 1) := by decide +kernel
theorem dL_law_938 : decode cL_law 938 = .ok (.invokevirtual 117, 3) := by decide +kernel
theorem dL_law_941 : decode cL_law 941 = .ok (.aload_n 2, 1) := by decide +kernel
theorem dL_law_942 : decode cL_law 942 = .ok (.aload_n 0, 1) := by decide +kernel
theorem dL_law_943 : decode cL_law 943 = .ok (.iload 4, 2) := by decide +kernel
theorem dL_law_945 : decode cL_law 945 = .ok (.iconst 1, 1) := by decide +kernel
theorem dL_law_946 : decode cL_law 946 = .ok (.iadd, 1) := by decide +kernel
theorem dL_law_947 : decode cL_law 947 = .ok (.iaload, 1) := by decide +kernel
theorem dL_law_948 : decode cL_law 948 = .ok (.aload_n 0, 1) := by decide +kernel
theorem dL_law_949 : decode cL_law 949 = .ok (.iload 4, 2) := by decide +kernel
theorem dL_law_951 : decode cL_law 951 = .ok (.iconst 2, 1) := by decide +kernel
theorem dL_law_952 : decode cL_law 952 = .ok (.iadd, 1) := by decide +kernel
theorem dL_law_953 : decode cL_law 953 = .ok (.iaload, 1) := by decide +kernel
theorem dL_law_954 : decode cL_law 954 = .ok (.invokevirtual 120, 3) := by decide +kernel
theorem dL_law_957 : decode cL_law 957 = .ok (.if_icmp .eq 751, 3) := by decide +kernel
theorem dL_law_960 : decode cL_law 960 = .ok (.iconst 0, 1) := by decide +kernel
theorem dL_law_961 : decode cL_law 961 = .ok (.ireturn, 1) := by decide +kernel
theorem dL_law_962 : decode cL_law 962 = .ok (.aload_n 1, 1) := by decide +kernel
theorem dL_law_963 : decode cL_law 963 = .ok (.aload_n 0, 1) := by decide +kernel
theorem dL_law_964 : decode cL_law 964 = .ok (.iload 4, 2) := by decide +kernel
theorem dL_law_966 : decode cL_law 966 = .ok (.iconst 1, 1) := by decide +kernel
theorem dL_law_967 : decode cL_law 967 = .ok (.iadd, 1) := by decide +kernel
theorem dL_law_968 : decode cL_law 968 = .ok (.iaload, 1) := by decide +kernel
theorem dL_law_969 : decode cL_law 969 = .ok (.aload_n 0, 1) := by decide +kernel
theorem dL_law_970 : decode cL_law 970 = .ok (.iload 4, 2) := by decide +kernel
theorem dL_law_972 : decode cL_law 972 = .ok (.iconst 2, 1) := by decide +kernel
theorem dL_law_973 : decode cL_law 973 = .ok (.iadd, 1) := by decide +kernel
theorem dL_law_974 : decode cL_law 974 = .ok (.iaload, 1) := by decide +kernel
theorem dL_law_975 : decode cL_law 975 = .ok (.aload_n 0, 1) := by decide +kernel
theorem dL_law_976 : decode cL_law 976 = .ok (.iload 4, 2) := by decide +kernel
theorem dL_law_978 : decode cL_law 978 = .ok (.iconst 3, 1) := by decide +kernel
theorem dL_law_979 : decode cL_law 979 = .ok (.iadd, 1) := by decide +kernel
theorem dL_law_980 : decode cL_law 980 = .ok (.iaload, 1) := by decide +kernel
theorem dL_law_981 : decode cL_law 981 = .ok (.aload_n 0, 1) := by decide +kernel
theorem dL_law_982 : decode cL_law 982 = .ok (.iload 4, 2) := by decide +kernel
theorem dL_law_984 : decode cL_law 984 = .ok (.iconst 4, 1) := by decide +kernel
theorem dL_law_985 : decode cL_law 985 = .ok (.iadd, 1) := by decide +kernel
theorem dL_law_986 : decode cL_law 986 = .ok (.iaload, 1) := by decide +kernel
theorem dL_law_987 : decode cL_law 987 = .ok (.invokevirtual 121, 3) := by decide +kernel
theorem dL_law_990 : decode cL_law 990 = .ok (.aload_n 2, 1) := by decide +kernel
theorem dL_law_991 : decode cL_law 991 = .ok (.aload_n 0, 1) := by decide +kernel
theorem dL_law_992 : decode cL_law 992 = .ok (.iload 4, 2) := by decide +kernel
theorem dL_law_994 : decode cL_law 994 = .ok (.iconst 1, 1) := by decide +kernel
theorem dL_law_995 : decode cL_law 995 = .ok (.iadd, 1) := by decide +kernel
theorem dL_law_996 : decode cL_law 996 = .ok (.iaload, 1) := by decide +kernel
theorem dL_law_997 : decode cL_law 997 = .ok (.aload_n 0, 1) := by decide +kernel
theorem dL_law_998 : decode cL_law 998 = .ok (.iload 4, 2) := by decide +kernel
theorem dL_law_1000 : decode cL_law 1000 = .ok (.iconst 2, 1) := by decide +kernel
theorem dL_law_1001 : decode cL_law 1001 = .ok (.iadd, 1) := by decide +kernel
theorem dL_law_1002 : decode cL_law 1002 = .ok (.iaload, 1) := by decide +kernel
theorem dL_law_1003 : decode cL_law 1003 = .ok (.aload_n 0, 1) := by decide +kernel
theorem dL_law_1004 : decode cL_law 1004 = .ok (.iload 4, 2) := by decide +kernel
theorem dL_law_1006 : decode cL_law 1006 = .ok (.iconst 3, 1) := by decide +kernel
theorem dL_law_1007 : decode cL_law 1007 = .ok (.iadd, 1) := by decide +kernel
theorem dL_law_1008 : decode cL_law 1008 = .ok (.iaload, 1) := by decide +kernel
theorem dL_law_1009 : decode cL_law 1009 = .ok (.aload_n 0, 1) := by decide +kernel
theorem dL_law_1010 : decode cL_law 1010 = .ok (.iload 4, 2) := by decide +kernel
theorem dL_law_1012 : decode cL_law 1012 = .ok (.iconst 4, 1) := by decide +kernel
theorem dL_law_1013 : decode cL_law 1013 = .ok (.iadd, 1) := by decide +kernel
theorem dL_law_1014 : decode cL_law 1014 = .ok (.iaload, 1) := by decide +kernel
theorem dL_law_1015 : decode cL_law 1015 = .ok (.invokevirtual 125, 3) := by decide +kernel
theorem dL_law_1018 : decode cL_law 1018 = .ok (.lcmp, 1) := by decide +kernel
theorem dL_law_1019 : decode cL_law 1019 = .ok (.ifCond .eq 689, 3) := by decide +kernel
theorem dL_law_1022 : decode cL_law 1022 = .ok (.iconst 0, 1) := by decide +kernel
theorem dL_law_1023 : decode cL_law 1023 = .ok (.ireturn, 1) := by decide +kernel
theorem dL_law_1024 : decode cL_law 1024 = .ok (.aload_n 1, 1) := by decide +kernel
theorem dL_law_1025 : decode cL_law 1025 = .ok (.aload_n 0, 1) := by decide +kernel
theorem dL_law_1026 : decode cL_law 1026 = .ok (.iload 4, 2) := by decide +kernel
theorem dL_law_1028 : decode cL_law 1028 = .ok (.iconst 1, 1) := by decide +kernel
theorem dL_law_1029 : decode cL_law 1029 = .ok (.iadd, 1) := by decide +kernel
theorem dL_law_1030 : decode cL_law 1030 = .ok (.iaload, 1) := by decide +kernel
theorem dL_law_1031 : decode cL_law 1031 = .ok (.aload_n 0, 1) := by decide +kernel
theorem dL_law_1032 : decode cL_law 1032 = .ok (.iload 4, 2) := by decide +kernel
theorem dL_law_1034 : decode cL_law 1034 = .ok (.iconst 2, 1) := by decide +kernel
theorem dL_law_1035 : decode cL_law 1035 = .ok (.iadd, 1) := by decide +kernel
theorem dL_law_1036 : decode cL_law 1036 = .ok (.iaload, 1) := by decide +kernel
theorem dL_law_1037 : decode cL_law 1037 = .ok (.invokevirtual 126, 3) := by decide +kernel
theorem dL_law_1040 : decode cL_law 1040 = .ok (.aload_n 2, 1) := by decide +kernel
theorem dL_law_1041 : decode cL_law 1041 = .ok (.aload_n 0, 1) := by decide +kernel
theorem dL_law_1042 : decode cL_law 1042 = .ok (.iload 4, 2) := by decide +kernel
theorem dL_law_1044 : decode cL_law 1044 = .ok (.iconst 1, 1) := by decide +kernel
theorem dL_law_1045 : decode cL_law 1045 = .ok (.iadd, 1) := by decide +kernel
theorem dL_law_1046 : decode cL_law 1046 = .ok (.iaload, 1) := by decide +kernel
theorem dL_law_1047 : decode cL_law 1047 = .ok (.aload_n 0, 1) := by decide +kernel
theorem dL_law_1048 : decode cL_law 1048 = .ok (.iload 4, 2) := by decide +kernel
theorem dL_law_1050 : decode cL_law 1050 = .ok (.iconst 2, 1) := by decide +kernel
theorem dL_law_1051 : decode cL_law 1051 = .ok (.iadd, 1) := by decide +kernel
theorem dL_law_1052 : decode cL_law 1052 = .ok (.iaload, 1) := by decide +kernel
theorem dL_law_1053 : decode cL_law 1053 = .ok (.invokevirtual 129, 3) := by decide +kernel
theorem dL_law_1056 : decode cL_law 1056 = .ok (.if_icmp .eq 652, 3) := by decide +kernel
theorem dL_law_1059 : decode cL_law 1059 = .ok (.iconst 0, 1) := by decide +kernel
theorem dL_law_1060 : decode cL_law 1060 = .ok (.ireturn, 1) := by decide +kernel
theorem dL_law_1061 : decode cL_law 1061 = .ok (.aload_n 1, 1) := by decide +kernel
theorem dL_law_1062 : decode cL_law 1062 = .ok (.aload_n 0, 1) := by decide +kernel
theorem dL_law_1063 : decode cL_law 1063 = .ok (.iload 4, 2) := by decide +kernel
theorem dL_law_1065 : decode cL_law 1065 = .ok (.iconst 1, 1) := by decide +kernel
theorem dL_law_1066 : decode cL_law 1066 = .ok (.iadd, 1) := by decide +kernel
theorem dL_law_1067 : decode cL_law 1067 = .ok (.iaload, 1) := by decide +kernel
theorem dL_law_1068 : decode cL_law 1068 = .ok (.invokevirtual 130, 3) := by decide +kernel
theorem dL_law_1071 : decode cL_law 1071 = .ok (.aload_n 2, 1) := by decide +kernel
theorem dL_law_1072 : decode cL_law 1072 = .ok (.aload_n 0, 1) := by decide +kernel
theorem dL_law_1073 : decode cL_law 1073 = .ok (.iload 4, 2) := by decide +kernel
theorem dL_law_1075 : decode cL_law 1075 = .ok (.iconst 1, 1) := by decide +kernel
theorem dL_law_1076 : decode cL_law 1076 = .ok (.iadd, 1) := by decide +kernel
theorem dL_law_1077 : decode cL_law 1077 = .ok (.iaload, 1) := by decide +kernel
theorem dL_law_1078 : decode cL_law 1078 = .ok (.invokevirtual 133, 3) := by decide +kernel
theorem dL_law_1081 : decode cL_law 1081 = .ok (.if_icmp .eq 627, 3) := by decide +kernel
theorem dL_law_1084 : decode cL_law 1084 = .ok (.iconst 0, 1) := by decide +kernel
theorem dL_law_1085 : decode cL_law 1085 = .ok (.ireturn, 1) := by decide +kernel
theorem dL_law_1086 : decode cL_law 1086 = .ok (.aload_n 1, 1) := by decide +kernel
theorem dL_law_1087 : decode cL_law 1087 = .ok (.aload_n 0, 1) := by decide +kernel
theorem dL_law_1088 : decode cL_law 1088 = .ok (.iload 4, 2) := by decide +kernel
theorem dL_law_1090 : decode cL_law 1090 = .ok (.iconst 1, 1) := by decide +kernel
theorem dL_law_1091 : decode cL_law 1091 = .ok (.iadd, 1) := by decide +kernel
theorem dL_law_1092 : decode cL_law 1092 = .ok (.iaload, 1) := by decide +kernel
theorem dL_law_1093 : decode cL_law 1093 = .ok (.aload_n 0, 1) := by decide +kernel
theorem dL_law_1094 : decode cL_law 1094 = .ok (.iload 4, 2) := by decide +kernel
theorem dL_law_1096 : decode cL_law 1096 = .ok (.iconst 2, 1) := by decide +kernel
theorem dL_law_1097 : decode cL_law 1097 = .ok (.iadd, 1) := by decide +kernel
theorem dL_law_1098 : decode cL_law 1098 = .ok (.iaload, 1) := by decide +kernel
theorem dL_law_1099 : decode cL_law 1099 = .ok (.aload_n 0, 1) := by decide +kernel
theorem dL_law_1100 : decode cL_law 1100 = .ok (.iload 4, 2) := by decide +kernel
theorem dL_law_1102 : decode cL_law 1102 = .ok (.iconst 3, 1) := by decide +kernel
theorem dL_law_1103 : decode cL_law 1103 = .ok (.iadd, 1) := by decide +kernel
theorem dL_law_1104 : decode cL_law 1104 = .ok (.iaload, 1) := by decide +kernel
theorem dL_law_1105 : decode cL_law 1105 = .ok (.aload_n 0, 1) := by decide +kernel
theorem dL_law_1106 : decode cL_law 1106 = .ok (.iload 4, 2) := by decide +kernel
theorem dL_law_1108 : decode cL_law 1108 = .ok (.iconst 4, 1) := by decide +kernel
theorem dL_law_1109 : decode cL_law 1109 = .ok (.iadd, 1) := by decide +kernel
theorem dL_law_1110 : decode cL_law 1110 = .ok (.iaload, 1) := by decide +kernel
theorem dL_law_1111 : decode cL_law 1111 = .ok (.invokevirtual 134, 3) := by decide +kernel
theorem dL_law_1114 : decode cL_law 1114 = .ok (.aload_n 2, 1) := by decide +kernel
theorem dL_law_1115 : decode cL_law 1115 = .ok (.aload_n 0, 1) := by decide +kernel
theorem dL_law_1116 : decode cL_law 1116 = .ok (.iload 4, 2) := by decide +kernel
theorem dL_law_1118 : decode cL_law 1118 = .ok (.iconst 1, 1) := by decide +kernel
theorem dL_law_1119 : decode cL_law 1119 = .ok (.iadd, 1) := by decide +kernel
theorem dL_law_1120 : decode cL_law 1120 = .ok (.iaload, 1) := by decide +kernel
theorem dL_law_1121 : decode cL_law 1121 = .ok (.aload_n 0, 1) := by decide +kernel
theorem dL_law_1122 : decode cL_law 1122 = .ok (.iload 4, 2) := by decide +kernel
theorem dL_law_1124 : decode cL_law 1124 = .ok (.iconst 2, 1) := by decide +kernel
theorem dL_law_1125 : decode cL_law 1125 = .ok (.iadd, 1) := by decide +kernel
theorem dL_law_1126 : decode cL_law 1126 = .ok (.iaload, 1) := by decide +kernel
theorem dL_law_1127 : decode cL_law 1127 = .ok (.aload_n 0, 1) := by decide +kernel
theorem dL_law_1128 : decode cL_law 1128 = .ok (.iload 4, 2) := by decide +kernel
theorem dL_law_1130 : decode cL_law 1130 = .ok (.iconst 3, 1) := by decide +kernel
theorem dL_law_1131 : decode cL_law 1131 = .ok (.iadd, 1) := by decide +kernel
theorem dL_law_1132 : decode cL_law 1132 = .ok (.iaload, 1) := by decide +kernel
theorem dL_law_1133 : decode cL_law 1133 = .ok (.aload_n 0, 1) := by decide +kernel
theorem dL_law_1134 : decode cL_law 1134 = .ok (.iload 4, 2) := by decide +kernel
theorem dL_law_1136 : decode cL_law 1136 = .ok (.iconst 4, 1) := by decide +kernel
theorem dL_law_1137 : decode cL_law 1137 = .ok (.iadd, 1) := by decide +kernel
theorem dL_law_1138 : decode cL_law 1138 = .ok (.iaload, 1) := by decide +kernel
theorem dL_law_1139 : decode cL_law 1139 = .ok (.invokevirtual 138, 3) := by decide +kernel
theorem dL_law_1142 : decode cL_law 1142 = .ok (.if_icmp .eq 566, 3) := by decide +kernel
theorem dL_law_1145 : decode cL_law 1145 = .ok (.iconst 0, 1) := by decide +kernel
theorem dL_law_1146 : decode cL_law 1146 = .ok (.ireturn, 1) := by decide +kernel
theorem dL_law_1147 : decode cL_law 1147 = .ok (.aload_n 1, 1) := by decide +kernel
theorem dL_law_1148 : decode cL_law 1148 = .ok (.aload_n 0, 1) := by decide +kernel
theorem dL_law_1149 : decode cL_law 1149 = .ok (.iload 4, 2) := by decide +kernel
theorem dL_law_1151 : decode cL_law 1151 = .ok (.iconst 1, 1) := by decide +kernel
theorem dL_law_1152 : decode cL_law 1152 = .ok (.iadd, 1) := by decide +kernel
theorem dL_law_1153 : decode cL_law 1153 = .ok (.iaload, 1) := by decide +kernel
theorem dL_law_1154 : decode cL_law 1154 = .ok (.invokevirtual 139, 3) := by decide +kernel
theorem dL_law_1157 : decode cL_law 1157 = .ok (.aload_n 2, 1) := by decide +kernel
theorem dL_law_1158 : decode cL_law 1158 = .ok (.aload_n 0, 1) := by decide +kernel
theorem dL_law_1159 : decode cL_law 1159 = .ok (.iload 4, 2) := by decide +kernel
theorem dL_law_1161 : decode cL_law 1161 = .ok (.iconst 1, 1) := by decide +kernel
theorem dL_law_1162 : decode cL_law 1162 = .ok (.iadd, 1) := by decide +kernel
theorem dL_law_1163 : decode cL_law 1163 = .ok (.iaload, 1) := by decide +kernel
theorem dL_law_1164 : decode cL_law 1164 = .ok (.invokevirtual 142, 3) := by decide +kernel
theorem dL_law_1167 : decode cL_law 1167 = .ok (.if_icmp .eq 541, 3) := by decide +kernel
theorem dL_law_1170 : decode cL_law 1170 = .ok (.iconst 0, 1) := by decide +kernel
theorem dL_law_1171 : decode cL_law 1171 = .ok (.ireturn, 1) := by decide +kernel
theorem dL_law_1172 : decode cL_law 1172 = .ok (.aload_n 1, 1) := by decide +kernel
theorem dL_law_1173 : decode cL_law 1173 = .ok (.aload_n 0, 1) := by decide +kernel
theorem dL_law_1174 : decode cL_law 1174 = .ok (.iload 4, 2) := by decide +kernel
theorem dL_law_1176 : decode cL_law 1176 = .ok (.iconst 1, 1) := by decide +kernel
theorem dL_law_1177 : decode cL_law 1177 = .ok (.iadd, 1) := by decide +kernel
theorem dL_law_1178 : decode cL_law 1178 = .ok (.iaload, 1) := by decide +kernel
theorem dL_law_1179 : decode cL_law 1179 = .ok (.aload_n 0, 1) := by decide +kernel
theorem dL_law_1180 : decode cL_law 1180 = .ok (.iload 4, 2) := by decide +kernel
theorem dL_law_1182 : decode cL_law 1182 = .ok (.iconst 2, 1) := by decide +kernel
theorem dL_law_1183 : decode cL_law 1183 = .ok (.iadd, 1) := by decide +kernel
theorem dL_law_1184 : decode cL_law 1184 = .ok (.iaload, 1) := by decide +kernel
theorem dL_law_1185 : decode cL_law 1185 = .ok (.invokevirtual 143, 3) := by decide +kernel
theorem dL_law_1188 : decode cL_law 1188 = .ok (.aload_n 2, 1) := by decide +kernel
theorem dL_law_1189 : decode cL_law 1189 = .ok (.aload_n 0, 1) := by decide +kernel
theorem dL_law_1190 : decode cL_law 1190 = .ok (.iload 4, 2) := by decide +kernel
theorem dL_law_1192 : decode cL_law 1192 = .ok (.iconst 1, 1) := by decide +kernel
theorem dL_law_1193 : decode cL_law 1193 = .ok (.iadd, 1) := by decide +kernel
theorem dL_law_1194 : decode cL_law 1194 = .ok (.iaload, 1) := by decide +kernel
theorem dL_law_1195 : decode cL_law 1195 = .ok (.aload_n 0, 1) := by decide +kernel
theorem dL_law_1196 : decode cL_law 1196 = .ok (.iload 4, 2) := by decide +kernel
theorem dL_law_1198 : decode cL_law 1198 = .ok (.iconst 2, 1) := by decide +kernel
theorem dL_law_1199 : decode cL_law 1199 = .ok (.iadd, 1) := by decide +kernel
theorem dL_law_1200 : decode cL_law 1200 = .ok (.iaload, 1) := by decide +kernel
theorem dL_law_1201 : decode cL_law 1201 = .ok (.invokevirtual 146, 3) := by decide +kernel
theorem dL_law_1204 : decode cL_law 1204 = .ok (.if_icmp .eq 504, 3) := by decide +kernel
theorem dL_law_1207 : decode cL_law 1207 = .ok (.iconst 0, 1) := by decide +kernel
theorem dL_law_1208 : decode cL_law 1208 = .ok (.ireturn, 1) := by decide +kernel
theorem dL_law_1209 : decode cL_law 1209 = .ok (.aload_n 1, 1) := by decide +kernel
theorem dL_law_1210 : decode cL_law 1210 = .ok (.aload_n 0, 1) := by decide +kernel
theorem dL_law_1211 : decode cL_law 1211 = .ok (.iload 4, 2) := by decide +kernel
theorem dL_law_1213 : decode cL_law 1213 = .ok (.iconst 1, 1) := by decide +kernel
theorem dL_law_1214 : decode cL_law 1214 = .ok (.iadd, 1) := by decide +kernel
theorem dL_law_1215 : decode cL_law 1215 = .ok (.iaload, 1) := by decide +kernel
theorem dL_law_1216 : decode cL_law 1216 = .ok (.invokevirtual 147, 3) := by decide +kernel
theorem dL_law_1219 : decode cL_law 1219 = .ok (.aload_n 2, 1) := by decide +kernel
theorem dL_law_1220 : decode cL_law 1220 = .ok (.aload_n 0, 1) := by decide +kernel
theorem dL_law_1221 : decode cL_law 1221 = .ok (.iload 4, 2) := by decide +kernel
theorem dL_law_1223 : decode cL_law 1223 = .ok (.iconst 1, 1) := by decide +kernel
theorem dL_law_1224 : decode cL_law 1224 = .ok (.iadd, 1) := by decide +kernel
theorem dL_law_1225 : decode cL_law 1225 = .ok (.iaload, 1) := by decide +kernel
theorem dL_law_1226 : decode cL_law 1226 = .ok (.invokevirtual 150, 3) := by decide +kernel
theorem dL_law_1229 : decode cL_law 1229 = .ok (.if_icmp .eq 479, 3) := by decide +kernel
theorem dL_law_1232 : decode cL_law 1232 = .ok (.iconst 0, 1) := by decide +kernel
theorem dL_law_1233 : decode cL_law 1233 = .ok (.ireturn, 1) := by decide +kernel
theorem dL_law_1234 : decode cL_law 1234 = .ok (.aload_n 1, 1) := by decide +kernel
theorem dL_law_1235 : decode cL_law 1235 = .ok (.aload_n 0, 1) := by decide +kernel
theorem dL_law_1236 : decode cL_law 1236 = .ok (.iload 4, 2) := by decide +kernel
theorem dL_law_1238 : decode cL_law 1238 = .ok (.iconst 1, 1) := by decide +kernel
theorem dL_law_1239 : decode cL_law 1239 = .ok (.iadd, 1) := by decide +kernel
theorem dL_law_1240 : decode cL_law 1240 = .ok (.iaload, 1) := by decide +kernel
theorem dL_law_1241 : decode cL_law 1241 = .ok (.invokevirtual 151, 3) := by decide +kernel
theorem dL_law_1244 : decode cL_law 1244 = .ok (.aload_n 2, 1) := by decide +kernel
theorem dL_law_1245 : decode cL_law 1245 = .ok (.aload_n 0, 1) := by decide +kernel
theorem dL_law_1246 : decode cL_law 1246 = .ok (.iload 4, 2) := by decide +kernel
theorem dL_law_1248 : decode cL_law 1248 = .ok (.iconst 1, 1) := by decide +kernel
theorem dL_law_1249 : decode cL_law 1249 = .ok (.iadd, 1) := by decide +kernel
theorem dL_law_1250 : decode cL_law 1250 = .ok (.iaload, 1) := by decide +kernel
theorem dL_law_1251 : decode cL_law 1251 = .ok (.invokevirtual 154, 3) := by decide +kernel
theorem dL_law_1254 : decode cL_law 1254 = .ok (.if_icmp .eq 454, 3) := by decide +kernel
theorem dL_law_1257 : decode cL_law 1257 = .ok (.iconst 0, 1) := by decide +kernel
theorem dL_law_1258 : decode cL_law 1258 = .ok (.ireturn, 1) := by decide +kernel
theorem dL_law_1259 : decode cL_law 1259 = .ok (.aload_n 1, 1) := by decide +kernel
theorem dL_law_1260 : decode cL_law 1260 = .ok (.aload_n 0, 1) := by decide +kernel
theorem dL_law_1261 : decode cL_law 1261 = .ok (.iload 4, 2) := by decide +kernel
theorem dL_law_1263 : decode cL_law 1263 = .ok (.iconst 1, 1) := by decide +kernel
theorem dL_law_1264 : decode cL_law 1264 = .ok (.iadd, 1) := by decide +kernel
theorem dL_law_1265 : decode cL_law 1265 = .ok (.iaload, 1) := by decide +kernel
theorem dL_law_1266 : decode cL_law 1266 = .ok (.aload_n 0, 1) := by decide +kernel
theorem dL_law_1267 : decode cL_law 1267 = .ok (.iload 4, 2) := by decide +kernel
theorem dL_law_1269 : decode cL_law 1269 = .ok (.iconst 2, 1) := by decide +kernel
theorem dL_law_1270 : decode cL_law 1270 = .ok (.iadd, 1) := by decide +kernel
theorem dL_law_1271 : decode cL_law 1271 = .ok (.iaload, 1) := by decide +kernel
theorem dL_law_1272 : decode cL_law 1272 = .ok (.aload_n 0, 1) := by decide +kernel
theorem dL_law_1273 : decode cL_law 1273 = .ok (.iload 4, 2) := by decide +kernel
theorem dL_law_1275 : decode cL_law 1275 = .ok (.iconst 3, 1) := by decide +kernel
theorem dL_law_1276 : decode cL_law 1276 = .ok (.iadd, 1) := by decide +kernel
theorem dL_law_1277 : decode cL_law 1277 = .ok (.iaload, 1) := by decide +kernel
theorem dL_law_1278 : decode cL_law 1278 = .ok (.invokevirtual 155, 3) := by decide +kernel
theorem dL_law_1281 : decode cL_law 1281 = .ok (.aload_n 2, 1) := by decide +kernel
theorem dL_law_1282 : decode cL_law 1282 = .ok (.aload_n 0, 1) := by decide +kernel
theorem dL_law_1283 : decode cL_law 1283 = .ok (.iload 4, 2) := by decide +kernel
theorem dL_law_1285 : decode cL_law 1285 = .ok (.iconst 1, 1) := by decide +kernel
theorem dL_law_1286 : decode cL_law 1286 = .ok (.iadd, 1) := by decide +kernel
theorem dL_law_1287 : decode cL_law 1287 = .ok (.iaload, 1) := by decide +kernel
theorem dL_law_1288 : decode cL_law 1288 = .ok (.aload_n 0, 1) := by decide +kernel
theorem dL_law_1289 : decode cL_law 1289 = .ok (.iload 4, 2) := by decide +kernel
theorem dL_law_1291 : decode cL_law 1291 = .ok (.iconst 2, 1) := by decide +kernel
theorem dL_law_1292 : decode cL_law 1292 = .ok (.iadd, 1) := by decide +kernel
theorem dL_law_1293 : decode cL_law 1293 = .ok (.iaload, 1) := by decide +kernel
theorem dL_law_1294 : decode cL_law 1294 = .ok (.aload_n 0, 1) := by decide +kernel
theorem dL_law_1295 : decode cL_law 1295 = .ok (.iload 4, 2) := by decide +kernel
theorem dL_law_1297 : decode cL_law 1297 = .ok (.iconst 3, 1) := by decide +kernel
theorem dL_law_1298 : decode cL_law 1298 = .ok (.iadd, 1) := by decide +kernel
theorem dL_law_1299 : decode cL_law 1299 = .ok (.iaload, 1) := by decide +kernel
theorem dL_law_1300 : decode cL_law 1300 = .ok (.invokevirtual 158, 3) := by decide +kernel
theorem dL_law_1303 : decode cL_law 1303 = .ok (.if_icmp .eq 405, 3) := by decide +kernel
theorem dL_law_1306 : decode cL_law 1306 = .ok (.iconst 0, 1) := by decide +kernel
theorem dL_law_1307 : decode cL_law 1307 = .ok (.ireturn, 1) := by decide +kernel
theorem dL_law_1308 : decode cL_law 1308 = .ok (.aload_n 1, 1) := by decide +kernel
theorem dL_law_1309 : decode cL_law 1309 = .ok (.invokevirtual 159, 3) := by decide +kernel
theorem dL_law_1312 : decode cL_law 1312 = .ok (.aload_n 2, 1) := by decide +kernel
theorem dL_law_1313 : decode cL_law 1313 = .ok (.invokevirtual 162, 3) := by decide +kernel
theorem dL_law_1316 : decode cL_law 1316 = .ok (.if_icmp .eq 392, 3) := by decide +kernel
theorem dL_law_1319 : decode cL_law 1319 = .ok (.iconst 0, 1) := by decide +kernel
theorem dL_law_1320 : decode cL_law 1320 = .ok (.ireturn, 1) := by decide +kernel
theorem dL_law_1321 : decode cL_law 1321 = .ok (.aload_n 1, 1) := by decide +kernel
theorem dL_law_1322 : decode cL_law 1322 = .ok (.invokevirtual 163, 3) := by decide +kernel
theorem dL_law_1325 : decode cL_law 1325 = .ok (.aload_n 2, 1) := by decide +kernel
theorem dL_law_1326 : decode cL_law 1326 = .ok (.invokevirtual 166, 3) := by decide +kernel
theorem dL_law_1329 : decode cL_law 1329 = .ok (.if_icmp .eq 379, 3) := by decide +kernel
theorem dL_law_1332 : decode cL_law 1332 = .ok (.iconst 0, 1) := by decide +kernel
theorem dL_law_1333 : decode cL_law 1333 = .ok (.ireturn, 1) := by decide +kernel
theorem dL_law_1334 : decode cL_law 1334 = .ok (.aload_n 1, 1) := by decide +kernel
theorem dL_law_1335 : decode cL_law 1335 = .ok (.aload_n 0, 1) := by decide +kernel
theorem dL_law_1336 : decode cL_law 1336 = .ok (.iload 4, 2) := by decide +kernel
theorem dL_law_1338 : decode cL_law 1338 = .ok (.iconst 1, 1) := by decide +kernel
theorem dL_law_1339 : decode cL_law 1339 = .ok (.iadd, 1) := by decide +kernel
theorem dL_law_1340 : decode cL_law 1340 = .ok (.iaload, 1) := by decide +kernel
theorem dL_law_1341 : decode cL_law 1341 = .ok (.invokevirtual 167, 3) := by decide +kernel
theorem dL_law_1344 : decode cL_law 1344 = .ok (.aload_n 2, 1) := by decide +kernel
theorem dL_law_1345 : decode cL_law 1345 = .ok (.aload_n 0, 1) := by decide +kernel
theorem dL_law_1346 : decode cL_law 1346 = .ok (.iload 4, 2) := by decide +kernel
theorem dL_law_1348 : decode cL_law 1348 = .ok (.iconst 1, 1) := by decide +kernel
theorem dL_law_1349 : decode cL_law 1349 = .ok (.iadd, 1) := by decide +kernel
theorem dL_law_1350 : decode cL_law 1350 = .ok (.iaload, 1) := by decide +kernel
theorem dL_law_1351 : decode cL_law 1351 = .ok (.invokevirtual 170, 3) := by decide +kernel
theorem dL_law_1354 : decode cL_law 1354 = .ok (.if_icmp .eq 354, 3) := by decide +kernel
theorem dL_law_1357 : decode cL_law 1357 = .ok (.iconst 0, 1) := by decide +kernel
theorem dL_law_1358 : decode cL_law 1358 = .ok (.ireturn, 1) := by decide +kernel
theorem dL_law_1359 : decode cL_law 1359 = .ok (.aload_n 1, 1) := by decide +kernel
theorem dL_law_1360 : decode cL_law 1360 = .ok (.aload_n 0, 1) := by decide +kernel
theorem dL_law_1361 : decode cL_law 1361 = .ok (.iload 4, 2) := by decide +kernel
theorem dL_law_1363 : decode cL_law 1363 = .ok (.iconst 1, 1) := by decide +kernel
theorem dL_law_1364 : decode cL_law 1364 = .ok (.iadd, 1) := by decide +kernel
theorem dL_law_1365 : decode cL_law 1365 = .ok (.iaload, 1) := by decide +kernel
theorem dL_law_1366 : decode cL_law 1366 = .ok (.aload_n 0, 1) := by decide +kernel
theorem dL_law_1367 : decode cL_law 1367 = .ok (.iload 4, 2) := by decide +kernel
theorem dL_law_1369 : decode cL_law 1369 = .ok (.iconst 2, 1) := by decide +kernel
theorem dL_law_1370 : decode cL_law 1370 = .ok (.iadd, 1) := by decide +kernel
theorem dL_law_1371 : decode cL_law 1371 = .ok (.iaload, 1) := by decide +kernel
theorem dL_law_1372 : decode cL_law 1372 = .ok (.aload_n 0, 1) := by decide +kernel
theorem dL_law_1373 : decode cL_law 1373 = .ok (.iload 4, 2) := by decide +kernel
theorem dL_law_1375 : decode cL_law 1375 = .ok (.iconst 3, 1) := by decide +kernel
theorem dL_law_1376 : decode cL_law 1376 = .ok (.iadd, 1) := by decide +kernel
theorem dL_law_1377 : decode cL_law 1377 = .ok (.iaload, 1) := by decide +kernel
theorem dL_law_1378 : decode cL_law 1378 = .ok (.aload_n 0, 1) := by decide +kernel
theorem dL_law_1379 : decode cL_law 1379 = .ok (.iload 4, 2) := by decide +kernel
theorem dL_law_1381 : decode cL_law 1381 = .ok (.iconst 4, 1) := by decide +kernel
theorem dL_law_1382 : decode cL_law 1382 = .ok (.iadd, 1) := by decide +kernel
theorem dL_law_1383 : decode cL_law 1383 = .ok (.iaload, 1) := by decide +kernel
theorem dL_law_1384 : decode cL_law 1384 = .ok (.invokevirtual 171, 3) := by decide +kernel
theorem dL_law_1387 : decode cL_law 1387 = .ok (.aload_n 2, 1) := by decide +kernel
theorem dL_law_1388 : decode cL_law 1388 = .ok (.aload_n 0, 1) := by decide +kernel
theorem dL_law_1389 : decode cL_law 1389 = .ok (.iload 4, 2) := by decide +kernel
theorem dL_law_1391 : decode cL_law 1391 = .ok (.iconst 1, 1) := by decide +kernel
theorem dL_law_1392 : decode cL_law 1392 = .ok (.iadd, 1) := by decide +kernel
theorem dL_law_1393 : decode cL_law 1393 = .ok (.iaload, 1) := by decide +kernel
theorem dL_law_1394 : decode cL_law 1394 = .ok (.aload_n 0, 1) := by decide +kernel
theorem dL_law_1395 : decode cL_law 1395 = .ok (.iload 4, 2) := by decide +kernel
theorem dL_law_1397 : decode cL_law 1397 = .ok (.iconst 2, 1) := by decide +kernel
theorem dL_law_1398 : decode cL_law 1398 = .ok (.iadd, 1) := by decide +kernel
theorem dL_law_1399 : decode cL_law 1399 = .ok (.iaload, 1) := by decide +kernel
theorem dL_law_1400 : decode cL_law 1400 = .ok (.aload_n 0, 1) := by decide +kernel
theorem dL_law_1401 : decode cL_law 1401 = .ok (.iload 4, 2) := by decide +kernel
theorem dL_law_1403 : decode cL_law 1403 = .ok (.iconst 3, 1) := by decide +kernel
theorem dL_law_1404 : decode cL_law 1404 = .ok (.iadd, 1) := by decide +kernel
theorem dL_law_1405 : decode cL_law 1405 = .ok (.iaload, 1) := by decide +kernel
theorem dL_law_1406 : decode cL_law 1406 = .ok (.aload_n 0, 1) := by decide +kernel
theorem dL_law_1407 : decode cL_law 1407 = .ok (.iload 4, 2) := by decide +kernel
theorem dL_law_1409 : decode cL_law 1409 = .ok (.iconst 4, 1) := by decide +kernel
theorem dL_law_1410 : decode cL_law 1410 = .ok (.iadd, 1) := by decide +kernel
theorem dL_law_1411 : decode cL_law 1411 = .ok (.iaload, 1) := by decide +kernel
theorem dL_law_1412 : decode cL_law 1412 = .ok (.invokevirtual 174, 3) := by decide +kernel
theorem dL_law_1415 : decode cL_law 1415 = .ok (.if_icmp .eq 293, 3) := by decide +kernel
theorem dL_law_1418 : decode cL_law 1418 = .ok (.iconst 0, 1) := by decide +kernel
theorem dL_law_1419 : decode cL_law 1419 = .ok (.ireturn, 1) := by decide +kernel
theorem dL_law_1420 : decode cL_law 1420 = .ok (.aload_n 1, 1) := by decide +kernel
theorem dL_law_1421 : decode cL_law 1421 = .ok (.aload_n 0, 1) := by decide +kernel
theorem dL_law_1422 : decode cL_law 1422 = .ok (.iload 4, 2) := by decide +kernel
theorem dL_law_1424 : decode cL_law 1424 = .ok (.iconst 1, 1) := by decide +kernel
theorem dL_law_1425 : decode cL_law 1425 = .ok (.iadd, 1) := by decide +kernel
theorem dL_law_1426 : decode cL_law 1426 = .ok (.iaload, 1) := by decide +kernel
theorem dL_law_1427 : decode cL_law 1427 = .ok (.aload_n 0, 1) := by decide +kernel
theorem dL_law_1428 : decode cL_law 1428 = .ok (.iload 4, 2) := by decide +kernel
theorem dL_law_1430 : decode cL_law 1430 = .ok (.iconst 2, 1) := by decide +kernel
theorem dL_law_1431 : decode cL_law 1431 = .ok (.iadd, 1) := by decide +kernel
theorem dL_law_1432 : decode cL_law 1432 = .ok (.iaload, 1) := by decide +kernel
theorem dL_law_1433 : decode cL_law 1433 = .ok (.aload_n 0, 1) := by decide +kernel
theorem dL_law_1434 : decode cL_law 1434 = .ok (.iload 4, 2) := by decide +kernel
theorem dL_law_1436 : decode cL_law 1436 = .ok (.iconst 3, 1) := by decide +kernel
theorem dL_law_1437 : decode cL_law 1437 = .ok (.iadd, 1) := by decide +kernel
theorem dL_law_1438 : decode cL_law 1438 = .ok (.iaload, 1) := by decide +kernel
theorem dL_law_1439 : decode cL_law 1439 = .ok (.invokevirtual 175, 3) := by decide +kernel
theorem dL_law_1442 : decode cL_law 1442 = .ok (.aload_n 2, 1) := by decide +kernel
theorem dL_law_1443 : decode cL_law 1443 = .ok (.aload_n 0, 1) := by decide +kernel
theorem dL_law_1444 : decode cL_law 1444 = .ok (.iload 4, 2) := by decide +kernel
theorem dL_law_1446 : decode cL_law 1446 = .ok (.iconst 1, 1) := by decide +kernel
theorem dL_law_1447 : decode cL_law 1447 = .ok (.iadd, 1) := by decide +kernel
theorem dL_law_1448 : decode cL_law 1448 = .ok (.iaload, 1) := by decide +kernel
theorem dL_law_1449 : decode cL_law 1449 = .ok (.aload_n 0, 1) := by decide +kernel
theorem dL_law_1450 : decode cL_law 1450 = .ok (.iload 4, 2) := by decide +kernel
theorem dL_law_1452 : decode cL_law 1452 = .ok (.iconst 2, 1) := by decide +kernel
theorem dL_law_1453 : decode cL_law 1453 = .ok (.iadd, 1) := by decide +kernel
theorem dL_law_1454 : decode cL_law 1454 = .ok (.iaload, 1) := by decide +kernel
theorem dL_law_1455 : decode cL_law 1455 = .ok (.aload_n 0, 1) := by decide +kernel
theorem dL_law_1456 : decode cL_law 1456 = .ok (.iload 4, 2) := by decide +kernel
theorem dL_law_1458 : decode cL_law 1458 = .ok (.iconst 3, 1) := by decide +kernel
theorem dL_law_1459 : decode cL_law 1459 = .ok (.iadd, 1) := by decide +kernel
theorem dL_law_1460 : decode cL_law 1460 = .ok (.iaload, 1) := by decide +kernel
theorem dL_law_1461 : decode cL_law 1461 = .ok (.invokevirtual 178, 3) := by decide +kernel
theorem dL_law_1464 : decode cL_law 1464 = .ok (.if_icmp .eq 244, 3) := by decide +kernel
theorem dL_law_1467 : decode cL_law 1467 = .ok (.iconst 0, 1) := by decide +kernel
theorem dL_law_1468 : decode cL_law 1468 = .ok (.ireturn, 1) := by decide +kernel
theorem dL_law_1469 : decode cL_law 1469 = .ok (.aload_n 1, 1) := by decide +kernel
theorem dL_law_1470 : decode cL_law 1470 = .ok (.aload_n 0, 1) := by decide +kernel
theorem dL_law_1471 : decode cL_law 1471 = .ok (.iload 4, 2) := by decide +kernel
theorem dL_law_1473 : decode cL_law 1473 = .ok (.iconst 1, 1) := by decide +kernel
theorem dL_law_1474 : decode cL_law 1474 = .ok (.iadd, 1) := by decide +kernel
theorem dL_law_1475 : decode cL_law 1475 = .ok (.iaload, 1) := by decide +kernel
theorem dL_law_1476 : decode cL_law 1476 = .ok (.aload_n 0, 1) := by decide +kernel
theorem dL_law_1477 : decode cL_law 1477 = .ok (.iload 4, 2) := by decide +kernel
theorem dL_law_1479 : decode cL_law 1479 = .ok (.iconst 2, 1) := by decide +kernel
theorem dL_law_1480 : decode cL_law 1480 = .ok (.iadd, 1) := by decide +kernel
theorem dL_law_1481 : decode cL_law 1481 = .ok (.iaload, 1) := by decide +kernel
theorem dL_law_1482 : decode cL_law 1482 = .ok (.aload_n 0, 1) := by decide +kernel
theorem dL_law_1483 : decode cL_law 1483 = .ok (.iload 4, 2) := by decide +kernel
theorem dL_law_1485 : decode cL_law 1485 = .ok (.iconst 3, 1) := by decide +kernel
theorem dL_law_1486 : decode cL_law 1486 = .ok (.iadd, 1) := by decide +kernel
theorem dL_law_1487 : decode cL_law 1487 = .ok (.iaload, 1) := by decide +kernel
theorem dL_law_1488 : decode cL_law 1488 = .ok (.invokevirtual 179, 3) := by decide +kernel
theorem dL_law_1491 : decode cL_law 1491 = .ok (.aload_n 2, 1) := by decide +kernel
theorem dL_law_1492 : decode cL_law 1492 = .ok (.aload_n 0, 1) := by decide +kernel
theorem dL_law_1493 : decode cL_law 1493 = .ok (.iload 4, 2) := by decide +kernel
theorem dL_law_1495 : decode cL_law 1495 = .ok (.iconst 1, 1) := by decide +kernel
theorem dL_law_1496 : decode cL_law 1496 = .ok (.iadd, 1) := by decide +kernel
theorem dL_law_1497 : decode cL_law 1497 = .ok (.iaload, 1) := by decide +kernel
theorem dL_law_1498 : decode cL_law 1498 = .ok (.aload_n 0, 1) := by decide +kernel
theorem dL_law_1499 : decode cL_law 1499 = .ok (.iload 4, 2) := by decide +kernel
theorem dL_law_1501 : decode cL_law 1501 = .ok (.iconst 2, 1) := by decide +kernel
theorem dL_law_1502 : decode cL_law 1502 = .ok (.iadd, 1) := by decide +kernel
theorem dL_law_1503 : decode cL_law 1503 = .ok (.iaload, 1) := by decide +kernel
theorem dL_law_1504 : decode cL_law 1504 = .ok (.aload_n 0, 1) := by decide +kernel
theorem dL_law_1505 : decode cL_law 1505 = .ok (.iload 4, 2) := by decide +kernel
theorem dL_law_1507 : decode cL_law 1507 = .ok (.iconst 3, 1) := by decide +kernel
theorem dL_law_1508 : decode cL_law 1508 = .ok (.iadd, 1) := by decide +kernel
theorem dL_law_1509 : decode cL_law 1509 = .ok (.iaload, 1) := by decide +kernel
theorem dL_law_1510 : decode cL_law 1510 = .ok (.invokevirtual 182, 3) := by decide +kernel
theorem dL_law_1513 : decode cL_law 1513 = .ok (.if_icmp .eq 195, 3) := by decide +kernel
theorem dL_law_1516 : decode cL_law 1516 = .ok (.iconst 0, 1) := by decide +kernel
theorem dL_law_1517 : decode cL_law 1517 = .ok (.ireturn, 1) := by decide +kernel
theorem dL_law_1518 : decode cL_law 1518 = .ok (.aload_n 1, 1) := by decide +kernel
theorem dL_law_1519 : decode cL_law 1519 = .ok (.aload_n 0, 1) := by decide +kernel
theorem dL_law_1520 : decode cL_law 1520 = .ok (.iload 4, 2) := by decide +kernel
theorem dL_law_1522 : decode cL_law 1522 = .ok (.iconst 1, 1) := by decide +kernel
theorem dL_law_1523 : decode cL_law 1523 = .ok (.iadd, 1) := by decide +kernel
theorem dL_law_1524 : decode cL_law 1524 = .ok (.iaload, 1) := by decide +kernel
theorem dL_law_1525 : decode cL_law 1525 = .ok (.aload_n 0, 1) := by decide +kernel
theorem dL_law_1526 : decode cL_law 1526 = .ok (.iload 4, 2) := by decide +kernel
theorem dL_law_1528 : decode cL_law 1528 = .ok (.iconst 2, 1) := by decide +kernel
theorem dL_law_1529 : decode cL_law 1529 = .ok (.iadd, 1) := by decide +kernel
theorem dL_law_1530 : decode cL_law 1530 = .ok (.iaload, 1) := by decide +kernel
theorem dL_law_1531 : decode cL_law 1531 = .ok (.aload_n 3, 1) := by decide +kernel
theorem dL_law_1532 : decode cL_law 1532 = .ok (.invokestatic 183, 3) := by decide +kernel
theorem dL_law_1535 : decode cL_law 1535 = .ok (.istore 5, 2) := by decide +kernel
theorem dL_law_1537 : decode cL_law 1537 = .ok (.aload_n 2, 1) := by decide +kernel
theorem dL_law_1538 : decode cL_law 1538 = .ok (.aload_n 0, 1) := by decide +kernel
theorem dL_law_1539 : decode cL_law 1539 = .ok (.iload 4, 2) := by decide +kernel
theorem dL_law_1541 : decode cL_law 1541 = .ok (.iconst 1, 1) := by decide +kernel
theorem dL_law_1542 : decode cL_law 1542 = .ok (.iadd, 1) := by decide +kernel
theorem dL_law_1543 : decode cL_law 1543 = .ok (.iaload, 1) := by decide +kernel
theorem dL_law_1544 : decode cL_law 1544 = .ok (.aload_n 0, 1) := by decide +kernel
theorem dL_law_1545 : decode cL_law 1545 = .ok (.iload 4, 2) := by decide +kernel
theorem dL_law_1547 : decode cL_law 1547 = .ok (.iconst 2, 1) := by decide +kernel
theorem dL_law_1548 : decode cL_law 1548 = .ok (.iadd, 1) := by decide +kernel
theorem dL_law_1549 : decode cL_law 1549 = .ok (.iaload, 1) := by decide +kernel
theorem dL_law_1550 : decode cL_law 1550 = .ok (.invokevirtual 188, 3) := by decide +kernel
theorem dL_law_1553 : decode cL_law 1553 = .ok (.lstore 6, 2) := by decide +kernel
theorem dL_law_1555 : decode cL_law 1555 = .ok (.aload_n 2, 1) := by decide +kernel
theorem dL_law_1556 : decode cL_law 1556 = .ok (.invokevirtual 189, 3) := by decide +kernel
theorem dL_law_1559 : decode cL_law 1559 = .ok (.iload 5, 2) := by decide +kernel
theorem dL_law_1561 : decode cL_law 1561 = .ok (.if_icmp .eq 5, 3) := by decide +kernel
theorem dL_law_1564 : decode cL_law 1564 = .ok (.iconst 0, 1) := by decide +kernel
theorem dL_law_1565 : decode cL_law 1565 = .ok (.ireturn, 1) := by decide +kernel
theorem dL_law_1566 : decode cL_law 1566 = .ok (.iload 5, 2) := by decide +kernel
theorem dL_law_1568 : decode cL_law 1568 = .ok (.ifCond .ne 14, 3) := by decide +kernel
theorem dL_law_1571 : decode cL_law 1571 = .ok (.aload_n 3, 1) := by decide +kernel
theorem dL_law_1572 : decode cL_law 1572 = .ok (.iconst 0, 1) := by decide +kernel
theorem dL_law_1573 : decode cL_law 1573 = .ok (.laload, 1) := by decide +kernel
theorem dL_law_1574 : decode cL_law 1574 = .ok (.lload 6, 2) := by decide +kernel
theorem dL_law_1576 : decode cL_law 1576 = .ok (.lcmp, 1) := by decide +kernel
theorem dL_law_1577 : decode cL_law 1577 = .ok (.ifCond .eq 5, 3) := by decide +kernel
theorem dL_law_1580 : decode cL_law 1580 = .ok (.iconst 0, 1) := by decide +kernel
theorem dL_law_1581 : decode cL_law 1581 = .ok (.ireturn, 1) := by decide +kernel
theorem dL_law_1582 : decode cL_law 1582 = .ok (.goto 126, 3) := by decide +kernel
theorem dL_law_1585 : decode cL_law 1585 = .ok (.aload_n 1, 1) := by decide +kernel
theorem dL_law_1586 : decode cL_law 1586 = .ok (.aload_n 0, 1) := by decide +kernel
theorem dL_law_1587 : decode cL_law 1587 = .ok (.iload 4, 2) := by decide +kernel
theorem dL_law_1589 : decode cL_law 1589 = .ok (.iconst 1, 1) := by decide +kernel
theorem dL_law_1590 : decode cL_law 1590 = .ok (.iadd, 1) := by decide +kernel
theorem dL_law_1591 : decode cL_law 1591 = .ok (.iaload, 1) := by decide +kernel
theorem dL_law_1592 : decode cL_law 1592 = .ok (.aload_n 0, 1) := by decide +kernel
theorem dL_law_1593 : decode cL_law 1593 = .ok (.iload 4, 2) := by decide +kernel
theorem dL_law_1595 : decode cL_law 1595 = .ok (.iconst 2, 1) := by decide +kernel
theorem dL_law_1596 : decode cL_law 1596 = .ok (.iadd, 1) := by decide +kernel
theorem dL_law_1597 : decode cL_law 1597 = .ok (.iaload, 1) := by decide +kernel
theorem dL_law_1598 : decode cL_law 1598 = .ok (.aload_n 0, 1) := by decide +kernel
theorem dL_law_1599 : decode cL_law 1599 = .ok (.iload 4, 2) := by decide +kernel
theorem dL_law_1601 : decode cL_law 1601 = .ok (.iconst 3, 1) := by decide +kernel
theorem dL_law_1602 : decode cL_law 1602 = .ok (.iadd, 1) := by decide +kernel
theorem dL_law_1603 : decode cL_law 1603 = .ok (.iaload, 1) := by decide +kernel
theorem dL_law_1604 : decode cL_law 1604 = .ok (.aload_n 0, 1) := by decide +kernel
theorem dL_law_1605 : decode cL_law 1605 = .ok (.iload 4, 2) := by decide +kernel
theorem dL_law_1607 : decode cL_law 1607 = .ok (.iconst 4, 1) := by decide +kernel
theorem dL_law_1608 : decode cL_law 1608 = .ok (.iadd, 1) := by decide +kernel
theorem dL_law_1609 : decode cL_law 1609 = .ok (.iaload, 1) := by decide +kernel
theorem dL_law_1610 : decode cL_law 1610 = .ok (.aload_n 0, 1) := by decide +kernel
theorem dL_law_1611 : decode cL_law 1611 = .ok (.iload 4, 2) := by decide +kernel
theorem dL_law_1613 : decode cL_law 1613 = .ok (.iconst 5, 1) := by decide +kernel
theorem dL_law_1614 : decode cL_law 1614 = .ok (.iadd, 1) := by decide +kernel
theorem dL_law_1615 : decode cL_law 1615 = .ok (.iaload, 1) := by decide +kernel
theorem dL_law_1616 : decode cL_law 1616 = .ok (.invokevirtual 192, 3) := by decide +kernel
theorem dL_law_1619 : decode cL_law 1619 = .ok (.aload_n 2, 1) := by decide +kernel
theorem dL_law_1620 : decode cL_law 1620 = .ok (.aload_n 0, 1) := by decide +kernel
theorem dL_law_1621 : decode cL_law 1621 = .ok (.iload 4, 2) := by decide +kernel
theorem dL_law_1623 : decode cL_law 1623 = .ok (.iconst 1, 1) := by decide +kernel
theorem dL_law_1624 : decode cL_law 1624 = .ok (.iadd, 1) := by decide +kernel
theorem dL_law_1625 : decode cL_law 1625 = .ok (.iaload, 1) := by decide +kernel
theorem dL_law_1626 : decode cL_law 1626 = .ok (.aload_n 0, 1) := by decide +kernel
theorem dL_law_1627 : decode cL_law 1627 = .ok (.iload 4, 2) := by decide +kernel
theorem dL_law_1629 : decode cL_law 1629 = .ok (.iconst 2, 1) := by decide +kernel
theorem dL_law_1630 : decode cL_law 1630 = .ok (.iadd, 1) := by decide +kernel
theorem dL_law_1631 : decode cL_law 1631 = .ok (.iaload, 1) := by decide +kernel
theorem dL_law_1632 : decode cL_law 1632 = .ok (.aload_n 0, 1) := by decide +kernel
theorem dL_law_1633 : decode cL_law 1633 = .ok (.iload 4, 2) := by decide +kernel
theorem dL_law_1635 : decode cL_law 1635 = .ok (.iconst 3, 1) := by decide +kernel
theorem dL_law_1636 : decode cL_law 1636 = .ok (.iadd, 1) := by decide +kernel
theorem dL_law_1637 : decode cL_law 1637 = .ok (.iaload, 1) := by decide +kernel
theorem dL_law_1638 : decode cL_law 1638 = .ok (.aload_n 0, 1) := by decide +kernel
theorem dL_law_1639 : decode cL_law 1639 = .ok (.iload 4, 2) := by decide +kernel
theorem dL_law_1641 : decode cL_law 1641 = .ok (.iconst 4, 1) := by decide +kernel
theorem dL_law_1642 : decode cL_law 1642 = .ok (.iadd, 1) := by decide +kernel
theorem dL_law_1643 : decode cL_law 1643 = .ok (.iaload, 1) := by decide +kernel
theorem dL_law_1644 : decode cL_law 1644 = .ok (.aload_n 0, 1) := by decide +kernel
theorem dL_law_1645 : decode cL_law 1645 = .ok (.iload 4, 2) := by decide +kernel
theorem dL_law_1647 : decode cL_law 1647 = .ok (.iconst 5, 1) := by decide +kernel
theorem dL_law_1648 : decode cL_law 1648 = .ok (.iadd, 1) := by decide +kernel
theorem dL_law_1649 : decode cL_law 1649 = .ok (.iaload, 1) := by decide +kernel
theorem dL_law_1650 : decode cL_law 1650 = .ok (.invokevirtual 196, 3) := by decide +kernel
theorem dL_law_1653 : decode cL_law 1653 = .ok (.if_icmp .eq 55, 3) := by decide +kernel
theorem dL_law_1656 : decode cL_law 1656 = .ok (.iconst 0, 1) := by decide +kernel
theorem dL_law_1657 : decode cL_law 1657 = .ok (.ireturn, 1) := by decide +kernel
theorem dL_law_1658 : decode cL_law 1658 = .ok (.aload_n 1, 1) := by decide +kernel
theorem dL_law_1659 : decode cL_law 1659 = .ok (.aload_n 0, 1) := by decide +kernel
theorem dL_law_1660 : decode cL_law 1660 = .ok (.iload 4, 2) := by decide +kernel
theorem dL_law_1662 : decode cL_law 1662 = .ok (.iconst 1, 1) := by decide +kernel
theorem dL_law_1663 : decode cL_law 1663 = .ok (.iadd, 1) := by decide +kernel
theorem dL_law_1664 : decode cL_law 1664 = .ok (.iaload, 1) := by decide +kernel
theorem dL_law_1665 : decode cL_law 1665 = .ok (.invokevirtual 197, 3) := by decide +kernel
theorem dL_law_1668 : decode cL_law 1668 = .ok (.aload_n 2, 1) := by decide +kernel
theorem dL_law_1669 : decode cL_law 1669 = .ok (.aload_n 0, 1) := by decide +kernel
theorem dL_law_1670 : decode cL_law 1670 = .ok (.iload 4, 2) := by decide +kernel
theorem dL_law_1672 : decode cL_law 1672 = .ok (.iconst 1, 1) := by decide +kernel
theorem dL_law_1673 : decode cL_law 1673 = .ok (.iadd, 1) := by decide +kernel
theorem dL_law_1674 : decode cL_law 1674 = .ok (.iaload, 1) := by decide +kernel
theorem dL_law_1675 : decode cL_law 1675 = .ok (.invokevirtual 200, 3) := by decide +kernel
theorem dL_law_1678 : decode cL_law 1678 = .ok (.if_icmp .eq 30, 3) := by decide +kernel
theorem dL_law_1681 : decode cL_law 1681 = .ok (.iconst 0, 1) := by decide +kernel
theorem dL_law_1682 : decode cL_law 1682 = .ok (.ireturn, 1) := by decide +kernel
theorem dL_law_1683 : decode cL_law 1683 = .ok (.aload_n 1, 1) := by decide +kernel
theorem dL_law_1684 : decode cL_law 1684 = .ok (.aload_n 0, 1) := by decide +kernel
theorem dL_law_1685 : decode cL_law 1685 = .ok (.iload 4, 2) := by decide +kernel
theorem dL_law_1687 : decode cL_law 1687 = .ok (.iconst 1, 1) := by decide +kernel
theorem dL_law_1688 : decode cL_law 1688 = .ok (.iadd, 1) := by decide +kernel
theorem dL_law_1689 : decode cL_law 1689 = .ok (.iaload, 1) := by decide +kernel
theorem dL_law_1690 : decode cL_law 1690 = .ok (.invokevirtual 201, 3) := by decide +kernel
theorem dL_law_1693 : decode cL_law 1693 = .ok (.aload_n 2, 1) := by decide +kernel
theorem dL_law_1694 : decode cL_law 1694 = .ok (.aload_n 0, 1) := by decide +kernel
theorem dL_law_1695 : decode cL_law 1695 = .ok (.iload 4, 2) := by decide +kernel
theorem dL_law_1697 : decode cL_law 1697 = .ok (.iconst 1, 1) := by decide +kernel
theorem dL_law_1698 : decode cL_law 1698 = .ok (.iadd, 1) := by decide +kernel
theorem dL_law_1699 : decode cL_law 1699 = .ok (.iaload, 1) := by decide +kernel
theorem dL_law_1700 : decode cL_law 1700 = .ok (.invokevirtual 204, 3) := by decide +kernel
theorem dL_law_1703 : decode cL_law 1703 = .ok (.if_icmp .eq 5, 3) := by decide +kernel
theorem dL_law_1706 : decode cL_law 1706 = .ok (.iconst 0, 1) := by decide +kernel
theorem dL_law_1707 : decode cL_law 1707 = .ok (.ireturn, 1) := by decide +kernel
theorem dL_law_1708 : decode cL_law 1708 = .ok (.iinc 4 6, 3) := by decide +kernel
theorem dL_law_1711 : decode cL_law 1711 = .ok (.goto (-1688), 3) := by decide +kernel
theorem dL_law_1714 : decode cL_law 1714 = .ok (.iconst 1, 1) := by decide +kernel
theorem dL_law_1715 : decode cL_law 1715 = .ok (.ireturn, 1) := by decide +kernel
end
section
/-! ===== BEGIN words of one list among another's, by their places ===== -/
theorem goodIn_r {big : List Cond} (ws : List Cond) (ps : List Nat) (hp : ws = ps.filterMap (fun i => big[i]?)) (h : ws.all goodWord = true) : GoodIn big ws := by
  intro w hw
  have h1 := List.all_eq_true.mp h w hw
  rw [hp] at hw
  obtain ⟨i, -, hi⟩ := List.mem_filterMap.mp hw
  have hm : w ∈ big := by first | exact List.mem_of_getElem? hi | exact List.getElem?_mem hi
  exact ⟨hm, good_of_word h1⟩
theorem goodIn_app {big a b : List Cond} (ha : GoodIn big a) (hb : GoodIn big b) : GoodIn big (a ++ b) := fun w h => (List.mem_append.mp h).elim (ha w) (hb w)
theorem goodIn_ca {big a b : List Cond} {c : Cond} (ha : GoodIn big (c :: a)) (hb : GoodIn big b) : GoodIn big (c :: (a ++ b)) := fun w h => (List.mem_cons.mp h).elim (fun e => ha w (List.mem_cons.mpr (Or.inl e))) (fun h => (List.mem_append.mp h).elim (fun h => ha w (List.mem_cons.mpr (Or.inr h))) (hb w))
theorem goodIn_sub {big ws : List Cond} (hm : ∀ w ∈ ws, w ∈ big) (h : ws.all goodWord = true) : GoodIn big ws := fun w hw => ⟨hm w hw, good_of_word (List.all_eq_true.mp h w hw)⟩
/-! ===== END ===== -/

/-! ===== BEGIN exceptions that leave a method, and their catching by the caller (launches without stack traces) ===== -/
section VXA
/-! The laws vx_back, vx_callV, vx_callS, vx_callSW, vx_throw0, vx_throwS follow proofs of the library, with one case more: JvmDerived/Free/Laws.lean (Back.of_free), Shelf42/LK1.lean (callV, callS), Shelf/KitTraced.lean (throwNew0V, throwNewS). -/
/-- where a method has thrown q: the class by its name, the cell, what was written, the world -/
def vx_T (XC : String → State → State → Prop) (st : State) (q : Addr) (t : State) (mc ms : Nat) (free : Addr → Prop) : Prop :=
  ∃ (E : String) (ce : Cell) (L : List Loc), XC E st t ∧ t.heap[q]? = some ce ∧ ce.vm = .none ∧ st.vm.findClass E = some ce.cls ∧ st.WarmedH t.vm ∧ st.sameButNew ({ t with vm := st.vm } : State) L mc ms ∧ ∀ z ∈ L, free z.base
def vx_Q (Qc : Array Value → State → Outcome → State → Prop) (XC : String → State → State → Prop) (mc ms : Nat) (free : Addr → Prop) : Array Value → State → Outcome → State → Prop := fun a st o t =>
  (Qc a st o t ∧ ∃ L, FrameEnd st o t L mc ms ∧ ∀ q ∈ L, free q.base) ∨ ∃ q, o = .threw q ∧ vx_T XC st q t mc ms free
/-- a callee that returns or throws -/
def vx_Met (l : Launch) (y : MethodName) (ws : List Cond) (rm : Room) (Pc : Array Value → State → Prop) (Qc : Array Value → State → Outcome → State → Prop) (XC : String → State → State → Prop) (mc ms : Nat) (free : Addr → Prop) : Prop :=
  MetFree l y (headSpec ws rm) Pc (fun _ _ _ _ _ => True) (vx_Q Qc XC mc ms free)
def vx_Post (XC : String → State → State → Prop) (mc ms : Nat) (free : Addr → Prop) : Pt → Array Value → Addr → Pt → Prop := fun A a q B =>
  ∃ (g : JFrame) (mk : MethodId) (t : State) (L : List Loc) (E : String) (ce : Cell), B.U.heap = t.heap ∧ B.U.vm = t.vm ∧ XC E (A.U.calling g mk a) t ∧ t.heap[q]? = some ce ∧ ce.vm = .none ∧ A.U.vm.findClass E = some ce.cls ∧ B.locs = A.locs ++ L ∧ (∀ z ∈ L, free z.base) ∧ B.cells = A.cells + mc ∧ B.slots = A.slots + ms
def vx_Back (l : Launch) (R : Room) (p : Program) (e : Env) (below : List Frame) (s : State) (sargs : Array Value) (y : MethodName) (len W9 : Nat)
    (Pre : Pt → Array Value → Prop) (Post : Pt → Array Value → Option Value → Pt → Prop) (PostX : Pt → Array Value → Addr → Pt → Prop) : Prop :=
  ∀ (m : MethodId) (meth : Method) (c : Code) (A : Pt) (g : JFrame) (ig : Instr) (mk : MethodId) (a : Array Value),
    Stand p l e R s m sargs below meth c A.U A.locs A.cells A.slots → g.method = m → g.locals.size = c.maxLocals → decode c.code g.pc = .ok (ig, len) →
    2 * g.monitorRoom + (g.stack.map fun v => v.category).sum ≤ W9 → A.U.methodNamed? y = some mk → Pre A a →
    (∃ (v : Option Value) (B : Pt), Stand p l e R s m sargs below meth c B.U B.locs B.cells B.slots ∧ Post A a v B ∧
      Steps p.tables e below (doInvoke e (A.U.setTop g) [] mk a).1 (B.U.setTop { g with pc := g.pc + len, stack := v.toList ++ g.stack })) ∨
    (∃ (q : Addr) (B : Pt), Stand p l e R s m sargs below meth c B.U B.locs B.cells B.slots ∧ PostX A a q B ∧
      Steps p.tables e below (doInvoke e (A.U.setTop g) [] mk a).1 ((B.U.setTop g).pushFrame (.throwing q)))
section Payer
variable {l : Launch} {R : Room} {p : Program} {e : Env} {below : List Frame} {s : State} {sargs : Array Value} {y : MethodName} {len W9 : Nat}
theorem vx_back {ws : List Cond} {rm : Room} {Pc : Array Value → State → Prop} {Qc : Array Value → State → Outcome → State → Prop} {XC : String → State → State → Prop} {mc ms : Nat} {free : Addr → Prop} {bytes : ByteArray} {maxL : Nat} {ret : Option FieldType}
    (hM : vx_Met l y ws rm Pc Qc XC mc ms free) (hblind : FrameBlind Pc) (hrc : rm.cells = mc) (hrs : rm.slots = ms)
    (hframes : rm.frames + 1 ≤ R.frames) (hlocals : W9 + (maxL + 11) + rm.locals ≤ R.locals)
    (hws : ∀ w ∈ ws, ∀ a' U, s.WarmedH U.vm → w.before a' U = true) (hcode : Cond.code y bytes maxL ret ∈ ws) (hinit : ∀ a' U, s.WarmedH U.vm → (Cond.initialized y.cls).before a' U = true) :
    vx_Back l R p e below s sargs y len W9 (PreOf R mc ms Pc) (PostOf Qc mc ms free) (vx_Post XC mc ms free) := by
  intro m meth c A g ig mk a X hg hsize hdg hW hn hp
  have h1 : (headSpec ws rm).pre.before a A.U = true := atoms_intro fun w hw => hws w hw _ _ X.warmed
  have h2 : (Cond.code y bytes maxL ret).before a A.U = true := hws _ hcode _ _ X.warmed
  have h3 : (Cond.initialized y.cls).before a A.U = true := hinit _ _ X.warmed
  have h4 : A.cells + (headSpec ws rm).room.cells ≤ R.cells := by rw [show (headSpec ws rm).room.cells = mc from hrc]; exact hp.1
  have h5 : A.slots + (headSpec ws rm).room.slots ≤ R.slots := by rw [show (headSpec ws rm).room.slots = ms from hrs]; exact hp.2.1
  have hPc : Pc a (A.U.calling g mk a) := hblind _ _ _ _ hp.2.2
  obtain ⟨U, Ls, c0, s0⟩ := A
  dsimp only [Pt.U, Pt.locs, Pt.cells, Pt.slots] at h1 h2 h3 h4 h5 X hn hPc ⊢
  obtain ⟨methY, cY, hmY, hcY, -, hlY, -, -, -, -⟩ := Cond.code_spec hn h2
  obtain ⟨kY, hkY, -⟩ := className_of_methodNamed hn
  have hinitY : kY.init = .initialized := Cond.initialized_spec (findClass_of_methodNamed hn) hkY h3
  have h : At U g.method c below := by rw [hg]; exact X.here
  have hlocals9 : W9 + (maxL + 11) + (headSpec ws rm).room.locals ≤ R.locals := hlocals
  have happ : (headSpec ws rm).appliesLoose y e.platform (U.calling g mk a) = true :=
    Spec.appliesLoose_calling (g := g) h hdg hn hkY hinitY
      (X.room_calling (g := g) (R' := (headSpec ws rm).room) hsize hmY hcY hframes (by rw [hlY]; omega) h4 h5) h1
  obtain ⟨mid, hmid⟩ := h.above
  have hfr : (U.setTop g).frames = (.java g :: mid) ++ below := by rw [State.frames_setTop' g h.top, hmid]; rfl
  obtain ⟨o, s₂, hsteps, -, hend, hq⟩ := Steps.callFree hM p X.admits X.cas X.clock (acts := []) hfr happ hPc trivial
  have hq' : vx_Q Qc XC mc ms free a (U.calling g mk a) o s₂ := hq
  rw [State.frames_setTop' g h.top] at hend
  obtain ⟨g₀, hg0⟩ := Option.isSome_iff_exists.mp h.top
  obtain ⟨r, hr⟩ := State.topJava?_eq_some.mp hg0
  have hr' : (({ U with heap := s₂.heap, slotsUsed := s₂.slotsUsed } : State).setVm s₂.vm).frames = .java g₀ :: r := hr
  rcases hq' with ⟨hqc, L, hfe, hL⟩ | ⟨q, rfl, E, ce, L, hx, hce, hcv, hcl, hW₂, hsm, hL⟩
  · obtain ⟨⟨v, rfl⟩, hW₂, e2, q2, q3, q4, q5, q6⟩ := id hfe
    have e3 : s₂ = ({ (U.calling g mk a).setFrames s₂.frames with heap := s₂.heap, slotsUsed := s₂.slotsUsed } : State).setVm s₂.vm := by
      have : s₂ = ({ s₂ with vm := (U.calling g mk a).vm } : State).setVm s₂.vm := rfl
      rw [e2] at this
      exact this
    obtain ⟨c₂, i₂, len₂, hc₂, hd₂, hf₂⟩ := hend
    have hW' : U.WarmedH s₂.vm := hW₂
    have hcc : c₂ = c := by
      have h1 : s₂.code? g.method = U.code? g.method := by
        rw [State.code?_eq, State.code?_eq, hW'.alike.method?]
      exact Option.some.inj (hc₂.symm.trans (h1.trans h.code))
    subst hcc
    have hlen : len₂ = len := by rw [hdg] at hd₂; cases hd₂; rfl
    subst hlen
    have hs₂ : s₂ = (({ U with heap := s₂.heap, slotsUsed := s₂.slotsUsed } : State).setVm s₂.vm).setTop { g with pc := g.pc + len₂, stack := v.toList ++ g.stack } := by
      refine e3.trans ?_
      rw [hf₂, State.calling_eq h.top, State.setFrames_setFrames, State.setTop_of_frames _ hr', hr]
      rfl
    have hsame : U.sameButNew ({ U with heap := s₂.heap, slotsUsed := s₂.slotsUsed } : State) L mc ms := by
      refine ⟨?_, q2, q3, q4, q5, q6⟩
      obtain ⟨t, ht, -⟩ := State.frames_cons hr
      show ({ U with heap := s₂.heap, slotsUsed := s₂.slotsUsed } : State) = { U.setFrames U.frames with heap := s₂.heap, slotsUsed := s₂.slotsUsed }
      rw [State.setFrames_self ht]
    subst hg
    refine Or.inl ⟨v, ⟨(({ U with heap := s₂.heap, slotsUsed := s₂.slotsUsed } : State).setVm s₂.vm), Ls ++ L, c0 + mc, s0 + ms⟩,
      ⟨X.admits, X.cas, X.clock, X.frames, X.room, X.hears, X.method, X.code, (X.here.setHeapUsed s₂.heap s₂.slotsUsed).setVm hW'.alike, X.tail, State.WarmedH.trans X.warmed hW', X.limits, X.bytes, X.same.trans (hsame.setVm s.vm)⟩,
      ⟨g, mk, s₂, L, rfl, rfl, hqc, rfl, hL, rfl, rfl⟩, ?_⟩
    show Steps p.tables e below _ ((({ U with heap := s₂.heap, slotsUsed := s₂.slotsUsed } : State).setVm s₂.vm).setTop { g with pc := g.pc + len₂, stack := v.toList ++ g.stack })
    rw [← hs₂]
    exact hsteps
  · obtain ⟨e2, q2, q3, q4, q5, q6⟩ := id hsm
    have e3 : s₂ = ({ (U.calling g mk a).setFrames s₂.frames with heap := s₂.heap, slotsUsed := s₂.slotsUsed } : State).setVm s₂.vm := by
      have : s₂ = ({ s₂ with vm := (U.calling g mk a).vm } : State).setVm s₂.vm := rfl
      rw [e2] at this
      exact this
    have hf₂ : s₂.frames = .throwing q :: .java g :: U.frames.tail := hend
    have hW' : U.WarmedH s₂.vm := hW₂
    have hs₂ : s₂ = ((({ U with heap := s₂.heap, slotsUsed := s₂.slotsUsed } : State).setVm s₂.vm).setTop g).pushFrame (.throwing q) := by
      refine e3.trans ?_
      rw [hf₂, State.calling_eq h.top, State.setFrames_setFrames, State.pushFrame, State.frames_setTop _ hr', State.setTop_of_frames _ hr', State.setFrames_setFrames, hr]
      rfl
    have hsame : U.sameButNew ({ U with heap := s₂.heap, slotsUsed := s₂.slotsUsed } : State) L mc ms := by
      refine ⟨?_, q2, q3, q4, q5, q6⟩
      obtain ⟨t, ht, -⟩ := State.frames_cons hr
      show ({ U with heap := s₂.heap, slotsUsed := s₂.slotsUsed } : State) = { U.setFrames U.frames with heap := s₂.heap, slotsUsed := s₂.slotsUsed }
      rw [State.setFrames_self ht]
    subst hg
    refine Or.inr ⟨q, ⟨(({ U with heap := s₂.heap, slotsUsed := s₂.slotsUsed } : State).setVm s₂.vm), Ls ++ L, c0 + mc, s0 + ms⟩,
      ⟨X.admits, X.cas, X.clock, X.frames, X.room, X.hears, X.method, X.code, (X.here.setHeapUsed s₂.heap s₂.slotsUsed).setVm hW'.alike, X.tail, State.WarmedH.trans X.warmed hW', X.limits, X.bytes, X.same.trans (hsame.setVm s.vm)⟩,
      ⟨g, mk, s₂, L, E, ce, rfl, rfl, hx, hce, hcv, hcl, rfl, hL, rfl, rfl⟩, ?_⟩
    show Steps p.tables e below _ (((({ U with heap := s₂.heap, slotsUsed := s₂.slotsUsed } : State).setVm s₂.vm).setTop g).pushFrame (.throwing q))
    rw [← hs₂]
    exact hsteps
end Payer
section Calls
variable {p : Program} {l : Launch} {e : Env} {R : Room} {s : State} {m : MethodId} {args : Array Value} {below : List Frame} {meth : Method} {c : Code} {T : State} {locs : List Loc} {cells slots : Nat}
theorem vx_callV (X : Stand p l e R s m args below meth c T locs cells slots) (hexec : p.tables.exec = Jvm.exec) {own C : String} {index : Nat} {y : MethodName} {bytes : ByteArray} {maxL : Nat} {ret : Option FieldType}
    (hown : s.vm.findClass own = some m.cls) (hlink : (Cond.methodLink own index y).before args s = true) (hinst : (Cond.instanceMethod y).before args s = true) (hsel : (Cond.selects C y y).before args s = true)
    (hcode : (Cond.code y bytes maxL ret).before args s = true) (hy : y.cls ≠ "java/lang/invoke/MethodHandle" ∧ y.cls ≠ "java/lang/invoke/VarHandle")
    {W9 : Nat} {Pre : Pt → Array Value → Prop} {Post : Pt → Array Value → Option Value → Pt → Prop} {PostX : Pt → Array Value → Addr → Pt → Prop} (hK : vx_Back l R p e below s args y 3 W9 Pre Post PostX)
    {b : Addr} {cellB : Cell} (hcell : T.heap[b]? = some cellB) (hobj : cellB.vm.isStatics = false) (hcls : s.vm.findClass C = some cellB.cls)
    {g : JFrame} (hg : g.method = m) (hsize : g.locals.size = c.maxLocals) {argsL rest : List Value} (hlen : ∀ sig, parseMethodDescriptor y.desc = some sig → argsL.length = sig.parameters.length)
    (hstack : g.stack = argsL.reverse ++ .ref b :: rest) (hW : 2 * g.monitorRoom + (rest.map fun v => v.category).sum ≤ W9) (hdg : decode c.code g.pc = .ok (.invokevirtual index, 3))
    (hpre : ∀ vm₁, s.WarmedH vm₁ → Pre ⟨T.setVm vm₁, locs, cells, slots⟩ (Value.ref b :: argsL).toArray) :
    (∃ (v : Option Value) (vm₁ : Vm) (B : Pt), s.WarmedH vm₁ ∧ Stand p l e R s m args below meth c B.U B.locs B.cells B.slots ∧ Post ⟨T.setVm vm₁, locs, cells, slots⟩ (Value.ref b :: argsL).toArray v B ∧
      ∀ target, Steps p.tables e below (B.U.setTop { g with pc := g.pc + 3, stack := v.toList ++ rest }) target → Steps p.tables e below (T.setTop g) target) ∨
    (∃ (q : Addr) (vm₁ : Vm) (B : Pt), s.WarmedH vm₁ ∧ Stand p l e R s m args below meth c B.U B.locs B.cells B.slots ∧ PostX ⟨T.setVm vm₁, locs, cells, slots⟩ (Value.ref b :: argsL).toArray q B ∧
      Steps p.tables e below (T.setTop g) ((B.U.setTop { g with stack := rest }).pushFrame (.throwing q))) := by
  obtain ⟨mk, methM, hnamed, hmethM, hstM, habM⟩ := Cond.instanceMethod_spec hinst
  obtain ⟨methM', cM, hmethM', -, -, -, -, -, -, hsigM⟩ := Cond.code_spec hnamed hcode
  cases hmethM.symm.trans hmethM'
  obtain ⟨c2, r2, m2, q1, q2, q3, q4, kP, hkP, hkPi⟩ := Cond.selects_spec hsel
  cases hcls.symm.trans q1
  cases (State.methodFound?_of_named hnamed hy).symm.trans q2
  cases hnamed.symm.trans q3
  have hselP : selectMethod e.platform s.vm cellB.cls mk = .method mk := by rw [Launch.admits_selectMethod X.admits]; exact q4
  obtain ⟨vm₁, X₁, hstep₁⟩ := X.invokevirtual hexec hown hlink hnamed hmethM hstM hkP hkPi hy (a := b) (cell := cellB) hcell
    (fun z h => by rw [h] at hobj; cases hobj) hselP hmethM habM hkP hkPi (g := g) hg (argsL := argsL) (rest := rest) (hlen _ hsigM) hstack hdg
  rcases hK m meth c ⟨T.setVm vm₁, locs, cells, slots⟩ { g with stack := rest } (.invokevirtual index) mk (Value.ref b :: argsL).toArray X₁ hg hsize hdg hW (X₁.named hnamed) (hpre vm₁ X₁.warmed) with ⟨v, B, X', hpost, hsteps⟩ | ⟨q, B, X', hpost, hsteps⟩
  · exact Or.inl ⟨v, vm₁, B, X₁.warmed, X', hpost, fun target h => hstep₁ _ fun acts => by rw [doInvoke_state]; exact hsteps.trans h⟩
  · exact Or.inr ⟨q, vm₁, B, X₁.warmed, X', hpost, hstep₁ _ fun acts => by rw [doInvoke_state]; exact hsteps⟩
theorem vx_callS (X : Stand p l e R s m args below meth c T locs cells slots) (hexec : p.tables.exec = Jvm.exec) {own : String} {index : Nat} {y : MethodName} {bytes : ByteArray} {maxL : Nat} {ret : Option FieldType}
    (hown : s.vm.findClass own = some m.cls) (hlink : (Cond.methodLink own index y).before args s = true) (hstat : (Cond.static y).before args s = true) (hinit : (Cond.initialized y.cls).before args s = true)
    (hcode : (Cond.code y bytes maxL ret).before args s = true) (hy : y.cls ≠ "java/lang/invoke/MethodHandle" ∧ y.cls ≠ "java/lang/invoke/VarHandle")
    {W9 : Nat} {Pre : Pt → Array Value → Prop} {Post : Pt → Array Value → Option Value → Pt → Prop} {PostX : Pt → Array Value → Addr → Pt → Prop} (hK : vx_Back l R p e below s args y 3 W9 Pre Post PostX)
    {g : JFrame} (hg : g.method = m) (hsize : g.locals.size = c.maxLocals) {argsL rest : List Value} (hlen : ∀ sig, parseMethodDescriptor y.desc = some sig → argsL.length = sig.parameters.length)
    (hstack : g.stack = argsL.reverse ++ rest) (hW : 2 * g.monitorRoom + (rest.map fun v => v.category).sum ≤ W9) (hdg : decode c.code g.pc = .ok (.invokestatic index, 3))
    (hpre : ∀ vm₁, s.WarmedH vm₁ → Pre ⟨T.setVm vm₁, locs, cells, slots⟩ argsL.toArray) :
    (∃ (v : Option Value) (vm₁ : Vm) (B : Pt), s.WarmedH vm₁ ∧ Stand p l e R s m args below meth c B.U B.locs B.cells B.slots ∧ Post ⟨T.setVm vm₁, locs, cells, slots⟩ argsL.toArray v B ∧
      ∀ target, Steps p.tables e below (B.U.setTop { g with pc := g.pc + 3, stack := v.toList ++ rest }) target → Steps p.tables e below (T.setTop g) target) ∨
    (∃ (q : Addr) (vm₁ : Vm) (B : Pt), s.WarmedH vm₁ ∧ Stand p l e R s m args below meth c B.U B.locs B.cells B.slots ∧ PostX ⟨T.setVm vm₁, locs, cells, slots⟩ argsL.toArray q B ∧
      Steps p.tables e below (T.setTop g) ((B.U.setTop { g with stack := rest }).pushFrame (.throwing q))) := by
  obtain ⟨mk, hnamed⟩ := Cond.code_named hcode
  obtain ⟨methM, cM, hmethM, -, -, -, -, -, -, hsigM⟩ := Cond.code_spec hnamed hcode
  have hstatic : methM.isStatic = true := Cond.static_spec hnamed hmethM hstat
  obtain ⟨kP, hkP, -⟩ := className_of_methodNamed hnamed
  have hinitP : kP.init = .initialized := Cond.initialized_spec (findClass_of_methodNamed hnamed) hkP hinit
  obtain ⟨vm₁, X₁, hstep₁⟩ := X.invokestatic hexec hown hlink hnamed hmethM hstatic hkP hinitP hy (g := g) hg (argsL := argsL) (rest := rest) (hlen _ hsigM) hstack hdg
  rcases hK m meth c ⟨T.setVm vm₁, locs, cells, slots⟩ { g with stack := rest } (.invokestatic index) mk argsL.toArray X₁ hg hsize hdg hW (X₁.named hnamed) (hpre vm₁ X₁.warmed) with ⟨v, B, X', hpost, hsteps⟩ | ⟨q, B, X', hpost, hsteps⟩
  · exact Or.inl ⟨v, vm₁, B, X₁.warmed, X', hpost, fun target h => hstep₁ _ fun acts => by rw [doInvoke_state]; exact hsteps.trans h⟩
  · exact Or.inr ⟨q, vm₁, B, X₁.warmed, X', hpost, hstep₁ _ fun acts => by rw [doInvoke_state]; exact hsteps⟩
end Calls
theorem vx_cls {s : State} {T : State} {vm₁ : Vm} {E : String} {k : ClassId} (hW : s.WarmedH vm₁) (h : (T.setVm vm₁).vm.findClass E = some k) : s.vm.findClass E = some k := by
  have h1 : vm₁.findClass E = some k := h
  rw [hW.alike.findClass] at h1
  exact h1
/-- the method's frame g, with q thrown over it -/
def vx_W (p : Program) (l : Launch) (e : Env) (R : Room) (s : State) (m : MethodId) (args : Array Value) (below : List Frame) (meth : Method) (c : Code) (H : Heap) (locs : List Loc) (cells slots : Nat) (Q : State → Prop) (g : JFrame) (q : Addr) : Prop :=
  ∀ T : State, T.heap = H → Stand p l e R s m args below meth c T locs cells slots → ∃ t, Steps p.tables e below ((T.setTop g).pushFrame (.throwing q)) t ∧ Q t
def vx_Run (p : Program) (l : Launch) (e : Env) (R : Room) (s : State) (m : MethodId) (args : Array Value) (below : List Frame) (meth : Method) (c : Code) (H : Heap) (locs : List Loc) (cells slots mc ms : Nat) (g : JFrame) (rest : List Value) (Qa : State → Outcome → State → Prop) (XC : String → State → State → Prop) (free : Addr → Prop) : Prop :=
  ∀ T : State, T.heap = H → Stand p l e R s m args below meth c T locs cells slots →
    (∃ (v : Option Value) (st₀ t T' : State) (L : List Loc), st₀.heap = H ∧ Stand p l e R s m args below meth c T' (locs ++ L) (cells + mc) (slots + ms) ∧ (∀ q ∈ L, free q.base) ∧ T'.heap = t.heap ∧ T'.vm = t.vm ∧ Qa st₀ (.returned v) t ∧
      Goes p e below T g T' { g with pc := g.pc + 3, stack := v.toList ++ rest }) ∨
    (∃ (q : Addr) (st₀ t T' : State) (L : List Loc) (E : String) (ce : Cell), st₀.heap = H ∧ Stand p l e R s m args below meth c T' (locs ++ L) (cells + mc) (slots + ms) ∧ (∀ z ∈ L, free z.base) ∧ T'.heap = t.heap ∧ T'.vm = t.vm ∧ XC E st₀ t ∧ t.heap[q]? = some ce ∧ ce.vm = .none ∧ s.vm.findClass E = some ce.cls ∧
      Steps p.tables e below (T.setTop g) ((T'.setTop { g with stack := rest }).pushFrame (.throwing q)))
def vx_X {S : Type} (px : S → Prop) (B : String → S → State → Prop) (A : Nat → Prop) : String → State → State → Prop := fun E st t => ∃ u : S, px u ∧ B E u t ∧ va_F A st t
section Runs
variable {p : Program} {l : Launch} {e : Env} {R : Room} {s : State} {m : MethodId} {args : Array Value} {below : List Frame} {meth : Method} {c : Code} {H : Heap} {locs : List Loc} {cells slots : Nat}
variable {y : MethodName} {bytes cc : ByteArray} {maxL nL mc ms n index : Nat} {ret : Option FieldType} {ws : List Cond} {rm : Room} {Pc : Array Value → State → Prop} {Qc : Array Value → State → Outcome → State → Prop} {XC : String → State → State → Prop} {free : Addr → Prop} {Ts : List Cond} {own C : String} {b : Addr} {As rest : List Value} {g : JFrame}
theorem vx_callBack (cb : CallB R s args own index y bytes maxL ret ws rm mc ms n) (hM : vx_Met l y ws rm Pc Qc XC mc ms free) (hbl : FrameBlind Pc) : vx_Back l R p e below s args y 3 8 (PreOf R mc ms Pc) (PostOf Qc mc ms free) (vx_Post XC mc ms free) := by
  obtain ⟨hrc, hrs, hfr, hlo, hws, hcw, -, hini, -⟩ := cb
  exact vx_back (bytes := bytes) (maxL := maxL) (ret := ret) hM hbl hrc hrs hfr hlo hws hcw (fun a' U hW => word_at hW (Or.inl (by first | rfl | simp [Cond.onTables, Cond.keeps, Cond.steady])) hini)
theorem vx_runV (S : CallFix p m c cc nL s args Ts own) (hM : vx_Met l y ws rm Pc Qc XC mc ms free) (cw : CallW R s args own C index y bytes maxL ret ws rm mc ms n) (hp : PreV s H C b Pc As)
    (hg : g.method = m) (hn : As.length = n) (hsize : g.locals.size = nL) (hstack : g.stack = As.reverse ++ .ref b :: rest) (hW : 2 * g.monitorRoom + (rest.map fun v => v.category).sum ≤ 8) (hdg : decode cc g.pc = .ok (.invokevirtual index, 3)) (hf : cells + mc ≤ R.cells ∧ slots + ms ≤ R.slots) :
    vx_Run p l e R s m args below meth c H locs cells slots mc ms g rest (Qc (Value.ref b :: As).toArray) XC free := by
  have hK : vx_Back l R p e below s args y 3 8 (PreOf R mc ms Pc) (PostOf Qc mc ms free) (vx_Post XC mc ms free) := vx_callBack cw.1 hM hp.1
  obtain ⟨⟨-, -, -, -, -, -, hcode, -, hy, hlen, hl⟩, hin, hse⟩ := cw
  obtain ⟨hx, hb, hml, ho, -⟩ := S
  obtain ⟨-, ⟨cellB, hcB, hoB, hclB⟩, hPc⟩ := hp
  intro T hT X
  rcases vx_callV X hx (C := C) (bytes := bytes) (maxL := maxL) (ret := ret) ho hl hin hse hcode hy hK (by rw [hT]; exact hcB) hoB hclB hg (hsize.trans hml.symm) (argsL := As) (rest := rest) (fun sig h => hn.trans (hlen sig h)) hstack hW (by rw [hb]; exact hdg)
    (fun vm₁ hW₁ => ⟨hf.1, hf.2, hPc (T.setVm vm₁) hT hW₁⟩) with ⟨v, vm₁, ⟨U', l2, c2, s2⟩, hW₁, X', ⟨g', mk, t, L, e1, e2, hq, h1, hL, h2, h3⟩, st⟩ | ⟨q, vm₁, ⟨U', l2, c2, s2⟩, hW₁, X', ⟨g', mk, t, L, E, ce, e1, e2, hq, hce, hcv, hcl, h1, hL, h2, h3⟩, st⟩
  · dsimp only [Pt.U, Pt.locs, Pt.cells, Pt.slots] at X' e1 e2 h1 h2 h3 st
    subst h1; subst h2; subst h3
    exact Or.inl ⟨v, (T.setVm vm₁).calling g' mk (Value.ref b :: As).toArray, t, U', L, hT, X', hL, e1, e2, hq, st⟩
  · dsimp only [Pt.U, Pt.locs, Pt.cells, Pt.slots] at X' e1 e2 h1 h2 h3 st hcl
    subst h1; subst h2; subst h3
    exact Or.inr ⟨q, (T.setVm vm₁).calling g' mk (Value.ref b :: As).toArray, t, U', L, E, ce, hT, X', hL, e1, e2, hq, hce, hcv, vx_cls hW₁ hcl, st⟩
theorem vx_runS (S : CallFix p m c cc nL s args Ts own) (hM : vx_Met l y ws rm Pc Qc XC mc ms free) (cw : CallB R s args own index y bytes maxL ret ws rm mc ms n ∧ (Cond.static y).before args s = true) (hp : PreS s H Pc As)
    (hg : g.method = m) (hn : As.length = n) (hsize : g.locals.size = nL) (hstack : g.stack = As.reverse ++ rest) (hW : 2 * g.monitorRoom + (rest.map fun v => v.category).sum ≤ 8) (hdg : decode cc g.pc = .ok (.invokestatic index, 3)) (hf : cells + mc ≤ R.cells ∧ slots + ms ≤ R.slots) :
    vx_Run p l e R s m args below meth c H locs cells slots mc ms g rest (Qc As.toArray) XC free := by
  have hK : vx_Back l R p e below s args y 3 8 (PreOf R mc ms Pc) (PostOf Qc mc ms free) (vx_Post XC mc ms free) := vx_callBack cw.1 hM hp.1
  obtain ⟨⟨-, -, -, -, -, -, hcode, hini, hy, hlen, hl⟩, hstt⟩ := cw
  obtain ⟨hx, hb, hml, ho, -⟩ := S
  intro T hT X
  rcases vx_callS X hx (bytes := bytes) (maxL := maxL) (ret := ret) ho hl hstt hini hcode hy hK hg (hsize.trans hml.symm) (argsL := As) (rest := rest) (fun sig h => hn.trans (hlen sig h)) hstack hW (by rw [hb]; exact hdg)
    (fun vm₁ hW₁ => ⟨hf.1, hf.2, hp.2 (T.setVm vm₁) hT hW₁⟩) with ⟨v, vm₁, ⟨U', l2, c2, s2⟩, hW₁, X', ⟨g', mk, t, L, e1, e2, hq, h1, hL, h2, h3⟩, st⟩ | ⟨q, vm₁, ⟨U', l2, c2, s2⟩, hW₁, X', ⟨g', mk, t, L, E, ce, e1, e2, hq, hce, hcv, hcl, h1, hL, h2, h3⟩, st⟩
  · dsimp only [Pt.U, Pt.locs, Pt.cells, Pt.slots] at X' e1 e2 h1 h2 h3 st
    subst h1; subst h2; subst h3
    exact Or.inl ⟨v, (T.setVm vm₁).calling g' mk As.toArray, t, U', L, hT, X', hL, e1, e2, hq, st⟩
  · dsimp only [Pt.U, Pt.locs, Pt.cells, Pt.slots] at X' e1 e2 h1 h2 h3 st hcl
    subst h1; subst h2; subst h3
    exact Or.inr ⟨q, (T.setVm vm₁).calling g' mk As.toArray, t, U', L, E, ce, hT, X', hL, e1, e2, hq, hce, hcv, vx_cls hW₁ hcl, st⟩
end Runs
section Rows
variable {p : Program} {l : Launch} {e : Env} {R : Room} {s : State} {m : MethodId} {args : Array Value} {below : List Frame} {meth : Method} {c : Code} {H : Heap} {locs : List Loc} {cells slots : Nat} {Q : State → Prop}
variable {mc ms : Nat} {free : Addr → Prop} {A0 A1 : Nat → Prop} {H0 : Heap} {a : Array Value} {pc : Nat} {ls : Array Slot} {st0 rest : List Value}
theorem vx_keep {st₀ t T' : State} {L : List Loc} (h0 : st₀.heap = H) (e1 : T'.heap = t.heap) (hS : va_S A0 H0 H locs) (hA : ∀ q, q < H.size → A1 q → A0 q) (hf : ∀ q, free q → A0 q) (hL : ∀ q ∈ L, free q.base) (hF : va_F A1 st₀ t) :
    H.size ≤ T'.heap.size ∧ (∀ q : Nat, q < H.size → ¬ A1 q → T'.heap[q]? = H[q]?) ∧ va_S A0 H0 T'.heap (locs ++ L) := by
  obtain ⟨hz, hk⟩ := hF
  rw [h0] at hz hk
  exact ⟨by rw [e1]; exact hz, fun q h1 h2 => by rw [e1]; exact hk q h1 h2,
    ⟨Nat.le_trans hS.1 (by rw [e1]; exact hz), fun q h1 h2 => by rw [e1, hk q (Nat.lt_of_lt_of_le h1 hS.1) (fun z => h2 (hA q (Nat.lt_of_lt_of_le h1 hS.1) z))]; exact hS.2.1 q h1 h2, fun q hq => by
      rcases List.mem_append.mp hq with h | h
      · exact hS.2.2 q h
      · exact hf _ (hL q h)⟩⟩
theorem vx_calli {S SX : Type} {post : Int32 → S → Prop} {px : SX → Prop} {B : S → State → Prop} {BX : String → SX → State → Prop} {AX : Nat → Prop} (hr : vx_Run p l e R s m args below meth c H locs cells slots mc ms (F0 m pc ls st0) rest (va_Qi post B A1 a) (vx_X px BX AX) free) (hS : va_S A0 H0 H locs) (hA : ∀ q, q < H.size → A1 q → A0 q) (hf : ∀ q, free q → A0 q) (hAX : ∀ q, q < H.size → AX q → A0 q)
    (kx : ∀ (E : String) (ce : Cell) (q9 : Addr) (u : SX) (t : State) (H1 : Heap) (locs1 : List Loc), t.heap = H1 → s.vm.Alike t.vm → px u → BX E u t → H.size ≤ H1.size → (∀ q : Nat, q < H.size → ¬ AX q → H1[q]? = H[q]?) → va_S A0 H0 H1 locs1 → H1[q9]? = some ce → ce.vm = .none → s.vm.findClass E = some ce.cls → vx_W p l e R s m args below meth c H1 locs1 (cells + mc) (slots + ms) Q (F0 m pc ls rest) q9)
    (kk : ∀ (r : Int32) (u : S) (t : State) (H1 : Heap) (locs1 : List Loc), t.heap = H1 → s.vm.Alike t.vm → post r u → B u t → H.size ≤ H1.size → (∀ q : Nat, q < H.size → ¬ A1 q → H1[q]? = H[q]?) → va_S A0 H0 H1 locs1 → W p l e R s m args below meth c H1 locs1 (cells + mc) (slots + ms) Q (F0 m (pc + 3) ls (.int r :: rest))) : W p l e R s m args below meth c H locs cells slots Q (F0 m pc ls st0) := by
  intro T hT X
  rcases hr T hT X with ⟨v, st₀, t, T', L, h0, X', hL, e1, e2, ⟨⟨r, u, hv, hp, hb⟩, hF⟩, st⟩ | ⟨q, st₀, t, T', L, E, ce, h0, X', hL, e1, e2, ⟨u, hp, hb, hF⟩, hce, hcv, hcl, st⟩
  · cases hv
    obtain ⟨k1, k2, k3⟩ := vx_keep h0 e1 hS hA hf hL hF
    obtain ⟨t2, a1, b1⟩ := kk r u t T'.heap (locs ++ L) e1.symm (by rw [← e2]; exact X'.warmed.alike) hp hb k1 k2 k3 T' rfl X'
    exact ⟨t2, st t2 a1, b1⟩
  · obtain ⟨k1, k2, k3⟩ := vx_keep h0 e1 hS hAX hf hL hF
    obtain ⟨t2, a1, b1⟩ := kx E ce q u t T'.heap (locs ++ L) e1.symm (by rw [← e2]; exact X'.warmed.alike) hp hb k1 k2 k3 (by rw [e1]; exact hce) hcv hcl T' rfl X'
    exact ⟨t2, st.trans a1, b1⟩
theorem vx_calll {S SX : Type} {post : Int64 → S → Prop} {px : SX → Prop} {B : S → State → Prop} {BX : String → SX → State → Prop} {AX : Nat → Prop} (hr : vx_Run p l e R s m args below meth c H locs cells slots mc ms (F0 m pc ls st0) rest (va_Ql post B A1 a) (vx_X px BX AX) free) (hS : va_S A0 H0 H locs) (hA : ∀ q, q < H.size → A1 q → A0 q) (hf : ∀ q, free q → A0 q) (hAX : ∀ q, q < H.size → AX q → A0 q)
    (kx : ∀ (E : String) (ce : Cell) (q9 : Addr) (u : SX) (t : State) (H1 : Heap) (locs1 : List Loc), t.heap = H1 → s.vm.Alike t.vm → px u → BX E u t → H.size ≤ H1.size → (∀ q : Nat, q < H.size → ¬ AX q → H1[q]? = H[q]?) → va_S A0 H0 H1 locs1 → H1[q9]? = some ce → ce.vm = .none → s.vm.findClass E = some ce.cls → vx_W p l e R s m args below meth c H1 locs1 (cells + mc) (slots + ms) Q (F0 m pc ls rest) q9)
    (kk : ∀ (r : Int64) (u : S) (t : State) (H1 : Heap) (locs1 : List Loc), t.heap = H1 → s.vm.Alike t.vm → post r u → B u t → H.size ≤ H1.size → (∀ q : Nat, q < H.size → ¬ A1 q → H1[q]? = H[q]?) → va_S A0 H0 H1 locs1 → W p l e R s m args below meth c H1 locs1 (cells + mc) (slots + ms) Q (F0 m (pc + 3) ls (.long r :: rest))) : W p l e R s m args below meth c H locs cells slots Q (F0 m pc ls st0) := by
  intro T hT X
  rcases hr T hT X with ⟨v, st₀, t, T', L, h0, X', hL, e1, e2, ⟨⟨r, u, hv, hp, hb⟩, hF⟩, st⟩ | ⟨q, st₀, t, T', L, E, ce, h0, X', hL, e1, e2, ⟨u, hp, hb, hF⟩, hce, hcv, hcl, st⟩
  · cases hv
    obtain ⟨k1, k2, k3⟩ := vx_keep h0 e1 hS hA hf hL hF
    obtain ⟨t2, a1, b1⟩ := kk r u t T'.heap (locs ++ L) e1.symm (by rw [← e2]; exact X'.warmed.alike) hp hb k1 k2 k3 T' rfl X'
    exact ⟨t2, st t2 a1, b1⟩
  · obtain ⟨k1, k2, k3⟩ := vx_keep h0 e1 hS hAX hf hL hF
    obtain ⟨t2, a1, b1⟩ := kx E ce q u t T'.heap (locs ++ L) e1.symm (by rw [← e2]; exact X'.warmed.alike) hp hb k1 k2 k3 (by rw [e1]; exact hce) hcv hcl T' rfl X'
    exact ⟨t2, st.trans a1, b1⟩
theorem vx_callf {S SX : Type} {post : UInt32 → S → Prop} {px : SX → Prop} {B : S → State → Prop} {BX : String → SX → State → Prop} {AX : Nat → Prop} (hr : vx_Run p l e R s m args below meth c H locs cells slots mc ms (F0 m pc ls st0) rest (va_Qf post B A1 a) (vx_X px BX AX) free) (hS : va_S A0 H0 H locs) (hA : ∀ q, q < H.size → A1 q → A0 q) (hf : ∀ q, free q → A0 q) (hAX : ∀ q, q < H.size → AX q → A0 q)
    (kx : ∀ (E : String) (ce : Cell) (q9 : Addr) (u : SX) (t : State) (H1 : Heap) (locs1 : List Loc), t.heap = H1 → s.vm.Alike t.vm → px u → BX E u t → H.size ≤ H1.size → (∀ q : Nat, q < H.size → ¬ AX q → H1[q]? = H[q]?) → va_S A0 H0 H1 locs1 → H1[q9]? = some ce → ce.vm = .none → s.vm.findClass E = some ce.cls → vx_W p l e R s m args below meth c H1 locs1 (cells + mc) (slots + ms) Q (F0 m pc ls rest) q9)
    (kk : ∀ (r : UInt32) (u : S) (t : State) (H1 : Heap) (locs1 : List Loc), t.heap = H1 → s.vm.Alike t.vm → post r u → B u t → H.size ≤ H1.size → (∀ q : Nat, q < H.size → ¬ A1 q → H1[q]? = H[q]?) → va_S A0 H0 H1 locs1 → W p l e R s m args below meth c H1 locs1 (cells + mc) (slots + ms) Q (F0 m (pc + 3) ls (.float r :: rest))) : W p l e R s m args below meth c H locs cells slots Q (F0 m pc ls st0) := by
  intro T hT X
  rcases hr T hT X with ⟨v, st₀, t, T', L, h0, X', hL, e1, e2, ⟨⟨r, u, hv, hp, hb⟩, hF⟩, st⟩ | ⟨q, st₀, t, T', L, E, ce, h0, X', hL, e1, e2, ⟨u, hp, hb, hF⟩, hce, hcv, hcl, st⟩
  · cases hv
    obtain ⟨k1, k2, k3⟩ := vx_keep h0 e1 hS hA hf hL hF
    obtain ⟨t2, a1, b1⟩ := kk r u t T'.heap (locs ++ L) e1.symm (by rw [← e2]; exact X'.warmed.alike) hp hb k1 k2 k3 T' rfl X'
    exact ⟨t2, st t2 a1, b1⟩
  · obtain ⟨k1, k2, k3⟩ := vx_keep h0 e1 hS hAX hf hL hF
    obtain ⟨t2, a1, b1⟩ := kx E ce q u t T'.heap (locs ++ L) e1.symm (by rw [← e2]; exact X'.warmed.alike) hp hb k1 k2 k3 (by rw [e1]; exact hce) hcv hcl T' rfl X'
    exact ⟨t2, st.trans a1, b1⟩
theorem vx_calld {S SX : Type} {post : UInt64 → S → Prop} {px : SX → Prop} {B : S → State → Prop} {BX : String → SX → State → Prop} {AX : Nat → Prop} (hr : vx_Run p l e R s m args below meth c H locs cells slots mc ms (F0 m pc ls st0) rest (va_Qd post B A1 a) (vx_X px BX AX) free) (hS : va_S A0 H0 H locs) (hA : ∀ q, q < H.size → A1 q → A0 q) (hf : ∀ q, free q → A0 q) (hAX : ∀ q, q < H.size → AX q → A0 q)
    (kx : ∀ (E : String) (ce : Cell) (q9 : Addr) (u : SX) (t : State) (H1 : Heap) (locs1 : List Loc), t.heap = H1 → s.vm.Alike t.vm → px u → BX E u t → H.size ≤ H1.size → (∀ q : Nat, q < H.size → ¬ AX q → H1[q]? = H[q]?) → va_S A0 H0 H1 locs1 → H1[q9]? = some ce → ce.vm = .none → s.vm.findClass E = some ce.cls → vx_W p l e R s m args below meth c H1 locs1 (cells + mc) (slots + ms) Q (F0 m pc ls rest) q9)
    (kk : ∀ (r : UInt64) (u : S) (t : State) (H1 : Heap) (locs1 : List Loc), t.heap = H1 → s.vm.Alike t.vm → post r u → B u t → H.size ≤ H1.size → (∀ q : Nat, q < H.size → ¬ A1 q → H1[q]? = H[q]?) → va_S A0 H0 H1 locs1 → W p l e R s m args below meth c H1 locs1 (cells + mc) (slots + ms) Q (F0 m (pc + 3) ls (.double r :: rest))) : W p l e R s m args below meth c H locs cells slots Q (F0 m pc ls st0) := by
  intro T hT X
  rcases hr T hT X with ⟨v, st₀, t, T', L, h0, X', hL, e1, e2, ⟨⟨r, u, hv, hp, hb⟩, hF⟩, st⟩ | ⟨q, st₀, t, T', L, E, ce, h0, X', hL, e1, e2, ⟨u, hp, hb, hF⟩, hce, hcv, hcl, st⟩
  · cases hv
    obtain ⟨k1, k2, k3⟩ := vx_keep h0 e1 hS hA hf hL hF
    obtain ⟨t2, a1, b1⟩ := kk r u t T'.heap (locs ++ L) e1.symm (by rw [← e2]; exact X'.warmed.alike) hp hb k1 k2 k3 T' rfl X'
    exact ⟨t2, st t2 a1, b1⟩
  · obtain ⟨k1, k2, k3⟩ := vx_keep h0 e1 hS hAX hf hL hF
    obtain ⟨t2, a1, b1⟩ := kx E ce q u t T'.heap (locs ++ L) e1.symm (by rw [← e2]; exact X'.warmed.alike) hp hb k1 k2 k3 (by rw [e1]; exact hce) hcv hcl T' rfl X'
    exact ⟨t2, st.trans a1, b1⟩
theorem vx_callv {S SX : Type} {post : S → Prop} {px : SX → Prop} {B : S → State → Prop} {BX : String → SX → State → Prop} {AX : Nat → Prop} (hr : vx_Run p l e R s m args below meth c H locs cells slots mc ms (F0 m pc ls st0) rest (va_Qv post B A1 a) (vx_X px BX AX) free) (hS : va_S A0 H0 H locs) (hA : ∀ q, q < H.size → A1 q → A0 q) (hf : ∀ q, free q → A0 q) (hAX : ∀ q, q < H.size → AX q → A0 q)
    (kx : ∀ (E : String) (ce : Cell) (q9 : Addr) (u : SX) (t : State) (H1 : Heap) (locs1 : List Loc), t.heap = H1 → s.vm.Alike t.vm → px u → BX E u t → H.size ≤ H1.size → (∀ q : Nat, q < H.size → ¬ AX q → H1[q]? = H[q]?) → va_S A0 H0 H1 locs1 → H1[q9]? = some ce → ce.vm = .none → s.vm.findClass E = some ce.cls → vx_W p l e R s m args below meth c H1 locs1 (cells + mc) (slots + ms) Q (F0 m pc ls rest) q9)
    (kk : ∀ (u : S) (t : State) (H1 : Heap) (locs1 : List Loc), t.heap = H1 → s.vm.Alike t.vm → post u → B u t → H.size ≤ H1.size → (∀ q : Nat, q < H.size → ¬ A1 q → H1[q]? = H[q]?) → va_S A0 H0 H1 locs1 → W p l e R s m args below meth c H1 locs1 (cells + mc) (slots + ms) Q (F0 m (pc + 3) ls (rest))) : W p l e R s m args below meth c H locs cells slots Q (F0 m pc ls st0) := by
  intro T hT X
  rcases hr T hT X with ⟨v, st₀, t, T', L, h0, X', hL, e1, e2, ⟨⟨u, hv, hp, hb⟩, hF⟩, st⟩ | ⟨q, st₀, t, T', L, E, ce, h0, X', hL, e1, e2, ⟨u, hp, hb, hF⟩, hce, hcv, hcl, st⟩
  · cases hv
    obtain ⟨k1, k2, k3⟩ := vx_keep h0 e1 hS hA hf hL hF
    obtain ⟨t2, a1, b1⟩ := kk u t T'.heap (locs ++ L) e1.symm (by rw [← e2]; exact X'.warmed.alike) hp hb k1 k2 k3 T' rfl X'
    exact ⟨t2, st t2 a1, b1⟩
  · obtain ⟨k1, k2, k3⟩ := vx_keep h0 e1 hS hAX hf hL hF
    obtain ⟨t2, a1, b1⟩ := kx E ce q u t T'.heap (locs ++ L) e1.symm (by rw [← e2]; exact X'.warmed.alike) hp hb k1 k2 k3 (by rw [e1]; exact hce) hcv hcl T' rfl X'
    exact ⟨t2, st.trans a1, b1⟩
/-- caught by the row x of this method's table; the rows ahead don't take it -/
theorem vx_catch {own name : String} {E : String} {ce : Cell} {q : Addr} (hown : s.vm.findClass own = some m.cls) (pre : List ExceptionTableEntry) (x : ExceptionTableEntry) (suf : List ExceptionTableEntry) (hsplit : c.exceptionTable.toList = pre ++ x :: suf)
    (hpass : ∀ z ∈ pre, covers z pc = false ∨ (z.catchType ≠ 0 ∧ ∃ nm : String, (Cond.classLink own z.catchType nm).before args s = true ∧ va_Nc E nm s)) (hx : covers x pc = true) (h0 : x.catchType ≠ 0)
    (hlink : (Cond.classLink own x.catchType name).before args s = true) (hcast : (Cond.castable E name).before args s = true) (hcell : H[q]? = some ce) (hv : ce.vm = .none) (hcl : s.vm.findClass E = some ce.cls)
    (kk : W p l e R s m args below meth c H locs cells slots Q (F0 m x.handlerPc ls [.ref q])) : vx_W p l e R s m args below meth c H locs cells slots Q (F0 m pc ls rest) q := by
  intro T hT X
  have hpl : e.platform.magicAccessors = ({} : Platform).magicAccessors := by rw [X.admits.platform]
  obtain ⟨c3, c4, hc3, hc4, hasg⟩ := Cond.castable_spec hcast
  cases Option.some.inj (hc3.symm.trans hcl)
  obtain ⟨c5, hc5, hcl5⟩ := Cond.classLink_spec hown hlink e.platform hpl
  cases Option.some.inj (hc4.symm.trans hc5)
  obtain ⟨vm', X', st⟩ := X.thenCaughtThrough q (g := F0 m pc ls rest) rfl (Steps.refl _) (by rw [hT]; exact hcell) (by rw [hv]; rfl) (by obtain ⟨k9, h9, -⟩ := Vm.findClass_spec hcl; exact ⟨k9, h9⟩) pre x suf hsplit
    (fun z hz => by
      rcases hpass z hz with h | ⟨hz0, nm, hl1, hn1⟩
      · exact Or.inl h
      · obtain ⟨c6, hc6, hcl6⟩ := Cond.classLink_spec hown hl1 e.platform hpl
        obtain ⟨a8, b8, h1, h2, h3⟩ := hn1
        cases Option.some.inj (h1.symm.trans hcl)
        cases Option.some.inj (h2.symm.trans hc6)
        exact Or.inr ⟨hz0, _, hcl6, h3⟩) hx (Or.inr ⟨h0, c4, hcl5, hasg⟩)
  obtain ⟨t, a1, b1⟩ := kk (T.setVm vm') hT X'
  exact ⟨t, st.trans a1, b1⟩
end Rows
section Ends
variable {p : Program} {l : Launch} {e : Env} {R : Room} {s : State} {m : MethodId} {args : Array Value} {below : List Frame} {meth : Method} {c : Code} {H : Heap} {locs : List Loc} {cells slots : Nat} {Q : State → Prop}
variable {mc ms : Nat} {free : Addr → Prop} {A0 A1 : Nat → Prop} {H0 : Heap} {a : Array Value} {ls : Array Slot} {st0 rest : List Value}
variable {Qc : Array Value → State → Outcome → State → Prop} {XC : String → State → State → Prop}
/-- what a body that may throw owes at its end -/
def vx_MQ (below : List Frame) (Qc : Array Value → State → Outcome → State → Prop) (XC : String → State → State → Prop) (a : Array Value) (s : State) (mc ms : Nat) (free : Addr → Prop) : State → Prop := fun t =>
  ∃ o, t.status = .running ∧ Ended t below o ∧ vx_Q Qc XC mc ms free a s o t
theorem vx_ret {g : JFrame} {mc ms : Nat} (k : W p l e R s m args below meth c H locs cells slots (MQ below Qc args s mc ms free) g) : W p l e R s m args below meth c H locs cells slots (vx_MQ below Qc XC args s mc ms free) g := by
  intro T hT X
  obtain ⟨t, a1, o, b1, b2, b3, b4⟩ := k T hT X
  exact ⟨t, a1, o, b1, b2, Or.inl ⟨b3, b4⟩⟩
/-- not caught here: it goes on to the caller -/
theorem vx_widen {g : JFrame} {q : Addr} {k n : Nat} (h1 : cells ≤ k) (h2 : slots ≤ n) (kk : vx_W p l e R s m args below meth c H locs k n Q g q) : vx_W p l e R s m args below meth c H locs cells slots Q g q := fun T hT X => kk T hT (stand_widen X h1 h2)
theorem vx_out {pc : Nat} {E : String} {ce : Cell} {q : Addr} {mc ms : Nat} (hout : ∀ x ∈ c.exceptionTable.toList, covers x pc = false) (hlocks : meth.locks = false) (hcell : H[q]? = some ce) (hv : ce.vm = .none) (hcl : s.vm.findClass E = some ce.cls)
    (hx : ∀ t : State, t.heap = H → s.vm.Alike t.vm → XC E s t) (hf : ∀ z ∈ locs, free z.base) (hc : cells ≤ mc) (hs : slots ≤ ms) :
    vx_W p l e R s m args below meth c H locs cells slots (vx_MQ below Qc XC args s mc ms free) (F0 m pc ls rest) q := by
  intro T hT X
  obtain ⟨st1, hrun, hend, hW, hsm⟩ := X.leaveThrown q (g := F0 m pc ls rest) rfl rfl rfl hout hlocks
  have hcell9 : (T.setFrames (.throwing q :: below)).heap[q]? = some ce := by
    show T.heap[q]? = some ce
    rw [hT]; exact hcell
  exact ⟨_, st1, .threw q, hrun, hend, Or.inr ⟨q, rfl, E, ce, locs, hx _ hT hW.alike, hcell9, hv, hcl, hW, hsm.mono hc hs, hf⟩⟩
theorem vx_frame {U : State} {k n : Nat} (h : s.sameButNew ({ U with vm := s.vm } : State) locs k n) : s.heap.size ≤ U.heap.size ∧ ∀ q : Nat, q < s.heap.size → (∀ z ∈ locs, z.base ≠ q) → U.heap[q]? = s.heap[q]? := by
  obtain ⟨-, h2, -, -, -, h6⟩ := h
  refine ⟨h2, fun q hq hz => ?_⟩
  obtain ⟨c9, e1, e2, e3, e4⟩ := h6 q _ (Array.getElem?_eq_getElem hq)
  have hs : c9.slots = (s.heap[q]).slots := Array.ext_getElem? fun i => e4 i fun hm => hz _ hm rfl
  have h9 : c9 = s.heap[q] := by
    rw [hs] at e2
    exact e2
  have e5 : U.heap[q]? = some c9 := e1
  rw [e5, h9, Array.getElem?_eq_getElem hq]
/-- the words of a throw but the four that speak of the heap -/
def vx_no (w : Cond) : Bool := decide (w ≠ .isRef (.static Bundle.tN "UNASSIGNED_STACK" Bundle.steD)) && decide (w ≠ .isRef (.static Bundle.tN "SUPPRESSED_SENTINEL" Bundle.listD)) && decide (w ≠ .laysStatic Bundle.tN "UNASSIGNED_STACK" Bundle.steD) && decide (w ≠ .laysStatic Bundle.tN "SUPPRESSED_SENTINEL" Bundle.listD)
def vx_at0 (own : String) (ic : Nat) (X : String) (names : List String) : List Cond := (Bundle.ownAtoms0 own ic X names).filter vx_no
def vx_atS (own : String) (ic : Nat) (X : String) (names : List String) : List Cond := (Bundle.ownAtoms own ic X names).filter vx_no
/-- a word that the tables alone decide, or a good one -/
def vx_ot (w : Cond) : Bool := w.onTables || goodWord w
theorem vx_ot_at {args a' : Array Value} {s U : State} {w : Cond} (hW : s.WarmedH U.vm) (hvm : s.vm = U.vm) (hg : vx_ot w = true) (h : w.before args s = true) : w.before a' U = true := by
  simp only [vx_ot, Bool.or_eq_true] at hg
  rcases hg with hg | hg
  · exact va_tabs hg hvm h
  · exact word_at hW (good_of_word hg) h
/-- a list's words: the good ones out of the method's own list, the others by premises of their own -/
theorem vx_hat {args : Array Value} {s : State} {L B : List Cond} (h1 : ∀ w ∈ L.filter goodWord, w.before args s = true) (h2 : ∀ w ∈ L.filter (fun w => !goodWord w), w ∈ B) (h3 : ∀ w ∈ B, w.before args s = true) : ∀ w ∈ L, w.before args s = true := by
  intro w hw
  by_cases g : goodWord w = true
  · exact h1 w (List.mem_filter.mpr ⟨hw, g⟩)
  · refine h3 w (h2 w (List.mem_filter.mpr ⟨hw, ?_⟩))
    show (!goodWord w) = true
    cases hgw : goodWord w
    · rfl
    · exact absurd hgw g
theorem vx_c {args : Array Value} {s : State} {w : Cond} {B : List Cond} (h : w.before args s = true) (t : ∀ w ∈ B, w.before args s = true) : ∀ w' ∈ w :: B, w'.before args s = true := fun w' h' => (List.mem_cons.mp h').elim (fun e => by rw [e]; exact h) (t w')
theorem vx_n {args : Array Value} {s : State} : ∀ w ∈ ([] : List Cond), w.before args s = true := fun _ h => nomatch h
theorem vx_own {args : Array Value} {s : State} {L : List Cond} (h1 : ∀ w ∈ L.filter vx_no, w.before args s = true)
    (hU : (Cond.isRef (.static Bundle.tN "UNASSIGNED_STACK" Bundle.steD)).before args s = true) (hN : (Cond.isRef (.static Bundle.tN "SUPPRESSED_SENTINEL" Bundle.listD)).before args s = true)
    (lU : (Cond.laysStatic Bundle.tN "UNASSIGNED_STACK" Bundle.steD).before args s = true) (lN : (Cond.laysStatic Bundle.tN "SUPPRESSED_SENTINEL" Bundle.listD).before args s = true) : ∀ w ∈ L, w.before args s = true := by
  intro w hw
  by_cases e1 : w = .isRef (.static Bundle.tN "UNASSIGNED_STACK" Bundle.steD)
  · rw [e1]; exact hU
  · by_cases e2 : w = .isRef (.static Bundle.tN "SUPPRESSED_SENTINEL" Bundle.listD)
    · rw [e2]; exact hN
    · by_cases e3 : w = .laysStatic Bundle.tN "UNASSIGNED_STACK" Bundle.steD
      · rw [e3]; exact lU
      · by_cases e4 : w = .laysStatic Bundle.tN "SUPPRESSED_SENTINEL" Bundle.listD
        · rw [e4]; exact lN
        · exact h1 w (List.mem_filter.mpr ⟨hw, by unfold vx_no; rw [decide_eq_true e1, decide_eq_true e2, decide_eq_true e3, decide_eq_true e4]; rfl⟩)
/-- where a static field lies, its class's statics cell in H -/
def vx_L (C n d : String) (A : Nat → Prop) (U : State) (H : Heap) : Prop := ∃ (c : ClassId) (k : Class) (i : Nat) (f : Field) (a : Nat) (cell : Cell), U.vm.findClass C = some c ∧ U.fieldFound? C n d = some (c, k, i, f) ∧ f.isStatic = true ∧ k.statics = some a ∧ H[a]? = some cell ∧ cell.vm.isStatics = true ∧ cell.cls = c ∧ f.slot < cell.slots.size ∧ k.staticTypes[f.slot]? = some f.type ∧ ¬ A a
theorem vx_L.moved {C n d : String} {A : Nat → Prop} {u U : State} {H : Heap} (hvm : u.vm.Alike U.vm) (h : vx_L C n d A u H) : vx_L C n d A U H := by
  obtain ⟨c, k, i, f, a, cell, h1, h2, h3, h4, h5, h6, h7, h8, h9, h10⟩ := h
  obtain ⟨k', hi', he⟩ := State.fieldFound?_setVm hvm h2
  exact ⟨c, k', i, f, a, cell, by rw [hvm.findClass]; exact h1, hi', h3, by rw [he]; exact h4, h5, h6, h7, h8, by rw [he]; exact h9, h10⟩
theorem vx_L.kept {C n d : String} {A : Nat → Prop} {U : State} {H H1 : Heap} (h : vx_L C n d A U H) (hq : ∀ a : Nat, a < H.size → ¬ A a → H1[a]? = H[a]?) : vx_L C n d A U H1 := by
  obtain ⟨c, k, i, f, a, cell, h1, h2, h3, h4, h5, h6, h7, h8, h9, h10⟩ := h
  exact ⟨c, k, i, f, a, cell, h1, h2, h3, h4, by rw [hq a (Array.getElem?_eq_some_iff.mp h5).1 h10]; exact h5, h6, h7, h8, h9, h10⟩
theorem vx_L.narrow {C n d : String} {A B : Nat → Prop} {U : State} {H : Heap} (h : vx_L C n d A U H) (hAB : ∀ q, B q → A q) : vx_L C n d B U H := by
  obtain ⟨c, k, i, f, a, cell, h1, h2, h3, h4, h5, h6, h7, h8, h9, h10⟩ := h
  exact ⟨c, k, i, f, a, cell, h1, h2, h3, h4, h5, h6, h7, h8, h9, fun z => h10 (hAB _ z)⟩
theorem vx_L.word {C n d : String} {A : Nat → Prop} {s : State} {args : Array Value} (h : vx_L C n d A s s.heap) : (Cond.laysStatic C n d).before args s = true := by
  obtain ⟨c, k, i, f, a, cell, h1, h2, h3, h4, h5, h6, h7, h8, h9, -⟩ := h
  show (Cond.laysStatic C n d).holds args s none s [] = true
  exact Cond.laysStatic_of h1 h2 h3 h4 h5 h6 h7 h8 h9
/-- .. and what it holds: null or some reference -/
def vx_Zq (C n d : String) (A : Nat → Prop) (U : State) (H : Heap) : Prop := va_Zq C n d A U H ∧ vx_L C n d A U H
theorem vx_Zq.moved {C n d : String} {A : Nat → Prop} {u U : State} {H : Heap} (hvm : u.vm.Alike U.vm) (h : vx_Zq C n d A u H) : vx_Zq C n d A U H := ⟨va_Zq.moved hvm h.1, vx_L.moved hvm h.2⟩
theorem vx_Zq.kept {C n d : String} {A : Nat → Prop} {U : State} {H H1 : Heap} (h : vx_Zq C n d A U H) (hq : ∀ a : Nat, a < H.size → ¬ A a → H1[a]? = H[a]?) : vx_Zq C n d A U H1 := ⟨va_Zq.kept h.1 hq, vx_L.kept h.2 hq⟩
theorem vx_Zq.narrow {C n d : String} {A B : Nat → Prop} {U : State} {H : Heap} (h : vx_Zq C n d A U H) (hAB : ∀ q, B q → A q) : vx_Zq C n d B U H := ⟨va_Zq.narrow h.1 hAB, vx_L.narrow h.2 hAB⟩
theorem vx_Zqof {args : Array Value} {s : State} {C n d : String} {A : Nat → Prop} (hl : (Cond.laysStatic C n d).before args s = true) (hini : (Cond.initialized C).before args s = true) (h : (Cond.isRef (.static C n d)).before args s = true) (hA : ∀ a : Nat, a < s.heap.size → ¬ A a) : vx_Zq C n d A s s.heap := by
  refine ⟨va_Zqof hl hini h hA, ?_⟩
  obtain ⟨c, k, i, f, a, cell, h1, h2, h3, h4, h5, h6, h7, h8, h9⟩ := Cond.laysStatic_spec hl
  exact ⟨c, k, i, f, a, cell, h1, h2, h3, h4, h5, h6, h7, h8, h9, hA a (Array.getElem?_eq_some_iff.mp h5).1⟩
theorem vx_isRef {C n d : String} {v : Value} {A : Nat → Prop} {s : State} {args : Array Value} (h : va_Z C n d v A s s.heap) (hv : v.isRef = true) : (Cond.isRef (.static C n d)).before args s = true := by
  obtain ⟨cf, kf, fi, f, a, cell, h1, h2, h3, h4, h5, h6, h7, -⟩ := h
  have he : (Term.static C n d).eval args s none [] s = some v := by
    simp [Term.eval, State.fieldNamed?, h1, h2, h4, h5, h6, h7]
  simp only [Cond.before, Cond.holds, Cond.value, he]
  cases v <;> simp_all [Value.isRef]
theorem vx_isRefq {C n d : String} {A : Nat → Prop} {s : State} {args : Array Value} (h : va_Zq C n d A s s.heap) : (Cond.isRef (.static C n d)).before args s = true := by
  rcases h with h | ⟨t, h⟩
  · exact vx_isRef h rfl
  · exact vx_isRef h rfl
/-- the same frame, seen from here: as if the method were called anew in this heap -/
theorem vx_rebase {T : State} (X : Stand p l e R s m args below meth c T locs cells slots) {R' : Room} (hf : R'.frames ≤ R.frames) (hl : R'.locals ≤ R.locals) (hc : cells + R'.cells ≤ R.cells) (hs : slots + R'.slots ≤ R.slots) :
    Stand p l e R' ((T.setVm s.vm).setFrames (.invoking m args :: below)) m args below meth c T [] 0 0 := by
  have htop : (T.setVm s.vm).topJava?.isSome := X.here.top
  have hF : ((T.setVm s.vm).setFrames (.invoking m args :: below)).frames = .invoking m args :: below := State.frames_setFrames _ (State.cur_lt_of_top htop)
  obtain ⟨g₀, hg0⟩ := Option.isSome_iff_exists.mp htop
  obtain ⟨r, hr⟩ := State.topJava?_eq_some.mp hg0
  have hl9 : e.platform.stackLimits (T.setVm s.vm).me = e.platform.stackLimits s.me := X.limits
  have hb9 : (T.setVm s.vm).me.stackBytes = s.me.stackBytes := X.bytes
  refine ⟨X.admits, X.cas, X.clock, hF, ?_, X.hears, X.method, X.code, X.here, X.tail, X.warmed, ?_, ?_, ?_⟩
  · have h := X.room
    have hU : ((T.setVm s.vm).setFrames (.invoking m args :: below)).localsInUse = s.localsInUse := by
      rw [State.localsInUse_invoking hF (meth := meth) (c := c) X.method X.code, State.localsInUse_invoking X.frames X.method X.code]
    simp only [State.hasRoom, Bool.and_eq_true, decide_eq_true_eq] at h ⊢
    obtain ⟨⟨⟨⟨h1, h2, h3, h4, h5, h6⟩, h7⟩, h8⟩, h9⟩ := h
    rw [X.frames, List.length_cons] at h2 h3
    have q1 := X.heapSize
    have q2 := X.used
    simp only [hF, hU, List.length_cons, State.stackLimits_setFrames, State.stackBytes_setFrames, hl9, hb9]
    refine ⟨⟨⟨⟨by omega, by omega, by omega, by omega, by omega, h6⟩, ?_⟩, ?_⟩, X.book⟩
    · show T.heap.size + R'.cells ≤ e.platform.maxCells
      omega
    · show T.slotsUsed + R'.slots ≤ e.platform.maxSlots
      omega
  · rw [State.stackLimits_setFrames]; rfl
  · rw [State.stackBytes_setFrames]; rfl
  · refine ⟨?_, Nat.le_refl _, Nat.le_refl _, ?_, ?_, fun a c9 h9 => ⟨c9, h9, rfl, rfl, fun _ _ => rfl⟩⟩
    · obtain ⟨t, ht, -⟩ := State.frames_cons hr
      show T.setVm s.vm = { ((T.setVm s.vm).setFrames (.invoking m args :: below)).setFrames (T.setVm s.vm).frames with heap := T.heap, slotsUsed := T.slotsUsed }
      rw [State.setFrames_setFrames, State.setFrames_self ht]
      rfl
    · show T.slotsUsed = T.slotsUsed + ((T.heap.toList.drop T.heap.size).map (·.slots.size)).sum
      rw [List.drop_eq_nil_of_le (Nat.le_of_eq Array.length_toList)]
      rfl
    · show ((T.heap.toList.drop T.heap.size).map (·.slots.size)).sum ≤ 0
      rw [List.drop_eq_nil_of_le (Nat.le_of_eq Array.length_toList)]
      exact Nat.le_refl _
/-- 'throw new E()': new; dup; invokespecial; athrow -/
theorem vx_throw0 {cc : ByteArray} {pc : Nat} (hexec : p.tables.exec = Jvm.exec) (hb : c.code = cc) (hl : l.stackTraces = false) {own cls : String} {names : List String} {ik ic mc ms : Nat} {A : Nat → Prop}
    (hown : s.vm.findClass own = some m.cls) (hcls : Bundle.fit cls = true) (hnames : ∀ n ∈ names, Bundle.fit n = true)
    (hk : (Cond.classLink own ik cls).before args s = true) (hini : (Cond.initialized cls).before args s = true) (hat : ∀ w ∈ vx_at0 own ic cls names, w.before args s = true)
    (hgood : ∀ w ∈ Cond.classLink own ik cls :: Cond.initialized cls :: vx_at0 own ic cls names, vx_ot w = true)
    (hU : vx_Zq Bundle.tN "UNASSIGNED_STACK" Bundle.steD A s s.heap) (hN : vx_Zq Bundle.tN "SUPPRESSED_SENTINEL" Bundle.listD A s s.heap) (hS : va_S A s.heap H locs) (hsize : ls.size = c.maxLocals)
    (d0 : decode cc pc = .ok (.new ik, 3)) (d3 : decode cc (pc + 3) = .ok (.dup, 1)) (d4 : decode cc (pc + 4) = .ok (.invokespecial ic, 3)) (d7 : decode cc (pc + 7) = .ok (.athrow, 1))
    (hout : ∀ x ∈ c.exceptionTable.toList, covers x (pc + 7) = false)
    (hRframes : names.length + 3 < R.frames) (hRlocals : (rest.map fun v => v.category).sum + (13 * (names.length + 1) + 42) ≤ R.locals) (hRcells : cells + 1 ≤ R.cells) (hRslots : slots + 6 ≤ R.slots) (hlocks : meth.locks = false)
    (hx : ∀ t : State, s.vm.Alike t.vm → H.size ≤ t.heap.size → (∀ q : Nat, q < H.size → t.heap[q]? = H[q]?) → XC cls s t)
    (hf : ∀ z ∈ locs, free z.base) (hc : cells + 1 ≤ mc) (hs : slots + 6 ≤ ms) :
    W p l e R s m args below meth c H locs cells slots (vx_MQ below Qc XC args s mc ms free) (F0 m pc ls rest) := by
  intro T hT X
  have htr : e.platform.stackTraces = false := (show e.platform.stackTraces = l.stackTraces by rw [X.admits.platform]).trans hl
  have Y := vx_rebase X (R' := { frames := R.frames, locals := R.locals, cells := 1, slots := 6 }) (Nat.le_refl _) (Nat.le_refl _) hRcells hRslots
  obtain ⟨s', hA⟩ : ∃ z, z = (T.setVm s.vm).setFrames (.invoking m args :: below) := ⟨_, rfl⟩
  rw [← hA] at Y
  have hvm : s'.vm = s.vm := by rw [hA]; rfl
  have hhp : s'.heap = H := by rw [hA]; exact hT
  have hW0 : s.WarmedH s'.vm := by rw [hvm]; exact State.WarmedH.refl s
  have hat' : ∀ w ∈ vx_at0 own ic cls names, w.before args s' = true := fun w hw => vx_ot_at hW0 hvm.symm (hgood w (List.mem_cons_of_mem _ (List.mem_cons_of_mem _ hw))) (hat w hw)
  have hk' : (Cond.classLink own ik cls).before args s' = true := vx_ot_at hW0 hvm.symm (hgood _ List.mem_cons_self) hk
  have hini' : (Cond.initialized cls).before args s' = true := vx_ot_at hW0 hvm.symm (hgood _ (List.mem_cons_of_mem _ List.mem_cons_self)) hini
  have hU' : vx_Zq Bundle.tN "UNASSIGNED_STACK" Bundle.steD A s' s'.heap := by rw [hhp]; exact vx_Zq.moved hW0.alike (hU.kept hS.2.1)
  have hN' : vx_Zq Bundle.tN "SUPPRESSED_SENTINEL" Bundle.listD A s' s'.heap := by rw [hhp]; exact vx_Zq.moved hW0.alike (hN.kept hS.2.1)
  have h : ∀ w ∈ Bundle.ownAtoms0 own ic cls names, w.before args s' = true := vx_own hat' (vx_isRefq hU'.1) (vx_isRefq hN'.1) hU'.2.word hN'.2.word
  have hown' : s'.vm.findClass own = some m.cls := by rw [hvm]; exact hown
  have hins : (Cond.instantiable cls 6).before args s' = true := h _ (by simp [Bundle.ownAtoms0])
  obtain ⟨vm₁, cX, kX, hfX, hkX, -, -, X₁, st1⟩ := Y.newCold hexec (own := own) (C := cls) (index := ik) (n := 6) hown' hk' hins hini'
    (g := F0 m pc ls rest) rfl (by rw [hb]; exact d0) (Nat.le_refl _) (Nat.le_refl _)
  generalize hT1 : (T.setVm vm₁).pushCell { cls := cX, slots := kX.instanceTypes.map defaultValue, vm := .none } = T1 at X₁ st1
  have hcat : (Value.ref T.heap.size).category = 1 := rfl
  have hcellA : T1.heap[T.heap.size]? = some (freshCell cX kX) := by rw [← hT1]; exact State.heap_pushCell_size _ _
  have d3' : decode c.code (pc + 3) = .ok (.dup, 1) := by rw [hb]; exact d3
  obtain ⟨U, hsteps, hrun, hend, hW, hsame, ce, hce, hO⟩ := X₁.ctorThrow0 hexec htr (own := own) (cls := cls) (names := names) (ic := ic) hown' hcls hnames h (fun x hx => nomatch hx) hfX hkX hcellA (by rw [hhp, hT]; exact Nat.le_refl _)
    (g := { method := m, pc := pc + 4, locals := ls, stack := .ref T.heap.size :: .ref T.heap.size :: rest, locked := none }) rfl hsize rfl rfl (rest := rest) rfl
    (by rw [hb]; exact d4) (by rw [hb]; exact d7) hout hRframes (by simp only [List.map_cons, List.sum_cons, hcat]; omega) hlocks
  obtain ⟨f1, f2⟩ := vx_frame hsame
  rw [hhp] at f1 f2
  have hWs : s.WarmedH U.vm := State.WarmedH.trans hW0 hW
  have hcl : s.vm.findClass cls = some ce.cls := by
    have h9 := hO.cls
    rw [hvm] at h9
    exact h9
  have hall : s.sameButNew ({ U with vm := s.vm } : State) locs mc ms := by
    subst hA
    obtain ⟨e1, e2⟩ := hsame
    rw [State.setFrames_setFrames] at e1
    have h2 : (T.setVm s.vm).sameButNew ({ U with vm := s.vm } : State) [] (0 + 1) (0 + 6) := ⟨e1, e2⟩
    have h3 := X.same.trans h2
    rw [List.append_nil] at h3
    exact h3.mono hc hs
  refine ⟨U, ?_, .threw T.heap.size, hrun, hend, Or.inr ⟨T.heap.size, rfl, cls, ce, locs, hx U hWs.alike f1 (fun q hq => f2 q hq (fun z hz => nomatch hz)), hce, hO.vm, hcl, hWs, hall, hf⟩⟩
  refine st1 _ ?_
  show Steps p.tables e below (T1.setTop { method := m, pc := pc + 3, locals := ls, stack := .ref T.heap.size :: rest, locked := none }) _
  jvm_step X₁.here [X₁.here.top, hexec, d3', Value.category]
  exact hsteps
/-- 'throw new E("text")': new; dup; ldc; invokespecial; athrow -/
theorem vx_throwS {cc : ByteArray} {pc : Nat} (hexec : p.tables.exec = Jvm.exec) (hb : c.code = cc) (hl : l.stackTraces = false) {own cls text : String} {names : List String} {ik is ic mc ms sa : Nat} {A : Nat → Prop}
    (hown : s.vm.findClass own = some m.cls) (hcls : Bundle.fit cls = true) (hnames : ∀ n ∈ names, Bundle.fit n = true)
    (hk : (Cond.classLink own ik cls).before args s = true) (hini : (Cond.initialized cls).before args s = true) (hstr : vk_R own is text sa s) (hat : ∀ w ∈ vx_atS own ic cls names, w.before args s = true)
    (hgood : ∀ w ∈ Cond.classLink own ik cls :: Cond.initialized cls :: vx_atS own ic cls names, vx_ot w = true)
    (hU : vx_Zq Bundle.tN "UNASSIGNED_STACK" Bundle.steD A s s.heap) (hN : vx_Zq Bundle.tN "SUPPRESSED_SENTINEL" Bundle.listD A s s.heap) (hS : va_S A s.heap H locs) (hsize : ls.size = c.maxLocals)
    (d0 : decode cc pc = .ok (.new ik, 3)) (d3 : decode cc (pc + 3) = .ok (.dup, 1)) (d4 : decode cc (pc + 4) = .ok (.ldc is, 2)) (d6 : decode cc (pc + 6) = .ok (.invokespecial ic, 3)) (d9 : decode cc (pc + 9) = .ok (.athrow, 1))
    (hout : ∀ x ∈ c.exceptionTable.toList, covers x (pc + 9) = false)
    (hRframes : names.length + 3 < R.frames) (hRlocals : (rest.map fun v => v.category).sum + (13 * (names.length + 1) + 43) ≤ R.locals) (hRcells : cells + 1 ≤ R.cells) (hRslots : slots + 6 ≤ R.slots) (hlocks : meth.locks = false)
    (hx : ∀ t : State, s.vm.Alike t.vm → H.size ≤ t.heap.size → (∀ q : Nat, q < H.size → t.heap[q]? = H[q]?) → XC cls s t)
    (hf : ∀ z ∈ locs, free z.base) (hc : cells + 1 ≤ mc) (hs : slots + 6 ≤ ms) :
    W p l e R s m args below meth c H locs cells slots (vx_MQ below Qc XC args s mc ms free) (F0 m pc ls rest) := by
  intro T hT X
  have htr : e.platform.stackTraces = false := (show e.platform.stackTraces = l.stackTraces by rw [X.admits.platform]).trans hl
  have Y := vx_rebase X (R' := { frames := R.frames, locals := R.locals, cells := 1, slots := 6 }) (Nat.le_refl _) (Nat.le_refl _) hRcells hRslots
  obtain ⟨s', hA⟩ : ∃ z, z = (T.setVm s.vm).setFrames (.invoking m args :: below) := ⟨_, rfl⟩
  rw [← hA] at Y
  have hvm : s'.vm = s.vm := by rw [hA]; rfl
  have hhp : s'.heap = H := by rw [hA]; exact hT
  have hW0 : s.WarmedH s'.vm := by rw [hvm]; exact State.WarmedH.refl s
  have hat' : ∀ w ∈ vx_atS own ic cls names, w.before args s' = true := fun w hw => vx_ot_at hW0 hvm.symm (hgood w (List.mem_cons_of_mem _ (List.mem_cons_of_mem _ hw))) (hat w hw)
  have hk' : (Cond.classLink own ik cls).before args s' = true := vx_ot_at hW0 hvm.symm (hgood _ List.mem_cons_self) hk
  have hini' : (Cond.initialized cls).before args s' = true := vx_ot_at hW0 hvm.symm (hgood _ (List.mem_cons_of_mem _ List.mem_cons_self)) hini
  have hU' : vx_Zq Bundle.tN "UNASSIGNED_STACK" Bundle.steD A s' s'.heap := by rw [hhp]; exact vx_Zq.moved hW0.alike (hU.kept hS.2.1)
  have hN' : vx_Zq Bundle.tN "SUPPRESSED_SENTINEL" Bundle.listD A s' s'.heap := by rw [hhp]; exact vx_Zq.moved hW0.alike (hN.kept hS.2.1)
  have h : ∀ w ∈ Bundle.ownAtoms own ic cls names, w.before args s' = true := vx_own hat' (vx_isRefq hU'.1) (vx_isRefq hN'.1) hU'.2.word hN'.2.word
  have hown' : s'.vm.findClass own = some m.cls := by rw [hvm]; exact hown
  have hins : (Cond.instantiable cls 6).before args s' = true := h _ (by simp [Bundle.ownAtoms])
  obtain ⟨vm₁, cX, kX, hfX, hkX, -, -, X₁, st1⟩ := Y.newCold hexec (own := own) (C := cls) (index := ik) (n := 6) hown' hk' hins hini'
    (g := F0 m pc ls rest) rfl (by rw [hb]; exact d0) (Nat.le_refl _) (Nat.le_refl _)
  generalize hT1 : (T.setVm vm₁).pushCell { cls := cX, slots := kX.instanceTypes.map defaultValue, vm := .none } = T1 at X₁ st1
  have hcat : (Value.ref T.heap.size).category = 1 := rfl
  have hcellA : T1.heap[T.heap.size]? = some (freshCell cX kX) := by rw [← hT1]; exact State.heap_pushCell_size _ _
  have d3' : decode c.code (pc + 3) = .ok (.dup, 1) := by rw [hb]; exact d3
  have d4' : decode c.code (pc + 4) = .ok (.ldc is, 2) := by rw [hb]; exact d4
  have hstr' : vk_R own is text sa s' := vk_R.warm hW0 hstr
  obtain ⟨U, hsteps, hrun, hend, hW, hsame, ce, hce, hO⟩ := X₁.ctorThrowS hexec htr (own := own) (cls := cls) (names := names) (ic := ic) hown' hcls hnames h (fun x hx => nomatch hx) hfX hkX hcellA (by rw [hhp, hT]; exact Nat.le_refl _) (msg := .ref sa) rfl
    (g := { method := m, pc := pc + 6, locals := ls, stack := .ref sa :: .ref T.heap.size :: .ref T.heap.size :: rest, locked := none }) rfl hsize rfl rfl (rest := rest) rfl
    (by rw [hb]; exact d6) (by rw [hb]; exact d9) hout hRframes (by simp only [List.map_cons, List.sum_cons, hcat]; omega) hlocks
  obtain ⟨f1, f2⟩ := vx_frame hsame
  rw [hhp] at f1 f2
  have hWs : s.WarmedH U.vm := State.WarmedH.trans hW0 hW
  have hcl : s.vm.findClass cls = some ce.cls := by
    have h9 := hO.cls
    rw [hvm] at h9
    exact h9
  have hall : s.sameButNew ({ U with vm := s.vm } : State) locs mc ms := by
    subst hA
    obtain ⟨e1, e2⟩ := hsame
    rw [State.setFrames_setFrames] at e1
    have h2 : (T.setVm s.vm).sameButNew ({ U with vm := s.vm } : State) [] (0 + 1) (0 + 6) := ⟨e1, e2⟩
    have h3 := X.same.trans h2
    rw [List.append_nil] at h3
    exact h3.mono hc hs
  refine ⟨U, ?_, .threw T.heap.size, hrun, hend, Or.inr ⟨T.heap.size, rfl, cls, ce, locs, hx U hWs.alike f1 (fun q hq => f2 q hq (fun z hz => nomatch hz)), hce, hO.vm, hcl, hWs, hall, hf⟩⟩
  refine st1 _ ?_
  show Steps p.tables e below (T1.setTop { method := m, pc := pc + 3, locals := ls, stack := .ref T.heap.size :: rest, locked := none }) _
  jvm_step X₁.here [X₁.here.top, hexec, d3', Value.category]
  exact X₁.ldcString hexec (own := own) (text := text) (index := is) (a := sa) hown' hstr'.1 hstr'.2
    (g := { method := m, pc := pc + 4, locals := ls, stack := .ref T.heap.size :: .ref T.heap.size :: rest, locked := none }) rfl d4' _ hsteps
/-- 'throw new E("text")', the text by a wide index -/
theorem vx_throwSW {cc : ByteArray} {pc : Nat} (hexec : p.tables.exec = Jvm.exec) (hb : c.code = cc) (hl : l.stackTraces = false) {own cls text : String} {names : List String} {ik is ic mc ms sa : Nat} {A : Nat → Prop}
    (hown : s.vm.findClass own = some m.cls) (hcls : Bundle.fit cls = true) (hnames : ∀ n ∈ names, Bundle.fit n = true)
    (hk : (Cond.classLink own ik cls).before args s = true) (hini : (Cond.initialized cls).before args s = true) (hstr : vk_R own is text sa s) (hat : ∀ w ∈ vx_atS own ic cls names, w.before args s = true)
    (hgood : ∀ w ∈ Cond.classLink own ik cls :: Cond.initialized cls :: vx_atS own ic cls names, vx_ot w = true)
    (hU : vx_Zq Bundle.tN "UNASSIGNED_STACK" Bundle.steD A s s.heap) (hN : vx_Zq Bundle.tN "SUPPRESSED_SENTINEL" Bundle.listD A s s.heap) (hS : va_S A s.heap H locs) (hsize : ls.size = c.maxLocals)
    (d0 : decode cc pc = .ok (.new ik, 3)) (d3 : decode cc (pc + 3) = .ok (.dup, 1)) (d4 : decode cc (pc + 4) = .ok (.ldc_w is, 3)) (d7 : decode cc (pc + 7) = .ok (.invokespecial ic, 3)) (d10 : decode cc (pc + 10) = .ok (.athrow, 1))
    (hout : ∀ x ∈ c.exceptionTable.toList, covers x (pc + 10) = false)
    (hRframes : names.length + 3 < R.frames) (hRlocals : (rest.map fun v => v.category).sum + (13 * (names.length + 1) + 43) ≤ R.locals) (hRcells : cells + 1 ≤ R.cells) (hRslots : slots + 6 ≤ R.slots) (hlocks : meth.locks = false)
    (hx : ∀ t : State, s.vm.Alike t.vm → H.size ≤ t.heap.size → (∀ q : Nat, q < H.size → t.heap[q]? = H[q]?) → XC cls s t)
    (hf : ∀ z ∈ locs, free z.base) (hc : cells + 1 ≤ mc) (hs : slots + 6 ≤ ms) :
    W p l e R s m args below meth c H locs cells slots (vx_MQ below Qc XC args s mc ms free) (F0 m pc ls rest) := by
  intro T hT X
  have htr : e.platform.stackTraces = false := (show e.platform.stackTraces = l.stackTraces by rw [X.admits.platform]).trans hl
  have Y := vx_rebase X (R' := { frames := R.frames, locals := R.locals, cells := 1, slots := 6 }) (Nat.le_refl _) (Nat.le_refl _) hRcells hRslots
  obtain ⟨s', hA⟩ : ∃ z, z = (T.setVm s.vm).setFrames (.invoking m args :: below) := ⟨_, rfl⟩
  rw [← hA] at Y
  have hvm : s'.vm = s.vm := by rw [hA]; rfl
  have hhp : s'.heap = H := by rw [hA]; exact hT
  have hW0 : s.WarmedH s'.vm := by rw [hvm]; exact State.WarmedH.refl s
  have hat' : ∀ w ∈ vx_atS own ic cls names, w.before args s' = true := fun w hw => vx_ot_at hW0 hvm.symm (hgood w (List.mem_cons_of_mem _ (List.mem_cons_of_mem _ hw))) (hat w hw)
  have hk' : (Cond.classLink own ik cls).before args s' = true := vx_ot_at hW0 hvm.symm (hgood _ List.mem_cons_self) hk
  have hini' : (Cond.initialized cls).before args s' = true := vx_ot_at hW0 hvm.symm (hgood _ (List.mem_cons_of_mem _ List.mem_cons_self)) hini
  have hU' : vx_Zq Bundle.tN "UNASSIGNED_STACK" Bundle.steD A s' s'.heap := by rw [hhp]; exact vx_Zq.moved hW0.alike (hU.kept hS.2.1)
  have hN' : vx_Zq Bundle.tN "SUPPRESSED_SENTINEL" Bundle.listD A s' s'.heap := by rw [hhp]; exact vx_Zq.moved hW0.alike (hN.kept hS.2.1)
  have h : ∀ w ∈ Bundle.ownAtoms own ic cls names, w.before args s' = true := vx_own hat' (vx_isRefq hU'.1) (vx_isRefq hN'.1) hU'.2.word hN'.2.word
  have hown' : s'.vm.findClass own = some m.cls := by rw [hvm]; exact hown
  have hins : (Cond.instantiable cls 6).before args s' = true := h _ (by simp [Bundle.ownAtoms])
  obtain ⟨vm₁, cX, kX, hfX, hkX, -, -, X₁, st1⟩ := Y.newCold hexec (own := own) (C := cls) (index := ik) (n := 6) hown' hk' hins hini'
    (g := F0 m pc ls rest) rfl (by rw [hb]; exact d0) (Nat.le_refl _) (Nat.le_refl _)
  generalize hT1 : (T.setVm vm₁).pushCell { cls := cX, slots := kX.instanceTypes.map defaultValue, vm := .none } = T1 at X₁ st1
  have hcat : (Value.ref T.heap.size).category = 1 := rfl
  have hcellA : T1.heap[T.heap.size]? = some (freshCell cX kX) := by rw [← hT1]; exact State.heap_pushCell_size _ _
  have d3' : decode c.code (pc + 3) = .ok (.dup, 1) := by rw [hb]; exact d3
  have d4' : decode c.code (pc + 4) = .ok (.ldc_w is, 3) := by rw [hb]; exact d4
  have hstr' : vk_R own is text sa s' := vk_R.warm hW0 hstr
  obtain ⟨U, hsteps, hrun, hend, hW, hsame, ce, hce, hO⟩ := X₁.ctorThrowS hexec htr (own := own) (cls := cls) (names := names) (ic := ic) hown' hcls hnames h (fun x hx => nomatch hx) hfX hkX hcellA (by rw [hhp, hT]; exact Nat.le_refl _) (msg := .ref sa) rfl
    (g := { method := m, pc := pc + 7, locals := ls, stack := .ref sa :: .ref T.heap.size :: .ref T.heap.size :: rest, locked := none }) rfl hsize rfl rfl (rest := rest) rfl
    (by rw [hb]; exact d7) (by rw [hb]; exact d10) hout hRframes (by simp only [List.map_cons, List.sum_cons, hcat]; omega) hlocks
  obtain ⟨f1, f2⟩ := vx_frame hsame
  rw [hhp] at f1 f2
  have hWs : s.WarmedH U.vm := State.WarmedH.trans hW0 hW
  have hcl : s.vm.findClass cls = some ce.cls := by
    have h9 := hO.cls
    rw [hvm] at h9
    exact h9
  have hall : s.sameButNew ({ U with vm := s.vm } : State) locs mc ms := by
    subst hA
    obtain ⟨e1, e2⟩ := hsame
    rw [State.setFrames_setFrames] at e1
    have h2 : (T.setVm s.vm).sameButNew ({ U with vm := s.vm } : State) [] (0 + 1) (0 + 6) := ⟨e1, e2⟩
    have h3 := X.same.trans h2
    rw [List.append_nil] at h3
    exact h3.mono hc hs
  refine ⟨U, ?_, .threw T.heap.size, hrun, hend, Or.inr ⟨T.heap.size, rfl, cls, ce, locs, hx U hWs.alike f1 (fun q hq => f2 q hq (fun z hz => nomatch hz)), hce, hO.vm, hcl, hWs, hall, hf⟩⟩
  refine st1 _ ?_
  show Steps p.tables e below (T1.setTop { method := m, pc := pc + 3, locals := ls, stack := .ref T.heap.size :: rest, locked := none }) _
  jvm_step X₁.here [X₁.here.top, hexec, d3', Value.category]
  exact X₁.ldcStringW hexec (own := own) (text := text) (index := is) (a := sa) hown' hstr'.1 hstr'.2
    (g := { method := m, pc := pc + 4, locals := ls, stack := .ref T.heap.size :: .ref T.heap.size :: rest, locked := none }) rfl d4' _ hsteps
end Ends
section Bodies
variable {l : Launch}
theorem vx_ofW {y : MethodName} {ws ws' : List Cond} {rm : Room} {Pc : Array Value → State → Prop} {Qc : Array Value → State → Outcome → State → Prop} {XC : String → State → State → Prop} {mc ms : Nat} {free : Addr → Prop} {cc : ByteArray} {maxL : Nat} {ret : Option FieldType}
    (hy : plainName y.cls = true) (hw : ws = Cond.code y cc maxL ret :: ws')
    (body : ∀ p e s m args below meth c s₁, BodyLoose p l y (headSpec ws rm) cc maxL ret e s m args below meth c s₁ → c.maxLocals = maxL → (∀ x ∈ c.exceptionTable.toList, False) → Pc args s →
      W p l e (headSpec ws rm).room s m args below meth c s.heap [] 0 0 (vx_MQ below Qc XC args s mc ms free) (entryFrame m args maxL)) : vx_Met l y ws rm Pc Qc XC mc ms free := by
  refine MetFree.of_bodyS (code := cc) (maxLocals := maxL) (ret := ret) hy ?_ ?_
  · intro args s m h hn
    obtain ⟨meth, c, h1, h2, h3, h4, h5, h6, -, -⟩ := Cond.code_spec hn (atoms_spec (ws := ws) h _ (by rw [hw]; exact List.mem_cons_self))
    exact ⟨meth, c, h1, h2, h3, h4, h5, h6⟩
  · intro p e s m args below meth c s₁ B hml hP _
    have hh0 : s₁.heap = s.heap := by rw [B.state]; rfl
    have ht : ∀ x ∈ c.exceptionTable.toList, False := by
      obtain ⟨meth9, c9, h1, h2, -, -, -, -, h7, -⟩ := Cond.code_spec B.named (atoms_spec (ws := ws) B.pre _ (by rw [hw]; exact List.mem_cons_self))
      cases Option.some.inj (h1.symm.trans B.method)
      cases Option.some.inj (h2.symm.trans (Stand.of_body B).code)
      intro x hx
      rw [Array.isEmpty_iff.mp h7] at hx
      cases hx
    obtain ⟨t, a1, o, b1, b2, b3⟩ := body p e s m args below meth c s₁ B hml ht hP s₁ hh0 (Stand.of_body B)
    exact ⟨t, o, a1, b1, b2, b3⟩
/-- the table of a body with handlers -/
theorem vx_table {p : Program} {x y : MethodName} {S : Spec} {cc bytes : ByteArray} {maxL maxL' : Nat} {ret ret' : Option FieldType} {e : Env} {s s₁ : State} {m : MethodId} {args : Array Value} {below : List Frame} {meth : Method} {c : Code} {hh : List (Nat × Nat × Nat × Nat)}
    (B : BodyLoose p l y S cc maxL ret e s m args below meth c s₁) (h : (Cond.codeWith y bytes maxL' ret' hh).before args s = true) : c.exceptionTable.toList = tableOf hh := by
  obtain ⟨m9, meth9, c9, hn9, h1, h2, -, -, h6, -⟩ := Cond.codeWith_spec h
  cases Option.some.inj (hn9.symm.trans B.named)
  cases Option.some.inj (h1.symm.trans B.method)
  cases Option.some.inj (h2.symm.trans (Stand.of_body B).code)
  rw [← h6, table_eq]
end Bodies
end VXA
/-! ===== END ===== -/
/-! ===== BEGIN a static call of a method with an exception table ===== -/
section VXS
variable {p : Program} {l : Launch} {e : Env} {R : Room} {s : State} {m : MethodId} {args : Array Value} {below : List Frame} {meth : Method} {c : Code} {T : State} {H : Heap} {locs : List Loc} {cells slots : Nat}
abbrev vx_CSW (R : Room) (s : State) (args : Array Value) (own : String) (index : Nat) (y : MethodName) (bytes : ByteArray) (maxL : Nat) (ret : Option FieldType) (hh : List (Nat × Nat × Nat × Nat)) (ws : List Cond) (rm : Room) (mc ms n : Nat) : Prop :=
  (rm.cells = mc ∧ rm.slots = ms ∧ rm.frames + 1 ≤ R.frames ∧ 8 + (maxL + 11) + rm.locals ≤ R.locals ∧ (∀ w ∈ ws, ∀ (a' : Array Value) (U : State), s.WarmedH U.vm → w.before a' U = true) ∧ Cond.codeWith y bytes maxL ret hh ∈ ws) ∧
  (Cond.codeWith y bytes maxL ret hh).before args s = true ∧ (Cond.initialized y.cls).before args s = true ∧ (y.cls ≠ "java/lang/invoke/MethodHandle" ∧ y.cls ≠ "java/lang/invoke/VarHandle") ∧
  (∀ sig, parseMethodDescriptor y.desc = some sig → n = sig.parameters.length) ∧ (Cond.methodLink own index y).before args s = true ∧ (Cond.static y).before args s = true
theorem vx_cwSW {own : String} {index maxL mc ms : Nat} {y : MethodName} {bytes : ByteArray} {ret : Option FieldType} {hh : List (Nat × Nat × Nat × Nat)} {Ts ws ws' : List Cond} {rm : Room} (n : Nat) (ht : ∀ w ∈ Ts, w.before args s = true) (hT : GoodIn Ts (va_wsS own index y ws)) (hw : ws = Cond.codeWith y bytes maxL ret hh :: ws') (hrc : rm.cells = mc) (hrs : rm.slots = ms)
    (hd : y.cls ≠ "java/lang/invoke/MethodHandle" ∧ y.cls ≠ "java/lang/invoke/VarHandle" ∧ (parseMethodDescriptor y.desc).map (fun d => d.parameters.length) = some n) (hR : rm.frames + 1 ≤ R.frames ∧ 8 + (maxL + 11) + rm.locals ≤ R.locals) :
    vx_CSW R s args own index y bytes maxL ret hh ws rm mc ms n := by
  have ok : ∀ w ∈ va_wsS own index y ws, w.before args s = true := fun w h => ht w (hT w h).1
  have hG : GoodIn Ts ws := fun w h => hT w (by unfold va_wsS; exact List.mem_append_right _ h)
  have hc : Cond.codeWith y bytes maxL ret hh ∈ ws := by rw [hw]; exact List.mem_cons_self
  refine ⟨⟨hrc, hrs, hR.1, hR.2, pay_in ht hG, hc⟩, ht _ (hG _ hc).1, ok _ (by simp [va_wsS]), ⟨hd.1, hd.2.1⟩, fun sig h => ?_, ok _ (by simp [va_wsS]), ok _ (by simp [va_wsS])⟩
  have h2 := hd.2.2
  rw [h] at h2
  exact (Option.some.inj h2).symm
theorem vx_callSW (X : Stand p l e R s m args below meth c T locs cells slots) (hexec : p.tables.exec = Jvm.exec) {own : String} {index : Nat} {y : MethodName} {bytes : ByteArray} {maxL : Nat} {ret : Option FieldType} {hh : List (Nat × Nat × Nat × Nat)}
    (hown : s.vm.findClass own = some m.cls) (hlink : (Cond.methodLink own index y).before args s = true) (hstat : (Cond.static y).before args s = true) (hinit : (Cond.initialized y.cls).before args s = true)
    (hcode : (Cond.codeWith y bytes maxL ret hh).before args s = true) (hy : y.cls ≠ "java/lang/invoke/MethodHandle" ∧ y.cls ≠ "java/lang/invoke/VarHandle")
    {W9 : Nat} {Pre : Pt → Array Value → Prop} {Post : Pt → Array Value → Option Value → Pt → Prop} (hK : Back l R p e below s args y 3 W9 Pre Post)
    {g : JFrame} (hg : g.method = m) (hsize : g.locals.size = c.maxLocals) {argsL rest : List Value} (hlen : ∀ sig, parseMethodDescriptor y.desc = some sig → argsL.length = sig.parameters.length)
    (hstack : g.stack = argsL.reverse ++ rest) (hW : 2 * g.monitorRoom + (rest.map fun v => v.category).sum ≤ W9) (hdg : decode c.code g.pc = .ok (.invokestatic index, 3))
    (hpre : ∀ vm₁, s.WarmedH vm₁ → Pre ⟨T.setVm vm₁, locs, cells, slots⟩ argsL.toArray) :
    ∃ (v : Option Value) (vm₁ : Vm) (B : Pt), s.WarmedH vm₁ ∧ Stand p l e R s m args below meth c B.U B.locs B.cells B.slots ∧ Post ⟨T.setVm vm₁, locs, cells, slots⟩ argsL.toArray v B ∧
      ∀ target, Steps p.tables e below (B.U.setTop { g with pc := g.pc + 3, stack := v.toList ++ rest }) target → Steps p.tables e below (T.setTop g) target := by
  obtain ⟨mk, methM, cM, hnamed, hmethM, -, -, -, -, -, -, hsigM⟩ := Cond.codeWith_spec hcode
  have hstatic : methM.isStatic = true := Cond.static_spec hnamed hmethM hstat
  obtain ⟨kP, hkP, -⟩ := className_of_methodNamed hnamed
  have hinitP : kP.init = .initialized := Cond.initialized_spec (findClass_of_methodNamed hnamed) hkP hinit
  obtain ⟨vm₁, X₁, hstep₁⟩ := X.invokestatic hexec hown hlink hnamed hmethM hstatic hkP hinitP hy (g := g) hg (argsL := argsL) (rest := rest) (hlen _ hsigM) hstack hdg
  obtain ⟨v, B, X', hpost, hsteps⟩ := hK m meth c ⟨T.setVm vm₁, locs, cells, slots⟩ { g with stack := rest } (.invokestatic index) mk argsL.toArray X₁ hg hsize hdg hW (X₁.named hnamed) (hpre vm₁ X₁.warmed)
  exact ⟨v, vm₁, B, X₁.warmed, X', hpost, fun target h => hstep₁ _ fun acts => by rw [doInvoke_state]; exact hsteps.trans h⟩
theorem vx_runSW {y : MethodName} {bytes cc : ByteArray} {maxL nL mc ms n index : Nat} {ret : Option FieldType} {hh : List (Nat × Nat × Nat × Nat)} {ws : List Cond} {rm : Room} {Pc : Array Value → State → Prop} {Qc : Array Value → State → Outcome → State → Prop} {free : Addr → Prop} {Ts : List Cond} {own : String} {As rest : List Value} {g : JFrame}
    (S : CallFix p m c cc nL s args Ts own) (hM : Met l y ws rm Pc Qc mc ms free) (cw : vx_CSW R s args own index y bytes maxL ret hh ws rm mc ms n) (hp : PreS s H Pc As)
    (hg : g.method = m) (hn : As.length = n) (hsize : g.locals.size = nL) (hstack : g.stack = As.reverse ++ rest) (hW : 2 * g.monitorRoom + (rest.map fun v => v.category).sum ≤ 8) (hdg : decode cc g.pc = .ok (.invokestatic index, 3)) (hf : cells + mc ≤ R.cells ∧ slots + ms ≤ R.slots) :
    va_Run p l e R s m args below meth c H locs cells slots mc ms g rest (Qc As.toArray) (free) := by
  obtain ⟨⟨hrc, hrs, hfr, hlo, hws, hcw⟩, hcode, hini, hy, hlen, hl, hstt⟩ := cw
  have hK : Back l R p e below s args y 3 8 (PreOf R mc ms Pc) (PostOf Qc mc ms free) := va_backW (hh := hh) (bytes := bytes) (maxL := maxL) (ret := ret) hM hp.1 hrc hrs hfr hlo hws hcw (fun a' U hW => word_at hW (Or.inl (by first | rfl | simp [Cond.onTables, Cond.keeps, Cond.steady])) hini)
  obtain ⟨hx, hb, hml, ho, -⟩ := S
  intro T hT X
  obtain ⟨v, vm₁, ⟨U', l2, c2, s2⟩, hW₁, X', ⟨g', mk, t, L, e1, e2, hq, h1, hL, h2, h3⟩, st⟩ := vx_callSW X hx (hh := hh) (bytes := bytes) (maxL := maxL) (ret := ret) ho hl hstt hini hcode hy hK hg (hsize.trans hml.symm) (argsL := As) (rest := rest) (fun sig h => hn.trans (hlen sig h)) hstack hW (by rw [hb]; exact hdg)
    (fun vm₁ hW₁ => ⟨hf.1, hf.2, hp.2 (T.setVm vm₁) hT hW₁⟩)
  dsimp only [Pt.U, Pt.locs, Pt.cells, Pt.slots] at X' e1 e2 h1 h2 h3 st
  subst h1; subst h2; subst h3
  exact ⟨v, (T.setVm vm₁).calling g' mk As.toArray, t, U', L, hT, X', hL, e1, e2, hq, st⟩
/-- not caught here, past rows that name other classes: it goes on to the caller -/
theorem vx_outP {p : Program} {l : Launch} {e : Env} {R : Room} {s : State} {m : MethodId} {args : Array Value} {below : List Frame} {meth : Method} {c : Code} {H : Heap} {locs : List Loc} {cells slots : Nat} {free : Addr → Prop} {ls : Array Slot} {rest : List Value} {Qc : Array Value → State → Outcome → State → Prop} {XC : String → State → State → Prop}
    {pc : Nat} {own E : String} {ce : Cell} {q : Addr} {mc ms : Nat} (hown : s.vm.findClass own = some m.cls) (hlocks : meth.locks = false)
    (hpass : ∀ z ∈ c.exceptionTable.toList, covers z pc = false ∨ (z.catchType ≠ 0 ∧ ∃ nm : String, (Cond.classLink own z.catchType nm).before args s = true ∧ va_Nc E nm s)) (hcell : H[q]? = some ce) (hv : ce.vm = .none) (hcl : s.vm.findClass E = some ce.cls)
    (hx : ∀ t : State, t.heap = H → s.vm.Alike t.vm → XC E s t) (hf : ∀ z ∈ locs, free z.base) (hc : cells ≤ mc) (hs : slots ≤ ms) :
    vx_W p l e R s m args below meth c H locs cells slots (vx_MQ below Qc XC args s mc ms free) (F0 m pc ls rest) q := by
  intro T hT X
  have hpl : e.platform.magicAccessors = ({} : Platform).magicAccessors := by rw [X.admits.platform]
  obtain ⟨vm', hW', X', st⟩ := X.outThrough hlocks q (g := F0 m pc ls rest) rfl rfl rfl (cell := ce) (by rw [hT]; exact hcell) (by rw [hv]; rfl)
    (by obtain ⟨k9, h9, -⟩ := Vm.findClass_spec hcl; exact ⟨k9, h9⟩) (fun z hz => by
      rcases hpass z hz with h | ⟨hz0, nm, hl1, hn1⟩
      · exact Or.inl h
      · obtain ⟨c6, hc6, hcl6⟩ := Cond.classLink_spec hown hl1 e.platform hpl
        obtain ⟨a8, b8, h1, h2, h3⟩ := hn1
        cases Option.some.inj (h1.symm.trans hcl)
        cases Option.some.inj (h2.symm.trans hc6)
        exact Or.inr ⟨hz0, _, hcl6, h3⟩)
  obtain ⟨g₀, hfr⟩ := X'.frames_eq
  have hcell9 : ((T.setVm vm').setFrames (.throwing q :: below)).heap[q]? = some ce := by
    show T.heap[q]? = some ce
    rw [hT]; exact hcell
  have hend : Ended ((T.setVm vm').setFrames (.throwing q :: below)) below (.threw q) := State.frames_setFrames _ (State.cur_lt_of_frames hfr)
  refine ⟨(T.setVm vm').setFrames (.throwing q :: below), ?_, .threw q, X'.here.running, hend, Or.inr ⟨q, rfl, E, ce, locs, hx _ hT (X'.ends _).1.alike, hcell9, hv, hcl, (X'.ends _).1, (X'.ends _).2.mono hc hs, hf⟩⟩
  rw [X.pushThrowing_eq]
  exact st
/-- a thing of a world lies in the heap -/
theorem vx_lt {D : va_G} {cl : List vw_C} {ws : va_W} {H1 : Heap} (h : va_P D cl ws H1) {k : Nat} {q : Nat × va_E} (hk : ws[k]? = some q) : q.1 < H1.size := (h k q hk).lt
end VXS
/-! ===== END ===== -/
/-! ===== BEGIN methods with a table of their own: called by a name, returning or throwing ===== -/
section VXH
/-! vx_backW, vx_callVX, vx_callSX, vx_callVW, vx_runVW, vx_runVX, vx_runSX, vx_ofWH follow the same proofs as their sisters above (Free/Laws.lean, Shelf42/LK1.lean); vx_outP calls Shelf42/NT130.lean (outThrough). -/
section
variable {l : Launch} {R : Room} {p : Program} {e : Env} {below : List Frame} {s : State} {sargs : Array Value} {y : MethodName} {len W9 : Nat}
theorem vx_backW {ws : List Cond} {rm : Room} {Pc : Array Value → State → Prop} {Qc : Array Value → State → Outcome → State → Prop} {XC : String → State → State → Prop} {mc ms : Nat} {free : Addr → Prop} {bytes : ByteArray} {maxL : Nat} {ret : Option FieldType} {hh : List (Nat × Nat × Nat × Nat)}
    (hM : vx_Met l y ws rm Pc Qc XC mc ms free) (hblind : FrameBlind Pc) (hrc : rm.cells = mc) (hrs : rm.slots = ms)
    (hframes : rm.frames + 1 ≤ R.frames) (hlocals : W9 + (maxL + 11) + rm.locals ≤ R.locals)
    (hws : ∀ w ∈ ws, ∀ a' U, s.WarmedH U.vm → w.before a' U = true) (hcode : Cond.codeWith y bytes maxL ret hh ∈ ws) (hinit : ∀ a' U, s.WarmedH U.vm → (Cond.initialized y.cls).before a' U = true) :
    vx_Back l R p e below s sargs y len W9 (PreOf R mc ms Pc) (PostOf Qc mc ms free) (vx_Post XC mc ms free) := by
  intro m meth c A g ig mk a X hg hsize hdg hW hn hp
  have h1 : (headSpec ws rm).pre.before a A.U = true := atoms_intro fun w hw => hws w hw _ _ X.warmed
  have h2 : (Cond.codeWith y bytes maxL ret hh).before a A.U = true := hws _ hcode _ _ X.warmed
  have h3 : (Cond.initialized y.cls).before a A.U = true := hinit _ _ X.warmed
  have h4 : A.cells + (headSpec ws rm).room.cells ≤ R.cells := by rw [show (headSpec ws rm).room.cells = mc from hrc]; exact hp.1
  have h5 : A.slots + (headSpec ws rm).room.slots ≤ R.slots := by rw [show (headSpec ws rm).room.slots = ms from hrs]; exact hp.2.1
  have hPc : Pc a (A.U.calling g mk a) := hblind _ _ _ _ hp.2.2
  obtain ⟨U, Ls, c0, s0⟩ := A
  dsimp only [Pt.U, Pt.locs, Pt.cells, Pt.slots] at h1 h2 h3 h4 h5 X hn hPc ⊢
  obtain ⟨m9, methY, cY, hn9, hmY, hcY, -, hlY, -⟩ := Cond.codeWith_spec h2
  cases Option.some.inj (hn9.symm.trans hn)
  obtain ⟨kY, hkY, -⟩ := className_of_methodNamed hn
  have hinitY : kY.init = .initialized := Cond.initialized_spec (findClass_of_methodNamed hn) hkY h3
  have h : At U g.method c below := by rw [hg]; exact X.here
  have hlocals9 : W9 + (maxL + 11) + (headSpec ws rm).room.locals ≤ R.locals := hlocals
  have happ : (headSpec ws rm).appliesLoose y e.platform (U.calling g mk a) = true :=
    Spec.appliesLoose_calling (g := g) h hdg hn hkY hinitY
      (X.room_calling (g := g) (R' := (headSpec ws rm).room) hsize hmY hcY hframes (by rw [hlY]; omega) h4 h5) h1
  obtain ⟨mid, hmid⟩ := h.above
  have hfr : (U.setTop g).frames = (.java g :: mid) ++ below := by rw [State.frames_setTop' g h.top, hmid]; rfl
  obtain ⟨o, s₂, hsteps, -, hend, hq⟩ := Steps.callFree hM p X.admits X.cas X.clock (acts := []) hfr happ hPc trivial
  have hq' : vx_Q Qc XC mc ms free a (U.calling g mk a) o s₂ := hq
  rw [State.frames_setTop' g h.top] at hend
  obtain ⟨g₀, hg0⟩ := Option.isSome_iff_exists.mp h.top
  obtain ⟨r, hr⟩ := State.topJava?_eq_some.mp hg0
  have hr' : (({ U with heap := s₂.heap, slotsUsed := s₂.slotsUsed } : State).setVm s₂.vm).frames = .java g₀ :: r := hr
  rcases hq' with ⟨hqc, L, hfe, hL⟩ | ⟨q, rfl, E, ce, L, hx, hce, hcv, hcl, hW₂, hsm, hL⟩
  · obtain ⟨⟨v, rfl⟩, hW₂, e2, q2, q3, q4, q5, q6⟩ := id hfe
    have e3 : s₂ = ({ (U.calling g mk a).setFrames s₂.frames with heap := s₂.heap, slotsUsed := s₂.slotsUsed } : State).setVm s₂.vm := by
      have : s₂ = ({ s₂ with vm := (U.calling g mk a).vm } : State).setVm s₂.vm := rfl
      rw [e2] at this
      exact this
    obtain ⟨c₂, i₂, len₂, hc₂, hd₂, hf₂⟩ := hend
    have hW' : U.WarmedH s₂.vm := hW₂
    have hcc : c₂ = c := by
      have h1 : s₂.code? g.method = U.code? g.method := by
        rw [State.code?_eq, State.code?_eq, hW'.alike.method?]
      exact Option.some.inj (hc₂.symm.trans (h1.trans h.code))
    subst hcc
    have hlen : len₂ = len := by rw [hdg] at hd₂; cases hd₂; rfl
    subst hlen
    have hs₂ : s₂ = (({ U with heap := s₂.heap, slotsUsed := s₂.slotsUsed } : State).setVm s₂.vm).setTop { g with pc := g.pc + len₂, stack := v.toList ++ g.stack } := by
      refine e3.trans ?_
      rw [hf₂, State.calling_eq h.top, State.setFrames_setFrames, State.setTop_of_frames _ hr', hr]
      rfl
    have hsame : U.sameButNew ({ U with heap := s₂.heap, slotsUsed := s₂.slotsUsed } : State) L mc ms := by
      refine ⟨?_, q2, q3, q4, q5, q6⟩
      obtain ⟨t, ht, -⟩ := State.frames_cons hr
      show ({ U with heap := s₂.heap, slotsUsed := s₂.slotsUsed } : State) = { U.setFrames U.frames with heap := s₂.heap, slotsUsed := s₂.slotsUsed }
      rw [State.setFrames_self ht]
    subst hg
    refine Or.inl ⟨v, ⟨(({ U with heap := s₂.heap, slotsUsed := s₂.slotsUsed } : State).setVm s₂.vm), Ls ++ L, c0 + mc, s0 + ms⟩,
      ⟨X.admits, X.cas, X.clock, X.frames, X.room, X.hears, X.method, X.code, (X.here.setHeapUsed s₂.heap s₂.slotsUsed).setVm hW'.alike, X.tail, State.WarmedH.trans X.warmed hW', X.limits, X.bytes, X.same.trans (hsame.setVm s.vm)⟩,
      ⟨g, mk, s₂, L, rfl, rfl, hqc, rfl, hL, rfl, rfl⟩, ?_⟩
    show Steps p.tables e below _ ((({ U with heap := s₂.heap, slotsUsed := s₂.slotsUsed } : State).setVm s₂.vm).setTop { g with pc := g.pc + len₂, stack := v.toList ++ g.stack })
    rw [← hs₂]
    exact hsteps
  · obtain ⟨e2, q2, q3, q4, q5, q6⟩ := id hsm
    have e3 : s₂ = ({ (U.calling g mk a).setFrames s₂.frames with heap := s₂.heap, slotsUsed := s₂.slotsUsed } : State).setVm s₂.vm := by
      have : s₂ = ({ s₂ with vm := (U.calling g mk a).vm } : State).setVm s₂.vm := rfl
      rw [e2] at this
      exact this
    have hf₂ : s₂.frames = .throwing q :: .java g :: U.frames.tail := hend
    have hW' : U.WarmedH s₂.vm := hW₂
    have hs₂ : s₂ = ((({ U with heap := s₂.heap, slotsUsed := s₂.slotsUsed } : State).setVm s₂.vm).setTop g).pushFrame (.throwing q) := by
      refine e3.trans ?_
      rw [hf₂, State.calling_eq h.top, State.setFrames_setFrames, State.pushFrame, State.frames_setTop _ hr', State.setTop_of_frames _ hr', State.setFrames_setFrames, hr]
      rfl
    have hsame : U.sameButNew ({ U with heap := s₂.heap, slotsUsed := s₂.slotsUsed } : State) L mc ms := by
      refine ⟨?_, q2, q3, q4, q5, q6⟩
      obtain ⟨t, ht, -⟩ := State.frames_cons hr
      show ({ U with heap := s₂.heap, slotsUsed := s₂.slotsUsed } : State) = { U.setFrames U.frames with heap := s₂.heap, slotsUsed := s₂.slotsUsed }
      rw [State.setFrames_self ht]
    subst hg
    refine Or.inr ⟨q, ⟨(({ U with heap := s₂.heap, slotsUsed := s₂.slotsUsed } : State).setVm s₂.vm), Ls ++ L, c0 + mc, s0 + ms⟩,
      ⟨X.admits, X.cas, X.clock, X.frames, X.room, X.hears, X.method, X.code, (X.here.setHeapUsed s₂.heap s₂.slotsUsed).setVm hW'.alike, X.tail, State.WarmedH.trans X.warmed hW', X.limits, X.bytes, X.same.trans (hsame.setVm s.vm)⟩,
      ⟨g, mk, s₂, L, E, ce, rfl, rfl, hx, hce, hcv, hcl, rfl, hL, rfl, rfl⟩, ?_⟩
    show Steps p.tables e below _ (((({ U with heap := s₂.heap, slotsUsed := s₂.slotsUsed } : State).setVm s₂.vm).setTop g).pushFrame (.throwing q))
    rw [← hs₂]
    exact hsteps
end
variable {p : Program} {l : Launch} {e : Env} {R : Room} {s : State} {m : MethodId} {args : Array Value} {below : List Frame} {meth : Method} {c : Code} {T : State} {H : Heap} {locs : List Loc} {cells slots : Nat}
theorem vx_callVX (X : Stand p l e R s m args below meth c T locs cells slots) (hexec : p.tables.exec = Jvm.exec) {own C : String} {index : Nat} {y : MethodName} {bytes : ByteArray} {maxL : Nat} {ret : Option FieldType} {hh : List (Nat × Nat × Nat × Nat)}
    (hown : s.vm.findClass own = some m.cls) (hlink : (Cond.methodLink own index y).before args s = true) (hinst : (Cond.instanceMethod y).before args s = true) (hsel : (Cond.selects C y y).before args s = true)
    (hcode : (Cond.codeWith y bytes maxL ret hh).before args s = true) (hy : y.cls ≠ "java/lang/invoke/MethodHandle" ∧ y.cls ≠ "java/lang/invoke/VarHandle")
    {W9 : Nat} {Pre : Pt → Array Value → Prop} {Post : Pt → Array Value → Option Value → Pt → Prop} {PostX : Pt → Array Value → Addr → Pt → Prop} (hK : vx_Back l R p e below s args y 3 W9 Pre Post PostX)
    {b : Addr} {cellB : Cell} (hcell : T.heap[b]? = some cellB) (hobj : cellB.vm.isStatics = false) (hcls : s.vm.findClass C = some cellB.cls)
    {g : JFrame} (hg : g.method = m) (hsize : g.locals.size = c.maxLocals) {argsL rest : List Value} (hlen : ∀ sig, parseMethodDescriptor y.desc = some sig → argsL.length = sig.parameters.length)
    (hstack : g.stack = argsL.reverse ++ .ref b :: rest) (hW : 2 * g.monitorRoom + (rest.map fun v => v.category).sum ≤ W9) (hdg : decode c.code g.pc = .ok (.invokevirtual index, 3))
    (hpre : ∀ vm₁, s.WarmedH vm₁ → Pre ⟨T.setVm vm₁, locs, cells, slots⟩ (Value.ref b :: argsL).toArray) :
    (∃ (v : Option Value) (vm₁ : Vm) (B : Pt), s.WarmedH vm₁ ∧ Stand p l e R s m args below meth c B.U B.locs B.cells B.slots ∧ Post ⟨T.setVm vm₁, locs, cells, slots⟩ (Value.ref b :: argsL).toArray v B ∧
      ∀ target, Steps p.tables e below (B.U.setTop { g with pc := g.pc + 3, stack := v.toList ++ rest }) target → Steps p.tables e below (T.setTop g) target) ∨
    (∃ (q : Addr) (vm₁ : Vm) (B : Pt), s.WarmedH vm₁ ∧ Stand p l e R s m args below meth c B.U B.locs B.cells B.slots ∧ PostX ⟨T.setVm vm₁, locs, cells, slots⟩ (Value.ref b :: argsL).toArray q B ∧
      Steps p.tables e below (T.setTop g) ((B.U.setTop { g with stack := rest }).pushFrame (.throwing q))) := by
  obtain ⟨mk, methM, hnamed, hmethM, hstM, habM⟩ := Cond.instanceMethod_spec hinst
  obtain ⟨m8, methM', cM, hn8, hmethM', -, -, -, -, -, -, hsigM⟩ := Cond.codeWith_spec hcode
  cases Option.some.inj (hn8.symm.trans hnamed)
  cases hmethM.symm.trans hmethM'
  obtain ⟨c2, r2, m2, q1, q2, q3, q4, kP, hkP, hkPi⟩ := Cond.selects_spec hsel
  cases hcls.symm.trans q1
  cases (State.methodFound?_of_named hnamed hy).symm.trans q2
  cases hnamed.symm.trans q3
  have hselP : selectMethod e.platform s.vm cellB.cls mk = .method mk := by rw [Launch.admits_selectMethod X.admits]; exact q4
  obtain ⟨vm₁, X₁, hstep₁⟩ := X.invokevirtual hexec hown hlink hnamed hmethM hstM hkP hkPi hy (a := b) (cell := cellB) hcell
    (fun z h => by rw [h] at hobj; cases hobj) hselP hmethM habM hkP hkPi (g := g) hg (argsL := argsL) (rest := rest) (hlen _ hsigM) hstack hdg
  rcases hK m meth c ⟨T.setVm vm₁, locs, cells, slots⟩ { g with stack := rest } (.invokevirtual index) mk (Value.ref b :: argsL).toArray X₁ hg hsize hdg hW (X₁.named hnamed) (hpre vm₁ X₁.warmed) with ⟨v, B, X', hpost, hsteps⟩ | ⟨q, B, X', hpost, hsteps⟩
  · exact Or.inl ⟨v, vm₁, B, X₁.warmed, X', hpost, fun target h => hstep₁ _ fun acts => by rw [doInvoke_state]; exact hsteps.trans h⟩
  · exact Or.inr ⟨q, vm₁, B, X₁.warmed, X', hpost, hstep₁ _ fun acts => by rw [doInvoke_state]; exact hsteps⟩
theorem vx_callSX (X : Stand p l e R s m args below meth c T locs cells slots) (hexec : p.tables.exec = Jvm.exec) {own : String} {index : Nat} {y : MethodName} {bytes : ByteArray} {maxL : Nat} {ret : Option FieldType} {hh : List (Nat × Nat × Nat × Nat)}
    (hown : s.vm.findClass own = some m.cls) (hlink : (Cond.methodLink own index y).before args s = true) (hstat : (Cond.static y).before args s = true) (hinit : (Cond.initialized y.cls).before args s = true)
    (hcode : (Cond.codeWith y bytes maxL ret hh).before args s = true) (hy : y.cls ≠ "java/lang/invoke/MethodHandle" ∧ y.cls ≠ "java/lang/invoke/VarHandle")
    {W9 : Nat} {Pre : Pt → Array Value → Prop} {Post : Pt → Array Value → Option Value → Pt → Prop} {PostX : Pt → Array Value → Addr → Pt → Prop} (hK : vx_Back l R p e below s args y 3 W9 Pre Post PostX)
    {g : JFrame} (hg : g.method = m) (hsize : g.locals.size = c.maxLocals) {argsL rest : List Value} (hlen : ∀ sig, parseMethodDescriptor y.desc = some sig → argsL.length = sig.parameters.length)
    (hstack : g.stack = argsL.reverse ++ rest) (hW : 2 * g.monitorRoom + (rest.map fun v => v.category).sum ≤ W9) (hdg : decode c.code g.pc = .ok (.invokestatic index, 3))
    (hpre : ∀ vm₁, s.WarmedH vm₁ → Pre ⟨T.setVm vm₁, locs, cells, slots⟩ argsL.toArray) :
    (∃ (v : Option Value) (vm₁ : Vm) (B : Pt), s.WarmedH vm₁ ∧ Stand p l e R s m args below meth c B.U B.locs B.cells B.slots ∧ Post ⟨T.setVm vm₁, locs, cells, slots⟩ argsL.toArray v B ∧
      ∀ target, Steps p.tables e below (B.U.setTop { g with pc := g.pc + 3, stack := v.toList ++ rest }) target → Steps p.tables e below (T.setTop g) target) ∨
    (∃ (q : Addr) (vm₁ : Vm) (B : Pt), s.WarmedH vm₁ ∧ Stand p l e R s m args below meth c B.U B.locs B.cells B.slots ∧ PostX ⟨T.setVm vm₁, locs, cells, slots⟩ argsL.toArray q B ∧
      Steps p.tables e below (T.setTop g) ((B.U.setTop { g with stack := rest }).pushFrame (.throwing q))) := by
  obtain ⟨mk, methM, cM, hnamed, hmethM, -, -, -, -, -, -, hsigM⟩ := Cond.codeWith_spec hcode
  have hstatic : methM.isStatic = true := Cond.static_spec hnamed hmethM hstat
  obtain ⟨kP, hkP, -⟩ := className_of_methodNamed hnamed
  have hinitP : kP.init = .initialized := Cond.initialized_spec (findClass_of_methodNamed hnamed) hkP hinit
  obtain ⟨vm₁, X₁, hstep₁⟩ := X.invokestatic hexec hown hlink hnamed hmethM hstatic hkP hinitP hy (g := g) hg (argsL := argsL) (rest := rest) (hlen _ hsigM) hstack hdg
  rcases hK m meth c ⟨T.setVm vm₁, locs, cells, slots⟩ { g with stack := rest } (.invokestatic index) mk argsL.toArray X₁ hg hsize hdg hW (X₁.named hnamed) (hpre vm₁ X₁.warmed) with ⟨v, B, X', hpost, hsteps⟩ | ⟨q, B, X', hpost, hsteps⟩
  · exact Or.inl ⟨v, vm₁, B, X₁.warmed, X', hpost, fun target h => hstep₁ _ fun acts => by rw [doInvoke_state]; exact hsteps.trans h⟩
  · exact Or.inr ⟨q, vm₁, B, X₁.warmed, X', hpost, hstep₁ _ fun acts => by rw [doInvoke_state]; exact hsteps⟩
theorem vx_callVW (X : Stand p l e R s m args below meth c T locs cells slots) (hexec : p.tables.exec = Jvm.exec) {own C : String} {index : Nat} {y : MethodName} {bytes : ByteArray} {maxL : Nat} {ret : Option FieldType} {hh : List (Nat × Nat × Nat × Nat)}
    (hown : s.vm.findClass own = some m.cls) (hlink : (Cond.methodLink own index y).before args s = true) (hinst : (Cond.instanceMethod y).before args s = true) (hsel : (Cond.selects C y y).before args s = true)
    (hcode : (Cond.codeWith y bytes maxL ret hh).before args s = true) (hy : y.cls ≠ "java/lang/invoke/MethodHandle" ∧ y.cls ≠ "java/lang/invoke/VarHandle")
    {W9 : Nat} {Pre : Pt → Array Value → Prop} {Post : Pt → Array Value → Option Value → Pt → Prop} (hK : Back l R p e below s args y 3 W9 Pre Post)
    {b : Addr} {cellB : Cell} (hcell : T.heap[b]? = some cellB) (hobj : cellB.vm.isStatics = false) (hcls : s.vm.findClass C = some cellB.cls)
    {g : JFrame} (hg : g.method = m) (hsize : g.locals.size = c.maxLocals) {argsL rest : List Value} (hlen : ∀ sig, parseMethodDescriptor y.desc = some sig → argsL.length = sig.parameters.length)
    (hstack : g.stack = argsL.reverse ++ .ref b :: rest) (hW : 2 * g.monitorRoom + (rest.map fun v => v.category).sum ≤ W9) (hdg : decode c.code g.pc = .ok (.invokevirtual index, 3))
    (hpre : ∀ vm₁, s.WarmedH vm₁ → Pre ⟨T.setVm vm₁, locs, cells, slots⟩ (Value.ref b :: argsL).toArray) :
    ∃ (v : Option Value) (vm₁ : Vm) (B : Pt), s.WarmedH vm₁ ∧ Stand p l e R s m args below meth c B.U B.locs B.cells B.slots ∧ Post ⟨T.setVm vm₁, locs, cells, slots⟩ (Value.ref b :: argsL).toArray v B ∧
      ∀ target, Steps p.tables e below (B.U.setTop { g with pc := g.pc + 3, stack := v.toList ++ rest }) target → Steps p.tables e below (T.setTop g) target := by
  obtain ⟨mk, methM, hnamed, hmethM, hstM, habM⟩ := Cond.instanceMethod_spec hinst
  obtain ⟨m8, methM', cM, hn8, hmethM', -, -, -, -, -, -, hsigM⟩ := Cond.codeWith_spec hcode
  cases Option.some.inj (hn8.symm.trans hnamed)
  cases hmethM.symm.trans hmethM'
  obtain ⟨c2, r2, m2, q1, q2, q3, q4, kP, hkP, hkPi⟩ := Cond.selects_spec hsel
  cases hcls.symm.trans q1
  cases (State.methodFound?_of_named hnamed hy).symm.trans q2
  cases hnamed.symm.trans q3
  have hselP : selectMethod e.platform s.vm cellB.cls mk = .method mk := by rw [Launch.admits_selectMethod X.admits]; exact q4
  obtain ⟨vm₁, X₁, hstep₁⟩ := X.invokevirtual hexec hown hlink hnamed hmethM hstM hkP hkPi hy (a := b) (cell := cellB) hcell
    (fun z h => by rw [h] at hobj; cases hobj) hselP hmethM habM hkP hkPi (g := g) hg (argsL := argsL) (rest := rest) (hlen _ hsigM) hstack hdg
  obtain ⟨v, B, X', hpost, hsteps⟩ := hK m meth c ⟨T.setVm vm₁, locs, cells, slots⟩ { g with stack := rest } (.invokevirtual index) mk (Value.ref b :: argsL).toArray X₁ hg hsize hdg hW (X₁.named hnamed) (hpre vm₁ X₁.warmed)
  exact ⟨v, vm₁, B, X₁.warmed, X', hpost, fun target h => hstep₁ _ fun acts => by rw [doInvoke_state]; exact hsteps.trans h⟩
abbrev vx_CVW (R : Room) (s : State) (args : Array Value) (own C : String) (index : Nat) (y : MethodName) (bytes : ByteArray) (maxL : Nat) (ret : Option FieldType) (hh : List (Nat × Nat × Nat × Nat)) (ws : List Cond) (rm : Room) (mc ms n : Nat) : Prop :=
  (rm.cells = mc ∧ rm.slots = ms ∧ rm.frames + 1 ≤ R.frames ∧ 8 + (maxL + 11) + rm.locals ≤ R.locals ∧ (∀ w ∈ ws, ∀ (a' : Array Value) (U : State), s.WarmedH U.vm → w.before a' U = true) ∧ Cond.codeWith y bytes maxL ret hh ∈ ws) ∧
  (Cond.codeWith y bytes maxL ret hh).before args s = true ∧ (Cond.initialized y.cls).before args s = true ∧ (y.cls ≠ "java/lang/invoke/MethodHandle" ∧ y.cls ≠ "java/lang/invoke/VarHandle") ∧
  (∀ sig, parseMethodDescriptor y.desc = some sig → n = sig.parameters.length) ∧ (Cond.methodLink own index y).before args s = true ∧ (Cond.instanceMethod y).before args s = true ∧ (Cond.selects C y y).before args s = true
theorem vx_cwVW {own C : String} {index maxL mc ms : Nat} {y : MethodName} {bytes : ByteArray} {ret : Option FieldType} {hh : List (Nat × Nat × Nat × Nat)} {Ts ws ws' : List Cond} {rm : Room} (n : Nat) (ht : ∀ w ∈ Ts, w.before args s = true) (hT : GoodIn Ts (wsV own index C y ws)) (hw : ws = Cond.codeWith y bytes maxL ret hh :: ws') (hrc : rm.cells = mc) (hrs : rm.slots = ms)
    (hd : y.cls = C ∧ y.cls ≠ "java/lang/invoke/MethodHandle" ∧ y.cls ≠ "java/lang/invoke/VarHandle" ∧ (parseMethodDescriptor y.desc).map (fun d => d.parameters.length) = some n) (hR : rm.frames + 1 ≤ R.frames ∧ 8 + (maxL + 11) + rm.locals ≤ R.locals) :
    vx_CVW R s args own C index y bytes maxL ret hh ws rm mc ms n := by
  obtain ⟨hC, hd⟩ := hd
  subst hC
  have ok : ∀ w ∈ wsV own index y.cls y ws, w.before args s = true := fun w h => ht w (hT w h).1
  have hG : GoodIn Ts ws := fun w h => hT w (by unfold wsV; exact List.mem_append_right _ h)
  have hc : Cond.codeWith y bytes maxL ret hh ∈ ws := by rw [hw]; exact List.mem_cons_self
  refine ⟨⟨hrc, hrs, hR.1, hR.2, pay_in ht hG, hc⟩, ht _ (hG _ hc).1, ok _ (by simp [wsV]), ⟨hd.1, hd.2.1⟩, fun sig h => ?_, ok _ (by simp [wsV]), ok _ (by simp [wsV]), ok _ (by simp [wsV])⟩
  have h2 := hd.2.2
  rw [h] at h2
  exact (Option.some.inj h2).symm
theorem vx_runVW {y : MethodName} {bytes cc : ByteArray} {maxL nL mc ms n index : Nat} {ret : Option FieldType} {hh : List (Nat × Nat × Nat × Nat)} {ws : List Cond} {rm : Room} {Pc : Array Value → State → Prop} {Qc : Array Value → State → Outcome → State → Prop} {free : Addr → Prop} {Ts : List Cond} {own C : String} {b : Addr} {As rest : List Value} {g : JFrame}
    (S : CallFix p m c cc nL s args Ts own) (hM : Met l y ws rm Pc Qc mc ms free) (cw : vx_CVW R s args own C index y bytes maxL ret hh ws rm mc ms n) (hp : PreV s H C b Pc As)
    (hg : g.method = m) (hn : As.length = n) (hsize : g.locals.size = nL) (hstack : g.stack = As.reverse ++ .ref b :: rest) (hW : 2 * g.monitorRoom + (rest.map fun v => v.category).sum ≤ 8) (hdg : decode cc g.pc = .ok (.invokevirtual index, 3)) (hf : cells + mc ≤ R.cells ∧ slots + ms ≤ R.slots) :
    va_Run p l e R s m args below meth c H locs cells slots mc ms g rest (Qc (Value.ref b :: As).toArray) free := by
  obtain ⟨⟨hrc, hrs, hfr, hlo, hws, hcw⟩, hcode, hini, hy, hlen, hl, hin, hse⟩ := cw
  have hK : Back l R p e below s args y 3 8 (PreOf R mc ms Pc) (PostOf Qc mc ms free) := va_backW (hh := hh) (bytes := bytes) (maxL := maxL) (ret := ret) hM hp.1 hrc hrs hfr hlo hws hcw (fun a' U hW => word_at hW (Or.inl (by first | rfl | simp [Cond.onTables, Cond.keeps, Cond.steady])) hini)
  obtain ⟨hx, hb, hml, ho, -⟩ := S
  obtain ⟨-, ⟨cellB, hcB, hoB, hclB⟩, hPc⟩ := hp
  intro T hT X
  obtain ⟨v, vm₁, ⟨U', l2, c2, s2⟩, hW₁, X', ⟨g', mk, t, L, e1, e2, hq, h1, hL, h2, h3⟩, st⟩ := vx_callVW X hx (C := C) (hh := hh) (bytes := bytes) (maxL := maxL) (ret := ret) ho hl hin hse hcode hy hK (by rw [hT]; exact hcB) hoB hclB hg (hsize.trans hml.symm) (argsL := As) (rest := rest) (fun sig h => hn.trans (hlen sig h)) hstack hW (by rw [hb]; exact hdg)
    (fun vm₁ hW₁ => ⟨hf.1, hf.2, hPc (T.setVm vm₁) hT hW₁⟩)
  dsimp only [Pt.U, Pt.locs, Pt.cells, Pt.slots] at X' e1 e2 h1 h2 h3 st
  subst h1; subst h2; subst h3
  exact ⟨v, (T.setVm vm₁).calling g' mk (Value.ref b :: As).toArray, t, U', L, hT, X', hL, e1, e2, hq, st⟩
section
variable {y : MethodName} {bytes cc : ByteArray} {maxL nL mc ms n index : Nat} {ret : Option FieldType} {ws : List Cond} {rm : Room} {Pc : Array Value → State → Prop} {Qc : Array Value → State → Outcome → State → Prop} {XC : String → State → State → Prop} {free : Addr → Prop} {Ts : List Cond} {own C : String} {b : Addr} {As rest : List Value} {g : JFrame}
theorem vx_runVX {hh : List (Nat × Nat × Nat × Nat)} (S : CallFix p m c cc nL s args Ts own) (hM : vx_Met l y ws rm Pc Qc XC mc ms free) (cw : vx_CVW R s args own C index y bytes maxL ret hh ws rm mc ms n) (hp : PreV s H C b Pc As)
    (hg : g.method = m) (hn : As.length = n) (hsize : g.locals.size = nL) (hstack : g.stack = As.reverse ++ .ref b :: rest) (hW : 2 * g.monitorRoom + (rest.map fun v => v.category).sum ≤ 8) (hdg : decode cc g.pc = .ok (.invokevirtual index, 3)) (hf : cells + mc ≤ R.cells ∧ slots + ms ≤ R.slots) :
    vx_Run p l e R s m args below meth c H locs cells slots mc ms g rest (Qc (Value.ref b :: As).toArray) XC free := by
  obtain ⟨⟨hrc, hrs, hfr, hlo, hws, hcw⟩, hcode, hini, hy, hlen, hl, hin, hse⟩ := cw
  have hK : vx_Back l R p e below s args y 3 8 (PreOf R mc ms Pc) (PostOf Qc mc ms free) (vx_Post XC mc ms free) := vx_backW (hh := hh) (bytes := bytes) (maxL := maxL) (ret := ret) hM hp.1 hrc hrs hfr hlo hws hcw (fun a' U hW => word_at hW (Or.inl (by first | rfl | simp [Cond.onTables, Cond.keeps, Cond.steady])) hini)
  obtain ⟨hx, hb, hml, ho, -⟩ := S
  obtain ⟨-, ⟨cellB, hcB, hoB, hclB⟩, hPc⟩ := hp
  intro T hT X
  rcases vx_callVX X hx (C := C) (hh := hh) (bytes := bytes) (maxL := maxL) (ret := ret) ho hl hin hse hcode hy hK (by rw [hT]; exact hcB) hoB hclB hg (hsize.trans hml.symm) (argsL := As) (rest := rest) (fun sig h => hn.trans (hlen sig h)) hstack hW (by rw [hb]; exact hdg)
    (fun vm₁ hW₁ => ⟨hf.1, hf.2, hPc (T.setVm vm₁) hT hW₁⟩) with ⟨v, vm₁, ⟨U', l2, c2, s2⟩, hW₁, X', ⟨g', mk, t, L, e1, e2, hq, h1, hL, h2, h3⟩, st⟩ | ⟨q, vm₁, ⟨U', l2, c2, s2⟩, hW₁, X', ⟨g', mk, t, L, E, ce, e1, e2, hq, hce, hcv, hcl, h1, hL, h2, h3⟩, st⟩
  · dsimp only [Pt.U, Pt.locs, Pt.cells, Pt.slots] at X' e1 e2 h1 h2 h3 st
    subst h1; subst h2; subst h3
    exact Or.inl ⟨v, (T.setVm vm₁).calling g' mk (Value.ref b :: As).toArray, t, U', L, hT, X', hL, e1, e2, hq, st⟩
  · dsimp only [Pt.U, Pt.locs, Pt.cells, Pt.slots] at X' e1 e2 h1 h2 h3 st hcl
    subst h1; subst h2; subst h3
    exact Or.inr ⟨q, (T.setVm vm₁).calling g' mk (Value.ref b :: As).toArray, t, U', L, E, ce, hT, X', hL, e1, e2, hq, hce, hcv, vx_cls hW₁ hcl, st⟩
theorem vx_runSX {hh : List (Nat × Nat × Nat × Nat)} (S : CallFix p m c cc nL s args Ts own) (hM : vx_Met l y ws rm Pc Qc XC mc ms free) (cw : vx_CSW R s args own index y bytes maxL ret hh ws rm mc ms n) (hp : PreS s H Pc As)
    (hg : g.method = m) (hn : As.length = n) (hsize : g.locals.size = nL) (hstack : g.stack = As.reverse ++ rest) (hW : 2 * g.monitorRoom + (rest.map fun v => v.category).sum ≤ 8) (hdg : decode cc g.pc = .ok (.invokestatic index, 3)) (hf : cells + mc ≤ R.cells ∧ slots + ms ≤ R.slots) :
    vx_Run p l e R s m args below meth c H locs cells slots mc ms g rest (Qc As.toArray) XC free := by
  obtain ⟨⟨hrc, hrs, hfr, hlo, hws, hcw⟩, hcode, hini, hy, hlen, hl, hstt⟩ := cw
  have hK : vx_Back l R p e below s args y 3 8 (PreOf R mc ms Pc) (PostOf Qc mc ms free) (vx_Post XC mc ms free) := vx_backW (hh := hh) (bytes := bytes) (maxL := maxL) (ret := ret) hM hp.1 hrc hrs hfr hlo hws hcw (fun a' U hW => word_at hW (Or.inl (by first | rfl | simp [Cond.onTables, Cond.keeps, Cond.steady])) hini)
  obtain ⟨hx, hb, hml, ho, -⟩ := S
  intro T hT X
  rcases vx_callSX X hx (hh := hh) (bytes := bytes) (maxL := maxL) (ret := ret) ho hl hstt hini hcode hy hK hg (hsize.trans hml.symm) (argsL := As) (rest := rest) (fun sig h => hn.trans (hlen sig h)) hstack hW (by rw [hb]; exact hdg)
    (fun vm₁ hW₁ => ⟨hf.1, hf.2, hp.2 (T.setVm vm₁) hT hW₁⟩) with ⟨v, vm₁, ⟨U', l2, c2, s2⟩, hW₁, X', ⟨g', mk, t, L, e1, e2, hq, h1, hL, h2, h3⟩, st⟩ | ⟨q, vm₁, ⟨U', l2, c2, s2⟩, hW₁, X', ⟨g', mk, t, L, E, ce, e1, e2, hq, hce, hcv, hcl, h1, hL, h2, h3⟩, st⟩
  · dsimp only [Pt.U, Pt.locs, Pt.cells, Pt.slots] at X' e1 e2 h1 h2 h3 st
    subst h1; subst h2; subst h3
    exact Or.inl ⟨v, (T.setVm vm₁).calling g' mk As.toArray, t, U', L, hT, X', hL, e1, e2, hq, st⟩
  · dsimp only [Pt.U, Pt.locs, Pt.cells, Pt.slots] at X' e1 e2 h1 h2 h3 st hcl
    subst h1; subst h2; subst h3
    exact Or.inr ⟨q, (T.setVm vm₁).calling g' mk As.toArray, t, U', L, E, ce, hT, X', hL, e1, e2, hq, hce, hcv, vx_cls hW₁ hcl, st⟩
end
end VXH
theorem vx_ofWH {l : Launch} {y : MethodName} {ws ws' : List Cond} {rm : Room} {Pc : Array Value → State → Prop} {Qc : Array Value → State → Outcome → State → Prop} {XC : String → State → State → Prop} {mc ms : Nat} {free : Addr → Prop} {cc : ByteArray} {maxL : Nat} {ret : Option FieldType} {hh : List (Nat × Nat × Nat × Nat)}
    (hy : plainName y.cls = true) (hw : ws = Cond.codeWith y cc maxL ret hh :: ws')
    (body : ∀ p e s m args below meth c s₁, BodyLoose p l y (headSpec ws rm) cc maxL ret e s m args below meth c s₁ → c.maxLocals = maxL → Pc args s →
      W p l e (headSpec ws rm).room s m args below meth c s.heap [] 0 0 (vx_MQ below Qc XC args s mc ms free) (entryFrame m args maxL)) : vx_Met l y ws rm Pc Qc XC mc ms free := by
  refine MetFree.of_bodyS (code := cc) (maxLocals := maxL) (ret := ret) hy ?_ ?_
  · intro args s m h hn
    obtain ⟨m9, meth, c, hn9, h1, h2, h3, h4, -, h5, h6, -⟩ := Cond.codeWith_spec (atoms_spec (ws := ws) h _ (by rw [hw]; exact List.mem_cons_self))
    cases hn.symm.trans hn9
    exact ⟨meth, c, h1, h2, h3, h4, h5, h6⟩
  · intro p e s m args below meth c s₁ B hml hP _
    have hh0 : s₁.heap = s.heap := by rw [B.state]; rfl
    obtain ⟨t, a1, o, b1, b2, b3⟩ := body p e s m args below meth c s₁ B hml hP s₁ hh0 (Stand.of_body B)
    exact ⟨t, o, a1, b1, b2, b3⟩
/-! ===== END ===== -/
end
section
-- ===== abstract values, cells, worlds =====
abbrev AV : Type := Int ⊕ (Int ⊕ Option Nat)
abbrev aI (z : Int) : AV := Sum.inl z
abbrev aL (z : Int) : AV := Sum.inr (Sum.inl z)
abbrev aR (k : Nat) : AV := Sum.inr (Sum.inr (some k))
abbrev aN : AV := Sum.inr (Sum.inr none)
def jv (ad : Nat → Nat) : AV → Value
  | .inl z => .int (Int32.ofInt z)
  | .inr (.inl z) => .long (Int64.ofInt z)
  | .inr (.inr none) => .null
  | .inr (.inr (some k)) => .ref (ad k)
def jcat : AV → Nat
  | .inr (.inl _) => 2
  | _ => 1
theorem jv_cat (ad : Nat → Nat) (v : AV) : (jv ad v).category = jcat v := by
  rcases v with z | z | _ | k <;> rfl
abbrev AE : Type := (Nat × List AV) ⊕ ((Nat × (Int → Int)) ⊕ ((Nat × (Int → Int)) ⊕ (Nat × Nat × (Int → Option Nat))))
abbrev eO (ci : Nat) (fs : List AV) : AE := Sum.inl (ci, fs)
abbrev eI (n : Nat) (f : Int → Int) : AE := Sum.inr (Sum.inl (n, f))
abbrev eL (n : Nat) (f : Int → Int) : AE := Sum.inr (Sum.inr (Sum.inl (n, f)))
abbrev eR (t n : Nat) (f : Int → Option Nat) : AE := Sum.inr (Sum.inr (Sum.inr (t, n, f)))
abbrev AW : Type := Nat → AE
abbrev JG : Type := (Nat → ClassId) × (Nat → Nat → Nat) × (Nat → ClassId)
def je (ca : Nat → ClassId) (ad : Nat → Nat) : AE → va_E
  | .inl (ci, fs) => .inr (ci, fs.map (jv ad))
  | .inr (.inl (n, f)) => .inl (ca 0, n, .inl (fun j => Int32.ofInt (f j)))
  | .inr (.inr (.inl (n, f))) => .inl (ca 1, n, .inr (.inl (fun j => Int64.ofInt (f j))))
  | .inr (.inr (.inr (t, n, f))) => .inl (ca t, n, .inr (.inr (.inr (.inr (fun j => (f j).map ad)))))
def jw (ca : Nat → ClassId) (ad : Nat → Nat) (w : AW) (N : Nat) : va_W := (List.range N).map (fun k => (ad k, je ca ad (w k)))
def up (w : AW) (k : Nat) (e : AE) : AW := fun j => if j = k then e else w j
def upi (f : Int → Int) (k x : Int) : Int → Int := fun j => if j = k then x else f j
theorem up_s {w : AW} {k : Nat} {e : AE} : up w k e k = e := by simp [up]
theorem up_n {w : AW} {k j : Nat} {e : AE} (h : j ≠ k) : up w k e j = w j := by simp [up, h]
theorem up_id {w : AW} {k : Nat} {e : AE} (h : w k = e) : up w k e = w := by
  funext j; by_cases hj : j = k
  · subst hj; simp [up, h]
  · simp [up, hj]
theorem upi_s {f : Int → Int} {k x : Int} : upi f k x k = x := by simp [upi]
theorem upi_n {f : Int → Int} {k j x : Int} (h : j ≠ k) : upi f k x j = f j := by simp [upi, h]
theorem jw_len {ca : Nat → ClassId} {ad : Nat → Nat} {w : AW} {N : Nat} : (jw ca ad w N).length = N := by simp [jw]
theorem jw_get {ca : Nat → ClassId} {ad : Nat → Nat} {w : AW} {N k : Nat} (h : k < N) : (jw ca ad w N)[k]? = some (ad k, je ca ad (w k)) := by
  simp [jw, h]
theorem jw_get' {ca : Nat → ClassId} {ad : Nat → Nat} {w : AW} {N k : Nat} {e : AE} (h : k < N) (he : w k = e) : (jw ca ad w N)[k]? = some (ad k, je ca ad e) := by
  rw [← he]; exact jw_get h
theorem jw_set {ca : Nat → ClassId} {ad : Nat → Nat} {w : AW} {N k : Nat} {e : AE} : (jw ca ad w N).set k (ad k, je ca ad e) = jw ca ad (up w k e) N := by
  apply List.ext_getElem?
  intro i
  by_cases hi : i < N
  · rw [jw_get hi]
    by_cases hk : i = k
    · subst hk
      rw [List.getElem?_set_self (by rw [jw_len]; exact hi), up_s]
    · rw [List.getElem?_set_ne (Ne.symm hk), jw_get hi, up_n hk]
  · rw [List.getElem?_eq_none (by rw [List.length_set, jw_len]; omega), List.getElem?_eq_none (by rw [jw_len]; omega)]
theorem jw_push {ca : Nat → ClassId} {ad : Nat → Nat} {w : AW} {N : Nat} {e : AE} : jw ca ad w N ++ [(ad N, je ca ad e)] = jw ca ad (up w N e) (N + 1) := by
  simp only [jw, List.range_succ, List.map_append, List.map_cons, List.map_nil, up_s]
  congr 1
  apply List.map_congr_left
  intro k hk
  rw [up_n (Nat.ne_of_lt (List.mem_range.mp hk))]
-- ===== locals =====
def jll (ad : Nat → Nat) : Nat → List (Option AV) → List (Nat × Value)
  | _, [] => []
  | i, none :: L => jll ad (i + 1) L
  | i, some v :: L => (i, jv ad v) :: jll ad (i + 1) L
theorem jll_mem {ad : Nat → Nat} : ∀ (L : List (Option AV)) (i : Nat) (q : Nat × Value), q ∈ jll ad i L ↔ ∃ (j : Nat) (v : AV), L[j]? = some (some v) ∧ q.1 = i + j ∧ q.2 = jv ad v
  | [], i, q => by simp [jll]
  | none :: L, i, q => by
    rw [jll, jll_mem L (i + 1) q]
    constructor
    · rintro ⟨j, v, h1, h2, h3⟩
      exact ⟨j + 1, v, by simpa using h1, by omega, h3⟩
    · rintro ⟨j, v, h1, h2, h3⟩
      cases j with
      | zero => simp at h1
      | succ j => exact ⟨j, v, by simpa using h1, by omega, h3⟩
  | some x :: L, i, q => by
    rw [jll, List.mem_cons, jll_mem L (i + 1) q]
    constructor
    · rintro (rfl | ⟨j, v, h1, h2, h3⟩)
      · exact ⟨0, x, by simp, by simp, rfl⟩
      · exact ⟨j + 1, v, by simpa using h1, by omega, h3⟩
    · rintro ⟨j, v, h1, h2, h3⟩
      cases j with
      | zero =>
        left
        simp at h1
        subst h1
        exact Prod.ext (by simpa using h2) h3
      | succ j => exact Or.inr ⟨j, v, by simpa using h1, by omega, h3⟩
def jl (ad : Nat → Nat) (ls : Array Slot) (nL : Nat) (L : List (Option AV)) : Prop := lv_has ls nL (jll ad 0 L)
theorem jl_at {ad : Nat → Nat} {ls : Array Slot} {nL k : Nat} {L : List (Option AV)} {v : AV} (h : jl ad ls nL L) (hk : L[k]? = some (some v)) : ls[k]? = some (.val (jv ad v)) :=
  h.2.2 (k, jv ad v) ((jll_mem L 0 _).mpr ⟨k, v, hk, by simp, rfl⟩)
/-- a local is stored: what was a long just ahead of it is gone -/
def cutL (L : List (Option AV)) (i : Nat) : List (Option AV) := match i with
  | 0 => L
  | j + 1 => match L[j]? with
    | some (some (.inr (.inl _))) => L.set j none
    | _ => L
theorem cutL_at {L : List (Option AV)} {i j : Nat} {v : AV} (h : (cutL L i)[j]? = some (some v)) : L[j]? = some (some v) ∧ ¬ (j + 1 = i ∧ jcat v = 2) := by
  cases i with
  | zero => exact ⟨h, by omega⟩
  | succ k =>
    unfold cutL at h
    simp only at h
    split at h
    · rename_i z hz
      by_cases hjk : j = k
      · subst hjk
        rw [List.getElem?_set_self (List.getElem?_eq_some_iff.mp hz).1] at h
        simp at h
      · rw [List.getElem?_set_ne (Ne.symm hjk)] at h
        exact ⟨h, by omega⟩
    · rename_i hz
      refine ⟨h, fun ⟨e, e2⟩ => ?_⟩
      have : j = k := by omega
      subst this
      rcases v with z | z | _ | z
      · simp [jcat] at e2
      · exact hz z h
      · simp [jcat] at e2
      · simp [jcat] at e2
theorem jl_store1 {ad : Nat → Nat} {ls : Array Slot} {nL i : Nat} {L L' : List (Option AV)} {v : AV} (hL : (cutL L i).set i (some v) = L') (h : lv_has ls nL ((i, jv ad v) :: (jll ad 0 L).filter (fun q => !(q.1 == i) && !(q.1 + 1 == i && q.2.category == 2)))) : jl ad ls nL L' := by
  subst hL
  refine ⟨h.1, h.2.1, fun q hq => ?_⟩
  obtain ⟨j, u, h1, h2, h3⟩ := (jll_mem _ 0 q).mp hq
  obtain ⟨a, b⟩ := q
  simp only at h2 h3
  have ea : a = j := by omega
  subst ea; subst h3
  by_cases hji : a = i
  · subst hji
    by_cases hl : a < (cutL L a).length
    · rw [List.getElem?_set_self hl] at h1
      simp at h1
      subst h1
      exact h.2.2 _ List.mem_cons_self
    · rw [List.getElem?_eq_none (by rw [List.length_set]; omega)] at h1
      simp at h1
  · rw [List.getElem?_set_ne (Ne.symm hji)] at h1
    obtain ⟨h4, h5⟩ := cutL_at h1
    refine h.2.2 _ (List.mem_cons_of_mem _ (List.mem_filter.mpr ⟨(jll_mem L 0 _).mpr ⟨a, u, h4, by simp, rfl⟩, ?_⟩))
    simp only [jv_cat, Bool.and_eq_true, Bool.not_eq_true', beq_eq_false_iff_ne, ne_eq, Bool.and_eq_false_iff]
    refine ⟨hji, ?_⟩
    by_cases e : a + 1 = i
    · exact Or.inr (fun e2 => h5 ⟨e, e2⟩)
    · exact Or.inl e
theorem jl_store2 {ad : Nat → Nat} {ls : Array Slot} {nL i : Nat} {L L' : List (Option AV)} {z : Int} (hL : (((cutL L i).set (i + 1) none).set i (some (aL z))) = L') (h : lv_has ls nL ((i, jv ad (aL z)) :: (jll ad 0 L).filter (fun q => !(q.1 == i) && (!(q.1 == i + 1) && !(q.1 + 1 == i && q.2.category == 2))))) : jl ad ls nL L' := by
  subst hL
  refine ⟨h.1, h.2.1, fun q hq => ?_⟩
  obtain ⟨j, u, h1, h2, h3⟩ := (jll_mem _ 0 q).mp hq
  obtain ⟨a, b⟩ := q
  simp only at h2 h3
  have ea : a = j := by omega
  subst ea; subst h3
  by_cases hji : a = i
  · subst hji
    by_cases hl : a < ((cutL L a).set (a + 1) none).length
    · rw [List.getElem?_set_self hl] at h1
      simp only [Option.some.injEq] at h1
      subst h1
      exact h.2.2 _ List.mem_cons_self
    · rw [List.getElem?_eq_none (by rw [List.length_set]; omega)] at h1
      simp at h1
  · rw [List.getElem?_set_ne (Ne.symm hji)] at h1
    by_cases hj2 : a = i + 1
    · subst hj2
      by_cases hl : i + 1 < (cutL L i).length
      · rw [List.getElem?_set_self hl] at h1
        simp at h1
      · rw [List.getElem?_eq_none (by rw [List.length_set]; omega)] at h1
        simp at h1
    · rw [List.getElem?_set_ne (Ne.symm hj2)] at h1
      obtain ⟨h4, h5⟩ := cutL_at h1
      refine h.2.2 _ (List.mem_cons_of_mem _ (List.mem_filter.mpr ⟨(jll_mem L 0 _).mpr ⟨a, u, h4, by simp, rfl⟩, ?_⟩))
      simp only [jv_cat, Bool.and_eq_true, Bool.not_eq_true', beq_eq_false_iff_ne, ne_eq, Bool.and_eq_false_iff]
      refine ⟨hji, hj2, ?_⟩
      by_cases e : a + 1 = i
      · exact Or.inr (fun e2 => h5 ⟨e, e2⟩)
      · exact Or.inl e
/-- the locals with which a method begins -/
def entL : List AV → List (Option AV)
  | [] => []
  | .inr (.inl z) :: r => some (aL z) :: none :: entL r
  | v :: r => some v :: entL r
theorem jll_none {ad : Nat → Nat} : ∀ (n i : Nat), jll ad i (List.replicate n none) = []
  | 0, _ => rfl
  | n + 1, i => by rw [List.replicate_succ, jll, jll_none n (i + 1)]
theorem jll_app {ad : Nat → Nat} (n : Nat) : ∀ (L : List (Option AV)) (i : Nat), jll ad i (L ++ List.replicate n none) = jll ad i L
  | [], i => by rw [List.nil_append, jll_none, jll]
  | none :: L, i => by rw [List.cons_append, jll, jll, jll_app n L]
  | some v :: L, i => by rw [List.cons_append, jll, jll, jll_app n L]
theorem jll_ent {ad : Nat → Nat} : ∀ (vs : List AV) (i : Nat), jll ad i (entL vs) = lv_args i (vs.map (jv ad))
  | [], i => rfl
  | .inl z :: r, i => by
    show (i, jv ad (aI z)) :: jll ad (i + 1) (entL r) = _
    rw [jll_ent r (i + 1)]; rfl
  | .inr (.inl z) :: r, i => by
    show (i, jv ad (aL z)) :: jll ad (i + 2) (entL r) = _
    rw [jll_ent r (i + 2)]; rfl
  | .inr (.inr none) :: r, i => by
    show (i, jv ad aN) :: jll ad (i + 1) (entL r) = _
    rw [jll_ent r (i + 1)]; rfl
  | .inr (.inr (some k)) :: r, i => by
    show (i, jv ad (aR k)) :: jll ad (i + 1) (entL r) = _
    rw [jll_ent r (i + 1)]; rfl
end
