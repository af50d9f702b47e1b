section
-- ===== PART A: goes FIRST, ahead of the names: the tables' words, and 'selects' of the private methods out of them =====
/-- a private method of a class that the tables say can be made, by its rows of tables_1 -/
def lw_okq (q : MethodName × Nat) : Prop := (q.1.cls ≠ "java/lang/invoke/MethodHandle" ∧ q.1.cls ≠ "java/lang/invoke/VarHandle") ∧ Cond.instantiable q.1.cls q.2 ∈ tables_1 ∧ Cond.privateMethod q.1 ∈ tables_1 ∧ Cond.instanceMethod q.1 ∈ tables_1
theorem lw_p0 : lw_okq (⟨"SledHouse", "refuse", "(I)I"⟩, 12) := ⟨⟨by decide +kernel, by decide +kernel⟩, List.mem_of_getElem? (i := 27) (by decide +kernel), List.mem_of_getElem? (i := 379) (by decide +kernel), List.mem_of_getElem? (i := 380) (by decide +kernel)⟩
theorem lw_p1 : lw_okq (⟨"SledHouse", "grant", "(I)I"⟩, 12) := ⟨⟨by decide +kernel, by decide +kernel⟩, List.mem_of_getElem? (i := 27) (by decide +kernel), List.mem_of_getElem? (i := 390) (by decide +kernel), List.mem_of_getElem? (i := 391) (by decide +kernel)⟩
theorem lw_p2 : lw_okq (⟨"SledHouse", "deny", "(I)Z"⟩, 12) := ⟨⟨by decide +kernel, by decide +kernel⟩, List.mem_of_getElem? (i := 27) (by decide +kernel), List.mem_of_getElem? (i := 398) (by decide +kernel), List.mem_of_getElem? (i := 399) (by decide +kernel)⟩
theorem lw_p3 : lw_okq (⟨"SledHouse", "allow", "()Z"⟩, 12) := ⟨⟨by decide +kernel, by decide +kernel⟩, List.mem_of_getElem? (i := 27) (by decide +kernel), List.mem_of_getElem? (i := 405) (by decide +kernel), List.mem_of_getElem? (i := 406) (by decide +kernel)⟩
theorem lw_p4 : lw_okq (⟨"SledHouse$Plan", "readRule", "(LSledHouse$Tape;)Z"⟩, 8) := ⟨⟨by decide +kernel, by decide +kernel⟩, List.mem_of_getElem? (i := 294) (by decide +kernel), List.mem_of_getElem? (i := 439) (by decide +kernel), List.mem_of_getElem? (i := 440) (by decide +kernel)⟩
theorem lw_p5 : lw_okq (⟨"SledHouse$Plan", "readTests", "(LSledHouse$Tape;)Z"⟩, 8) := ⟨⟨by decide +kernel, by decide +kernel⟩, List.mem_of_getElem? (i := 294) (by decide +kernel), List.mem_of_getElem? (i := 507) (by decide +kernel), List.mem_of_getElem? (i := 508) (by decide +kernel)⟩
theorem lw_p6 : lw_okq (⟨"SledHouse$Plan", "readTest", "(LSledHouse$Tape;I)Z"⟩, 8) := ⟨⟨by decide +kernel, by decide +kernel⟩, List.mem_of_getElem? (i := 294) (by decide +kernel), List.mem_of_getElem? (i := 512) (by decide +kernel), List.mem_of_getElem? (i := 513) (by decide +kernel)⟩
theorem lw_p7 : lw_okq (⟨"SledHouse$LawBook", "readLaw", "(LSledHouse$Tape;I)Z"⟩, 5) := ⟨⟨by decide +kernel, by decide +kernel⟩, List.mem_of_getElem? (i := 79) (by decide +kernel), List.mem_of_getElem? (i := 544) (by decide +kernel), List.mem_of_getElem? (i := 545) (by decide +kernel)⟩
theorem lw_p8 : lw_okq (⟨"SledHouse$LawBook", "readPosts", "(LSledHouse$Tape;I)Z"⟩, 5) := ⟨⟨by decide +kernel, by decide +kernel⟩, List.mem_of_getElem? (i := 79) (by decide +kernel), List.mem_of_getElem? (i := 557) (by decide +kernel), List.mem_of_getElem? (i := 558) (by decide +kernel)⟩
theorem lw_p9 : lw_okq (⟨"SledHouse$LawBook", "readSecondFine", "(LSledHouse$Tape;I)Z"⟩, 5) := ⟨⟨by decide +kernel, by decide +kernel⟩, List.mem_of_getElem? (i := 79) (by decide +kernel), List.mem_of_getElem? (i := 569) (by decide +kernel), List.mem_of_getElem? (i := 570) (by decide +kernel)⟩
theorem lw_p10 : lw_okq (⟨"SledHouse", "isPlan", "(I)Z"⟩, 12) := ⟨⟨by decide +kernel, by decide +kernel⟩, List.mem_of_getElem? (i := 27) (by decide +kernel), List.mem_of_getElem? (i := 587) (by decide +kernel), List.mem_of_getElem? (i := 588) (by decide +kernel)⟩
theorem lw_p11 : lw_okq (⟨"SledHouse", "isTeam", "(I)Z"⟩, 12) := ⟨⟨by decide +kernel, by decide +kernel⟩, List.mem_of_getElem? (i := 27) (by decide +kernel), List.mem_of_getElem? (i := 605) (by decide +kernel), List.mem_of_getElem? (i := 606) (by decide +kernel)⟩
theorem lw_p12 : lw_okq (⟨"SledHouse", "oneStep", "()V"⟩, 12) := ⟨⟨by decide +kernel, by decide +kernel⟩, List.mem_of_getElem? (i := 27) (by decide +kernel), List.mem_of_getElem? (i := 634) (by decide +kernel), List.mem_of_getElem? (i := 635) (by decide +kernel)⟩
theorem lw_p13 : lw_okq (⟨"SledHouse$Plan", "holds", "(ILSledHouse$Team;LSledHouse$Trail;I)Z"⟩, 8) := ⟨⟨by decide +kernel, by decide +kernel⟩, List.mem_of_getElem? (i := 294) (by decide +kernel), List.mem_of_getElem? (i := 646) (by decide +kernel), List.mem_of_getElem? (i := 647) (by decide +kernel)⟩
theorem lw_p14 : lw_okq (⟨"SledHouse$Team", "goOn", "(LSledHouse$Trail;I)V"⟩, 15) := ⟨⟨by decide +kernel, by decide +kernel⟩, List.mem_of_getElem? (i := 140) (by decide +kernel), List.mem_of_getElem? (i := 678) (by decide +kernel), List.mem_of_getElem? (i := 679) (by decide +kernel)⟩
theorem lw_p15 : lw_okq (⟨"SledHouse$Team", "reach", "(I)I"⟩, 15) := ⟨⟨by decide +kernel, by decide +kernel⟩, List.mem_of_getElem? (i := 140) (by decide +kernel), List.mem_of_getElem? (i := 691) (by decide +kernel), List.mem_of_getElem? (i := 692) (by decide +kernel)⟩
def lw_privs_1 : List (MethodName × Nat) := [(⟨"SledHouse", "refuse", "(I)I"⟩, 12), (⟨"SledHouse", "grant", "(I)I"⟩, 12), (⟨"SledHouse", "deny", "(I)Z"⟩, 12), (⟨"SledHouse", "allow", "()Z"⟩, 12), (⟨"SledHouse$Plan", "readRule", "(LSledHouse$Tape;)Z"⟩, 8), (⟨"SledHouse$Plan", "readTests", "(LSledHouse$Tape;)Z"⟩, 8), (⟨"SledHouse$Plan", "readTest", "(LSledHouse$Tape;I)Z"⟩, 8), (⟨"SledHouse$LawBook", "readLaw", "(LSledHouse$Tape;I)Z"⟩, 5), (⟨"SledHouse$LawBook", "readPosts", "(LSledHouse$Tape;I)Z"⟩, 5), (⟨"SledHouse$LawBook", "readSecondFine", "(LSledHouse$Tape;I)Z"⟩, 5), (⟨"SledHouse", "isPlan", "(I)Z"⟩, 12), (⟨"SledHouse", "isTeam", "(I)Z"⟩, 12), (⟨"SledHouse", "oneStep", "()V"⟩, 12), (⟨"SledHouse$Plan", "holds", "(ILSledHouse$Team;LSledHouse$Trail;I)Z"⟩, 8), (⟨"SledHouse$Team", "goOn", "(LSledHouse$Trail;I)V"⟩, 15), (⟨"SledHouse$Team", "reach", "(I)I"⟩, 15)]
theorem lw_r1 : ∀ q ∈ lw_privs_1, lw_okq q := List.forall_mem_cons.mpr ⟨lw_p0, List.forall_mem_cons.mpr ⟨lw_p1, List.forall_mem_cons.mpr ⟨lw_p2, List.forall_mem_cons.mpr ⟨lw_p3, List.forall_mem_cons.mpr ⟨lw_p4, List.forall_mem_cons.mpr ⟨lw_p5, List.forall_mem_cons.mpr ⟨lw_p6, List.forall_mem_cons.mpr ⟨lw_p7, List.forall_mem_cons.mpr ⟨lw_p8, List.forall_mem_cons.mpr ⟨lw_p9, List.forall_mem_cons.mpr ⟨lw_p10, List.forall_mem_cons.mpr ⟨lw_p11, List.forall_mem_cons.mpr ⟨lw_p12, List.forall_mem_cons.mpr ⟨lw_p13, List.forall_mem_cons.mpr ⟨lw_p14, List.forall_mem_cons.mpr ⟨lw_p15, fun _ h => absurd h List.not_mem_nil⟩⟩⟩⟩⟩⟩⟩⟩⟩⟩⟩⟩⟩⟩⟩⟩
theorem lw_p16 : lw_okq (⟨"SledHouse$Team", "arrive", "(II)V"⟩, 15) := ⟨⟨by decide +kernel, by decide +kernel⟩, List.mem_of_getElem? (i := 140) (by decide +kernel), List.mem_of_getElem? (i := 700) (by decide +kernel), List.mem_of_getElem? (i := 701) (by decide +kernel)⟩
theorem lw_p17 : lw_okq (⟨"SledHouse$Team", "pause", "(II)V"⟩, 15) := ⟨⟨by decide +kernel, by decide +kernel⟩, List.mem_of_getElem? (i := 140) (by decide +kernel), List.mem_of_getElem? (i := 708) (by decide +kernel), List.mem_of_getElem? (i := 709) (by decide +kernel)⟩
theorem lw_p18 : lw_okq (⟨"SledHouse$Dogs", "weakest", "()I"⟩, 6) := ⟨⟨by decide +kernel, by decide +kernel⟩, List.mem_of_getElem? (i := 146) (by decide +kernel), List.mem_of_getElem? (i := 720) (by decide +kernel), List.mem_of_getElem? (i := 721) (by decide +kernel)⟩
theorem lw_p19 : lw_okq (⟨"SledHouse", "isPost", "(I)Z"⟩, 12) := ⟨⟨by decide +kernel, by decide +kernel⟩, List.mem_of_getElem? (i := 27) (by decide +kernel), List.mem_of_getElem? (i := 767) (by decide +kernel), List.mem_of_getElem? (i := 768) (by decide +kernel)⟩
theorem lw_p20 : lw_okq (⟨"SledHouse", "isHome", "(I)Z"⟩, 12) := ⟨⟨by decide +kernel, by decide +kernel⟩, List.mem_of_getElem? (i := 27) (by decide +kernel), List.mem_of_getElem? (i := 779) (by decide +kernel), List.mem_of_getElem? (i := 780) (by decide +kernel)⟩
theorem lw_p21 : lw_okq (⟨"SledHouse", "isLaw", "(I)Z"⟩, 12) := ⟨⟨by decide +kernel, by decide +kernel⟩, List.mem_of_getElem? (i := 27) (by decide +kernel), List.mem_of_getElem? (i := 804) (by decide +kernel), List.mem_of_getElem? (i := 805) (by decide +kernel)⟩
theorem lw_p22 : lw_okq (⟨"SledHouse", "isAhead", "(II)Z"⟩, 12) := ⟨⟨by decide +kernel, by decide +kernel⟩, List.mem_of_getElem? (i := 27) (by decide +kernel), List.mem_of_getElem? (i := 813) (by decide +kernel), List.mem_of_getElem? (i := 814) (by decide +kernel)⟩
theorem lw_p23 : lw_okq (⟨"SledHouse", "groupOf", "(I)I"⟩, 12) := ⟨⟨by decide +kernel, by decide +kernel⟩, List.mem_of_getElem? (i := 27) (by decide +kernel), List.mem_of_getElem? (i := 817) (by decide +kernel), List.mem_of_getElem? (i := 818) (by decide +kernel)⟩
theorem lw_p24 : lw_okq (⟨"SledHouse", "valueInGroup", "(I)I"⟩, 12) := ⟨⟨by decide +kernel, by decide +kernel⟩, List.mem_of_getElem? (i := 27) (by decide +kernel), List.mem_of_getElem? (i := 824) (by decide +kernel), List.mem_of_getElem? (i := 825) (by decide +kernel)⟩
theorem lw_p25 : lw_okq (⟨"SledHouse", "greatestWay", "(II)I"⟩, 12) := ⟨⟨by decide +kernel, by decide +kernel⟩, List.mem_of_getElem? (i := 27) (by decide +kernel), List.mem_of_getElem? (i := 836) (by decide +kernel), List.mem_of_getElem? (i := 837) (by decide +kernel)⟩
theorem lw_p26 : lw_okq (⟨"SledHouse$SignRow", "past", "(II)I"⟩, 1) := ⟨⟨by decide +kernel, by decide +kernel⟩, List.mem_of_getElem? (i := 327) (by decide +kernel), List.mem_of_getElem? (i := 844) (by decide +kernel), List.mem_of_getElem? (i := 845) (by decide +kernel)⟩
theorem lw_p27 : lw_okq (⟨"SledHouse", "leastWay", "(II)I"⟩, 12) := ⟨⟨by decide +kernel, by decide +kernel⟩, List.mem_of_getElem? (i := 27) (by decide +kernel), List.mem_of_getElem? (i := 859) (by decide +kernel), List.mem_of_getElem? (i := 860) (by decide +kernel)⟩
theorem lw_p28 : lw_okq (⟨"SledHouse", "bringGhost", "(II)V"⟩, 12) := ⟨⟨by decide +kernel, by decide +kernel⟩, List.mem_of_getElem? (i := 27) (by decide +kernel), List.mem_of_getElem? (i := 875) (by decide +kernel), List.mem_of_getElem? (i := 876) (by decide +kernel)⟩
theorem lw_p29 : lw_okq (⟨"java/lang/Throwable", "fillInStackTrace", "(I)Ljava/lang/Throwable;"⟩, 6) := ⟨⟨by decide +kernel, by decide +kernel⟩, List.mem_of_getElem? (i := 1082) (by decide +kernel), List.mem_of_getElem? (i := 1080) (by decide +kernel), List.mem_of_getElem? (i := 1081) (by decide +kernel)⟩
theorem lw_p30 : lw_okq (⟨"SledHouseModel", "denied", "(I)Z"⟩, 40) := ⟨⟨by decide +kernel, by decide +kernel⟩, List.mem_of_getElem? (i := 936) (by decide +kernel), List.mem_of_getElem? (i := 1253) (by decide +kernel), List.mem_of_getElem? (i := 1254) (by decide +kernel)⟩
theorem lw_p31 : lw_okq (⟨"SledHouseModel", "granted", "()Z"⟩, 40) := ⟨⟨by decide +kernel, by decide +kernel⟩, List.mem_of_getElem? (i := 936) (by decide +kernel), List.mem_of_getElem? (i := 1257) (by decide +kernel), List.mem_of_getElem? (i := 1258) (by decide +kernel)⟩
def lw_privs_2 : List (MethodName × Nat) := [(⟨"SledHouse$Team", "arrive", "(II)V"⟩, 15), (⟨"SledHouse$Team", "pause", "(II)V"⟩, 15), (⟨"SledHouse$Dogs", "weakest", "()I"⟩, 6), (⟨"SledHouse", "isPost", "(I)Z"⟩, 12), (⟨"SledHouse", "isHome", "(I)Z"⟩, 12), (⟨"SledHouse", "isLaw", "(I)Z"⟩, 12), (⟨"SledHouse", "isAhead", "(II)Z"⟩, 12), (⟨"SledHouse", "groupOf", "(I)I"⟩, 12), (⟨"SledHouse", "valueInGroup", "(I)I"⟩, 12), (⟨"SledHouse", "greatestWay", "(II)I"⟩, 12), (⟨"SledHouse$SignRow", "past", "(II)I"⟩, 1), (⟨"SledHouse", "leastWay", "(II)I"⟩, 12), (⟨"SledHouse", "bringGhost", "(II)V"⟩, 12), (⟨"java/lang/Throwable", "fillInStackTrace", "(I)Ljava/lang/Throwable;"⟩, 6), (⟨"SledHouseModel", "denied", "(I)Z"⟩, 40), (⟨"SledHouseModel", "granted", "()Z"⟩, 40)]
theorem lw_r2 : ∀ q ∈ lw_privs_2, lw_okq q := List.forall_mem_cons.mpr ⟨lw_p16, List.forall_mem_cons.mpr ⟨lw_p17, List.forall_mem_cons.mpr ⟨lw_p18, List.forall_mem_cons.mpr ⟨lw_p19, List.forall_mem_cons.mpr ⟨lw_p20, List.forall_mem_cons.mpr ⟨lw_p21, List.forall_mem_cons.mpr ⟨lw_p22, List.forall_mem_cons.mpr ⟨lw_p23, List.forall_mem_cons.mpr ⟨lw_p24, List.forall_mem_cons.mpr ⟨lw_p25, List.forall_mem_cons.mpr ⟨lw_p26, List.forall_mem_cons.mpr ⟨lw_p27, List.forall_mem_cons.mpr ⟨lw_p28, List.forall_mem_cons.mpr ⟨lw_p29, List.forall_mem_cons.mpr ⟨lw_p30, List.forall_mem_cons.mpr ⟨lw_p31, fun _ h => absurd h List.not_mem_nil⟩⟩⟩⟩⟩⟩⟩⟩⟩⟩⟩⟩⟩⟩⟩⟩
theorem lw_p32 : lw_okq (⟨"SledHouseModel", "refused", "(I)I"⟩, 40) := ⟨⟨by decide +kernel, by decide +kernel⟩, List.mem_of_getElem? (i := 936) (by decide +kernel), List.mem_of_getElem? (i := 1265) (by decide +kernel), List.mem_of_getElem? (i := 1266) (by decide +kernel)⟩
theorem lw_p33 : lw_okq (⟨"SledHouseModel", "done", "(I)I"⟩, 40) := ⟨⟨by decide +kernel, by decide +kernel⟩, List.mem_of_getElem? (i := 936) (by decide +kernel), List.mem_of_getElem? (i := 1272) (by decide +kernel), List.mem_of_getElem? (i := 1273) (by decide +kernel)⟩
theorem lw_p34 : lw_okq (⟨"SledHouseModel", "start", "(I)V"⟩, 40) := ⟨⟨by decide +kernel, by decide +kernel⟩, List.mem_of_getElem? (i := 936) (by decide +kernel), List.mem_of_getElem? (i := 1288) (by decide +kernel), List.mem_of_getElem? (i := 1289) (by decide +kernel)⟩
theorem lw_p35 : lw_okq (⟨"SledHouseModel", "next", "()V"⟩, 40) := ⟨⟨by decide +kernel, by decide +kernel⟩, List.mem_of_getElem? (i := 936) (by decide +kernel), List.mem_of_getElem? (i := 1292) (by decide +kernel), List.mem_of_getElem? (i := 1293) (by decide +kernel)⟩
theorem lw_p36 : lw_okq (⟨"SledHouseModel", "byteAt", "(I)I"⟩, 40) := ⟨⟨by decide +kernel, by decide +kernel⟩, List.mem_of_getElem? (i := 936) (by decide +kernel), List.mem_of_getElem? (i := 1296) (by decide +kernel), List.mem_of_getElem? (i := 1297) (by decide +kernel)⟩
theorem lw_p37 : lw_okq (⟨"SledHouseModel", "readPlan", "()V"⟩, 40) := ⟨⟨by decide +kernel, by decide +kernel⟩, List.mem_of_getElem? (i := 936) (by decide +kernel), List.mem_of_getElem? (i := 1307) (by decide +kernel), List.mem_of_getElem? (i := 1308) (by decide +kernel)⟩
theorem lw_p38 : lw_okq (⟨"SledHouseModel", "isWord", "(Ljava/lang/String;)Z"⟩, 40) := ⟨⟨by decide +kernel, by decide +kernel⟩, List.mem_of_getElem? (i := 936) (by decide +kernel), List.mem_of_getElem? (i := 1312) (by decide +kernel), List.mem_of_getElem? (i := 1313) (by decide +kernel)⟩
theorem lw_p39 : lw_okq (⟨"SledHouseModel", "actHere", "()I"⟩, 40) := ⟨⟨by decide +kernel, by decide +kernel⟩, List.mem_of_getElem? (i := 936) (by decide +kernel), List.mem_of_getElem? (i := 1321) (by decide +kernel), List.mem_of_getElem? (i := 1322) (by decide +kernel)⟩
theorem lw_p40 : lw_okq (⟨"SledHouseModel", "stop", "(I)LSledHouseModel$Stop;"⟩, 40) := ⟨⟨by decide +kernel, by decide +kernel⟩, List.mem_of_getElem? (i := 936) (by decide +kernel), List.mem_of_getElem? (i := 1329) (by decide +kernel), List.mem_of_getElem? (i := 1330) (by decide +kernel)⟩
theorem lw_p41 : lw_okq (⟨"SledHouseModel", "readTest", "(I)V"⟩, 40) := ⟨⟨by decide +kernel, by decide +kernel⟩, List.mem_of_getElem? (i := 936) (by decide +kernel), List.mem_of_getElem? (i := 1333) (by decide +kernel), List.mem_of_getElem? (i := 1334) (by decide +kernel)⟩
theorem lw_p42 : lw_okq (⟨"SledHouseModel", "nameHere", "()I"⟩, 40) := ⟨⟨by decide +kernel, by decide +kernel⟩, List.mem_of_getElem? (i := 936) (by decide +kernel), List.mem_of_getElem? (i := 1338) (by decide +kernel), List.mem_of_getElem? (i := 1339) (by decide +kernel)⟩
theorem lw_p43 : lw_okq (⟨"SledHouseModel", "is", "(I)Z"⟩, 40) := ⟨⟨by decide +kernel, by decide +kernel⟩, List.mem_of_getElem? (i := 936) (by decide +kernel), List.mem_of_getElem? (i := 1353) (by decide +kernel), List.mem_of_getElem? (i := 1354) (by decide +kernel)⟩
theorem lw_p44 : lw_okq (⟨"SledHouseModel", "needNumber", "()I"⟩, 40) := ⟨⟨by decide +kernel, by decide +kernel⟩, List.mem_of_getElem? (i := 936) (by decide +kernel), List.mem_of_getElem? (i := 1357) (by decide +kernel), List.mem_of_getElem? (i := 1358) (by decide +kernel)⟩
theorem lw_p45 : lw_okq (⟨"SledHouseModel", "wrong", "(LSledHouseModel$Stop;)I"⟩, 40) := ⟨⟨by decide +kernel, by decide +kernel⟩, List.mem_of_getElem? (i := 936) (by decide +kernel), List.mem_of_getElem? (i := 1361) (by decide +kernel), List.mem_of_getElem? (i := 1362) (by decide +kernel)⟩
theorem lw_p46 : lw_okq (⟨"SledHouseModel", "readLaws", "()I"⟩, 40) := ⟨⟨by decide +kernel, by decide +kernel⟩, List.mem_of_getElem? (i := 936) (by decide +kernel), List.mem_of_getElem? (i := 1369) (by decide +kernel), List.mem_of_getElem? (i := 1370) (by decide +kernel)⟩
theorem lw_p47 : lw_okq (⟨"SledHouseModel", "needWord", "(Ljava/lang/String;)V"⟩, 40) := ⟨⟨by decide +kernel, by decide +kernel⟩, List.mem_of_getElem? (i := 936) (by decide +kernel), List.mem_of_getElem? (i := 1375) (by decide +kernel), List.mem_of_getElem? (i := 1376) (by decide +kernel)⟩
def lw_privs_3 : List (MethodName × Nat) := [(⟨"SledHouseModel", "refused", "(I)I"⟩, 40), (⟨"SledHouseModel", "done", "(I)I"⟩, 40), (⟨"SledHouseModel", "start", "(I)V"⟩, 40), (⟨"SledHouseModel", "next", "()V"⟩, 40), (⟨"SledHouseModel", "byteAt", "(I)I"⟩, 40), (⟨"SledHouseModel", "readPlan", "()V"⟩, 40), (⟨"SledHouseModel", "isWord", "(Ljava/lang/String;)Z"⟩, 40), (⟨"SledHouseModel", "actHere", "()I"⟩, 40), (⟨"SledHouseModel", "stop", "(I)LSledHouseModel$Stop;"⟩, 40), (⟨"SledHouseModel", "readTest", "(I)V"⟩, 40), (⟨"SledHouseModel", "nameHere", "()I"⟩, 40), (⟨"SledHouseModel", "is", "(I)Z"⟩, 40), (⟨"SledHouseModel", "needNumber", "()I"⟩, 40), (⟨"SledHouseModel", "wrong", "(LSledHouseModel$Stop;)I"⟩, 40), (⟨"SledHouseModel", "readLaws", "()I"⟩, 40), (⟨"SledHouseModel", "needWord", "(Ljava/lang/String;)V"⟩, 40)]
theorem lw_r3 : ∀ q ∈ lw_privs_3, lw_okq q := List.forall_mem_cons.mpr ⟨lw_p32, List.forall_mem_cons.mpr ⟨lw_p33, List.forall_mem_cons.mpr ⟨lw_p34, List.forall_mem_cons.mpr ⟨lw_p35, List.forall_mem_cons.mpr ⟨lw_p36, List.forall_mem_cons.mpr ⟨lw_p37, List.forall_mem_cons.mpr ⟨lw_p38, List.forall_mem_cons.mpr ⟨lw_p39, List.forall_mem_cons.mpr ⟨lw_p40, List.forall_mem_cons.mpr ⟨lw_p41, List.forall_mem_cons.mpr ⟨lw_p42, List.forall_mem_cons.mpr ⟨lw_p43, List.forall_mem_cons.mpr ⟨lw_p44, List.forall_mem_cons.mpr ⟨lw_p45, List.forall_mem_cons.mpr ⟨lw_p46, List.forall_mem_cons.mpr ⟨lw_p47, fun _ h => absurd h List.not_mem_nil⟩⟩⟩⟩⟩⟩⟩⟩⟩⟩⟩⟩⟩⟩⟩⟩
theorem lw_p48 : lw_okq (⟨"SledHouseModel", "isPlan", "(I)Z"⟩, 40) := ⟨⟨by decide +kernel, by decide +kernel⟩, List.mem_of_getElem? (i := 936) (by decide +kernel), List.mem_of_getElem? (i := 1402) (by decide +kernel), List.mem_of_getElem? (i := 1403) (by decide +kernel)⟩
theorem lw_p49 : lw_okq (⟨"SledHouseModel", "isTeam", "(I)Z"⟩, 40) := ⟨⟨by decide +kernel, by decide +kernel⟩, List.mem_of_getElem? (i := 936) (by decide +kernel), List.mem_of_getElem? (i := 1411) (by decide +kernel), List.mem_of_getElem? (i := 1412) (by decide +kernel)⟩
theorem lw_p50 : lw_okq (⟨"SledHouseModel", "isOver", "()Z"⟩, 40) := ⟨⟨by decide +kernel, by decide +kernel⟩, List.mem_of_getElem? (i := 936) (by decide +kernel), List.mem_of_getElem? (i := 1427) (by decide +kernel), List.mem_of_getElem? (i := 1428) (by decide +kernel)⟩
theorem lw_p51 : lw_okq (⟨"SledHouseModel", "leads", "(LSledHouseModel$Team;I)V"⟩, 40) := ⟨⟨by decide +kernel, by decide +kernel⟩, List.mem_of_getElem? (i := 936) (by decide +kernel), List.mem_of_getElem? (i := 1431) (by decide +kernel), List.mem_of_getElem? (i := 1432) (by decide +kernel)⟩
theorem lw_p52 : lw_okq (⟨"SledHouseModel", "holds", "(LSledHouseModel$Team;II)Z"⟩, 40) := ⟨⟨by decide +kernel, by decide +kernel⟩, List.mem_of_getElem? (i := 936) (by decide +kernel), List.mem_of_getElem? (i := 1435) (by decide +kernel), List.mem_of_getElem? (i := 1436) (by decide +kernel)⟩
theorem lw_p53 : lw_okq (⟨"SledHouseModel", "valueOf", "(LSledHouseModel$Team;II)I"⟩, 40) := ⟨⟨by decide +kernel, by decide +kernel⟩, List.mem_of_getElem? (i := 936) (by decide +kernel), List.mem_of_getElem? (i := 1439) (by decide +kernel), List.mem_of_getElem? (i := 1440) (by decide +kernel)⟩
theorem lw_p54 : lw_okq (⟨"SledHouseModel", "goes", "(LSledHouseModel$Team;II)V"⟩, 40) := ⟨⟨by decide +kernel, by decide +kernel⟩, List.mem_of_getElem? (i := 936) (by decide +kernel), List.mem_of_getElem? (i := 1456) (by decide +kernel), List.mem_of_getElem? (i := 1457) (by decide +kernel)⟩
theorem lw_p55 : lw_okq (⟨"SledHouseModel", "way", "(LSledHouseModel$Team;)I"⟩, 40) := ⟨⟨by decide +kernel, by decide +kernel⟩, List.mem_of_getElem? (i := 936) (by decide +kernel), List.mem_of_getElem? (i := 1470) (by decide +kernel), List.mem_of_getElem? (i := 1471) (by decide +kernel)⟩
theorem lw_p56 : lw_okq (⟨"SledHouseModel", "resultOf", "(LSledHouseModel$Team;)I"⟩, 40) := ⟨⟨by decide +kernel, by decide +kernel⟩, List.mem_of_getElem? (i := 936) (by decide +kernel), List.mem_of_getElem? (i := 1494) (by decide +kernel), List.mem_of_getElem? (i := 1495) (by decide +kernel)⟩
theorem lw_p57 : lw_okq (⟨"SledHouseModel", "lacksOf", "(LSledHouseModel$Team;I)I"⟩, 40) := ⟨⟨by decide +kernel, by decide +kernel⟩, List.mem_of_getElem? (i := 936) (by decide +kernel), List.mem_of_getElem? (i := 1498) (by decide +kernel), List.mem_of_getElem? (i := 1499) (by decide +kernel)⟩
theorem lw_p58 : lw_okq (⟨"SledHouseModel", "less", "(LSledHouseModel$Team;II)I"⟩, 40) := ⟨⟨by decide +kernel, by decide +kernel⟩, List.mem_of_getElem? (i := 936) (by decide +kernel), List.mem_of_getElem? (i := 1502) (by decide +kernel), List.mem_of_getElem? (i := 1503) (by decide +kernel)⟩
theorem lw_p59 : lw_okq (⟨"SledHouseModel", "isAhead", "(II)Z"⟩, 40) := ⟨⟨by decide +kernel, by decide +kernel⟩, List.mem_of_getElem? (i := 936) (by decide +kernel), List.mem_of_getElem? (i := 1515) (by decide +kernel), List.mem_of_getElem? (i := 1516) (by decide +kernel)⟩
theorem lw_p60 : lw_okq (⟨"SledHouseModel", "trail", "()I"⟩, 40) := ⟨⟨by decide +kernel, by decide +kernel⟩, List.mem_of_getElem? (i := 936) (by decide +kernel), List.mem_of_getElem? (i := 1527) (by decide +kernel), List.mem_of_getElem? (i := 1528) (by decide +kernel)⟩
def lw_privs_4 : List (MethodName × Nat) := [(⟨"SledHouseModel", "isPlan", "(I)Z"⟩, 40), (⟨"SledHouseModel", "isTeam", "(I)Z"⟩, 40), (⟨"SledHouseModel", "isOver", "()Z"⟩, 40), (⟨"SledHouseModel", "leads", "(LSledHouseModel$Team;I)V"⟩, 40), (⟨"SledHouseModel", "holds", "(LSledHouseModel$Team;II)Z"⟩, 40), (⟨"SledHouseModel", "valueOf", "(LSledHouseModel$Team;II)I"⟩, 40), (⟨"SledHouseModel", "goes", "(LSledHouseModel$Team;II)V"⟩, 40), (⟨"SledHouseModel", "way", "(LSledHouseModel$Team;)I"⟩, 40), (⟨"SledHouseModel", "resultOf", "(LSledHouseModel$Team;)I"⟩, 40), (⟨"SledHouseModel", "lacksOf", "(LSledHouseModel$Team;I)I"⟩, 40), (⟨"SledHouseModel", "less", "(LSledHouseModel$Team;II)I"⟩, 40), (⟨"SledHouseModel", "isAhead", "(II)Z"⟩, 40), (⟨"SledHouseModel", "trail", "()I"⟩, 40)]
theorem lw_r4 : ∀ q ∈ lw_privs_4, lw_okq q := List.forall_mem_cons.mpr ⟨lw_p48, List.forall_mem_cons.mpr ⟨lw_p49, List.forall_mem_cons.mpr ⟨lw_p50, List.forall_mem_cons.mpr ⟨lw_p51, List.forall_mem_cons.mpr ⟨lw_p52, List.forall_mem_cons.mpr ⟨lw_p53, List.forall_mem_cons.mpr ⟨lw_p54, List.forall_mem_cons.mpr ⟨lw_p55, List.forall_mem_cons.mpr ⟨lw_p56, List.forall_mem_cons.mpr ⟨lw_p57, List.forall_mem_cons.mpr ⟨lw_p58, List.forall_mem_cons.mpr ⟨lw_p59, List.forall_mem_cons.mpr ⟨lw_p60, fun _ h => absurd h List.not_mem_nil⟩⟩⟩⟩⟩⟩⟩⟩⟩⟩⟩⟩⟩
def lw_privs : List (MethodName × Nat) := lw_privs_1 ++ (lw_privs_2 ++ (lw_privs_3 ++ (lw_privs_4)))
def lw_tbl : List Cond := k2_sels lw_privs ++ tables_1
theorem lw_privs_ok : ∀ q ∈ lw_privs, lw_okq q := by
  show ∀ q ∈ lw_privs_1 ++ (lw_privs_2 ++ (lw_privs_3 ++ (lw_privs_4))), lw_okq q
  exact List.forall_mem_append.mpr ⟨lw_r1, List.forall_mem_append.mpr ⟨lw_r2, List.forall_mem_append.mpr ⟨lw_r3, lw_r4⟩⟩⟩
-- ===== end of PART A; then your names; then what follows =====
end
section
def RX0 : String := "SledHouse$Dogs"
def TX0 : u_T := fun k => match k with
  | 0 => ("SledHouse$Dogs", "strength", "[I", true)
  | 1 => ("SledHouse$Dogs", "state", "[I", true)
  | 2 => ("SledHouse$Dogs", "leftAt", "[I", true)
  | 3 => ("SledHouse$Dogs", "many", "I", false)
  | 4 => ("SledHouse$Dogs", "pulling", "I", false)
  | _ => ("SledHouse$Dogs", "carried", "I", false)
def tyX0 : Nat → FieldType := fun k => match k with
  | 0 => .array .int
  | 1 => .array .int
  | 2 => .array .int
  | 3 => .int
  | 4 => .int
  | _ => .int
abbrev wsX00 : List Cond := u_ws RX0 TX0 6
theorem nmX0 : ∀ a, a < 6 → ∀ b, b < 6 → a ≠ b → (TX0 a).2.1 ≠ (TX0 b).2.1 := by decide +kernel
theorem tyX0_ok : ∀ k, k < 6 → parseFieldDescriptor (TX0 k).2.2.1 = some (tyX0 k) := by decide +kernel
abbrev cX0_init : ByteArray := prog_2_method_1_code
def yX0_init : MethodName := ⟨RX0, "<init>", "()V"⟩
abbrev cX0_begin : ByteArray := prog_2_method_2_code
def yX0_begin : MethodName := ⟨RX0, "begin", "(I)V"⟩
abbrev cX0_copyFrom : ByteArray := prog_2_method_3_code
def yX0_copyFrom : MethodName := ⟨RX0, "copyFrom", "(LSledHouse$Dogs;)V"⟩
abbrev cX0_meanStrength : ByteArray := prog_2_method_4_code
def yX0_meanStrength : MethodName := ⟨RX0, "meanStrength", "()I"⟩
abbrev cX0_leastStrength : ByteArray := prog_2_method_5_code
def yX0_leastStrength : MethodName := ⟨RX0, "leastStrength", "()I"⟩
abbrev cX0_weakest : ByteArray := prog_2_method_6_code
def yX0_weakest : MethodName := ⟨RX0, "weakest", "()I"⟩
abbrev cX0_gain : ByteArray := prog_2_method_7_code
def yX0_gain : MethodName := ⟨RX0, "gain", "(I)V"⟩
abbrev cX0_lose : ByteArray := prog_2_method_8_code
def yX0_lose : MethodName := ⟨RX0, "lose", "(I)V"⟩
abbrev cX0_leaveWeakest : ByteArray := prog_2_method_9_code
def yX0_leaveWeakest : MethodName := ⟨RX0, "leaveWeakest", "(I)V"⟩
abbrev cX0_leaveCarried : ByteArray := prog_2_method_10_code
def yX0_leaveCarried : MethodName := ⟨RX0, "leaveCarried", "(I)V"⟩
def RX1 : String := "SledHouse$Gaps"
def TX1 : u_T := fun k => match k with
  | 0 => ("SledHouse$Gaps", "from", "[I", true)
  | 1 => ("SledHouse$Gaps", "to", "[I", true)
  | _ => ("SledHouse$Gaps", "many", "I", false)
def tyX1 : Nat → FieldType := fun k => match k with
  | 0 => .array .int
  | 1 => .array .int
  | _ => .int
abbrev wsX10 : List Cond := u_ws RX1 TX1 3
theorem nmX1 : ∀ a, a < 3 → ∀ b, b < 3 → a ≠ b → (TX1 a).2.1 ≠ (TX1 b).2.1 := by decide +kernel
theorem tyX1_ok : ∀ k, k < 3 → parseFieldDescriptor (TX1 k).2.2.1 = some (tyX1 k) := by decide +kernel
abbrev cX1_init : ByteArray := prog_3_method_1_code
def yX1_init : MethodName := ⟨RX1, "<init>", "()V"⟩
abbrev cX1_add : ByteArray := prog_3_method_2_code
def yX1_add : MethodName := ⟨RX1, "add", "(II)V"⟩
abbrev cX1_hide : ByteArray := prog_3_method_3_code
def yX1_hide : MethodName := ⟨RX1, "hide", "(I)Z"⟩
abbrev cX1_copyFrom : ByteArray := prog_3_method_4_code
def yX1_copyFrom : MethodName := ⟨RX1, "copyFrom", "(LSledHouse$Gaps;)V"⟩
def RX2 : String := "SledHouse$LawBook"
def TX2 : u_T := fun k => match k with
  | 0 => ("SledHouse$LawBook", "kinds", "[I", true)
  | 1 => ("SledHouse$LawBook", "first", "[I", true)
  | 2 => ("SledHouse$LawBook", "second", "[I", true)
  | 3 => ("SledHouse$LawBook", "third", "[I", true)
  | _ => ("SledHouse$LawBook", "many", "I", false)
def tyX2 : Nat → FieldType := fun k => match k with
  | 0 => .array .int
  | 1 => .array .int
  | 2 => .array .int
  | 3 => .array .int
  | _ => .int
abbrev wsX20 : List Cond := u_ws RX2 TX2 5
theorem nmX2 : ∀ a, a < 5 → ∀ b, b < 5 → a ≠ b → (TX2 a).2.1 ≠ (TX2 b).2.1 := by decide +kernel
theorem tyX2_ok : ∀ k, k < 5 → parseFieldDescriptor (TX2 k).2.2.1 = some (tyX2 k) := by decide +kernel
abbrev cX2_init : ByteArray := prog_4_method_1_code
def yX2_init : MethodName := ⟨RX2, "<init>", "()V"⟩
abbrev cX2_readFrom : ByteArray := prog_4_method_2_code
def yX2_readFrom : MethodName := ⟨RX2, "readFrom", "(LSledHouse$Tape;)Z"⟩
abbrev cX2_readLaw : ByteArray := prog_4_method_3_code
def yX2_readLaw : MethodName := ⟨RX2, "readLaw", "(LSledHouse$Tape;I)Z"⟩
abbrev cX2_readPosts : ByteArray := prog_4_method_4_code
def yX2_readPosts : MethodName := ⟨RX2, "readPosts", "(LSledHouse$Tape;I)Z"⟩
abbrev cX2_readSecondFine : ByteArray := prog_4_method_5_code
def yX2_readSecondFine : MethodName := ⟨RX2, "readSecondFine", "(LSledHouse$Tape;I)Z"⟩
abbrev cX2_readNumber : ByteArray := prog_4_method_6_code
def yX2_readNumber : MethodName := ⟨RX2, "readNumber", "(LSledHouse$Tape;[II)Z"⟩
abbrev cX2_part : ByteArray := prog_4_method_7_code
def yX2_part : MethodName := ⟨RX2, "part", "(II)I"⟩
abbrev cX2_lackOf : ByteArray := prog_4_method_8_code
def yX2_lackOf : MethodName := ⟨RX2, "lackOf", "(ILSledHouse$Team;I)I"⟩
abbrev cX2_leastLack : ByteArray := prog_4_method_9_code
def yX2_leastLack : MethodName := ⟨RX2, "leastLack", "(IIILSledHouse$Team;I)I"⟩
abbrev cX2_resultOf : ByteArray := prog_4_method_10_code
def yX2_resultOf : MethodName := ⟨RX2, "resultOf", "(LSledHouse$Team;I)I"⟩
def RX3 : String := "SledHouse$Name"
def TX3 : u_T := fun k => match k with
  | _ => ("", "", "", false)
def tyX3 : Nat → FieldType := fun k => match k with
  | _ => .int
abbrev wsX30 : List Cond := u_ws RX3 TX3 0
theorem nmX3 : ∀ a, a < 0 → ∀ b, b < 0 → a ≠ b → (TX3 a).2.1 ≠ (TX3 b).2.1 := by decide +kernel
theorem tyX3_ok : ∀ k, k < 0 → parseFieldDescriptor (TX3 k).2.2.1 = some (tyX3 k) := by decide +kernel
abbrev cX3_valueOf : ByteArray := prog_5_method_2_code
def yX3_valueOf : MethodName := ⟨RX3, "valueOf", "(ILSledHouse$Team;LSledHouse$Trail;I)I"⟩
def RX4 : String := "SledHouse$Plan"
def TX4 : u_T := fun k => match k with
  | 0 => ("SledHouse$Plan", "acts", "[I", true)
  | 1 => ("SledHouse$Plan", "firstTest", "[I", true)
  | 2 => ("SledHouse$Plan", "testCount", "[I", true)
  | 3 => ("SledHouse$Plan", "names", "[I", true)
  | 4 => ("SledHouse$Plan", "numbers", "[I", true)
  | 5 => ("SledHouse$Plan", "above", "[Z", true)
  | 6 => ("SledHouse$Plan", "rules", "I", false)
  | _ => ("SledHouse$Plan", "tests", "I", false)
def tyX4 : Nat → FieldType := fun k => match k with
  | 0 => .array .int
  | 1 => .array .int
  | 2 => .array .int
  | 3 => .array .int
  | 4 => .array .int
  | 5 => .array .boolean
  | 6 => .int
  | _ => .int
abbrev wsX40 : List Cond := u_ws RX4 TX4 8
theorem nmX4 : ∀ a, a < 8 → ∀ b, b < 8 → a ≠ b → (TX4 a).2.1 ≠ (TX4 b).2.1 := by decide +kernel
theorem tyX4_ok : ∀ k, k < 8 → parseFieldDescriptor (TX4 k).2.2.1 = some (tyX4 k) := by decide +kernel
abbrev cX4_init : ByteArray := prog_6_method_1_code
def yX4_init : MethodName := ⟨RX4, "<init>", "()V"⟩
abbrev cX4_readFrom : ByteArray := prog_6_method_2_code
def yX4_readFrom : MethodName := ⟨RX4, "readFrom", "(LSledHouse$Tape;)Z"⟩
abbrev cX4_readRule : ByteArray := prog_6_method_3_code
def yX4_readRule : MethodName := ⟨RX4, "readRule", "(LSledHouse$Tape;)Z"⟩
abbrev cX4_readTests : ByteArray := prog_6_method_4_code
def yX4_readTests : MethodName := ⟨RX4, "readTests", "(LSledHouse$Tape;)Z"⟩
abbrev cX4_readTest : ByteArray := prog_6_method_5_code
def yX4_readTest : MethodName := ⟨RX4, "readTest", "(LSledHouse$Tape;I)Z"⟩
abbrev cX4_actOf : ByteArray := prog_6_method_6_code
def yX4_actOf : MethodName := ⟨RX4, "actOf", "(LSledHouse$Tape;)I"⟩
abbrev cX4_nameOf : ByteArray := prog_6_method_7_code
def yX4_nameOf : MethodName := ⟨RX4, "nameOf", "(LSledHouse$Tape;)I"⟩
abbrev cX4_ruleFor : ByteArray := prog_6_method_8_code
def yX4_ruleFor : MethodName := ⟨RX4, "ruleFor", "(LSledHouse$Team;LSledHouse$Trail;I)I"⟩
abbrev cX4_holds : ByteArray := prog_6_method_9_code
def yX4_holds : MethodName := ⟨RX4, "holds", "(ILSledHouse$Team;LSledHouse$Trail;I)Z"⟩
abbrev cX4_actOfRule : ByteArray := prog_6_method_10_code
def yX4_actOfRule : MethodName := ⟨RX4, "actOfRule", "(I)I"⟩
def RX5 : String := "SledHouse$Race"
def TX5 : u_T := fun k => match k with
  | 0 => ("SledHouse$Race", "trail", "LSledHouse$Trail;", true)
  | 1 => ("SledHouse$Race", "teams", "[LSledHouse$Team;", true)
  | 2 => ("SledHouse$Race", "teamCount", "I", false)
  | 3 => ("SledHouse$Race", "steps", "I", false)
  | _ => ("SledHouse$Race", "signEach", "I", false)
def tyX5 : Nat → FieldType := fun k => match k with
  | 0 => .object "SledHouse$Trail"
  | 1 => .array (.object "SledHouse$Team")
  | 2 => .int
  | 3 => .int
  | _ => .int
abbrev wsX50 : List Cond := u_ws RX5 TX5 5
theorem nmX5 : ∀ a, a < 5 → ∀ b, b < 5 → a ≠ b → (TX5 a).2.1 ≠ (TX5 b).2.1 := by decide +kernel
theorem tyX5_ok : ∀ k, k < 5 → parseFieldDescriptor (TX5 k).2.2.1 = some (tyX5 k) := by decide +kernel
abbrev cX5_init : ByteArray := prog_7_method_1_code
def yX5_init : MethodName := ⟨RX5, "<init>", "()V"⟩
abbrev cX5_copyFrom : ByteArray := prog_7_method_2_code
def yX5_copyFrom : MethodName := ⟨RX5, "copyFrom", "(LSledHouse$Race;)V"⟩
abbrev cX5_canStep : ByteArray := prog_7_method_3_code
def yX5_canStep : MethodName := ⟨RX5, "canStep", "()Z"⟩
def RX6 : String := "SledHouse$SignRow"
def TX6 : u_T := fun k => match k with
  | _ => ("SledHouse$SignRow", "ways", "[I", false)
def tyX6 : Nat → FieldType := fun k => match k with
  | _ => .array .int
abbrev wsX60 : List Cond := u_ws RX6 TX6 1
theorem nmX6 : ∀ a, a < 1 → ∀ b, b < 1 → a ≠ b → (TX6 a).2.1 ≠ (TX6 b).2.1 := by decide +kernel
theorem tyX6_ok : ∀ k, k < 1 → parseFieldDescriptor (TX6 k).2.2.1 = some (tyX6 k) := by decide +kernel
abbrev cX6_init : ByteArray := prog_8_method_1_code
def yX6_init : MethodName := ⟨RX6, "<init>", "()V"⟩
abbrev cX6_tell : ByteArray := prog_8_method_2_code
def yX6_tell : MethodName := ⟨RX6, "tell", "(LSledHouse$Team;LSledHouse$Trail;II)V"⟩
abbrev cX6_past : ByteArray := prog_8_method_3_code
def yX6_past : MethodName := ⟨RX6, "past", "(II)I"⟩
abbrev cX6_howMany : ByteArray := prog_8_method_4_code
def yX6_howMany : MethodName := ⟨RX6, "howMany", "(II)I"⟩
abbrev cX6_latest : ByteArray := prog_8_method_5_code
def yX6_latest : MethodName := ⟨RX6, "latest", "(II)I"⟩
abbrev cX6_next : ByteArray := prog_8_method_6_code
def yX6_next : MethodName := ⟨RX6, "next", "(III)I"⟩
def RX7 : String := "SledHouse$Tape"
def TX7 : u_T := fun k => match k with
  | 0 => ("SledHouse$Tape", "bytes", "[B", true)
  | 1 => ("SledHouse$Tape", "size", "I", false)
  | 2 => ("SledHouse$Tape", "end", "I", false)
  | 3 => ("SledHouse$Tape", "next", "I", false)
  | 4 => ("SledHouse$Tape", "kind", "I", false)
  | 5 => ("SledHouse$Tape", "at", "I", false)
  | 6 => ("SledHouse$Tape", "value", "I", false)
  | 7 => ("SledHouse$Tape", "faultKind", "I", false)
  | _ => ("SledHouse$Tape", "faultPlace", "I", false)
def tyX7 : Nat → FieldType := fun k => match k with
  | 0 => .array .byte
  | 1 => .int
  | 2 => .int
  | 3 => .int
  | 4 => .int
  | 5 => .int
  | 6 => .int
  | 7 => .int
  | _ => .int
abbrev wsX70 : List Cond := u_ws RX7 TX7 9
theorem nmX7 : ∀ a, a < 9 → ∀ b, b < 9 → a ≠ b → (TX7 a).2.1 ≠ (TX7 b).2.1 := by decide +kernel
theorem tyX7_ok : ∀ k, k < 9 → parseFieldDescriptor (TX7 k).2.2.1 = some (tyX7 k) := by decide +kernel
abbrev cX7_init : ByteArray := prog_9_method_1_code
def yX7_init : MethodName := ⟨RX7, "<init>", "()V"⟩
abbrev cX7_put : ByteArray := prog_9_method_2_code
def yX7_put : MethodName := ⟨RX7, "put", "(I)V"⟩
abbrev cX7_open : ByteArray := prog_9_method_3_code
def yX7_open : MethodName := ⟨RX7, "open", "(I)V"⟩
abbrev cX7_fail : ByteArray := prog_9_method_4_code
def yX7_fail : MethodName := ⟨RX7, "fail", "(I)Z"⟩
abbrev cX7_advance : ByteArray := prog_9_method_5_code
def yX7_advance : MethodName := ⟨RX7, "advance", "()V"⟩
abbrev cX7_kindOf : ByteArray := prog_9_method_6_code
def yX7_kindOf : MethodName := ⟨RX7, "kindOf", "(I)I"⟩
abbrev cX7_isWord : ByteArray := prog_9_method_7_code
def yX7_isWord : MethodName := ⟨RX7, "isWord", "(Ljava/lang/String;)Z"⟩
abbrev cX7_takeSemicolon : ByteArray := prog_9_method_8_code
def yX7_takeSemicolon : MethodName := ⟨RX7, "takeSemicolon", "()Z"⟩
abbrev cX7_takeThis : ByteArray := prog_9_method_9_code
def yX7_takeThis : MethodName := ⟨RX7, "takeThis", "(Ljava/lang/String;)Z"⟩
def RX8 : String := "SledHouse$Team"
def TX8 : u_T := fun k => match k with
  | 0 => ("SledHouse$Team", "dogs", "LSledHouse$Dogs;", true)
  | 1 => ("SledHouse$Team", "gaps", "LSledHouse$Gaps;", true)
  | 2 => ("SledHouse$Team", "cameIn", "[I", true)
  | 3 => ("SledHouse$Team", "awayFrom", "[I", true)
  | 4 => ("SledHouse$Team", "ownLoad", "I", false)
  | 5 => ("SledHouse$Team", "firstMeals", "I", false)
  | 6 => ("SledHouse$Team", "start", "I", false)
  | 7 => ("SledHouse$Team", "planNumber", "I", false)
  | 8 => ("SledHouse$Team", "status", "I", false)
  | 9 => ("SledHouse$Team", "meals", "I", false)
  | 10 => ("SledHouse$Team", "legNumber", "I", false)
  | 11 => ("SledHouse$Team", "onLeg", "I", false)
  | 12 => ("SledHouse$Team", "running", "I", false)
  | 13 => ("SledHouse$Team", "resting", "I", false)
  | _ => ("SledHouse$Team", "lastRule", "I", false)
def tyX8 : Nat → FieldType := fun k => match k with
  | 0 => .object "SledHouse$Dogs"
  | 1 => .object "SledHouse$Gaps"
  | 2 => .array .int
  | 3 => .array .int
  | 4 => .int
  | 5 => .int
  | 6 => .int
  | 7 => .int
  | 8 => .int
  | 9 => .int
  | 10 => .int
  | 11 => .int
  | 12 => .int
  | 13 => .int
  | _ => .int
abbrev wsX80 : List Cond := u_ws RX8 TX8 15
theorem nmX8 : ∀ a, a < 15 → ∀ b, b < 15 → a ≠ b → (TX8 a).2.1 ≠ (TX8 b).2.1 := by decide +kernel
theorem tyX8_ok : ∀ k, k < 15 → parseFieldDescriptor (TX8 k).2.2.1 = some (tyX8 k) := by decide +kernel
abbrev cX8_init : ByteArray := prog_10_method_1_code
def yX8_init : MethodName := ⟨RX8, "<init>", "()V"⟩
abbrev cX8_begin : ByteArray := prog_10_method_2_code
def yX8_begin : MethodName := ⟨RX8, "begin", "(IIIII)V"⟩
abbrev cX8_beginAgain : ByteArray := prog_10_method_3_code
def yX8_beginAgain : MethodName := ⟨RX8, "beginAgain", "(LSledHouse$Team;I)V"⟩
abbrev cX8_copyFrom : ByteArray := prog_10_method_4_code
def yX8_copyFrom : MethodName := ⟨RX8, "copyFrom", "(LSledHouse$Team;)V"⟩
abbrev cX8_isThrough : ByteArray := prog_10_method_5_code
def yX8_isThrough : MethodName := ⟨RX8, "isThrough", "()Z"⟩
abbrev cX8_way : ByteArray := prog_10_method_6_code
def yX8_way : MethodName := ⟨RX8, "way", "(LSledHouse$Trail;)I"⟩
abbrev cX8_loadNow : ByteArray := prog_10_method_7_code
def yX8_loadNow : MethodName := ⟨RX8, "loadNow", "()I"⟩
abbrev cX8_restedAt : ByteArray := prog_10_method_8_code
def yX8_restedAt : MethodName := ⟨RX8, "restedAt", "(I)I"⟩
abbrev cX8_doStep : ByteArray := prog_10_method_9_code
def yX8_doStep : MethodName := ⟨RX8, "doStep", "(LSledHouse$Trail;LSledHouse$Plan;I)V"⟩
abbrev cX8_pause : ByteArray := prog_10_method_10_code
def yX8_pause : MethodName := ⟨RX8, "pause", "(II)V"⟩
abbrev cX8_restGain : ByteArray := prog_10_method_11_code
def yX8_restGain : MethodName := ⟨RX8, "restGain", "(I)I"⟩
abbrev cX8_goOn : ByteArray := prog_10_method_12_code
def yX8_goOn : MethodName := ⟨RX8, "goOn", "(LSledHouse$Trail;I)V"⟩
abbrev cX8_heatLoss : ByteArray := prog_10_method_13_code
def yX8_heatLoss : MethodName := ⟨RX8, "heatLoss", "(I)I"⟩
abbrev cX8_reach : ByteArray := prog_10_method_14_code
def yX8_reach : MethodName := ⟨RX8, "reach", "(I)I"⟩
abbrev cX8_arrive : ByteArray := prog_10_method_15_code
def yX8_arrive : MethodName := ⟨RX8, "arrive", "(II)V"⟩
def RX9 : String := "SledHouse$Trail"
def TX9 : u_T := fun k => match k with
  | 0 => ("SledHouse$Trail", "lengths", "[I", true)
  | 1 => ("SledHouse$Trail", "hardness", "[I", true)
  | 2 => ("SledHouse$Trail", "waysTo", "[I", true)
  | 3 => ("SledHouse$Trail", "degrees", "[I", true)
  | _ => ("SledHouse$Trail", "legs", "I", false)
def tyX9 : Nat → FieldType := fun k => match k with
  | 0 => .array .int
  | 1 => .array .int
  | 2 => .array .int
  | 3 => .array .int
  | _ => .int
abbrev wsX90 : List Cond := u_ws RX9 TX9 5
theorem nmX9 : ∀ a, a < 5 → ∀ b, b < 5 → a ≠ b → (TX9 a).2.1 ≠ (TX9 b).2.1 := by decide +kernel
theorem tyX9_ok : ∀ k, k < 5 → parseFieldDescriptor (TX9 k).2.2.1 = some (tyX9 k) := by decide +kernel
abbrev cX9_init : ByteArray := prog_11_method_1_code
def yX9_init : MethodName := ⟨RX9, "<init>", "()V"⟩
abbrev cX9_add : ByteArray := prog_11_method_2_code
def yX9_add : MethodName := ⟨RX9, "add", "(II)V"⟩
abbrev cX9_whole : ByteArray := prog_11_method_3_code
def yX9_whole : MethodName := ⟨RX9, "whole", "()I"⟩
abbrev cX9_lengthOf : ByteArray := prog_11_method_4_code
def yX9_lengthOf : MethodName := ⟨RX9, "lengthOf", "(I)I"⟩
abbrev cX9_coldIn : ByteArray := prog_11_method_5_code
def yX9_coldIn : MethodName := ⟨RX9, "coldIn", "(I)I"⟩
abbrev cX9_copyFrom : ByteArray := prog_11_method_6_code
def yX9_copyFrom : MethodName := ⟨RX9, "copyFrom", "(LSledHouse$Trail;)V"⟩
def RX10 : String := "SledHouse"
def TX10 : u_T := fun k => match k with
  | 0 => ("SledHouse", "tape", "LSledHouse$Tape;", true)
  | 1 => ("SledHouse", "plans", "[LSledHouse$Plan;", true)
  | 2 => ("SledHouse", "lawBook", "LSledHouse$LawBook;", true)
  | 3 => ("SledHouse", "now", "LSledHouse$Race;", true)
  | 4 => ("SledHouse", "signRows", "[LSledHouse$SignRow;", true)
  | 5 => ("SledHouse", "ghost", "LSledHouse$Team;", true)
  | 6 => ("SledHouse", "kept", "LSledHouse$Race;", false)
  | 7 => ("SledHouse", "planCount", "I", false)
  | 8 => ("SledHouse", "refusal", "I", false)
  | 9 => ("SledHouse", "ghostOf", "I", false)
  | 10 => ("SledHouse", "ghostPlan", "I", false)
  | _ => ("SledHouse", "ghostSteps", "I", false)
def tyX10 : Nat → FieldType := fun k => match k with
  | 0 => .object "SledHouse$Tape"
  | 1 => .array (.object "SledHouse$Plan")
  | 2 => .object "SledHouse$LawBook"
  | 3 => .object "SledHouse$Race"
  | 4 => .array (.object "SledHouse$SignRow")
  | 5 => .object "SledHouse$Team"
  | 6 => .object "SledHouse$Race"
  | 7 => .int
  | 8 => .int
  | 9 => .int
  | 10 => .int
  | _ => .int
abbrev wsX100 : List Cond := u_ws RX10 TX10 12
theorem nmX10 : ∀ a, a < 12 → ∀ b, b < 12 → a ≠ b → (TX10 a).2.1 ≠ (TX10 b).2.1 := by decide +kernel
theorem tyX10_ok : ∀ k, k < 12 → parseFieldDescriptor (TX10 k).2.2.1 = some (tyX10 k) := by decide +kernel
abbrev cX10_init : ByteArray := prog_1_method_1_code
def yX10_init : MethodName := ⟨RX10, "<init>", "()V"⟩
abbrev cX10_leg : ByteArray := prog_1_method_2_code
def yX10_leg : MethodName := ⟨RX10, "leg", "(II)I"⟩
abbrev cX10_cold : ByteArray := prog_1_method_3_code
def yX10_cold : MethodName := ⟨RX10, "cold", "(III)Z"⟩
abbrev cX10_feed : ByteArray := prog_1_method_4_code
def yX10_feed : MethodName := ⟨RX10, "feed", "(IIIII)I"⟩
abbrev cX10_plan : ByteArray := prog_1_method_5_code
def yX10_plan : MethodName := ⟨RX10, "plan", "(I)I"⟩
abbrev cX10_laws : ByteArray := prog_1_method_6_code
def yX10_laws : MethodName := ⟨RX10, "laws", "(I)I"⟩
abbrev cX10_fault : ByteArray := prog_1_method_7_code
def yX10_fault : MethodName := ⟨RX10, "fault", "()I"⟩
abbrev cX10_where : ByteArray := prog_1_method_8_code
def yX10_where : MethodName := ⟨RX10, "where", "()I"⟩
abbrev cX10_team : ByteArray := prog_1_method_9_code
def yX10_team : MethodName := ⟨RX10, "team", "(IIIII)I"⟩
abbrev cX10_follow : ByteArray := prog_1_method_10_code
def yX10_follow : MethodName := ⟨RX10, "follow", "(II)Z"⟩
abbrev cX10_gap : ByteArray := prog_1_method_11_code
def yX10_gap : MethodName := ⟨RX10, "gap", "(III)I"⟩
abbrev cX10_each : ByteArray := prog_1_method_12_code
def yX10_each : MethodName := ⟨RX10, "each", "(I)Z"⟩
abbrev cX10_run : ByteArray := prog_1_method_13_code
def yX10_run : MethodName := ⟨RX10, "run", "(I)I"⟩
abbrev cX10_about : ByteArray := prog_1_method_14_code
def yX10_about : MethodName := ⟨RX10, "about", "(II)I"⟩
abbrev cX10_dog : ByteArray := prog_1_method_15_code
def yX10_dog : MethodName := ⟨RX10, "dog", "(III)I"⟩
abbrev cX10_time : ByteArray := prog_1_method_16_code
def yX10_time : MethodName := ⟨RX10, "time", "(IIZ)I"⟩
abbrev cX10_did : ByteArray := prog_1_method_17_code
def yX10_did : MethodName := ⟨RX10, "did", "(I)I"⟩
abbrev cX10_result : ByteArray := prog_1_method_18_code
def yX10_result : MethodName := ⟨RX10, "result", "(I)I"⟩
abbrev cX10_lacks : ByteArray := prog_1_method_19_code
def yX10_lacks : MethodName := ⟨RX10, "lacks", "(II)I"⟩
abbrev cX10_place : ByteArray := prog_1_method_20_code
def yX10_place : MethodName := ⟨RX10, "place", "(I)I"⟩
abbrev cX10_came : ByteArray := prog_1_method_21_code
def yX10_came : MethodName := ⟨RX10, "came", "(II)I"⟩
abbrev cX10_spot : ByteArray := prog_1_method_22_code
def yX10_spot : MethodName := ⟨RX10, "spot", "(IIZ)I"⟩
abbrev cX10_signs : ByteArray := prog_1_method_23_code
def yX10_signs : MethodName := ⟨RX10, "signs", "(I)I"⟩
abbrev cX10_replay : ByteArray := prog_1_method_24_code
def yX10_replay : MethodName := ⟨RX10, "replay", "(III)I"⟩
abbrev cX10_keep : ByteArray := prog_1_method_25_code
def yX10_keep : MethodName := ⟨RX10, "keep", "()Z"⟩
abbrev cX10_back : ByteArray := prog_1_method_26_code
def yX10_back : MethodName := ⟨RX10, "back", "()Z"⟩
abbrev cX10_law : ByteArray := prog_1_method_27_code
def yX10_law : MethodName := ⟨RX10, "law", "(II)I"⟩
abbrev cX10_planned : ByteArray := prog_1_method_28_code
def yX10_planned : MethodName := ⟨RX10, "planned", "(II)I"⟩
abbrev cX10_count : ByteArray := prog_1_method_29_code
def yX10_count : MethodName := ⟨RX10, "count", "(I)I"⟩
abbrev cX10_trouble : ByteArray := prog_1_method_30_code
def yX10_trouble : MethodName := ⟨RX10, "trouble", "()I"⟩
abbrev cX10_refuse : ByteArray := prog_1_method_31_code
def yX10_refuse : MethodName := ⟨RX10, "refuse", "(I)I"⟩
abbrev cX10_deny : ByteArray := prog_1_method_32_code
def yX10_deny : MethodName := ⟨RX10, "deny", "(I)Z"⟩
abbrev cX10_grant : ByteArray := prog_1_method_33_code
def yX10_grant : MethodName := ⟨RX10, "grant", "(I)I"⟩
abbrev cX10_allow : ByteArray := prog_1_method_34_code
def yX10_allow : MethodName := ⟨RX10, "allow", "()Z"⟩
abbrev cX10_isTeam : ByteArray := prog_1_method_35_code
def yX10_isTeam : MethodName := ⟨RX10, "isTeam", "(I)Z"⟩
abbrev cX10_isHome : ByteArray := prog_1_method_36_code
def yX10_isHome : MethodName := ⟨RX10, "isHome", "(I)Z"⟩
abbrev cX10_isPlan : ByteArray := prog_1_method_37_code
def yX10_isPlan : MethodName := ⟨RX10, "isPlan", "(I)Z"⟩
abbrev cX10_isLaw : ByteArray := prog_1_method_38_code
def yX10_isLaw : MethodName := ⟨RX10, "isLaw", "(I)Z"⟩
abbrev cX10_isPost : ByteArray := prog_1_method_39_code
def yX10_isPost : MethodName := ⟨RX10, "isPost", "(I)Z"⟩
abbrev cX10_within : ByteArray := prog_1_method_40_code
def yX10_within : MethodName := ⟨RX10, "within", "(III)Z"⟩
abbrev cX10_share : ByteArray := prog_1_method_41_code
def yX10_share : MethodName := ⟨RX10, "share", "(II)I"⟩
abbrev cX10_oneStep : ByteArray := prog_1_method_42_code
def yX10_oneStep : MethodName := ⟨RX10, "oneStep", "()V"⟩
abbrev cX10_isAhead : ByteArray := prog_1_method_43_code
def yX10_isAhead : MethodName := ⟨RX10, "isAhead", "(II)Z"⟩
abbrev cX10_groupOf : ByteArray := prog_1_method_44_code
def yX10_groupOf : MethodName := ⟨RX10, "groupOf", "(I)I"⟩
abbrev cX10_valueInGroup : ByteArray := prog_1_method_45_code
def yX10_valueInGroup : MethodName := ⟨RX10, "valueInGroup", "(I)I"⟩
abbrev cX10_leastWay : ByteArray := prog_1_method_46_code
def yX10_leastWay : MethodName := ⟨RX10, "leastWay", "(II)I"⟩
abbrev cX10_greatestWay : ByteArray := prog_1_method_47_code
def yX10_greatestWay : MethodName := ⟨RX10, "greatestWay", "(II)I"⟩
abbrev cX10_bringGhost : ByteArray := prog_1_method_48_code
def yX10_bringGhost : MethodName := ⟨RX10, "bringGhost", "(II)V"⟩
def RX11 : String := "SledHouseModel$Stop"
def TX11 : u_T := fun k => match k with
  | 0 => ("java/lang/Throwable", "cause", "Ljava/lang/Throwable;", false)
  | 1 => ("java/lang/Throwable", "stackTrace", "[Ljava/lang/StackTraceElement;", false)
  | 2 => ("java/lang/Throwable", "suppressedExceptions", "Ljava/util/List;", false)
  | 3 => ("java/lang/Throwable", "detailMessage", "Ljava/lang/String;", false)
  | 4 => ("java/lang/Throwable", "backtrace", "Ljava/lang/Object;", false)
  | 5 => ("java/lang/Throwable", "depth", "I", false)
  | 6 => ("SledHouseModel$Stop", "kind", "I", false)
  | _ => ("SledHouseModel$Stop", "place", "I", false)
def tyX11 : Nat → FieldType := fun k => match k with
  | 0 => .object "java/lang/Throwable"
  | 1 => .array (.object "java/lang/StackTraceElement")
  | 2 => .object "java/util/List"
  | 3 => .object "java/lang/String"
  | 4 => .object "java/lang/Object"
  | 5 => .int
  | 6 => .int
  | _ => .int
abbrev wsX110 : List Cond := u_ws RX11 TX11 8
theorem nmX11 : ∀ a, a < 8 → ∀ b, b < 8 → a ≠ b → (TX11 a).2.1 ≠ (TX11 b).2.1 := by decide +kernel
theorem tyX11_ok : ∀ k, k < 8 → parseFieldDescriptor (TX11 k).2.2.1 = some (tyX11 k) := by decide +kernel
abbrev cX11_init : ByteArray := prog_14_method_1_code
def yX11_init : MethodName := ⟨RX11, "<init>", "()V"⟩
def RX12 : String := "SledHouseModel$Team"
def TX12 : u_T := fun k => match k with
  | 0 => ("SledHouseModel$Team", "dogs", "I", false)
  | 1 => ("SledHouseModel$Team", "load", "I", false)
  | 2 => ("SledHouseModel$Team", "meals", "I", false)
  | 3 => ("SledHouseModel$Team", "start", "I", false)
  | 4 => ("SledHouseModel$Team", "plan", "I", false)
  | 5 => ("SledHouseModel$Team", "status", "I", false)
  | 6 => ("SledHouseModel$Team", "leg", "I", false)
  | 7 => ("SledHouseModel$Team", "far", "I", false)
  | 8 => ("SledHouseModel$Team", "run", "I", false)
  | 9 => ("SledHouseModel$Team", "rest", "I", false)
  | 10 => ("SledHouseModel$Team", "did", "I", false)
  | 11 => ("SledHouseModel$Team", "signs", "I", false)
  | 12 => ("SledHouseModel$Team", "gaps", "I", false)
  | 13 => ("SledHouseModel$Team", "ownLoad", "I", false)
  | 14 => ("SledHouseModel$Team", "ownMeals", "I", false)
  | 15 => ("SledHouseModel$Team", "strength", "[I", true)
  | 16 => ("SledHouseModel$Team", "state", "[I", true)
  | 17 => ("SledHouseModel$Team", "leftAt", "[I", true)
  | 18 => ("SledHouseModel$Team", "came", "[I", true)
  | 19 => ("SledHouseModel$Team", "went", "[I", true)
  | 20 => ("SledHouseModel$Team", "signStep", "[I", true)
  | 21 => ("SledHouseModel$Team", "signWay", "[I", true)
  | 22 => ("SledHouseModel$Team", "gapFrom", "[I", true)
  | _ => ("SledHouseModel$Team", "gapTo", "[I", true)
def tyX12 : Nat → FieldType := fun k => match k with
  | 0 => .int
  | 1 => .int
  | 2 => .int
  | 3 => .int
  | 4 => .int
  | 5 => .int
  | 6 => .int
  | 7 => .int
  | 8 => .int
  | 9 => .int
  | 10 => .int
  | 11 => .int
  | 12 => .int
  | 13 => .int
  | 14 => .int
  | 15 => .array .int
  | 16 => .array .int
  | 17 => .array .int
  | 18 => .array .int
  | 19 => .array .int
  | 20 => .array .int
  | 21 => .array .int
  | 22 => .array .int
  | _ => .array .int
abbrev wsX120 : List Cond := u_ws RX12 TX12 24
theorem nmX12 : ∀ a, a < 24 → ∀ b, b < 24 → a ≠ b → (TX12 a).2.1 ≠ (TX12 b).2.1 := by decide +kernel
theorem tyX12_ok : ∀ k, k < 24 → parseFieldDescriptor (TX12 k).2.2.1 = some (tyX12 k) := by decide +kernel
abbrev cX12_init : ByteArray := prog_15_method_1_code
def yX12_init : MethodName := ⟨RX12, "<init>", "()V"⟩
abbrev cX12_begin : ByteArray := prog_15_method_2_code
def yX12_begin : MethodName := ⟨RX12, "begin", "(IIIII)V"⟩
abbrev cX12_become : ByteArray := prog_15_method_3_code
def yX12_become : MethodName := ⟨RX12, "become", "(LSledHouseModel$Team;)V"⟩
abbrev cX12_of : ByteArray := prog_15_method_4_code
def yX12_of : MethodName := ⟨RX12, "of", "(I)I"⟩
abbrev cX12_weakest : ByteArray := prog_15_method_5_code
def yX12_weakest : MethodName := ⟨RX12, "weakest", "()I"⟩
abbrev cX12_mean : ByteArray := prog_15_method_6_code
def yX12_mean : MethodName := ⟨RX12, "mean", "()I"⟩
abbrev cX12_gain : ByteArray := prog_15_method_7_code
def yX12_gain : MethodName := ⟨RX12, "gain", "(I)V"⟩
abbrev cX12_inGap : ByteArray := prog_15_method_8_code
def yX12_inGap : MethodName := ⟨RX12, "inGap", "(I)Z"⟩
def RX13 : String := "SledHouseModel"
def TX13 : u_T := fun k => match k with
  | 0 => ("SledHouseModel", "thrown", "I", false)
  | 1 => ("SledHouseModel", "trouble", "I", false)
  | 2 => ("SledHouseModel", "where", "I", false)
  | 3 => ("SledHouseModel", "fault", "I", false)
  | 4 => ("SledHouseModel", "legs", "I", false)
  | 5 => ("SledHouseModel", "teams", "I", false)
  | 6 => ("SledHouseModel", "steps", "I", false)
  | 7 => ("SledHouseModel", "each", "I", false)
  | 8 => ("SledHouseModel", "length", "[I", true)
  | 9 => ("SledHouseModel", "hardness", "[I", true)
  | 10 => ("SledHouseModel", "cold", "[I", true)
  | 11 => ("SledHouseModel", "team", "[LSledHouseModel$Team;", true)
  | 12 => ("SledHouseModel", "keptLegs", "I", false)
  | 13 => ("SledHouseModel", "keptTeams", "I", false)
  | 14 => ("SledHouseModel", "keptSteps", "I", false)
  | 15 => ("SledHouseModel", "keptEach", "I", false)
  | 16 => ("SledHouseModel", "keptLength", "[I", true)
  | 17 => ("SledHouseModel", "keptHardness", "[I", true)
  | 18 => ("SledHouseModel", "keptCold", "[I", true)
  | 19 => ("SledHouseModel", "keptTeam", "[LSledHouseModel$Team;", true)
  | 20 => ("SledHouseModel", "other", "LSledHouseModel$Team;", true)
  | 21 => ("SledHouseModel", "stop", "LSledHouseModel$Stop;", true)
  | 22 => ("SledHouseModel", "tape", "[B", true)
  | 23 => ("SledHouseModel", "taped", "I", false)
  | 24 => ("SledHouseModel", "size", "I", false)
  | 25 => ("SledHouseModel", "at", "I", false)
  | 26 => ("SledHouseModel", "sort", "I", false)
  | 27 => ("SledHouseModel", "place", "I", false)
  | 28 => ("SledHouseModel", "sign", "I", false)
  | 29 => ("SledHouseModel", "number", "I", false)
  | 30 => ("SledHouseModel", "word", "J", false)
  | 31 => ("SledHouseModel", "plans", "I", false)
  | 32 => ("SledHouseModel", "rules", "[I", true)
  | 33 => ("SledHouseModel", "act", "[I", true)
  | 34 => ("SledHouseModel", "tests", "[I", true)
  | 35 => ("SledHouseModel", "testName", "[I", true)
  | 36 => ("SledHouseModel", "testNumber", "[I", true)
  | 37 => ("SledHouseModel", "testLess", "[Z", true)
  | 38 => ("SledHouseModel", "laws", "I", false)
  | _ => ("SledHouseModel", "law", "[I", true)
def tyX13 : Nat → FieldType := fun k => match k with
  | 0 => .int
  | 1 => .int
  | 2 => .int
  | 3 => .int
  | 4 => .int
  | 5 => .int
  | 6 => .int
  | 7 => .int
  | 8 => .array .int
  | 9 => .array .int
  | 10 => .array .int
  | 11 => .array (.object "SledHouseModel$Team")
  | 12 => .int
  | 13 => .int
  | 14 => .int
  | 15 => .int
  | 16 => .array .int
  | 17 => .array .int
  | 18 => .array .int
  | 19 => .array (.object "SledHouseModel$Team")
  | 20 => .object "SledHouseModel$Team"
  | 21 => .object "SledHouseModel$Stop"
  | 22 => .array .byte
  | 23 => .int
  | 24 => .int
  | 25 => .int
  | 26 => .int
  | 27 => .int
  | 28 => .int
  | 29 => .int
  | 30 => .long
  | 31 => .int
  | 32 => .array .int
  | 33 => .array .int
  | 34 => .array .int
  | 35 => .array .int
  | 36 => .array .int
  | 37 => .array .boolean
  | 38 => .int
  | _ => .array .int
abbrev wsX130 : List Cond := u_ws RX13 TX13 40
theorem nmX13 : ∀ a, a < 40 → ∀ b, b < 40 → a ≠ b → (TX13 a).2.1 ≠ (TX13 b).2.1 := by decide +kernel
theorem tyX13_ok : ∀ k, k < 40 → parseFieldDescriptor (TX13 k).2.2.1 = some (tyX13 k) := by decide +kernel
abbrev cX13_refused : ByteArray := prog_13_method_2_code
def yX13_refused : MethodName := ⟨RX13, "refused", "(I)I"⟩
abbrev cX13_done : ByteArray := prog_13_method_3_code
def yX13_done : MethodName := ⟨RX13, "done", "(I)I"⟩
abbrev cX13_denied : ByteArray := prog_13_method_4_code
def yX13_denied : MethodName := ⟨RX13, "denied", "(I)Z"⟩
abbrev cX13_granted : ByteArray := prog_13_method_5_code
def yX13_granted : MethodName := ⟨RX13, "granted", "()Z"⟩
abbrev cX13_in : ByteArray := prog_13_method_6_code
def yX13_in : MethodName := ⟨RX13, "in", "(III)Z"⟩
abbrev cX13_init : ByteArray := prog_13_method_7_code
def yX13_init : MethodName := ⟨RX13, "<init>", "()V"⟩
abbrev cX13_keep : ByteArray := prog_13_method_8_code
def yX13_keep : MethodName := ⟨RX13, "keep", "()Z"⟩
abbrev cX13_back : ByteArray := prog_13_method_9_code
def yX13_back : MethodName := ⟨RX13, "back", "()Z"⟩
abbrev cX13_leg : ByteArray := prog_13_method_10_code
def yX13_leg : MethodName := ⟨RX13, "leg", "(II)I"⟩
abbrev cX13_cold : ByteArray := prog_13_method_11_code
def yX13_cold : MethodName := ⟨RX13, "cold", "(III)Z"⟩
abbrev cX13_stop : ByteArray := prog_13_method_12_code
def yX13_stop : MethodName := ⟨RX13, "stop", "(I)LSledHouseModel$Stop;"⟩
abbrev cX13_byteAt : ByteArray := prog_13_method_13_code
def yX13_byteAt : MethodName := ⟨RX13, "byteAt", "(I)I"⟩
abbrev cX13_isLetter : ByteArray := prog_13_method_14_code
def yX13_isLetter : MethodName := ⟨RX13, "isLetter", "(I)Z"⟩
abbrev cX13_isDigit : ByteArray := prog_13_method_15_code
def yX13_isDigit : MethodName := ⟨RX13, "isDigit", "(I)Z"⟩
abbrev cX13_wordOf : ByteArray := prog_13_method_16_code
def yX13_wordOf : MethodName := ⟨RX13, "wordOf", "(Ljava/lang/String;)J"⟩
abbrev cX13_next : ByteArray := prog_13_method_17_code
def yX13_next : MethodName := ⟨RX13, "next", "()V"⟩
abbrev cX13_isWord : ByteArray := prog_13_method_18_code
def yX13_isWord : MethodName := ⟨RX13, "isWord", "(Ljava/lang/String;)Z"⟩
abbrev cX13_is : ByteArray := prog_13_method_19_code
def yX13_is : MethodName := ⟨RX13, "is", "(I)Z"⟩
abbrev cX13_needWord : ByteArray := prog_13_method_20_code
def yX13_needWord : MethodName := ⟨RX13, "needWord", "(Ljava/lang/String;)V"⟩
abbrev cX13_needNumber : ByteArray := prog_13_method_21_code
def yX13_needNumber : MethodName := ⟨RX13, "needNumber", "()I"⟩
abbrev cX13_actHere : ByteArray := prog_13_method_22_code
def yX13_actHere : MethodName := ⟨RX13, "actHere", "()I"⟩
abbrev cX13_nameHere : ByteArray := prog_13_method_23_code
def yX13_nameHere : MethodName := ⟨RX13, "nameHere", "()I"⟩
abbrev cX13_start : ByteArray := prog_13_method_24_code
def yX13_start : MethodName := ⟨RX13, "start", "(I)V"⟩
abbrev cX13_readPlan : ByteArray := prog_13_method_25_code
def yX13_readPlan : MethodName := ⟨RX13, "readPlan", "()V"⟩
abbrev cX13_readTest : ByteArray := prog_13_method_26_code
def yX13_readTest : MethodName := ⟨RX13, "readTest", "(I)V"⟩
abbrev cX13_readLaws : ByteArray := prog_13_method_27_code
def yX13_readLaws : MethodName := ⟨RX13, "readLaws", "()I"⟩
abbrev cX13_feed : ByteArray := prog_13_method_28_code
def yX13_feed : MethodName := ⟨RX13, "feed", "(IIIII)I"⟩
abbrev cX13_wrong : ByteArray := prog_13_method_29_code
def yX13_wrong : MethodName := ⟨RX13, "wrong", "(LSledHouseModel$Stop;)I"⟩
abbrev cX13_plan : ByteArray := prog_13_method_30_code
def yX13_plan : MethodName := ⟨RX13, "plan", "(I)I"⟩
abbrev cX13_laws : ByteArray := prog_13_method_31_code
def yX13_laws : MethodName := ⟨RX13, "laws", "(I)I"⟩
abbrev cX13_fault : ByteArray := prog_13_method_32_code
def yX13_fault : MethodName := ⟨RX13, "fault", "()I"⟩
abbrev cX13_where : ByteArray := prog_13_method_33_code
def yX13_where : MethodName := ⟨RX13, "where", "()I"⟩
abbrev cX13_law : ByteArray := prog_13_method_34_code
def yX13_law : MethodName := ⟨RX13, "law", "(II)I"⟩
abbrev cX13_planned : ByteArray := prog_13_method_35_code
def yX13_planned : MethodName := ⟨RX13, "planned", "(II)I"⟩
abbrev cX13_isTeam : ByteArray := prog_13_method_36_code
def yX13_isTeam : MethodName := ⟨RX13, "isTeam", "(I)Z"⟩
abbrev cX13_isPlan : ByteArray := prog_13_method_37_code
def yX13_isPlan : MethodName := ⟨RX13, "isPlan", "(I)Z"⟩
abbrev cX13_team : ByteArray := prog_13_method_38_code
def yX13_team : MethodName := ⟨RX13, "team", "(IIIII)I"⟩
abbrev cX13_follow : ByteArray := prog_13_method_39_code
def yX13_follow : MethodName := ⟨RX13, "follow", "(II)Z"⟩
abbrev cX13_gap : ByteArray := prog_13_method_40_code
def yX13_gap : MethodName := ⟨RX13, "gap", "(III)I"⟩
abbrev cX13_each : ByteArray := prog_13_method_41_code
def yX13_each : MethodName := ⟨RX13, "each", "(I)Z"⟩
abbrev cX13_way : ByteArray := prog_13_method_42_code
def yX13_way : MethodName := ⟨RX13, "way", "(LSledHouseModel$Team;)I"⟩
abbrev cX13_trail : ByteArray := prog_13_method_43_code
def yX13_trail : MethodName := ⟨RX13, "trail", "()I"⟩
abbrev cX13_valueOf : ByteArray := prog_13_method_44_code
def yX13_valueOf : MethodName := ⟨RX13, "valueOf", "(LSledHouseModel$Team;II)I"⟩
abbrev cX13_holds : ByteArray := prog_13_method_45_code
def yX13_holds : MethodName := ⟨RX13, "holds", "(LSledHouseModel$Team;II)Z"⟩
abbrev cX13_leads : ByteArray := prog_13_method_46_code
def yX13_leads : MethodName := ⟨RX13, "leads", "(LSledHouseModel$Team;I)V"⟩
abbrev cX13_goes : ByteArray := prog_13_method_47_code
def yX13_goes : MethodName := ⟨RX13, "goes", "(LSledHouseModel$Team;II)V"⟩
abbrev cX13_isOver : ByteArray := prog_13_method_48_code
def yX13_isOver : MethodName := ⟨RX13, "isOver", "()Z"⟩
abbrev cX13_run : ByteArray := prog_13_method_49_code
def yX13_run : MethodName := ⟨RX13, "run", "(I)I"⟩
abbrev cX13_about : ByteArray := prog_13_method_50_code
def yX13_about : MethodName := ⟨RX13, "about", "(II)I"⟩
abbrev cX13_dog : ByteArray := prog_13_method_51_code
def yX13_dog : MethodName := ⟨RX13, "dog", "(III)I"⟩
abbrev cX13_time : ByteArray := prog_13_method_52_code
def yX13_time : MethodName := ⟨RX13, "time", "(IIZ)I"⟩
abbrev cX13_did : ByteArray := prog_13_method_53_code
def yX13_did : MethodName := ⟨RX13, "did", "(I)I"⟩
abbrev cX13_less : ByteArray := prog_13_method_54_code
def yX13_less : MethodName := ⟨RX13, "less", "(LSledHouseModel$Team;II)I"⟩
abbrev cX13_lacksOf : ByteArray := prog_13_method_55_code
def yX13_lacksOf : MethodName := ⟨RX13, "lacksOf", "(LSledHouseModel$Team;I)I"⟩
abbrev cX13_resultOf : ByteArray := prog_13_method_56_code
def yX13_resultOf : MethodName := ⟨RX13, "resultOf", "(LSledHouseModel$Team;)I"⟩
abbrev cX13_result : ByteArray := prog_13_method_57_code
def yX13_result : MethodName := ⟨RX13, "result", "(I)I"⟩
abbrev cX13_lacks : ByteArray := prog_13_method_58_code
def yX13_lacks : MethodName := ⟨RX13, "lacks", "(II)I"⟩
abbrev cX13_isAhead : ByteArray := prog_13_method_59_code
def yX13_isAhead : MethodName := ⟨RX13, "isAhead", "(II)Z"⟩
abbrev cX13_place : ByteArray := prog_13_method_60_code
def yX13_place : MethodName := ⟨RX13, "place", "(I)I"⟩
abbrev cX13_came : ByteArray := prog_13_method_61_code
def yX13_came : MethodName := ⟨RX13, "came", "(II)I"⟩
abbrev cX13_spot : ByteArray := prog_13_method_62_code
def yX13_spot : MethodName := ⟨RX13, "spot", "(IIZ)I"⟩
abbrev cX13_signs : ByteArray := prog_13_method_63_code
def yX13_signs : MethodName := ⟨RX13, "signs", "(I)I"⟩
abbrev cX13_replay : ByteArray := prog_13_method_64_code
def yX13_replay : MethodName := ⟨RX13, "replay", "(III)I"⟩
abbrev cX13_count : ByteArray := prog_13_method_65_code
def yX13_count : MethodName := ⟨RX13, "count", "(I)I"⟩
abbrev cX13_trouble : ByteArray := prog_13_method_66_code
def yX13_trouble : MethodName := ⟨RX13, "trouble", "()I"⟩
def RJx145de : String := "java/io/Serializable"
def RJx9f9b0 : String := "java/lang/CharSequence"
def RJx8e188 : String := "java/lang/Cloneable"
def RJxb160c : String := "java/lang/Comparable"
def RJ6 : String := "java/lang/Integer"
abbrev cJ6_compare_7cf53 : ByteArray := prog_18_method_40_code
def yJ6_compare_7cf53 : MethodName := ⟨RJ6, "compare", "(II)I"⟩
def RJ9 : String := "java/lang/Math"
abbrev cJ9_max_7cf53 : ByteArray := prog_19_method_65_code
def yJ9_max_7cf53 : MethodName := ⟨RJ9, "max", "(II)I"⟩
abbrev cJ9_min_7cf53 : ByteArray := prog_19_method_69_code
def yJ9_min_7cf53 : MethodName := ⟨RJ9, "min", "(II)I"⟩
def RJ0 : String := "java/lang/String"
abbrev cJ0_length_8abf5 : ByteArray := prog_21_method_54_code
def yJ0_length_8abf5 : MethodName := ⟨RJ0, "length", "()I"⟩
abbrev cJ0_charAt_5068e : ByteArray := prog_21_method_56_code
def yJ0_charAt_5068e : MethodName := ⟨RJ0, "charAt", "(I)C"⟩
abbrev cJ0_coder_7d493 : ByteArray := prog_21_method_152_code
def yJ0_coder_7d493 : MethodName := ⟨RJ0, "coder", "()B"⟩
abbrev cJ0_isLatin1_aae02 : ByteArray := prog_21_method_154_code
def yJ0_isLatin1_aae02 : MethodName := ⟨RJ0, "isLatin1", "()Z"⟩
abbrev cJ0_checkIndex_df160 : ByteArray := prog_21_method_155_code
def yJ0_checkIndex_df160 : MethodName := ⟨RJ0, "checkIndex", "(II)V"⟩
def RJ1 : String := "java/lang/StringLatin1"
abbrev cJ1_charAt_3b067 : ByteArray := prog_22_method_2_code
def yJ1_charAt_3b067 : MethodName := ⟨RJ1, "charAt", "([BI)C"⟩
def RJ2 : String := "java/lang/StringUTF16"
abbrev cJ2_getChar_3b067 : ByteArray := prog_23_method_5_code
def yJ2_getChar_3b067 : MethodName := ⟨RJ2, "getChar", "([BI)C"⟩
abbrev cJ2_length_9d52b : ByteArray := prog_23_method_6_code
def yJ2_length_9d52b : MethodName := ⟨RJ2, "length", "([B)I"⟩
abbrev cJ2_charAt_3b067 : ByteArray := prog_23_method_83_code
def yJ2_charAt_3b067 : MethodName := ⟨RJ2, "charAt", "([BI)C"⟩
abbrev cJ2_checkIndex_2214a : ByteArray := prog_23_method_91_code
def yJ2_checkIndex_2214a : MethodName := ⟨RJ2, "checkIndex", "(I[B)V"⟩
def RJ10 : String := "java/lang/System"
def RJxfd54e : String := "java/lang/constant/Constable"
def RJx3cf43 : String := "java/lang/constant/ConstantDesc"
def RJ7 : String := "java/util/Arrays"
abbrev cJ7_fill_53178 : ByteArray := prog_26_method_103_code
def yJ7_fill_53178 : MethodName := ⟨RJ7, "fill", "([II)V"⟩
abbrev cJ7_copyOf_59c91 : ByteArray := prog_26_method_123_code
def yJ7_copyOf_59c91 : MethodName := ⟨RJ7, "copyOf", "([II)[I"⟩
def RJ3 : String := "jdk/internal/util/Preconditions"
abbrev cJ3_checkIndex_8e157 : ByteArray := prog_27_method_11_code
def yJ3_checkIndex_8e157 : MethodName := ⟨RJ3, "checkIndex", "(IILjava/util/function/BiFunction;)I"⟩
def RL : String := "SledHouseLaw"
abbrev cL_law : ByteArray := code
def yL_law : MethodName := ⟨RL, "law", "([I)Z"⟩
end
section
theorem dX0_init_0 : decode cX0_init 0 = .ok (.aload_n 0, 1) := by decide +kernel
theorem dX0_init_1 : decode cX0_init 1 = .ok (.invokespecial 3, 3) := by decide +kernel
theorem dX0_init_4 : decode cX0_init 4 = .ok (.aload_n 0, 1) := by decide +kernel
theorem dX0_init_5 : decode cX0_init 5 = .ok (.bipush 16, 2) := by decide +kernel
theorem dX0_init_7 : decode cX0_init 7 = .ok (.newarray .int, 2) := by decide +kernel
theorem dX0_init_9 : decode cX0_init 9 = .ok (.putfield 9, 3) := by decide +kernel
theorem dX0_init_12 : decode cX0_init 12 = .ok (.aload_n 0, 1) := by decide +kernel
theorem dX0_init_13 : decode cX0_init 13 = .ok (.bipush 16, 2) := by decide +kernel
theorem dX0_init_15 : decode cX0_init 15 = .ok (.newarray .int, 2) := by decide +kernel
theorem dX0_init_17 : decode cX0_init 17 = .ok (.putfield 15, 3) := by decide +kernel
theorem dX0_init_20 : decode cX0_init 20 = .ok (.aload_n 0, 1) := by decide +kernel
theorem dX0_init_21 : decode cX0_init 21 = .ok (.bipush 16, 2) := by decide +kernel
theorem dX0_init_23 : decode cX0_init 23 = .ok (.newarray .int, 2) := by decide +kernel
theorem dX0_init_25 : decode cX0_init 25 = .ok (.putfield 18, 3) := by decide +kernel
theorem dX0_init_28 : decode cX0_init 28 = .ok (.aload_n 0, 1) := by decide +kernel
theorem dX0_init_29 : decode cX0_init 29 = .ok (.iconst 0, 1) := by decide +kernel
theorem dX0_init_30 : decode cX0_init 30 = .ok (.putfield 21, 3) := by decide +kernel
theorem dX0_init_33 : decode cX0_init 33 = .ok (.aload_n 0, 1) := by decide +kernel
theorem dX0_init_34 : decode cX0_init 34 = .ok (.iconst 0, 1) := by decide +kernel
theorem dX0_init_35 : decode cX0_init 35 = .ok (.putfield 25, 3) := by decide +kernel
theorem dX0_init_38 : decode cX0_init 38 = .ok (.aload_n 0, 1) := by decide +kernel
theorem dX0_init_39 : decode cX0_init 39 = .ok (.iconst 0, 1) := by decide +kernel
theorem dX0_init_40 : decode cX0_init 40 = .ok (.putfield 28, 3) := by decide +kernel
theorem dX0_init_43 : decode cX0_init 43 = .ok (.return_, 1) := by decide +kernel
theorem dX0_begin_0 : decode cX0_begin 0 = .ok (.aload_n 0, 1) := by decide +kernel
theorem dX0_begin_1 : decode cX0_begin 1 = .ok (.iload_n 1, 1) := by decide +kernel
theorem dX0_begin_2 : decode cX0_begin 2 = .ok (.bipush 16, 2) := by decide +kernel
theorem dX0_begin_4 : decode cX0_begin 4 = .ok (.invokestatic 31, 3) := by decide +kernel
theorem dX0_begin_7 : decode cX0_begin 7 = .ok (.putfield 21, 3) := by decide +kernel
theorem dX0_begin_10 : decode cX0_begin 10 = .ok (.aload_n 0, 1) := by decide +kernel
theorem dX0_begin_11 : decode cX0_begin 11 = .ok (.aload_n 0, 1) := by decide +kernel
theorem dX0_begin_12 : decode cX0_begin 12 = .ok (.getfield 21, 3) := by decide +kernel
theorem dX0_begin_15 : decode cX0_begin 15 = .ok (.putfield 25, 3) := by decide +kernel
theorem dX0_begin_18 : decode cX0_begin 18 = .ok (.aload_n 0, 1) := by decide +kernel
theorem dX0_begin_19 : decode cX0_begin 19 = .ok (.iconst 0, 1) := by decide +kernel
theorem dX0_begin_20 : decode cX0_begin 20 = .ok (.putfield 28, 3) := by decide +kernel
theorem dX0_begin_23 : decode cX0_begin 23 = .ok (.iconst 0, 1) := by decide +kernel
theorem dX0_begin_24 : decode cX0_begin 24 = .ok (.istore_n 2, 1) := by decide +kernel
theorem dX0_begin_25 : decode cX0_begin 25 = .ok (.iload_n 2, 1) := by decide +kernel
theorem dX0_begin_26 : decode cX0_begin 26 = .ok (.aload_n 0, 1) := by decide +kernel
theorem dX0_begin_27 : decode cX0_begin 27 = .ok (.getfield 21, 3) := by decide +kernel
theorem dX0_begin_30 : decode cX0_begin 30 = .ok (.if_icmp .ge 32, 3) := by decide +kernel
theorem dX0_begin_33 : decode cX0_begin 33 = .ok (.aload_n 0, 1) := by decide +kernel
theorem dX0_begin_34 : decode cX0_begin 34 = .ok (.getfield 9, 3) := by decide +kernel
theorem dX0_begin_37 : decode cX0_begin 37 = .ok (.iload_n 2, 1) := by decide +kernel
theorem dX0_begin_38 : decode cX0_begin 38 = .ok (.sipush 1000, 3) := by decide +kernel
theorem dX0_begin_41 : decode cX0_begin 41 = .ok (.iastore, 1) := by decide +kernel
theorem dX0_begin_42 : decode cX0_begin 42 = .ok (.aload_n 0, 1) := by decide +kernel
theorem dX0_begin_43 : decode cX0_begin 43 = .ok (.getfield 15, 3) := by decide +kernel
theorem dX0_begin_46 : decode cX0_begin 46 = .ok (.iload_n 2, 1) := by decide +kernel
theorem dX0_begin_47 : decode cX0_begin 47 = .ok (.iconst 0, 1) := by decide +kernel
theorem dX0_begin_48 : decode cX0_begin 48 = .ok (.iastore, 1) := by decide +kernel
theorem dX0_begin_49 : decode cX0_begin 49 = .ok (.aload_n 0, 1) := by decide +kernel
theorem dX0_begin_50 : decode cX0_begin 50 = .ok (.getfield 18, 3) := by decide +kernel
theorem dX0_begin_53 : decode cX0_begin 53 = .ok (.iload_n 2, 1) := by decide +kernel
theorem dX0_begin_54 : decode cX0_begin 54 = .ok (.iconst (-1), 1) := by decide +kernel
theorem dX0_begin_55 : decode cX0_begin 55 = .ok (.iastore, 1) := by decide +kernel
theorem dX0_begin_56 : decode cX0_begin 56 = .ok (.iinc 2 1, 3) := by decide +kernel
theorem dX0_begin_59 : decode cX0_begin 59 = .ok (.goto (-34), 3) := by decide +kernel
theorem dX0_begin_62 : decode cX0_begin 62 = .ok (.return_, 1) := by decide +kernel
theorem dX0_copyFrom_0 : decode cX0_copyFrom 0 = .ok (.aload_n 1, 1) := by decide +kernel
theorem dX0_copyFrom_1 : decode cX0_copyFrom 1 = .ok (.getfield 9, 3) := by decide +kernel
theorem dX0_copyFrom_4 : decode cX0_copyFrom 4 = .ok (.iconst 0, 1) := by decide +kernel
theorem dX0_copyFrom_5 : decode cX0_copyFrom 5 = .ok (.aload_n 0, 1) := by decide +kernel
theorem dX0_copyFrom_6 : decode cX0_copyFrom 6 = .ok (.getfield 9, 3) := by decide +kernel
theorem dX0_copyFrom_9 : decode cX0_copyFrom 9 = .ok (.iconst 0, 1) := by decide +kernel
theorem dX0_copyFrom_10 : decode cX0_copyFrom 10 = .ok (.bipush 16, 2) := by decide +kernel
theorem dX0_copyFrom_12 : decode cX0_copyFrom 12 = .ok (.invokestatic 37, 3) := by decide +kernel
theorem dX0_copyFrom_15 : decode cX0_copyFrom 15 = .ok (.aload_n 1, 1) := by decide +kernel
theorem dX0_copyFrom_16 : decode cX0_copyFrom 16 = .ok (.getfield 15, 3) := by decide +kernel
theorem dX0_copyFrom_19 : decode cX0_copyFrom 19 = .ok (.iconst 0, 1) := by decide +kernel
theorem dX0_copyFrom_20 : decode cX0_copyFrom 20 = .ok (.aload_n 0, 1) := by decide +kernel
theorem dX0_copyFrom_21 : decode cX0_copyFrom 21 = .ok (.getfield 15, 3) := by decide +kernel
theorem dX0_copyFrom_24 : decode cX0_copyFrom 24 = .ok (.iconst 0, 1) := by decide +kernel
theorem dX0_copyFrom_25 : decode cX0_copyFrom 25 = .ok (.bipush 16, 2) := by decide +kernel
theorem dX0_copyFrom_27 : decode cX0_copyFrom 27 = .ok (.invokestatic 37, 3) := by decide +kernel
theorem dX0_copyFrom_30 : decode cX0_copyFrom 30 = .ok (.aload_n 1, 1) := by decide +kernel
theorem dX0_copyFrom_31 : decode cX0_copyFrom 31 = .ok (.getfield 18, 3) := by decide +kernel
theorem dX0_copyFrom_34 : decode cX0_copyFrom 34 = .ok (.iconst 0, 1) := by decide +kernel
theorem dX0_copyFrom_35 : decode cX0_copyFrom 35 = .ok (.aload_n 0, 1) := by decide +kernel
theorem dX0_copyFrom_36 : decode cX0_copyFrom 36 = .ok (.getfield 18, 3) := by decide +kernel
theorem dX0_copyFrom_39 : decode cX0_copyFrom 39 = .ok (.iconst 0, 1) := by decide +kernel
theorem dX0_copyFrom_40 : decode cX0_copyFrom 40 = .ok (.bipush 16, 2) := by decide +kernel
theorem dX0_copyFrom_42 : decode cX0_copyFrom 42 = .ok (.invokestatic 37, 3) := by decide +kernel
theorem dX0_copyFrom_45 : decode cX0_copyFrom 45 = .ok (.aload_n 0, 1) := by decide +kernel
theorem dX0_copyFrom_46 : decode cX0_copyFrom 46 = .ok (.aload_n 1, 1) := by decide +kernel
theorem dX0_copyFrom_47 : decode cX0_copyFrom 47 = .ok (.getfield 21, 3) := by decide +kernel
theorem dX0_copyFrom_50 : decode cX0_copyFrom 50 = .ok (.putfield 21, 3) := by decide +kernel
theorem dX0_copyFrom_53 : decode cX0_copyFrom 53 = .ok (.aload_n 0, 1) := by decide +kernel
theorem dX0_copyFrom_54 : decode cX0_copyFrom 54 = .ok (.aload_n 1, 1) := by decide +kernel
theorem dX0_copyFrom_55 : decode cX0_copyFrom 55 = .ok (.getfield 25, 3) := by decide +kernel
theorem dX0_copyFrom_58 : decode cX0_copyFrom 58 = .ok (.putfield 25, 3) := by decide +kernel
theorem dX0_copyFrom_61 : decode cX0_copyFrom 61 = .ok (.aload_n 0, 1) := by decide +kernel
theorem dX0_copyFrom_62 : decode cX0_copyFrom 62 = .ok (.aload_n 1, 1) := by decide +kernel
theorem dX0_copyFrom_63 : decode cX0_copyFrom 63 = .ok (.getfield 28, 3) := by decide +kernel
theorem dX0_copyFrom_66 : decode cX0_copyFrom 66 = .ok (.putfield 28, 3) := by decide +kernel
theorem dX0_copyFrom_69 : decode cX0_copyFrom 69 = .ok (.return_, 1) := by decide +kernel
theorem dX0_meanStrength_0 : decode cX0_meanStrength 0 = .ok (.iconst 0, 1) := by decide +kernel
theorem dX0_meanStrength_1 : decode cX0_meanStrength 1 = .ok (.istore_n 1, 1) := by decide +kernel
theorem dX0_meanStrength_2 : decode cX0_meanStrength 2 = .ok (.iconst 0, 1) := by decide +kernel
theorem dX0_meanStrength_3 : decode cX0_meanStrength 3 = .ok (.istore_n 2, 1) := by decide +kernel
theorem dX0_meanStrength_4 : decode cX0_meanStrength 4 = .ok (.iload_n 2, 1) := by decide +kernel
theorem dX0_meanStrength_5 : decode cX0_meanStrength 5 = .ok (.aload_n 0, 1) := by decide +kernel
theorem dX0_meanStrength_6 : decode cX0_meanStrength 6 = .ok (.getfield 21, 3) := by decide +kernel
theorem dX0_meanStrength_9 : decode cX0_meanStrength 9 = .ok (.if_icmp .ge 27, 3) := by decide +kernel
theorem dX0_meanStrength_12 : decode cX0_meanStrength 12 = .ok (.aload_n 0, 1) := by decide +kernel
theorem dX0_meanStrength_13 : decode cX0_meanStrength 13 = .ok (.getfield 15, 3) := by decide +kernel
theorem dX0_meanStrength_16 : decode cX0_meanStrength 16 = .ok (.iload_n 2, 1) := by decide +kernel
theorem dX0_meanStrength_17 : decode cX0_meanStrength 17 = .ok (.iaload, 1) := by decide +kernel
theorem dX0_meanStrength_18 : decode cX0_meanStrength 18 = .ok (.ifCond .ne 12, 3) := by decide +kernel
theorem dX0_meanStrength_21 : decode cX0_meanStrength 21 = .ok (.iload_n 1, 1) := by decide +kernel
theorem dX0_meanStrength_22 : decode cX0_meanStrength 22 = .ok (.aload_n 0, 1) := by decide +kernel
theorem dX0_meanStrength_23 : decode cX0_meanStrength 23 = .ok (.getfield 9, 3) := by decide +kernel
theorem dX0_meanStrength_26 : decode cX0_meanStrength 26 = .ok (.iload_n 2, 1) := by decide +kernel
theorem dX0_meanStrength_27 : decode cX0_meanStrength 27 = .ok (.iaload, 1) := by decide +kernel
theorem dX0_meanStrength_28 : decode cX0_meanStrength 28 = .ok (.iadd, 1) := by decide +kernel
theorem dX0_meanStrength_29 : decode cX0_meanStrength 29 = .ok (.istore_n 1, 1) := by decide +kernel
theorem dX0_meanStrength_30 : decode cX0_meanStrength 30 = .ok (.iinc 2 1, 3) := by decide +kernel
theorem dX0_meanStrength_33 : decode cX0_meanStrength 33 = .ok (.goto (-29), 3) := by decide +kernel
theorem dX0_meanStrength_36 : decode cX0_meanStrength 36 = .ok (.aload_n 0, 1) := by decide +kernel
theorem dX0_meanStrength_37 : decode cX0_meanStrength 37 = .ok (.getfield 25, 3) := by decide +kernel
theorem dX0_meanStrength_40 : decode cX0_meanStrength 40 = .ok (.ifCond .le 12, 3) := by decide +kernel
theorem dX0_meanStrength_43 : decode cX0_meanStrength 43 = .ok (.iload_n 1, 1) := by decide +kernel
theorem dX0_meanStrength_44 : decode cX0_meanStrength 44 = .ok (.aload_n 0, 1) := by decide +kernel
theorem dX0_meanStrength_45 : decode cX0_meanStrength 45 = .ok (.getfield 25, 3) := by decide +kernel
theorem dX0_meanStrength_48 : decode cX0_meanStrength 48 = .ok (.idiv, 1) := by decide +kernel
theorem dX0_meanStrength_49 : decode cX0_meanStrength 49 = .ok (.goto 4, 3) := by decide +kernel
theorem dX0_meanStrength_52 : decode cX0_meanStrength 52 = .ok (.iconst 0, 1) := by decide +kernel
theorem dX0_meanStrength_53 : decode cX0_meanStrength 53 = .ok (.ireturn, 1) := by decide +kernel
theorem dX0_leastStrength_0 : decode cX0_leastStrength 0 = .ok (.iconst (-1), 1) := by decide +kernel
theorem dX0_leastStrength_1 : decode cX0_leastStrength 1 = .ok (.istore_n 1, 1) := by decide +kernel
theorem dX0_leastStrength_2 : decode cX0_leastStrength 2 = .ok (.iconst 0, 1) := by decide +kernel
theorem dX0_leastStrength_3 : decode cX0_leastStrength 3 = .ok (.istore_n 2, 1) := by decide +kernel
theorem dX0_leastStrength_4 : decode cX0_leastStrength 4 = .ok (.iload_n 2, 1) := by decide +kernel
theorem dX0_leastStrength_5 : decode cX0_leastStrength 5 = .ok (.aload_n 0, 1) := by decide +kernel
theorem dX0_leastStrength_6 : decode cX0_leastStrength 6 = .ok (.getfield 21, 3) := by decide +kernel
theorem dX0_leastStrength_9 : decode cX0_leastStrength 9 = .ok (.if_icmp .ge 40, 3) := by decide +kernel
theorem dX0_leastStrength_12 : decode cX0_leastStrength 12 = .ok (.aload_n 0, 1) := by decide +kernel
theorem dX0_leastStrength_13 : decode cX0_leastStrength 13 = .ok (.getfield 15, 3) := by decide +kernel
theorem dX0_leastStrength_16 : decode cX0_leastStrength 16 = .ok (.iload_n 2, 1) := by decide +kernel
theorem dX0_leastStrength_17 : decode cX0_leastStrength 17 = .ok (.iaload, 1) := by decide +kernel
theorem dX0_leastStrength_18 : decode cX0_leastStrength 18 = .ok (.ifCond .ne 25, 3) := by decide +kernel
theorem dX0_leastStrength_21 : decode cX0_leastStrength 21 = .ok (.iload_n 1, 1) := by decide +kernel
theorem dX0_leastStrength_22 : decode cX0_leastStrength 22 = .ok (.iconst (-1), 1) := by decide +kernel
theorem dX0_leastStrength_23 : decode cX0_leastStrength 23 = .ok (.if_icmp .eq 13, 3) := by decide +kernel
theorem dX0_leastStrength_26 : decode cX0_leastStrength 26 = .ok (.aload_n 0, 1) := by decide +kernel
theorem dX0_leastStrength_27 : decode cX0_leastStrength 27 = .ok (.getfield 9, 3) := by decide +kernel
theorem dX0_leastStrength_30 : decode cX0_leastStrength 30 = .ok (.iload_n 2, 1) := by decide +kernel
theorem dX0_leastStrength_31 : decode cX0_leastStrength 31 = .ok (.iaload, 1) := by decide +kernel
theorem dX0_leastStrength_32 : decode cX0_leastStrength 32 = .ok (.iload_n 1, 1) := by decide +kernel
theorem dX0_leastStrength_33 : decode cX0_leastStrength 33 = .ok (.if_icmp .ge 10, 3) := by decide +kernel
theorem dX0_leastStrength_36 : decode cX0_leastStrength 36 = .ok (.aload_n 0, 1) := by decide +kernel
theorem dX0_leastStrength_37 : decode cX0_leastStrength 37 = .ok (.getfield 9, 3) := by decide +kernel
theorem dX0_leastStrength_40 : decode cX0_leastStrength 40 = .ok (.iload_n 2, 1) := by decide +kernel
theorem dX0_leastStrength_41 : decode cX0_leastStrength 41 = .ok (.iaload, 1) := by decide +kernel
theorem dX0_leastStrength_42 : decode cX0_leastStrength 42 = .ok (.istore_n 1, 1) := by decide +kernel
theorem dX0_leastStrength_43 : decode cX0_leastStrength 43 = .ok (.iinc 2 1, 3) := by decide +kernel
theorem dX0_leastStrength_46 : decode cX0_leastStrength 46 = .ok (.goto (-42), 3) := by decide +kernel
theorem dX0_leastStrength_49 : decode cX0_leastStrength 49 = .ok (.iconst 0, 1) := by decide +kernel
theorem dX0_leastStrength_50 : decode cX0_leastStrength 50 = .ok (.iload_n 1, 1) := by decide +kernel
theorem dX0_leastStrength_51 : decode cX0_leastStrength 51 = .ok (.invokestatic 43, 3) := by decide +kernel
theorem dX0_leastStrength_54 : decode cX0_leastStrength 54 = .ok (.ireturn, 1) := by decide +kernel
theorem dX0_weakest_0 : decode cX0_weakest 0 = .ok (.iconst (-1), 1) := by decide +kernel
theorem dX0_weakest_1 : decode cX0_weakest 1 = .ok (.istore_n 1, 1) := by decide +kernel
theorem dX0_weakest_2 : decode cX0_weakest 2 = .ok (.iconst 0, 1) := by decide +kernel
theorem dX0_weakest_3 : decode cX0_weakest 3 = .ok (.istore_n 2, 1) := by decide +kernel
theorem dX0_weakest_4 : decode cX0_weakest 4 = .ok (.iload_n 2, 1) := by decide +kernel
theorem dX0_weakest_5 : decode cX0_weakest 5 = .ok (.aload_n 0, 1) := by decide +kernel
theorem dX0_weakest_6 : decode cX0_weakest 6 = .ok (.getfield 21, 3) := by decide +kernel
theorem dX0_weakest_9 : decode cX0_weakest 9 = .ok (.if_icmp .ge 40, 3) := by decide +kernel
theorem dX0_weakest_12 : decode cX0_weakest 12 = .ok (.aload_n 0, 1) := by decide +kernel
theorem dX0_weakest_13 : decode cX0_weakest 13 = .ok (.getfield 15, 3) := by decide +kernel
theorem dX0_weakest_16 : decode cX0_weakest 16 = .ok (.iload_n 2, 1) := by decide +kernel
theorem dX0_weakest_17 : decode cX0_weakest 17 = .ok (.iaload, 1) := by decide +kernel
theorem dX0_weakest_18 : decode cX0_weakest 18 = .ok (.ifCond .ne 25, 3) := by decide +kernel
theorem dX0_weakest_21 : decode cX0_weakest 21 = .ok (.iload_n 1, 1) := by decide +kernel
theorem dX0_weakest_22 : decode cX0_weakest 22 = .ok (.iconst (-1), 1) := by decide +kernel
theorem dX0_weakest_23 : decode cX0_weakest 23 = .ok (.if_icmp .eq 18, 3) := by decide +kernel
theorem dX0_weakest_26 : decode cX0_weakest 26 = .ok (.aload_n 0, 1) := by decide +kernel
theorem dX0_weakest_27 : decode cX0_weakest 27 = .ok (.getfield 9, 3) := by decide +kernel
theorem dX0_weakest_30 : decode cX0_weakest 30 = .ok (.iload_n 2, 1) := by decide +kernel
theorem dX0_weakest_31 : decode cX0_weakest 31 = .ok (.iaload, 1) := by decide +kernel
theorem dX0_weakest_32 : decode cX0_weakest 32 = .ok (.aload_n 0, 1) := by decide +kernel
theorem dX0_weakest_33 : decode cX0_weakest 33 = .ok (.getfield 9, 3) := by decide +kernel
theorem dX0_weakest_36 : decode cX0_weakest 36 = .ok (.iload_n 1, 1) := by decide +kernel
theorem dX0_weakest_37 : decode cX0_weakest 37 = .ok (.iaload, 1) := by decide +kernel
theorem dX0_weakest_38 : decode cX0_weakest 38 = .ok (.if_icmp .ge 5, 3) := by decide +kernel
theorem dX0_weakest_41 : decode cX0_weakest 41 = .ok (.iload_n 2, 1) := by decide +kernel
theorem dX0_weakest_42 : decode cX0_weakest 42 = .ok (.istore_n 1, 1) := by decide +kernel
theorem dX0_weakest_43 : decode cX0_weakest 43 = .ok (.iinc 2 1, 3) := by decide +kernel
theorem dX0_weakest_46 : decode cX0_weakest 46 = .ok (.goto (-42), 3) := by decide +kernel
theorem dX0_weakest_49 : decode cX0_weakest 49 = .ok (.iload_n 1, 1) := by decide +kernel
theorem dX0_weakest_50 : decode cX0_weakest 50 = .ok (.ireturn, 1) := by decide +kernel
theorem dX0_gain_0 : decode cX0_gain 0 = .ok (.iconst 0, 1) := by decide +kernel
theorem dX0_gain_1 : decode cX0_gain 1 = .ok (.istore_n 2, 1) := by decide +kernel
theorem dX0_gain_2 : decode cX0_gain 2 = .ok (.iload_n 2, 1) := by decide +kernel
theorem dX0_gain_3 : decode cX0_gain 3 = .ok (.aload_n 0, 1) := by decide +kernel
theorem dX0_gain_4 : decode cX0_gain 4 = .ok (.getfield 21, 3) := by decide +kernel
theorem dX0_gain_7 : decode cX0_gain 7 = .ok (.if_icmp .ge 38, 3) := by decide +kernel
theorem dX0_gain_10 : decode cX0_gain 10 = .ok (.aload_n 0, 1) := by decide +kernel
theorem dX0_gain_11 : decode cX0_gain 11 = .ok (.getfield 15, 3) := by decide +kernel
theorem dX0_gain_14 : decode cX0_gain 14 = .ok (.iload_n 2, 1) := by decide +kernel
theorem dX0_gain_15 : decode cX0_gain 15 = .ok (.iaload, 1) := by decide +kernel
theorem dX0_gain_16 : decode cX0_gain 16 = .ok (.ifCond .ne 23, 3) := by decide +kernel
theorem dX0_gain_19 : decode cX0_gain 19 = .ok (.aload_n 0, 1) := by decide +kernel
theorem dX0_gain_20 : decode cX0_gain 20 = .ok (.getfield 9, 3) := by decide +kernel
theorem dX0_gain_23 : decode cX0_gain 23 = .ok (.iload_n 2, 1) := by decide +kernel
theorem dX0_gain_24 : decode cX0_gain 24 = .ok (.sipush 1000, 3) := by decide +kernel
theorem dX0_gain_27 : decode cX0_gain 27 = .ok (.aload_n 0, 1) := by decide +kernel
theorem dX0_gain_28 : decode cX0_gain 28 = .ok (.getfield 9, 3) := by decide +kernel
theorem dX0_gain_31 : decode cX0_gain 31 = .ok (.iload_n 2, 1) := by decide +kernel
theorem dX0_gain_32 : decode cX0_gain 32 = .ok (.iaload, 1) := by decide +kernel
theorem dX0_gain_33 : decode cX0_gain 33 = .ok (.iload_n 1, 1) := by decide +kernel
theorem dX0_gain_34 : decode cX0_gain 34 = .ok (.iadd, 1) := by decide +kernel
theorem dX0_gain_35 : decode cX0_gain 35 = .ok (.invokestatic 31, 3) := by decide +kernel
theorem dX0_gain_38 : decode cX0_gain 38 = .ok (.iastore, 1) := by decide +kernel
theorem dX0_gain_39 : decode cX0_gain 39 = .ok (.iinc 2 1, 3) := by decide +kernel
theorem dX0_gain_42 : decode cX0_gain 42 = .ok (.goto (-40), 3) := by decide +kernel
theorem dX0_gain_45 : decode cX0_gain 45 = .ok (.return_, 1) := by decide +kernel
theorem dX0_lose_0 : decode cX0_lose 0 = .ok (.iconst 0, 1) := by decide +kernel
theorem dX0_lose_1 : decode cX0_lose 1 = .ok (.istore_n 2, 1) := by decide +kernel
theorem dX0_lose_2 : decode cX0_lose 2 = .ok (.iload_n 2, 1) := by decide +kernel
theorem dX0_lose_3 : decode cX0_lose 3 = .ok (.aload_n 0, 1) := by decide +kernel
theorem dX0_lose_4 : decode cX0_lose 4 = .ok (.getfield 21, 3) := by decide +kernel
theorem dX0_lose_7 : decode cX0_lose 7 = .ok (.if_icmp .ge 72, 3) := by decide +kernel
theorem dX0_lose_10 : decode cX0_lose 10 = .ok (.aload_n 0, 1) := by decide +kernel
theorem dX0_lose_11 : decode cX0_lose 11 = .ok (.getfield 15, 3) := by decide +kernel
theorem dX0_lose_14 : decode cX0_lose 14 = .ok (.iload_n 2, 1) := by decide +kernel
theorem dX0_lose_15 : decode cX0_lose 15 = .ok (.iaload, 1) := by decide +kernel
theorem dX0_lose_16 : decode cX0_lose 16 = .ok (.ifCond .ne 57, 3) := by decide +kernel
theorem dX0_lose_19 : decode cX0_lose 19 = .ok (.aload_n 0, 1) := by decide +kernel
theorem dX0_lose_20 : decode cX0_lose 20 = .ok (.getfield 9, 3) := by decide +kernel
theorem dX0_lose_23 : decode cX0_lose 23 = .ok (.iload_n 2, 1) := by decide +kernel
theorem dX0_lose_24 : decode cX0_lose 24 = .ok (.iconst 0, 1) := by decide +kernel
theorem dX0_lose_25 : decode cX0_lose 25 = .ok (.aload_n 0, 1) := by decide +kernel
theorem dX0_lose_26 : decode cX0_lose 26 = .ok (.getfield 9, 3) := by decide +kernel
theorem dX0_lose_29 : decode cX0_lose 29 = .ok (.iload_n 2, 1) := by decide +kernel
theorem dX0_lose_30 : decode cX0_lose 30 = .ok (.iaload, 1) := by decide +kernel
theorem dX0_lose_31 : decode cX0_lose 31 = .ok (.iload_n 1, 1) := by decide +kernel
theorem dX0_lose_32 : decode cX0_lose 32 = .ok (.isub, 1) := by decide +kernel
theorem dX0_lose_33 : decode cX0_lose 33 = .ok (.invokestatic 43, 3) := by decide +kernel
theorem dX0_lose_36 : decode cX0_lose 36 = .ok (.iastore, 1) := by decide +kernel
theorem dX0_lose_37 : decode cX0_lose 37 = .ok (.aload_n 0, 1) := by decide +kernel
theorem dX0_lose_38 : decode cX0_lose 38 = .ok (.getfield 9, 3) := by decide +kernel
theorem dX0_lose_41 : decode cX0_lose 41 = .ok (.iload_n 2, 1) := by decide +kernel
theorem dX0_lose_42 : decode cX0_lose 42 = .ok (.iaload, 1) := by decide +kernel
theorem dX0_lose_43 : decode cX0_lose 43 = .ok (.ifCond .ne 30, 3) := by decide +kernel
theorem dX0_lose_46 : decode cX0_lose 46 = .ok (.aload_n 0, 1) := by decide +kernel
theorem dX0_lose_47 : decode cX0_lose 47 = .ok (.getfield 15, 3) := by decide +kernel
theorem dX0_lose_50 : decode cX0_lose 50 = .ok (.iload_n 2, 1) := by decide +kernel
theorem dX0_lose_51 : decode cX0_lose 51 = .ok (.iconst 1, 1) := by decide +kernel
theorem dX0_lose_52 : decode cX0_lose 52 = .ok (.iastore, 1) := by decide +kernel
theorem dX0_lose_53 : decode cX0_lose 53 = .ok (.aload_n 0, 1) := by decide +kernel
theorem dX0_lose_54 : decode cX0_lose 54 = .ok (.dup, 1) := by decide +kernel
theorem dX0_lose_55 : decode cX0_lose 55 = .ok (.getfield 25, 3) := by decide +kernel
theorem dX0_lose_58 : decode cX0_lose 58 = .ok (.iconst 1, 1) := by decide +kernel
theorem dX0_lose_59 : decode cX0_lose 59 = .ok (.isub, 1) := by decide +kernel
theorem dX0_lose_60 : decode cX0_lose 60 = .ok (.putfield 25, 3) := by decide +kernel
theorem dX0_lose_63 : decode cX0_lose 63 = .ok (.aload_n 0, 1) := by decide +kernel
theorem dX0_lose_64 : decode cX0_lose 64 = .ok (.dup, 1) := by decide +kernel
theorem dX0_lose_65 : decode cX0_lose 65 = .ok (.getfield 28, 3) := by decide +kernel
theorem dX0_lose_68 : decode cX0_lose 68 = .ok (.iconst 1, 1) := by decide +kernel
theorem dX0_lose_69 : decode cX0_lose 69 = .ok (.iadd, 1) := by decide +kernel
theorem dX0_lose_70 : decode cX0_lose 70 = .ok (.putfield 28, 3) := by decide +kernel
theorem dX0_lose_73 : decode cX0_lose 73 = .ok (.iinc 2 1, 3) := by decide +kernel
theorem dX0_lose_76 : decode cX0_lose 76 = .ok (.goto (-74), 3) := by decide +kernel
theorem dX0_lose_79 : decode cX0_lose 79 = .ok (.return_, 1) := by decide +kernel
theorem dX0_leaveWeakest_0 : decode cX0_leaveWeakest 0 = .ok (.aload_n 0, 1) := by decide +kernel
theorem dX0_leaveWeakest_1 : decode cX0_leaveWeakest 1 = .ok (.invokevirtual 46, 3) := by decide +kernel
theorem dX0_leaveWeakest_4 : decode cX0_leaveWeakest 4 = .ok (.istore_n 2, 1) := by decide +kernel
theorem dX0_leaveWeakest_5 : decode cX0_leaveWeakest 5 = .ok (.iload_n 2, 1) := by decide +kernel
theorem dX0_leaveWeakest_6 : decode cX0_leaveWeakest 6 = .ok (.iconst (-1), 1) := by decide +kernel
theorem dX0_leaveWeakest_7 : decode cX0_leaveWeakest 7 = .ok (.if_icmp .eq 27, 3) := by decide +kernel
theorem dX0_leaveWeakest_10 : decode cX0_leaveWeakest 10 = .ok (.aload_n 0, 1) := by decide +kernel
theorem dX0_leaveWeakest_11 : decode cX0_leaveWeakest 11 = .ok (.getfield 15, 3) := by decide +kernel
theorem dX0_leaveWeakest_14 : decode cX0_leaveWeakest 14 = .ok (.iload_n 2, 1) := by decide +kernel
theorem dX0_leaveWeakest_15 : decode cX0_leaveWeakest 15 = .ok (.iconst 2, 1) := by decide +kernel
theorem dX0_leaveWeakest_16 : decode cX0_leaveWeakest 16 = .ok (.iastore, 1) := by decide +kernel
theorem dX0_leaveWeakest_17 : decode cX0_leaveWeakest 17 = .ok (.aload_n 0, 1) := by decide +kernel
theorem dX0_leaveWeakest_18 : decode cX0_leaveWeakest 18 = .ok (.getfield 18, 3) := by decide +kernel
theorem dX0_leaveWeakest_21 : decode cX0_leaveWeakest 21 = .ok (.iload_n 2, 1) := by decide +kernel
theorem dX0_leaveWeakest_22 : decode cX0_leaveWeakest 22 = .ok (.iload_n 1, 1) := by decide +kernel
theorem dX0_leaveWeakest_23 : decode cX0_leaveWeakest 23 = .ok (.iastore, 1) := by decide +kernel
theorem dX0_leaveWeakest_24 : decode cX0_leaveWeakest 24 = .ok (.aload_n 0, 1) := by decide +kernel
theorem dX0_leaveWeakest_25 : decode cX0_leaveWeakest 25 = .ok (.dup, 1) := by decide +kernel
theorem dX0_leaveWeakest_26 : decode cX0_leaveWeakest 26 = .ok (.getfield 25, 3) := by decide +kernel
theorem dX0_leaveWeakest_29 : decode cX0_leaveWeakest 29 = .ok (.iconst 1, 1) := by decide +kernel
theorem dX0_leaveWeakest_30 : decode cX0_leaveWeakest 30 = .ok (.isub, 1) := by decide +kernel
theorem dX0_leaveWeakest_31 : decode cX0_leaveWeakest 31 = .ok (.putfield 25, 3) := by decide +kernel
theorem dX0_leaveWeakest_34 : decode cX0_leaveWeakest 34 = .ok (.return_, 1) := by decide +kernel
theorem dX0_leaveCarried_0 : decode cX0_leaveCarried 0 = .ok (.iconst 0, 1) := by decide +kernel
theorem dX0_leaveCarried_1 : decode cX0_leaveCarried 1 = .ok (.istore_n 2, 1) := by decide +kernel
theorem dX0_leaveCarried_2 : decode cX0_leaveCarried 2 = .ok (.iload_n 2, 1) := by decide +kernel
theorem dX0_leaveCarried_3 : decode cX0_leaveCarried 3 = .ok (.aload_n 0, 1) := by decide +kernel
theorem dX0_leaveCarried_4 : decode cX0_leaveCarried 4 = .ok (.getfield 21, 3) := by decide +kernel
theorem dX0_leaveCarried_7 : decode cX0_leaveCarried 7 = .ok (.if_icmp .ge 50, 3) := by decide +kernel
theorem dX0_leaveCarried_10 : decode cX0_leaveCarried 10 = .ok (.aload_n 0, 1) := by decide +kernel
theorem dX0_leaveCarried_11 : decode cX0_leaveCarried 11 = .ok (.getfield 28, 3) := by decide +kernel
theorem dX0_leaveCarried_14 : decode cX0_leaveCarried 14 = .ok (.ifCond .le 43, 3) := by decide +kernel
theorem dX0_leaveCarried_17 : decode cX0_leaveCarried 17 = .ok (.aload_n 0, 1) := by decide +kernel
theorem dX0_leaveCarried_18 : decode cX0_leaveCarried 18 = .ok (.getfield 15, 3) := by decide +kernel
theorem dX0_leaveCarried_21 : decode cX0_leaveCarried 21 = .ok (.iload_n 2, 1) := by decide +kernel
theorem dX0_leaveCarried_22 : decode cX0_leaveCarried 22 = .ok (.iaload, 1) := by decide +kernel
theorem dX0_leaveCarried_23 : decode cX0_leaveCarried 23 = .ok (.iconst 1, 1) := by decide +kernel
theorem dX0_leaveCarried_24 : decode cX0_leaveCarried 24 = .ok (.if_icmp .ne 27, 3) := by decide +kernel
theorem dX0_leaveCarried_27 : decode cX0_leaveCarried 27 = .ok (.aload_n 0, 1) := by decide +kernel
theorem dX0_leaveCarried_28 : decode cX0_leaveCarried 28 = .ok (.getfield 15, 3) := by decide +kernel
theorem dX0_leaveCarried_31 : decode cX0_leaveCarried 31 = .ok (.iload_n 2, 1) := by decide +kernel
theorem dX0_leaveCarried_32 : decode cX0_leaveCarried 32 = .ok (.iconst 2, 1) := by decide +kernel
theorem dX0_leaveCarried_33 : decode cX0_leaveCarried 33 = .ok (.iastore, 1) := by decide +kernel
theorem dX0_leaveCarried_34 : decode cX0_leaveCarried 34 = .ok (.aload_n 0, 1) := by decide +kernel
theorem dX0_leaveCarried_35 : decode cX0_leaveCarried 35 = .ok (.getfield 18, 3) := by decide +kernel
theorem dX0_leaveCarried_38 : decode cX0_leaveCarried 38 = .ok (.iload_n 2, 1) := by decide +kernel
theorem dX0_leaveCarried_39 : decode cX0_leaveCarried 39 = .ok (.iload_n 1, 1) := by decide +kernel
theorem dX0_leaveCarried_40 : decode cX0_leaveCarried 40 = .ok (.iastore, 1) := by decide +kernel
theorem dX0_leaveCarried_41 : decode cX0_leaveCarried 41 = .ok (.aload_n 0, 1) := by decide +kernel
theorem dX0_leaveCarried_42 : decode cX0_leaveCarried 42 = .ok (.dup, 1) := by decide +kernel
theorem dX0_leaveCarried_43 : decode cX0_leaveCarried 43 = .ok (.getfield 28, 3) := by decide +kernel
theorem dX0_leaveCarried_46 : decode cX0_leaveCarried 46 = .ok (.iconst 1, 1) := by decide +kernel
theorem dX0_leaveCarried_47 : decode cX0_leaveCarried 47 = .ok (.isub, 1) := by decide +kernel
theorem dX0_leaveCarried_48 : decode cX0_leaveCarried 48 = .ok (.putfield 28, 3) := by decide +kernel
theorem dX0_leaveCarried_51 : decode cX0_leaveCarried 51 = .ok (.iinc 2 1, 3) := by decide +kernel
theorem dX0_leaveCarried_54 : decode cX0_leaveCarried 54 = .ok (.goto (-52), 3) := by decide +kernel
theorem dX0_leaveCarried_57 : decode cX0_leaveCarried 57 = .ok (.return_, 1) := by decide +kernel
theorem dX1_init_0 : decode cX1_init 0 = .ok (.aload_n 0, 1) := by decide +kernel
theorem dX1_init_1 : decode cX1_init 1 = .ok (.invokespecial 3, 3) := by decide +kernel
theorem dX1_init_4 : decode cX1_init 4 = .ok (.aload_n 0, 1) := by decide +kernel
theorem dX1_init_5 : decode cX1_init 5 = .ok (.iconst 4, 1) := by decide +kernel
theorem dX1_init_6 : decode cX1_init 6 = .ok (.newarray .int, 2) := by decide +kernel
theorem dX1_init_8 : decode cX1_init 8 = .ok (.putfield 9, 3) := by decide +kernel
theorem dX1_init_11 : decode cX1_init 11 = .ok (.aload_n 0, 1) := by decide +kernel
theorem dX1_init_12 : decode cX1_init 12 = .ok (.iconst 4, 1) := by decide +kernel
theorem dX1_init_13 : decode cX1_init 13 = .ok (.newarray .int, 2) := by decide +kernel
theorem dX1_init_15 : decode cX1_init 15 = .ok (.putfield 15, 3) := by decide +kernel
theorem dX1_init_18 : decode cX1_init 18 = .ok (.aload_n 0, 1) := by decide +kernel
theorem dX1_init_19 : decode cX1_init 19 = .ok (.iconst 0, 1) := by decide +kernel
theorem dX1_init_20 : decode cX1_init 20 = .ok (.putfield 18, 3) := by decide +kernel
theorem dX1_init_23 : decode cX1_init 23 = .ok (.return_, 1) := by decide +kernel
theorem dX1_add_0 : decode cX1_add 0 = .ok (.aload_n 0, 1) := by decide +kernel
theorem dX1_add_1 : decode cX1_add 1 = .ok (.getfield 18, 3) := by decide +kernel
theorem dX1_add_4 : decode cX1_add 4 = .ok (.iconst 4, 1) := by decide +kernel
theorem dX1_add_5 : decode cX1_add 5 = .ok (.if_icmp .ge 33, 3) := by decide +kernel
theorem dX1_add_8 : decode cX1_add 8 = .ok (.aload_n 0, 1) := by decide +kernel
theorem dX1_add_9 : decode cX1_add 9 = .ok (.getfield 9, 3) := by decide +kernel
theorem dX1_add_12 : decode cX1_add 12 = .ok (.aload_n 0, 1) := by decide +kernel
theorem dX1_add_13 : decode cX1_add 13 = .ok (.getfield 18, 3) := by decide +kernel
theorem dX1_add_16 : decode cX1_add 16 = .ok (.iload_n 1, 1) := by decide +kernel
theorem dX1_add_17 : decode cX1_add 17 = .ok (.iastore, 1) := by decide +kernel
theorem dX1_add_18 : decode cX1_add 18 = .ok (.aload_n 0, 1) := by decide +kernel
theorem dX1_add_19 : decode cX1_add 19 = .ok (.getfield 15, 3) := by decide +kernel
theorem dX1_add_22 : decode cX1_add 22 = .ok (.aload_n 0, 1) := by decide +kernel
theorem dX1_add_23 : decode cX1_add 23 = .ok (.getfield 18, 3) := by decide +kernel
theorem dX1_add_26 : decode cX1_add 26 = .ok (.iload_n 2, 1) := by decide +kernel
theorem dX1_add_27 : decode cX1_add 27 = .ok (.iastore, 1) := by decide +kernel
theorem dX1_add_28 : decode cX1_add 28 = .ok (.aload_n 0, 1) := by decide +kernel
theorem dX1_add_29 : decode cX1_add 29 = .ok (.dup, 1) := by decide +kernel
theorem dX1_add_30 : decode cX1_add 30 = .ok (.getfield 18, 3) := by decide +kernel
theorem dX1_add_33 : decode cX1_add 33 = .ok (.iconst 1, 1) := by decide +kernel
theorem dX1_add_34 : decode cX1_add 34 = .ok (.iadd, 1) := by decide +kernel
theorem dX1_add_35 : decode cX1_add 35 = .ok (.putfield 18, 3) := by decide +kernel
theorem dX1_add_38 : decode cX1_add 38 = .ok (.return_, 1) := by decide +kernel
theorem dX1_hide_0 : decode cX1_hide 0 = .ok (.iconst 0, 1) := by decide +kernel
theorem dX1_hide_1 : decode cX1_hide 1 = .ok (.istore_n 2, 1) := by decide +kernel
theorem dX1_hide_2 : decode cX1_hide 2 = .ok (.iload_n 2, 1) := by decide +kernel
theorem dX1_hide_3 : decode cX1_hide 3 = .ok (.aload_n 0, 1) := by decide +kernel
theorem dX1_hide_4 : decode cX1_hide 4 = .ok (.getfield 18, 3) := by decide +kernel
theorem dX1_hide_7 : decode cX1_hide 7 = .ok (.if_icmp .ge 31, 3) := by decide +kernel
theorem dX1_hide_10 : decode cX1_hide 10 = .ok (.iload_n 1, 1) := by decide +kernel
theorem dX1_hide_11 : decode cX1_hide 11 = .ok (.aload_n 0, 1) := by decide +kernel
theorem dX1_hide_12 : decode cX1_hide 12 = .ok (.getfield 9, 3) := by decide +kernel
theorem dX1_hide_15 : decode cX1_hide 15 = .ok (.iload_n 2, 1) := by decide +kernel
theorem dX1_hide_16 : decode cX1_hide 16 = .ok (.iaload, 1) := by decide +kernel
theorem dX1_hide_17 : decode cX1_hide 17 = .ok (.if_icmp .lt 15, 3) := by decide +kernel
theorem dX1_hide_20 : decode cX1_hide 20 = .ok (.iload_n 1, 1) := by decide +kernel
theorem dX1_hide_21 : decode cX1_hide 21 = .ok (.aload_n 0, 1) := by decide +kernel
theorem dX1_hide_22 : decode cX1_hide 22 = .ok (.getfield 15, 3) := by decide +kernel
theorem dX1_hide_25 : decode cX1_hide 25 = .ok (.iload_n 2, 1) := by decide +kernel
theorem dX1_hide_26 : decode cX1_hide 26 = .ok (.iaload, 1) := by decide +kernel
theorem dX1_hide_27 : decode cX1_hide 27 = .ok (.if_icmp .gt 5, 3) := by decide +kernel
theorem dX1_hide_30 : decode cX1_hide 30 = .ok (.iconst 1, 1) := by decide +kernel
theorem dX1_hide_31 : decode cX1_hide 31 = .ok (.ireturn, 1) := by decide +kernel
theorem dX1_hide_32 : decode cX1_hide 32 = .ok (.iinc 2 1, 3) := by decide +kernel
theorem dX1_hide_35 : decode cX1_hide 35 = .ok (.goto (-33), 3) := by decide +kernel
theorem dX1_hide_38 : decode cX1_hide 38 = .ok (.iconst 0, 1) := by decide +kernel
theorem dX1_hide_39 : decode cX1_hide 39 = .ok (.ireturn, 1) := by decide +kernel
theorem dX1_copyFrom_0 : decode cX1_copyFrom 0 = .ok (.aload_n 1, 1) := by decide +kernel
theorem dX1_copyFrom_1 : decode cX1_copyFrom 1 = .ok (.getfield 9, 3) := by decide +kernel
theorem dX1_copyFrom_4 : decode cX1_copyFrom 4 = .ok (.iconst 0, 1) := by decide +kernel
theorem dX1_copyFrom_5 : decode cX1_copyFrom 5 = .ok (.aload_n 0, 1) := by decide +kernel
theorem dX1_copyFrom_6 : decode cX1_copyFrom 6 = .ok (.getfield 9, 3) := by decide +kernel
theorem dX1_copyFrom_9 : decode cX1_copyFrom 9 = .ok (.iconst 0, 1) := by decide +kernel
theorem dX1_copyFrom_10 : decode cX1_copyFrom 10 = .ok (.iconst 4, 1) := by decide +kernel
theorem dX1_copyFrom_11 : decode cX1_copyFrom 11 = .ok (.invokestatic 22, 3) := by decide +kernel
theorem dX1_copyFrom_14 : decode cX1_copyFrom 14 = .ok (.aload_n 1, 1) := by decide +kernel
theorem dX1_copyFrom_15 : decode cX1_copyFrom 15 = .ok (.getfield 15, 3) := by decide +kernel
theorem dX1_copyFrom_18 : decode cX1_copyFrom 18 = .ok (.iconst 0, 1) := by decide +kernel
theorem dX1_copyFrom_19 : decode cX1_copyFrom 19 = .ok (.aload_n 0, 1) := by decide +kernel
theorem dX1_copyFrom_20 : decode cX1_copyFrom 20 = .ok (.getfield 15, 3) := by decide +kernel
theorem dX1_copyFrom_23 : decode cX1_copyFrom 23 = .ok (.iconst 0, 1) := by decide +kernel
theorem dX1_copyFrom_24 : decode cX1_copyFrom 24 = .ok (.iconst 4, 1) := by decide +kernel
theorem dX1_copyFrom_25 : decode cX1_copyFrom 25 = .ok (.invokestatic 22, 3) := by decide +kernel
theorem dX1_copyFrom_28 : decode cX1_copyFrom 28 = .ok (.aload_n 0, 1) := by decide +kernel
theorem dX1_copyFrom_29 : decode cX1_copyFrom 29 = .ok (.aload_n 1, 1) := by decide +kernel
theorem dX1_copyFrom_30 : decode cX1_copyFrom 30 = .ok (.getfield 18, 3) := by decide +kernel
theorem dX1_copyFrom_33 : decode cX1_copyFrom 33 = .ok (.putfield 18, 3) := by decide +kernel
theorem dX1_copyFrom_36 : decode cX1_copyFrom 36 = .ok (.return_, 1) := by decide +kernel
theorem dX2_init_0 : decode cX2_init 0 = .ok (.aload_n 0, 1) := by decide +kernel
theorem dX2_init_1 : decode cX2_init 1 = .ok (.invokespecial 3, 3) := by decide +kernel
theorem dX2_init_4 : decode cX2_init 4 = .ok (.aload_n 0, 1) := by decide +kernel
theorem dX2_init_5 : decode cX2_init 5 = .ok (.bipush 10, 2) := by decide +kernel
theorem dX2_init_7 : decode cX2_init 7 = .ok (.newarray .int, 2) := by decide +kernel
theorem dX2_init_9 : decode cX2_init 9 = .ok (.putfield 9, 3) := by decide +kernel
theorem dX2_init_12 : decode cX2_init 12 = .ok (.aload_n 0, 1) := by decide +kernel
theorem dX2_init_13 : decode cX2_init 13 = .ok (.bipush 10, 2) := by decide +kernel
theorem dX2_init_15 : decode cX2_init 15 = .ok (.newarray .int, 2) := by decide +kernel
theorem dX2_init_17 : decode cX2_init 17 = .ok (.putfield 15, 3) := by decide +kernel
theorem dX2_init_20 : decode cX2_init 20 = .ok (.aload_n 0, 1) := by decide +kernel
theorem dX2_init_21 : decode cX2_init 21 = .ok (.bipush 10, 2) := by decide +kernel
theorem dX2_init_23 : decode cX2_init 23 = .ok (.newarray .int, 2) := by decide +kernel
theorem dX2_init_25 : decode cX2_init 25 = .ok (.putfield 18, 3) := by decide +kernel
theorem dX2_init_28 : decode cX2_init 28 = .ok (.aload_n 0, 1) := by decide +kernel
theorem dX2_init_29 : decode cX2_init 29 = .ok (.bipush 10, 2) := by decide +kernel
theorem dX2_init_31 : decode cX2_init 31 = .ok (.newarray .int, 2) := by decide +kernel
theorem dX2_init_33 : decode cX2_init 33 = .ok (.putfield 21, 3) := by decide +kernel
theorem dX2_init_36 : decode cX2_init 36 = .ok (.aload_n 0, 1) := by decide +kernel
theorem dX2_init_37 : decode cX2_init 37 = .ok (.iconst 0, 1) := by decide +kernel
theorem dX2_init_38 : decode cX2_init 38 = .ok (.putfield 24, 3) := by decide +kernel
theorem dX2_init_41 : decode cX2_init 41 = .ok (.return_, 1) := by decide +kernel
theorem dX2_readFrom_0 : decode cX2_readFrom 0 = .ok (.aload_n 0, 1) := by decide +kernel
theorem dX2_readFrom_1 : decode cX2_readFrom 1 = .ok (.getfield 24, 3) := by decide +kernel
theorem dX2_readFrom_4 : decode cX2_readFrom 4 = .ok (.istore_n 2, 1) := by decide +kernel
theorem dX2_readFrom_5 : decode cX2_readFrom 5 = .ok (.iload_n 2, 1) := by decide +kernel
theorem dX2_readFrom_6 : decode cX2_readFrom 6 = .ok (.bipush 10, 2) := by decide +kernel
theorem dX2_readFrom_8 : decode cX2_readFrom 8 = .ok (.if_icmp .gt 45, 3) := by decide +kernel
theorem dX2_readFrom_11 : decode cX2_readFrom 11 = .ok (.aload_n 0, 1) := by decide +kernel
theorem dX2_readFrom_12 : decode cX2_readFrom 12 = .ok (.aload_n 1, 1) := by decide +kernel
theorem dX2_readFrom_13 : decode cX2_readFrom 13 = .ok (.iload_n 2, 1) := by decide +kernel
theorem dX2_readFrom_14 : decode cX2_readFrom 14 = .ok (.invokevirtual 28, 3) := by decide +kernel
theorem dX2_readFrom_17 : decode cX2_readFrom 17 = .ok (.ifCond .ne 5, 3) := by decide +kernel
theorem dX2_readFrom_20 : decode cX2_readFrom 20 = .ok (.iconst 0, 1) := by decide +kernel
theorem dX2_readFrom_21 : decode cX2_readFrom 21 = .ok (.ireturn, 1) := by decide +kernel
theorem dX2_readFrom_22 : decode cX2_readFrom 22 = .ok (.aload_n 1, 1) := by decide +kernel
theorem dX2_readFrom_23 : decode cX2_readFrom 23 = .ok (.getfield 32, 3) := by decide +kernel
theorem dX2_readFrom_26 : decode cX2_readFrom 26 = .ok (.ifCond .ne 12, 3) := by decide +kernel
theorem dX2_readFrom_29 : decode cX2_readFrom 29 = .ok (.aload_n 0, 1) := by decide +kernel
theorem dX2_readFrom_30 : decode cX2_readFrom 30 = .ok (.iload_n 2, 1) := by decide +kernel
theorem dX2_readFrom_31 : decode cX2_readFrom 31 = .ok (.iconst 1, 1) := by decide +kernel
theorem dX2_readFrom_32 : decode cX2_readFrom 32 = .ok (.iadd, 1) := by decide +kernel
theorem dX2_readFrom_33 : decode cX2_readFrom 33 = .ok (.putfield 24, 3) := by decide +kernel
theorem dX2_readFrom_36 : decode cX2_readFrom 36 = .ok (.iconst 1, 1) := by decide +kernel
theorem dX2_readFrom_37 : decode cX2_readFrom 37 = .ok (.ireturn, 1) := by decide +kernel
theorem dX2_readFrom_38 : decode cX2_readFrom 38 = .ok (.aload_n 1, 1) := by decide +kernel
theorem dX2_readFrom_39 : decode cX2_readFrom 39 = .ok (.invokevirtual 37, 3) := by decide +kernel
theorem dX2_readFrom_42 : decode cX2_readFrom 42 = .ok (.ifCond .ne 5, 3) := by decide +kernel
theorem dX2_readFrom_45 : decode cX2_readFrom 45 = .ok (.iconst 0, 1) := by decide +kernel
theorem dX2_readFrom_46 : decode cX2_readFrom 46 = .ok (.ireturn, 1) := by decide +kernel
theorem dX2_readFrom_47 : decode cX2_readFrom 47 = .ok (.iinc 2 1, 3) := by decide +kernel
theorem dX2_readFrom_50 : decode cX2_readFrom 50 = .ok (.goto (-45), 3) := by decide +kernel
theorem dX2_readFrom_53 : decode cX2_readFrom 53 = .ok (.aload_n 1, 1) := by decide +kernel
theorem dX2_readFrom_54 : decode cX2_readFrom 54 = .ok (.iconst 3, 1) := by decide +kernel
theorem dX2_readFrom_55 : decode cX2_readFrom 55 = .ok (.invokevirtual 41, 3) := by decide +kernel
theorem dX2_readFrom_58 : decode cX2_readFrom 58 = .ok (.ireturn, 1) := by decide +kernel
theorem dX2_readLaw_0 : decode cX2_readLaw 0 = .ok (.aload_n 1, 1) := by decide +kernel
theorem dX2_readLaw_1 : decode cX2_readLaw 1 = .ok (.ldc 45, 2) := by decide +kernel
theorem dX2_readLaw_3 : decode cX2_readLaw 3 = .ok (.invokevirtual 47, 3) := by decide +kernel
theorem dX2_readLaw_6 : decode cX2_readLaw 6 = .ok (.istore_n 3, 1) := by decide +kernel
theorem dX2_readLaw_7 : decode cX2_readLaw 7 = .ok (.aload_n 1, 1) := by decide +kernel
theorem dX2_readLaw_8 : decode cX2_readLaw 8 = .ok (.ldc 51, 2) := by decide +kernel
theorem dX2_readLaw_10 : decode cX2_readLaw 10 = .ok (.invokevirtual 47, 3) := by decide +kernel
theorem dX2_readLaw_13 : decode cX2_readLaw 13 = .ok (.istore 4, 2) := by decide +kernel
theorem dX2_readLaw_15 : decode cX2_readLaw 15 = .ok (.iload_n 3, 1) := by decide +kernel
theorem dX2_readLaw_16 : decode cX2_readLaw 16 = .ok (.ifCond .ne 23, 3) := by decide +kernel
theorem dX2_readLaw_19 : decode cX2_readLaw 19 = .ok (.iload 4, 2) := by decide +kernel
theorem dX2_readLaw_21 : decode cX2_readLaw 21 = .ok (.ifCond .ne 18, 3) := by decide +kernel
theorem dX2_readLaw_24 : decode cX2_readLaw 24 = .ok (.aload_n 1, 1) := by decide +kernel
theorem dX2_readLaw_25 : decode cX2_readLaw 25 = .ok (.ldc 53, 2) := by decide +kernel
theorem dX2_readLaw_27 : decode cX2_readLaw 27 = .ok (.invokevirtual 47, 3) := by decide +kernel
theorem dX2_readLaw_30 : decode cX2_readLaw 30 = .ok (.ifCond .ne 9, 3) := by decide +kernel
theorem dX2_readLaw_33 : decode cX2_readLaw 33 = .ok (.aload_n 1, 1) := by decide +kernel
theorem dX2_readLaw_34 : decode cX2_readLaw 34 = .ok (.iconst 1, 1) := by decide +kernel
theorem dX2_readLaw_35 : decode cX2_readLaw 35 = .ok (.invokevirtual 41, 3) := by decide +kernel
theorem dX2_readLaw_38 : decode cX2_readLaw 38 = .ok (.ireturn, 1) := by decide +kernel
theorem dX2_readLaw_39 : decode cX2_readLaw 39 = .ok (.iload_n 2, 1) := by decide +kernel
theorem dX2_readLaw_40 : decode cX2_readLaw 40 = .ok (.bipush 10, 2) := by decide +kernel
theorem dX2_readLaw_42 : decode cX2_readLaw 42 = .ok (.if_icmp .lt 9, 3) := by decide +kernel
theorem dX2_readLaw_45 : decode cX2_readLaw 45 = .ok (.aload_n 1, 1) := by decide +kernel
theorem dX2_readLaw_46 : decode cX2_readLaw 46 = .ok (.iconst 3, 1) := by decide +kernel
theorem dX2_readLaw_47 : decode cX2_readLaw 47 = .ok (.invokevirtual 41, 3) := by decide +kernel
theorem dX2_readLaw_50 : decode cX2_readLaw 50 = .ok (.ireturn, 1) := by decide +kernel
theorem dX2_readLaw_51 : decode cX2_readLaw 51 = .ok (.aload_n 0, 1) := by decide +kernel
theorem dX2_readLaw_52 : decode cX2_readLaw 52 = .ok (.getfield 18, 3) := by decide +kernel
theorem dX2_readLaw_55 : decode cX2_readLaw 55 = .ok (.iload_n 2, 1) := by decide +kernel
theorem dX2_readLaw_56 : decode cX2_readLaw 56 = .ok (.iconst 0, 1) := by decide +kernel
theorem dX2_readLaw_57 : decode cX2_readLaw 57 = .ok (.iastore, 1) := by decide +kernel
theorem dX2_readLaw_58 : decode cX2_readLaw 58 = .ok (.aload_n 0, 1) := by decide +kernel
theorem dX2_readLaw_59 : decode cX2_readLaw 59 = .ok (.getfield 21, 3) := by decide +kernel
theorem dX2_readLaw_62 : decode cX2_readLaw 62 = .ok (.iload_n 2, 1) := by decide +kernel
theorem dX2_readLaw_63 : decode cX2_readLaw 63 = .ok (.iconst 0, 1) := by decide +kernel
theorem dX2_readLaw_64 : decode cX2_readLaw 64 = .ok (.iastore, 1) := by decide +kernel
theorem dX2_readLaw_65 : decode cX2_readLaw 65 = .ok (.aload_n 1, 1) := by decide +kernel
theorem dX2_readLaw_66 : decode cX2_readLaw 66 = .ok (.invokevirtual 55, 3) := by decide +kernel
theorem dX2_readLaw_69 : decode cX2_readLaw 69 = .ok (.aload_n 1, 1) := by decide +kernel
theorem dX2_readLaw_70 : decode cX2_readLaw 70 = .ok (.aload_n 0, 1) := by decide +kernel
theorem dX2_readLaw_71 : decode cX2_readLaw 71 = .ok (.getfield 15, 3) := by decide +kernel
theorem dX2_readLaw_74 : decode cX2_readLaw 74 = .ok (.iload_n 2, 1) := by decide +kernel
theorem dX2_readLaw_75 : decode cX2_readLaw 75 = .ok (.invokestatic 58, 3) := by decide +kernel
theorem dX2_readLaw_78 : decode cX2_readLaw 78 = .ok (.ifCond .ne 5, 3) := by decide +kernel
theorem dX2_readLaw_81 : decode cX2_readLaw 81 = .ok (.iconst 0, 1) := by decide +kernel
theorem dX2_readLaw_82 : decode cX2_readLaw 82 = .ok (.ireturn, 1) := by decide +kernel
theorem dX2_readLaw_83 : decode cX2_readLaw 83 = .ok (.iload 4, 2) := by decide +kernel
theorem dX2_readLaw_85 : decode cX2_readLaw 85 = .ok (.ifCond .eq 12, 3) := by decide +kernel
theorem dX2_readLaw_88 : decode cX2_readLaw 88 = .ok (.aload_n 0, 1) := by decide +kernel
theorem dX2_readLaw_89 : decode cX2_readLaw 89 = .ok (.getfield 9, 3) := by decide +kernel
theorem dX2_readLaw_92 : decode cX2_readLaw 92 = .ok (.iload_n 2, 1) := by decide +kernel
theorem dX2_readLaw_93 : decode cX2_readLaw 93 = .ok (.iconst 2, 1) := by decide +kernel
theorem dX2_readLaw_94 : decode cX2_readLaw 94 = .ok (.iastore, 1) := by decide +kernel
theorem dX2_readLaw_95 : decode cX2_readLaw 95 = .ok (.iconst 1, 1) := by decide +kernel
theorem dX2_readLaw_96 : decode cX2_readLaw 96 = .ok (.ireturn, 1) := by decide +kernel
theorem dX2_readLaw_97 : decode cX2_readLaw 97 = .ok (.iload_n 3, 1) := by decide +kernel
theorem dX2_readLaw_98 : decode cX2_readLaw 98 = .ok (.ifCond .eq 12, 3) := by decide +kernel
theorem dX2_readLaw_101 : decode cX2_readLaw 101 = .ok (.aload_n 0, 1) := by decide +kernel
theorem dX2_readLaw_102 : decode cX2_readLaw 102 = .ok (.aload_n 1, 1) := by decide +kernel
theorem dX2_readLaw_103 : decode cX2_readLaw 103 = .ok (.iload_n 2, 1) := by decide +kernel
theorem dX2_readLaw_104 : decode cX2_readLaw 104 = .ok (.invokevirtual 62, 3) := by decide +kernel
theorem dX2_readLaw_107 : decode cX2_readLaw 107 = .ok (.goto 9, 3) := by decide +kernel
theorem dX2_readLaw_110 : decode cX2_readLaw 110 = .ok (.aload_n 0, 1) := by decide +kernel
theorem dX2_readLaw_111 : decode cX2_readLaw 111 = .ok (.aload_n 1, 1) := by decide +kernel
theorem dX2_readLaw_112 : decode cX2_readLaw 112 = .ok (.iload_n 2, 1) := by decide +kernel
theorem dX2_readLaw_113 : decode cX2_readLaw 113 = .ok (.invokevirtual 65, 3) := by decide +kernel
theorem dX2_readLaw_116 : decode cX2_readLaw 116 = .ok (.ireturn, 1) := by decide +kernel
theorem dX2_readPosts_0 : decode cX2_readPosts 0 = .ok (.aload_n 1, 1) := by decide +kernel
theorem dX2_readPosts_1 : decode cX2_readPosts 1 = .ok (.ldc 68, 2) := by decide +kernel
theorem dX2_readPosts_3 : decode cX2_readPosts 3 = .ok (.invokevirtual 47, 3) := by decide +kernel
theorem dX2_readPosts_6 : decode cX2_readPosts 6 = .ok (.ifCond .eq 53, 3) := by decide +kernel
theorem dX2_readPosts_9 : decode cX2_readPosts 9 = .ok (.aload_n 0, 1) := by decide +kernel
theorem dX2_readPosts_10 : decode cX2_readPosts 10 = .ok (.getfield 9, 3) := by decide +kernel
theorem dX2_readPosts_13 : decode cX2_readPosts 13 = .ok (.iload_n 2, 1) := by decide +kernel
theorem dX2_readPosts_14 : decode cX2_readPosts 14 = .ok (.iconst 1, 1) := by decide +kernel
theorem dX2_readPosts_15 : decode cX2_readPosts 15 = .ok (.iastore, 1) := by decide +kernel
theorem dX2_readPosts_16 : decode cX2_readPosts 16 = .ok (.aload_n 1, 1) := by decide +kernel
theorem dX2_readPosts_17 : decode cX2_readPosts 17 = .ok (.invokevirtual 55, 3) := by decide +kernel
theorem dX2_readPosts_20 : decode cX2_readPosts 20 = .ok (.aload_n 1, 1) := by decide +kernel
theorem dX2_readPosts_21 : decode cX2_readPosts 21 = .ok (.aload_n 0, 1) := by decide +kernel
theorem dX2_readPosts_22 : decode cX2_readPosts 22 = .ok (.getfield 18, 3) := by decide +kernel
theorem dX2_readPosts_25 : decode cX2_readPosts 25 = .ok (.iload_n 2, 1) := by decide +kernel
theorem dX2_readPosts_26 : decode cX2_readPosts 26 = .ok (.invokestatic 58, 3) := by decide +kernel
theorem dX2_readPosts_29 : decode cX2_readPosts 29 = .ok (.ifCond .eq 28, 3) := by decide +kernel
theorem dX2_readPosts_32 : decode cX2_readPosts 32 = .ok (.aload_n 1, 1) := by decide +kernel
theorem dX2_readPosts_33 : decode cX2_readPosts 33 = .ok (.ldc 70, 2) := by decide +kernel
theorem dX2_readPosts_35 : decode cX2_readPosts 35 = .ok (.invokevirtual 72, 3) := by decide +kernel
theorem dX2_readPosts_38 : decode cX2_readPosts 38 = .ok (.ifCond .eq 19, 3) := by decide +kernel
theorem dX2_readPosts_41 : decode cX2_readPosts 41 = .ok (.aload_n 1, 1) := by decide +kernel
theorem dX2_readPosts_42 : decode cX2_readPosts 42 = .ok (.aload_n 0, 1) := by decide +kernel
theorem dX2_readPosts_43 : decode cX2_readPosts 43 = .ok (.getfield 21, 3) := by decide +kernel
theorem dX2_readPosts_46 : decode cX2_readPosts 46 = .ok (.iload_n 2, 1) := by decide +kernel
theorem dX2_readPosts_47 : decode cX2_readPosts 47 = .ok (.invokestatic 58, 3) := by decide +kernel
theorem dX2_readPosts_50 : decode cX2_readPosts 50 = .ok (.ifCond .eq 7, 3) := by decide +kernel
theorem dX2_readPosts_53 : decode cX2_readPosts 53 = .ok (.iconst 1, 1) := by decide +kernel
theorem dX2_readPosts_54 : decode cX2_readPosts 54 = .ok (.goto 4, 3) := by decide +kernel
theorem dX2_readPosts_57 : decode cX2_readPosts 57 = .ok (.iconst 0, 1) := by decide +kernel
theorem dX2_readPosts_58 : decode cX2_readPosts 58 = .ok (.ireturn, 1) := by decide +kernel
theorem dX2_readPosts_59 : decode cX2_readPosts 59 = .ok (.aload_n 0, 1) := by decide +kernel
theorem dX2_readPosts_60 : decode cX2_readPosts 60 = .ok (.getfield 9, 3) := by decide +kernel
theorem dX2_readPosts_63 : decode cX2_readPosts 63 = .ok (.iload_n 2, 1) := by decide +kernel
theorem dX2_readPosts_64 : decode cX2_readPosts 64 = .ok (.iconst 0, 1) := by decide +kernel
theorem dX2_readPosts_65 : decode cX2_readPosts 65 = .ok (.iastore, 1) := by decide +kernel
theorem dX2_readPosts_66 : decode cX2_readPosts 66 = .ok (.aload_n 1, 1) := by decide +kernel
theorem dX2_readPosts_67 : decode cX2_readPosts 67 = .ok (.ldc 75, 2) := by decide +kernel
theorem dX2_readPosts_69 : decode cX2_readPosts 69 = .ok (.invokevirtual 72, 3) := by decide +kernel
theorem dX2_readPosts_72 : decode cX2_readPosts 72 = .ok (.ifCond .eq 19, 3) := by decide +kernel
theorem dX2_readPosts_75 : decode cX2_readPosts 75 = .ok (.aload_n 1, 1) := by decide +kernel
theorem dX2_readPosts_76 : decode cX2_readPosts 76 = .ok (.aload_n 0, 1) := by decide +kernel
theorem dX2_readPosts_77 : decode cX2_readPosts 77 = .ok (.getfield 18, 3) := by decide +kernel
theorem dX2_readPosts_80 : decode cX2_readPosts 80 = .ok (.iload_n 2, 1) := by decide +kernel
theorem dX2_readPosts_81 : decode cX2_readPosts 81 = .ok (.invokestatic 58, 3) := by decide +kernel
theorem dX2_readPosts_84 : decode cX2_readPosts 84 = .ok (.ifCond .eq 7, 3) := by decide +kernel
theorem dX2_readPosts_87 : decode cX2_readPosts 87 = .ok (.iconst 1, 1) := by decide +kernel
theorem dX2_readPosts_88 : decode cX2_readPosts 88 = .ok (.goto 4, 3) := by decide +kernel
theorem dX2_readPosts_91 : decode cX2_readPosts 91 = .ok (.iconst 0, 1) := by decide +kernel
theorem dX2_readPosts_92 : decode cX2_readPosts 92 = .ok (.ireturn, 1) := by decide +kernel
theorem dX2_readSecondFine_0 : decode cX2_readSecondFine 0 = .ok (.aload_n 0, 1) := by decide +kernel
theorem dX2_readSecondFine_1 : decode cX2_readSecondFine 1 = .ok (.getfield 9, 3) := by decide +kernel
theorem dX2_readSecondFine_4 : decode cX2_readSecondFine 4 = .ok (.iload_n 2, 1) := by decide +kernel
theorem dX2_readSecondFine_5 : decode cX2_readSecondFine 5 = .ok (.iconst 3, 1) := by decide +kernel
theorem dX2_readSecondFine_6 : decode cX2_readSecondFine 6 = .ok (.iastore, 1) := by decide +kernel
theorem dX2_readSecondFine_7 : decode cX2_readSecondFine 7 = .ok (.aload_n 1, 1) := by decide +kernel
theorem dX2_readSecondFine_8 : decode cX2_readSecondFine 8 = .ok (.ldc 77, 2) := by decide +kernel
theorem dX2_readSecondFine_10 : decode cX2_readSecondFine 10 = .ok (.invokevirtual 72, 3) := by decide +kernel
theorem dX2_readSecondFine_13 : decode cX2_readSecondFine 13 = .ok (.ifCond .eq 19, 3) := by decide +kernel
theorem dX2_readSecondFine_16 : decode cX2_readSecondFine 16 = .ok (.aload_n 1, 1) := by decide +kernel
theorem dX2_readSecondFine_17 : decode cX2_readSecondFine 17 = .ok (.aload_n 0, 1) := by decide +kernel
theorem dX2_readSecondFine_18 : decode cX2_readSecondFine 18 = .ok (.getfield 18, 3) := by decide +kernel
theorem dX2_readSecondFine_21 : decode cX2_readSecondFine 21 = .ok (.iload_n 2, 1) := by decide +kernel
theorem dX2_readSecondFine_22 : decode cX2_readSecondFine 22 = .ok (.invokestatic 58, 3) := by decide +kernel
theorem dX2_readSecondFine_25 : decode cX2_readSecondFine 25 = .ok (.ifCond .eq 7, 3) := by decide +kernel
theorem dX2_readSecondFine_28 : decode cX2_readSecondFine 28 = .ok (.iconst 1, 1) := by decide +kernel
theorem dX2_readSecondFine_29 : decode cX2_readSecondFine 29 = .ok (.goto 4, 3) := by decide +kernel
theorem dX2_readSecondFine_32 : decode cX2_readSecondFine 32 = .ok (.iconst 0, 1) := by decide +kernel
theorem dX2_readSecondFine_33 : decode cX2_readSecondFine 33 = .ok (.ireturn, 1) := by decide +kernel
theorem dX2_readNumber_0 : decode cX2_readNumber 0 = .ok (.aload_n 0, 1) := by decide +kernel
theorem dX2_readNumber_1 : decode cX2_readNumber 1 = .ok (.getfield 32, 3) := by decide +kernel
theorem dX2_readNumber_4 : decode cX2_readNumber 4 = .ok (.iconst 2, 1) := by decide +kernel
theorem dX2_readNumber_5 : decode cX2_readNumber 5 = .ok (.if_icmp .eq 9, 3) := by decide +kernel
theorem dX2_readNumber_8 : decode cX2_readNumber 8 = .ok (.aload_n 0, 1) := by decide +kernel
theorem dX2_readNumber_9 : decode cX2_readNumber 9 = .ok (.iconst 1, 1) := by decide +kernel
theorem dX2_readNumber_10 : decode cX2_readNumber 10 = .ok (.invokevirtual 41, 3) := by decide +kernel
theorem dX2_readNumber_13 : decode cX2_readNumber 13 = .ok (.ireturn, 1) := by decide +kernel
theorem dX2_readNumber_14 : decode cX2_readNumber 14 = .ok (.aload_n 1, 1) := by decide +kernel
theorem dX2_readNumber_15 : decode cX2_readNumber 15 = .ok (.iload_n 2, 1) := by decide +kernel
theorem dX2_readNumber_16 : decode cX2_readNumber 16 = .ok (.aload_n 0, 1) := by decide +kernel
theorem dX2_readNumber_17 : decode cX2_readNumber 17 = .ok (.getfield 79, 3) := by decide +kernel
theorem dX2_readNumber_20 : decode cX2_readNumber 20 = .ok (.iastore, 1) := by decide +kernel
theorem dX2_readNumber_21 : decode cX2_readNumber 21 = .ok (.aload_n 0, 1) := by decide +kernel
theorem dX2_readNumber_22 : decode cX2_readNumber 22 = .ok (.invokevirtual 55, 3) := by decide +kernel
theorem dX2_readNumber_25 : decode cX2_readNumber 25 = .ok (.iconst 1, 1) := by decide +kernel
theorem dX2_readNumber_26 : decode cX2_readNumber 26 = .ok (.ireturn, 1) := by decide +kernel
theorem dX2_part_0 : decode cX2_part 0 = .ok (.iload_n 2, 1) := by decide +kernel
theorem dX2_part_1 : decode cX2_part 1 = .ok (.tableswitch 59 0 3 #[31, 38, 45, 52], 31) := by decide +kernel
theorem dX2_part_32 : decode cX2_part 32 = .ok (.aload_n 0, 1) := by decide +kernel
theorem dX2_part_33 : decode cX2_part 33 = .ok (.getfield 9, 3) := by decide +kernel
theorem dX2_part_36 : decode cX2_part 36 = .ok (.iload_n 1, 1) := by decide +kernel
theorem dX2_part_37 : decode cX2_part 37 = .ok (.iaload, 1) := by decide +kernel
theorem dX2_part_38 : decode cX2_part 38 = .ok (.ireturn, 1) := by decide +kernel
theorem dX2_part_39 : decode cX2_part 39 = .ok (.aload_n 0, 1) := by decide +kernel
theorem dX2_part_40 : decode cX2_part 40 = .ok (.getfield 15, 3) := by decide +kernel
theorem dX2_part_43 : decode cX2_part 43 = .ok (.iload_n 1, 1) := by decide +kernel
theorem dX2_part_44 : decode cX2_part 44 = .ok (.iaload, 1) := by decide +kernel
theorem dX2_part_45 : decode cX2_part 45 = .ok (.ireturn, 1) := by decide +kernel
theorem dX2_part_46 : decode cX2_part 46 = .ok (.aload_n 0, 1) := by decide +kernel
theorem dX2_part_47 : decode cX2_part 47 = .ok (.getfield 18, 3) := by decide +kernel
theorem dX2_part_50 : decode cX2_part 50 = .ok (.iload_n 1, 1) := by decide +kernel
theorem dX2_part_51 : decode cX2_part 51 = .ok (.iaload, 1) := by decide +kernel
theorem dX2_part_52 : decode cX2_part 52 = .ok (.ireturn, 1) := by decide +kernel
theorem dX2_part_53 : decode cX2_part 53 = .ok (.aload_n 0, 1) := by decide +kernel
theorem dX2_part_54 : decode cX2_part 54 = .ok (.getfield 21, 3) := by decide +kernel
theorem dX2_part_57 : decode cX2_part 57 = .ok (.iload_n 1, 1) := by decide +kernel
theorem dX2_part_58 : decode cX2_part 58 = .ok (.iaload, 1) := by decide +kernel
theorem dX2_part_59 : decode cX2_part 59 = .ok (.ireturn, 1) := by decide +kernel
theorem dX2_part_60 : decode cX2_part 60 = .ok (.iconst (-1), 1) := by decide +kernel
theorem dX2_part_61 : decode cX2_part 61 = .ok (.ireturn, 1) := by decide +kernel
theorem dX2_lackOf_0 : decode cX2_lackOf 0 = .ok (.aload_n 0, 1) := by decide +kernel
theorem dX2_lackOf_1 : decode cX2_lackOf 1 = .ok (.getfield 9, 3) := by decide +kernel
theorem dX2_lackOf_4 : decode cX2_lackOf 4 = .ok (.iload_n 1, 1) := by decide +kernel
theorem dX2_lackOf_5 : decode cX2_lackOf 5 = .ok (.iaload, 1) := by decide +kernel
theorem dX2_lackOf_6 : decode cX2_lackOf 6 = .ok (.tableswitch 93 0 2 #[26, 50, 74], 26) := by decide +kernel
theorem dX2_lackOf_32 : decode cX2_lackOf 32 = .ok (.aload_n 0, 1) := by decide +kernel
theorem dX2_lackOf_33 : decode cX2_lackOf 33 = .ok (.getfield 15, 3) := by decide +kernel
theorem dX2_lackOf_36 : decode cX2_lackOf 36 = .ok (.iload_n 1, 1) := by decide +kernel
theorem dX2_lackOf_37 : decode cX2_lackOf 37 = .ok (.iaload, 1) := by decide +kernel
theorem dX2_lackOf_38 : decode cX2_lackOf 38 = .ok (.aload_n 0, 1) := by decide +kernel
theorem dX2_lackOf_39 : decode cX2_lackOf 39 = .ok (.getfield 18, 3) := by decide +kernel
theorem dX2_lackOf_42 : decode cX2_lackOf 42 = .ok (.iload_n 1, 1) := by decide +kernel
theorem dX2_lackOf_43 : decode cX2_lackOf 43 = .ok (.iaload, 1) := by decide +kernel
theorem dX2_lackOf_44 : decode cX2_lackOf 44 = .ok (.aload_n 0, 1) := by decide +kernel
theorem dX2_lackOf_45 : decode cX2_lackOf 45 = .ok (.getfield 18, 3) := by decide +kernel
theorem dX2_lackOf_48 : decode cX2_lackOf 48 = .ok (.iload_n 1, 1) := by decide +kernel
theorem dX2_lackOf_49 : decode cX2_lackOf 49 = .ok (.iaload, 1) := by decide +kernel
theorem dX2_lackOf_50 : decode cX2_lackOf 50 = .ok (.aload_n 2, 1) := by decide +kernel
theorem dX2_lackOf_51 : decode cX2_lackOf 51 = .ok (.iload_n 3, 1) := by decide +kernel
theorem dX2_lackOf_52 : decode cX2_lackOf 52 = .ok (.invokestatic 82, 3) := by decide +kernel
theorem dX2_lackOf_55 : decode cX2_lackOf 55 = .ok (.ireturn, 1) := by decide +kernel
theorem dX2_lackOf_56 : decode cX2_lackOf 56 = .ok (.aload_n 0, 1) := by decide +kernel
theorem dX2_lackOf_57 : decode cX2_lackOf 57 = .ok (.getfield 15, 3) := by decide +kernel
theorem dX2_lackOf_60 : decode cX2_lackOf 60 = .ok (.iload_n 1, 1) := by decide +kernel
theorem dX2_lackOf_61 : decode cX2_lackOf 61 = .ok (.iaload, 1) := by decide +kernel
theorem dX2_lackOf_62 : decode cX2_lackOf 62 = .ok (.aload_n 0, 1) := by decide +kernel
theorem dX2_lackOf_63 : decode cX2_lackOf 63 = .ok (.getfield 18, 3) := by decide +kernel
theorem dX2_lackOf_66 : decode cX2_lackOf 66 = .ok (.iload_n 1, 1) := by decide +kernel
theorem dX2_lackOf_67 : decode cX2_lackOf 67 = .ok (.iaload, 1) := by decide +kernel
theorem dX2_lackOf_68 : decode cX2_lackOf 68 = .ok (.aload_n 0, 1) := by decide +kernel
theorem dX2_lackOf_69 : decode cX2_lackOf 69 = .ok (.getfield 21, 3) := by decide +kernel
theorem dX2_lackOf_72 : decode cX2_lackOf 72 = .ok (.iload_n 1, 1) := by decide +kernel
theorem dX2_lackOf_73 : decode cX2_lackOf 73 = .ok (.iaload, 1) := by decide +kernel
theorem dX2_lackOf_74 : decode cX2_lackOf 74 = .ok (.aload_n 2, 1) := by decide +kernel
theorem dX2_lackOf_75 : decode cX2_lackOf 75 = .ok (.iload_n 3, 1) := by decide +kernel
theorem dX2_lackOf_76 : decode cX2_lackOf 76 = .ok (.invokestatic 82, 3) := by decide +kernel
theorem dX2_lackOf_79 : decode cX2_lackOf 79 = .ok (.ireturn, 1) := by decide +kernel
theorem dX2_lackOf_80 : decode cX2_lackOf 80 = .ok (.iconst 0, 1) := by decide +kernel
theorem dX2_lackOf_81 : decode cX2_lackOf 81 = .ok (.aload_n 0, 1) := by decide +kernel
theorem dX2_lackOf_82 : decode cX2_lackOf 82 = .ok (.getfield 15, 3) := by decide +kernel
theorem dX2_lackOf_85 : decode cX2_lackOf 85 = .ok (.iload_n 1, 1) := by decide +kernel
theorem dX2_lackOf_86 : decode cX2_lackOf 86 = .ok (.iaload, 1) := by decide +kernel
theorem dX2_lackOf_87 : decode cX2_lackOf 87 = .ok (.aload_n 2, 1) := by decide +kernel
theorem dX2_lackOf_88 : decode cX2_lackOf 88 = .ok (.getfield 86, 3) := by decide +kernel
theorem dX2_lackOf_91 : decode cX2_lackOf 91 = .ok (.getfield 91, 3) := by decide +kernel
theorem dX2_lackOf_94 : decode cX2_lackOf 94 = .ok (.isub, 1) := by decide +kernel
theorem dX2_lackOf_95 : decode cX2_lackOf 95 = .ok (.invokestatic 96, 3) := by decide +kernel
theorem dX2_lackOf_98 : decode cX2_lackOf 98 = .ok (.ireturn, 1) := by decide +kernel
theorem dX2_lackOf_99 : decode cX2_lackOf 99 = .ok (.iconst 0, 1) := by decide +kernel
theorem dX2_lackOf_100 : decode cX2_lackOf 100 = .ok (.ireturn, 1) := by decide +kernel
theorem dX2_leastLack_0 : decode cX2_leastLack 0 = .ok (.iload_n 1, 1) := by decide +kernel
theorem dX2_leastLack_1 : decode cX2_leastLack 1 = .ok (.iload_n 2, 1) := by decide +kernel
theorem dX2_leastLack_2 : decode cX2_leastLack 2 = .ok (.if_icmp .gt 9, 3) := by decide +kernel
theorem dX2_leastLack_5 : decode cX2_leastLack 5 = .ok (.iload_n 2, 1) := by decide +kernel
theorem dX2_leastLack_6 : decode cX2_leastLack 6 = .ok (.iload 4, 2) := by decide +kernel
theorem dX2_leastLack_8 : decode cX2_leastLack 8 = .ok (.if_icmp .lt 5, 3) := by decide +kernel
theorem dX2_leastLack_11 : decode cX2_leastLack 11 = .ok (.iconst 0, 1) := by decide +kernel
theorem dX2_leastLack_12 : decode cX2_leastLack 12 = .ok (.ireturn, 1) := by decide +kernel
theorem dX2_leastLack_13 : decode cX2_leastLack 13 = .ok (.iload_n 0, 1) := by decide +kernel
theorem dX2_leastLack_14 : decode cX2_leastLack 14 = .ok (.istore 5, 2) := by decide +kernel
theorem dX2_leastLack_16 : decode cX2_leastLack 16 = .ok (.iload_n 1, 1) := by decide +kernel
theorem dX2_leastLack_17 : decode cX2_leastLack 17 = .ok (.istore 6, 2) := by decide +kernel
theorem dX2_leastLack_19 : decode cX2_leastLack 19 = .ok (.iload 6, 2) := by decide +kernel
theorem dX2_leastLack_21 : decode cX2_leastLack 21 = .ok (.iload_n 2, 1) := by decide +kernel
theorem dX2_leastLack_22 : decode cX2_leastLack 22 = .ok (.if_icmp .gt 24, 3) := by decide +kernel
theorem dX2_leastLack_25 : decode cX2_leastLack 25 = .ok (.iload 5, 2) := by decide +kernel
theorem dX2_leastLack_27 : decode cX2_leastLack 27 = .ok (.iload_n 0, 1) := by decide +kernel
theorem dX2_leastLack_28 : decode cX2_leastLack 28 = .ok (.aload_n 3, 1) := by decide +kernel
theorem dX2_leastLack_29 : decode cX2_leastLack 29 = .ok (.iload 6, 2) := by decide +kernel
theorem dX2_leastLack_31 : decode cX2_leastLack 31 = .ok (.invokevirtual 102, 3) := by decide +kernel
theorem dX2_leastLack_34 : decode cX2_leastLack 34 = .ok (.isub, 1) := by decide +kernel
theorem dX2_leastLack_35 : decode cX2_leastLack 35 = .ok (.invokestatic 106, 3) := by decide +kernel
theorem dX2_leastLack_38 : decode cX2_leastLack 38 = .ok (.istore 5, 2) := by decide +kernel
theorem dX2_leastLack_40 : decode cX2_leastLack 40 = .ok (.iinc 6 1, 3) := by decide +kernel
theorem dX2_leastLack_43 : decode cX2_leastLack 43 = .ok (.goto (-24), 3) := by decide +kernel
theorem dX2_leastLack_46 : decode cX2_leastLack 46 = .ok (.iconst 0, 1) := by decide +kernel
theorem dX2_leastLack_47 : decode cX2_leastLack 47 = .ok (.iload 5, 2) := by decide +kernel
theorem dX2_leastLack_49 : decode cX2_leastLack 49 = .ok (.invokestatic 96, 3) := by decide +kernel
theorem dX2_leastLack_52 : decode cX2_leastLack 52 = .ok (.ireturn, 1) := by decide +kernel
theorem dX2_resultOf_0 : decode cX2_resultOf 0 = .ok (.iconst 0, 1) := by decide +kernel
theorem dX2_resultOf_1 : decode cX2_resultOf 1 = .ok (.istore_n 3, 1) := by decide +kernel
theorem dX2_resultOf_2 : decode cX2_resultOf 2 = .ok (.iconst 0, 1) := by decide +kernel
theorem dX2_resultOf_3 : decode cX2_resultOf 3 = .ok (.istore 4, 2) := by decide +kernel
theorem dX2_resultOf_5 : decode cX2_resultOf 5 = .ok (.iconst 2, 1) := by decide +kernel
theorem dX2_resultOf_6 : decode cX2_resultOf 6 = .ok (.istore 5, 2) := by decide +kernel
theorem dX2_resultOf_8 : decode cX2_resultOf 8 = .ok (.bipush 60, 2) := by decide +kernel
theorem dX2_resultOf_10 : decode cX2_resultOf 10 = .ok (.istore 6, 2) := by decide +kernel
theorem dX2_resultOf_12 : decode cX2_resultOf 12 = .ok (.iconst 0, 1) := by decide +kernel
theorem dX2_resultOf_13 : decode cX2_resultOf 13 = .ok (.istore 7, 2) := by decide +kernel
theorem dX2_resultOf_15 : decode cX2_resultOf 15 = .ok (.iload 7, 2) := by decide +kernel
theorem dX2_resultOf_17 : decode cX2_resultOf 17 = .ok (.aload_n 0, 1) := by decide +kernel
theorem dX2_resultOf_18 : decode cX2_resultOf 18 = .ok (.getfield 24, 3) := by decide +kernel
theorem dX2_resultOf_21 : decode cX2_resultOf 21 = .ok (.if_icmp .ge 79, 3) := by decide +kernel
theorem dX2_resultOf_24 : decode cX2_resultOf 24 = .ok (.aload_n 0, 1) := by decide +kernel
theorem dX2_resultOf_25 : decode cX2_resultOf 25 = .ok (.getfield 9, 3) := by decide +kernel
theorem dX2_resultOf_28 : decode cX2_resultOf 28 = .ok (.iload 7, 2) := by decide +kernel
theorem dX2_resultOf_30 : decode cX2_resultOf 30 = .ok (.iaload, 1) := by decide +kernel
theorem dX2_resultOf_31 : decode cX2_resultOf 31 = .ok (.iconst 3, 1) := by decide +kernel
theorem dX2_resultOf_32 : decode cX2_resultOf 32 = .ok (.if_icmp .ne 24, 3) := by decide +kernel
theorem dX2_resultOf_35 : decode cX2_resultOf 35 = .ok (.aload_n 0, 1) := by decide +kernel
theorem dX2_resultOf_36 : decode cX2_resultOf 36 = .ok (.getfield 15, 3) := by decide +kernel
theorem dX2_resultOf_39 : decode cX2_resultOf 39 = .ok (.iload 7, 2) := by decide +kernel
theorem dX2_resultOf_41 : decode cX2_resultOf 41 = .ok (.iaload, 1) := by decide +kernel
theorem dX2_resultOf_42 : decode cX2_resultOf 42 = .ok (.istore 5, 2) := by decide +kernel
theorem dX2_resultOf_44 : decode cX2_resultOf 44 = .ok (.aload_n 0, 1) := by decide +kernel
theorem dX2_resultOf_45 : decode cX2_resultOf 45 = .ok (.getfield 18, 3) := by decide +kernel
theorem dX2_resultOf_48 : decode cX2_resultOf 48 = .ok (.iload 7, 2) := by decide +kernel
theorem dX2_resultOf_50 : decode cX2_resultOf 50 = .ok (.iaload, 1) := by decide +kernel
theorem dX2_resultOf_51 : decode cX2_resultOf 51 = .ok (.istore 6, 2) := by decide +kernel
theorem dX2_resultOf_53 : decode cX2_resultOf 53 = .ok (.goto 41, 3) := by decide +kernel
theorem dX2_resultOf_56 : decode cX2_resultOf 56 = .ok (.aload_n 0, 1) := by decide +kernel
theorem dX2_resultOf_57 : decode cX2_resultOf 57 = .ok (.getfield 9, 3) := by decide +kernel
theorem dX2_resultOf_60 : decode cX2_resultOf 60 = .ok (.iload 7, 2) := by decide +kernel
theorem dX2_resultOf_62 : decode cX2_resultOf 62 = .ok (.iaload, 1) := by decide +kernel
theorem dX2_resultOf_63 : decode cX2_resultOf 63 = .ok (.iconst 2, 1) := by decide +kernel
theorem dX2_resultOf_64 : decode cX2_resultOf 64 = .ok (.if_icmp .ne 19, 3) := by decide +kernel
theorem dX2_resultOf_67 : decode cX2_resultOf 67 = .ok (.iload 4, 2) := by decide +kernel
theorem dX2_resultOf_69 : decode cX2_resultOf 69 = .ok (.aload_n 0, 1) := by decide +kernel
theorem dX2_resultOf_70 : decode cX2_resultOf 70 = .ok (.iload 7, 2) := by decide +kernel
theorem dX2_resultOf_72 : decode cX2_resultOf 72 = .ok (.aload_n 1, 1) := by decide +kernel
theorem dX2_resultOf_73 : decode cX2_resultOf 73 = .ok (.iload_n 2, 1) := by decide +kernel
theorem dX2_resultOf_74 : decode cX2_resultOf 74 = .ok (.invokevirtual 109, 3) := by decide +kernel
theorem dX2_resultOf_77 : decode cX2_resultOf 77 = .ok (.iadd, 1) := by decide +kernel
theorem dX2_resultOf_78 : decode cX2_resultOf 78 = .ok (.istore 4, 2) := by decide +kernel
theorem dX2_resultOf_80 : decode cX2_resultOf 80 = .ok (.goto 14, 3) := by decide +kernel
theorem dX2_resultOf_83 : decode cX2_resultOf 83 = .ok (.iload_n 3, 1) := by decide +kernel
theorem dX2_resultOf_84 : decode cX2_resultOf 84 = .ok (.aload_n 0, 1) := by decide +kernel
theorem dX2_resultOf_85 : decode cX2_resultOf 85 = .ok (.iload 7, 2) := by decide +kernel
theorem dX2_resultOf_87 : decode cX2_resultOf 87 = .ok (.aload_n 1, 1) := by decide +kernel
theorem dX2_resultOf_88 : decode cX2_resultOf 88 = .ok (.iload_n 2, 1) := by decide +kernel
theorem dX2_resultOf_89 : decode cX2_resultOf 89 = .ok (.invokevirtual 109, 3) := by decide +kernel
theorem dX2_resultOf_92 : decode cX2_resultOf 92 = .ok (.iadd, 1) := by decide +kernel
theorem dX2_resultOf_93 : decode cX2_resultOf 93 = .ok (.istore_n 3, 1) := by decide +kernel
theorem dX2_resultOf_94 : decode cX2_resultOf 94 = .ok (.iinc 7 1, 3) := by decide +kernel
theorem dX2_resultOf_97 : decode cX2_resultOf 97 = .ok (.goto (-82), 3) := by decide +kernel
theorem dX2_resultOf_100 : decode cX2_resultOf 100 = .ok (.aload_n 1, 1) := by decide +kernel
theorem dX2_resultOf_101 : decode cX2_resultOf 101 = .ok (.getfield 113, 3) := by decide +kernel
theorem dX2_resultOf_104 : decode cX2_resultOf 104 = .ok (.iload_n 2, 1) := by decide +kernel
theorem dX2_resultOf_105 : decode cX2_resultOf 105 = .ok (.iaload, 1) := by decide +kernel
theorem dX2_resultOf_106 : decode cX2_resultOf 106 = .ok (.aload_n 1, 1) := by decide +kernel
theorem dX2_resultOf_107 : decode cX2_resultOf 107 = .ok (.getfield 116, 3) := by decide +kernel
theorem dX2_resultOf_110 : decode cX2_resultOf 110 = .ok (.isub, 1) := by decide +kernel
theorem dX2_resultOf_111 : decode cX2_resultOf 111 = .ok (.iload 5, 2) := by decide +kernel
theorem dX2_resultOf_113 : decode cX2_resultOf 113 = .ok (.iload_n 3, 1) := by decide +kernel
theorem dX2_resultOf_114 : decode cX2_resultOf 114 = .ok (.imul, 1) := by decide +kernel
theorem dX2_resultOf_115 : decode cX2_resultOf 115 = .ok (.iadd, 1) := by decide +kernel
theorem dX2_resultOf_116 : decode cX2_resultOf 116 = .ok (.iload 6, 2) := by decide +kernel
theorem dX2_resultOf_118 : decode cX2_resultOf 118 = .ok (.iload 4, 2) := by decide +kernel
theorem dX2_resultOf_120 : decode cX2_resultOf 120 = .ok (.imul, 1) := by decide +kernel
theorem dX2_resultOf_121 : decode cX2_resultOf 121 = .ok (.iadd, 1) := by decide +kernel
theorem dX2_resultOf_122 : decode cX2_resultOf 122 = .ok (.ireturn, 1) := by decide +kernel
theorem dX3_valueOf_0 : decode cX3_valueOf 0 = .ok (.iload_n 0, 1) := by decide +kernel
theorem dX3_valueOf_1 : decode cX3_valueOf 1 = .ok (.tableswitch 151 0 10 #[59, 64, 69, 77, 85, 94, 99, 107, 121, 129, 146], 59) := by decide +kernel
theorem dX3_valueOf_60 : decode cX3_valueOf 60 = .ok (.aload_n 1, 1) := by decide +kernel
theorem dX3_valueOf_61 : decode cX3_valueOf 61 = .ok (.getfield 9, 3) := by decide +kernel
theorem dX3_valueOf_64 : decode cX3_valueOf 64 = .ok (.ireturn, 1) := by decide +kernel
theorem dX3_valueOf_65 : decode cX3_valueOf 65 = .ok (.aload_n 1, 1) := by decide +kernel
theorem dX3_valueOf_66 : decode cX3_valueOf 66 = .ok (.getfield 15, 3) := by decide +kernel
theorem dX3_valueOf_69 : decode cX3_valueOf 69 = .ok (.ireturn, 1) := by decide +kernel
theorem dX3_valueOf_70 : decode cX3_valueOf 70 = .ok (.aload_n 1, 1) := by decide +kernel
theorem dX3_valueOf_71 : decode cX3_valueOf 71 = .ok (.getfield 18, 3) := by decide +kernel
theorem dX3_valueOf_74 : decode cX3_valueOf 74 = .ok (.invokevirtual 22, 3) := by decide +kernel
theorem dX3_valueOf_77 : decode cX3_valueOf 77 = .ok (.ireturn, 1) := by decide +kernel
theorem dX3_valueOf_78 : decode cX3_valueOf 78 = .ok (.aload_n 1, 1) := by decide +kernel
theorem dX3_valueOf_79 : decode cX3_valueOf 79 = .ok (.getfield 18, 3) := by decide +kernel
theorem dX3_valueOf_82 : decode cX3_valueOf 82 = .ok (.invokevirtual 28, 3) := by decide +kernel
theorem dX3_valueOf_85 : decode cX3_valueOf 85 = .ok (.ireturn, 1) := by decide +kernel
theorem dX3_valueOf_86 : decode cX3_valueOf 86 = .ok (.aload_n 2, 1) := by decide +kernel
theorem dX3_valueOf_87 : decode cX3_valueOf 87 = .ok (.iload_n 3, 1) := by decide +kernel
theorem dX3_valueOf_88 : decode cX3_valueOf 88 = .ok (.invokevirtual 31, 3) := by decide +kernel
theorem dX3_valueOf_91 : decode cX3_valueOf 91 = .ok (.bipush 100, 2) := by decide +kernel
theorem dX3_valueOf_93 : decode cX3_valueOf 93 = .ok (.iadd, 1) := by decide +kernel
theorem dX3_valueOf_94 : decode cX3_valueOf 94 = .ok (.ireturn, 1) := by decide +kernel
theorem dX3_valueOf_95 : decode cX3_valueOf 95 = .ok (.aload_n 1, 1) := by decide +kernel
theorem dX3_valueOf_96 : decode cX3_valueOf 96 = .ok (.getfield 37, 3) := by decide +kernel
theorem dX3_valueOf_99 : decode cX3_valueOf 99 = .ok (.ireturn, 1) := by decide +kernel
theorem dX3_valueOf_100 : decode cX3_valueOf 100 = .ok (.aload_n 1, 1) := by decide +kernel
theorem dX3_valueOf_101 : decode cX3_valueOf 101 = .ok (.getfield 18, 3) := by decide +kernel
theorem dX3_valueOf_104 : decode cX3_valueOf 104 = .ok (.getfield 40, 3) := by decide +kernel
theorem dX3_valueOf_107 : decode cX3_valueOf 107 = .ok (.ireturn, 1) := by decide +kernel
theorem dX3_valueOf_108 : decode cX3_valueOf 108 = .ok (.aload_n 2, 1) := by decide +kernel
theorem dX3_valueOf_109 : decode cX3_valueOf 109 = .ok (.aload_n 1, 1) := by decide +kernel
theorem dX3_valueOf_110 : decode cX3_valueOf 110 = .ok (.getfield 43, 3) := by decide +kernel
theorem dX3_valueOf_113 : decode cX3_valueOf 113 = .ok (.invokevirtual 46, 3) := by decide +kernel
theorem dX3_valueOf_116 : decode cX3_valueOf 116 = .ok (.aload_n 1, 1) := by decide +kernel
theorem dX3_valueOf_117 : decode cX3_valueOf 117 = .ok (.getfield 49, 3) := by decide +kernel
theorem dX3_valueOf_120 : decode cX3_valueOf 120 = .ok (.isub, 1) := by decide +kernel
theorem dX3_valueOf_121 : decode cX3_valueOf 121 = .ok (.ireturn, 1) := by decide +kernel
theorem dX3_valueOf_122 : decode cX3_valueOf 122 = .ok (.iload_n 3, 1) := by decide +kernel
theorem dX3_valueOf_123 : decode cX3_valueOf 123 = .ok (.bipush 6, 2) := by decide +kernel
theorem dX3_valueOf_125 : decode cX3_valueOf 125 = .ok (.idiv, 1) := by decide +kernel
theorem dX3_valueOf_126 : decode cX3_valueOf 126 = .ok (.bipush 24, 2) := by decide +kernel
theorem dX3_valueOf_128 : decode cX3_valueOf 128 = .ok (.irem, 1) := by decide +kernel
theorem dX3_valueOf_129 : decode cX3_valueOf 129 = .ok (.ireturn, 1) := by decide +kernel
theorem dX3_valueOf_130 : decode cX3_valueOf 130 = .ok (.aload_n 1, 1) := by decide +kernel
theorem dX3_valueOf_131 : decode cX3_valueOf 131 = .ok (.getfield 49, 3) := by decide +kernel
theorem dX3_valueOf_134 : decode cX3_valueOf 134 = .ok (.ifCond .ne 10, 3) := by decide +kernel
theorem dX3_valueOf_137 : decode cX3_valueOf 137 = .ok (.aload_n 1, 1) := by decide +kernel
theorem dX3_valueOf_138 : decode cX3_valueOf 138 = .ok (.getfield 43, 3) := by decide +kernel
theorem dX3_valueOf_141 : decode cX3_valueOf 141 = .ok (.goto 5, 3) := by decide +kernel
theorem dX3_valueOf_144 : decode cX3_valueOf 144 = .ok (.bipush 99, 2) := by decide +kernel
theorem dX3_valueOf_146 : decode cX3_valueOf 146 = .ok (.ireturn, 1) := by decide +kernel
theorem dX3_valueOf_147 : decode cX3_valueOf 147 = .ok (.aload_n 1, 1) := by decide +kernel
theorem dX3_valueOf_148 : decode cX3_valueOf 148 = .ok (.invokevirtual 52, 3) := by decide +kernel
theorem dX3_valueOf_151 : decode cX3_valueOf 151 = .ok (.ireturn, 1) := by decide +kernel
theorem dX3_valueOf_152 : decode cX3_valueOf 152 = .ok (.iconst 0, 1) := by decide +kernel
theorem dX3_valueOf_153 : decode cX3_valueOf 153 = .ok (.ireturn, 1) := by decide +kernel
theorem dX4_init_0 : decode cX4_init 0 = .ok (.aload_n 0, 1) := by decide +kernel
theorem dX4_init_1 : decode cX4_init 1 = .ok (.invokespecial 3, 3) := by decide +kernel
theorem dX4_init_4 : decode cX4_init 4 = .ok (.aload_n 0, 1) := by decide +kernel
theorem dX4_init_5 : decode cX4_init 5 = .ok (.bipush 12, 2) := by decide +kernel
theorem dX4_init_7 : decode cX4_init 7 = .ok (.newarray .int, 2) := by decide +kernel
theorem dX4_init_9 : decode cX4_init 9 = .ok (.putfield 9, 3) := by decide +kernel
theorem dX4_init_12 : decode cX4_init 12 = .ok (.aload_n 0, 1) := by decide +kernel
theorem dX4_init_13 : decode cX4_init 13 = .ok (.bipush 12, 2) := by decide +kernel
theorem dX4_init_15 : decode cX4_init 15 = .ok (.newarray .int, 2) := by decide +kernel
theorem dX4_init_17 : decode cX4_init 17 = .ok (.putfield 15, 3) := by decide +kernel
theorem dX4_init_20 : decode cX4_init 20 = .ok (.aload_n 0, 1) := by decide +kernel
theorem dX4_init_21 : decode cX4_init 21 = .ok (.bipush 12, 2) := by decide +kernel
theorem dX4_init_23 : decode cX4_init 23 = .ok (.newarray .int, 2) := by decide +kernel
theorem dX4_init_25 : decode cX4_init 25 = .ok (.putfield 18, 3) := by decide +kernel
theorem dX4_init_28 : decode cX4_init 28 = .ok (.aload_n 0, 1) := by decide +kernel
theorem dX4_init_29 : decode cX4_init 29 = .ok (.bipush 48, 2) := by decide +kernel
theorem dX4_init_31 : decode cX4_init 31 = .ok (.newarray .int, 2) := by decide +kernel
theorem dX4_init_33 : decode cX4_init 33 = .ok (.putfield 21, 3) := by decide +kernel
theorem dX4_init_36 : decode cX4_init 36 = .ok (.aload_n 0, 1) := by decide +kernel
theorem dX4_init_37 : decode cX4_init 37 = .ok (.bipush 48, 2) := by decide +kernel
theorem dX4_init_39 : decode cX4_init 39 = .ok (.newarray .int, 2) := by decide +kernel
theorem dX4_init_41 : decode cX4_init 41 = .ok (.putfield 24, 3) := by decide +kernel
theorem dX4_init_44 : decode cX4_init 44 = .ok (.aload_n 0, 1) := by decide +kernel
theorem dX4_init_45 : decode cX4_init 45 = .ok (.bipush 48, 2) := by decide +kernel
theorem dX4_init_47 : decode cX4_init 47 = .ok (.newarray .boolean, 2) := by decide +kernel
theorem dX4_init_49 : decode cX4_init 49 = .ok (.putfield 27, 3) := by decide +kernel
theorem dX4_init_52 : decode cX4_init 52 = .ok (.aload_n 0, 1) := by decide +kernel
theorem dX4_init_53 : decode cX4_init 53 = .ok (.iconst 0, 1) := by decide +kernel
theorem dX4_init_54 : decode cX4_init 54 = .ok (.putfield 31, 3) := by decide +kernel
theorem dX4_init_57 : decode cX4_init 57 = .ok (.aload_n 0, 1) := by decide +kernel
theorem dX4_init_58 : decode cX4_init 58 = .ok (.iconst 0, 1) := by decide +kernel
theorem dX4_init_59 : decode cX4_init 59 = .ok (.putfield 35, 3) := by decide +kernel
theorem dX4_init_62 : decode cX4_init 62 = .ok (.return_, 1) := by decide +kernel
theorem dX4_readFrom_0 : decode cX4_readFrom 0 = .ok (.aload_n 0, 1) := by decide +kernel
theorem dX4_readFrom_1 : decode cX4_readFrom 1 = .ok (.iconst 0, 1) := by decide +kernel
theorem dX4_readFrom_2 : decode cX4_readFrom 2 = .ok (.putfield 31, 3) := by decide +kernel
theorem dX4_readFrom_5 : decode cX4_readFrom 5 = .ok (.aload_n 0, 1) := by decide +kernel
theorem dX4_readFrom_6 : decode cX4_readFrom 6 = .ok (.iconst 0, 1) := by decide +kernel
theorem dX4_readFrom_7 : decode cX4_readFrom 7 = .ok (.putfield 35, 3) := by decide +kernel
theorem dX4_readFrom_10 : decode cX4_readFrom 10 = .ok (.iconst 0, 1) := by decide +kernel
theorem dX4_readFrom_11 : decode cX4_readFrom 11 = .ok (.istore_n 2, 1) := by decide +kernel
theorem dX4_readFrom_12 : decode cX4_readFrom 12 = .ok (.iload_n 2, 1) := by decide +kernel
theorem dX4_readFrom_13 : decode cX4_readFrom 13 = .ok (.bipush 12, 2) := by decide +kernel
theorem dX4_readFrom_15 : decode cX4_readFrom 15 = .ok (.if_icmp .gt 37, 3) := by decide +kernel
theorem dX4_readFrom_18 : decode cX4_readFrom 18 = .ok (.aload_n 0, 1) := by decide +kernel
theorem dX4_readFrom_19 : decode cX4_readFrom 19 = .ok (.aload_n 1, 1) := by decide +kernel
theorem dX4_readFrom_20 : decode cX4_readFrom 20 = .ok (.invokevirtual 38, 3) := by decide +kernel
theorem dX4_readFrom_23 : decode cX4_readFrom 23 = .ok (.ifCond .ne 5, 3) := by decide +kernel
theorem dX4_readFrom_26 : decode cX4_readFrom 26 = .ok (.iconst 0, 1) := by decide +kernel
theorem dX4_readFrom_27 : decode cX4_readFrom 27 = .ok (.ireturn, 1) := by decide +kernel
theorem dX4_readFrom_28 : decode cX4_readFrom 28 = .ok (.aload_n 1, 1) := by decide +kernel
theorem dX4_readFrom_29 : decode cX4_readFrom 29 = .ok (.getfield 42, 3) := by decide +kernel
theorem dX4_readFrom_32 : decode cX4_readFrom 32 = .ok (.ifCond .ne 5, 3) := by decide +kernel
theorem dX4_readFrom_35 : decode cX4_readFrom 35 = .ok (.iconst 1, 1) := by decide +kernel
theorem dX4_readFrom_36 : decode cX4_readFrom 36 = .ok (.ireturn, 1) := by decide +kernel
theorem dX4_readFrom_37 : decode cX4_readFrom 37 = .ok (.aload_n 1, 1) := by decide +kernel
theorem dX4_readFrom_38 : decode cX4_readFrom 38 = .ok (.invokevirtual 47, 3) := by decide +kernel
theorem dX4_readFrom_41 : decode cX4_readFrom 41 = .ok (.ifCond .ne 5, 3) := by decide +kernel
theorem dX4_readFrom_44 : decode cX4_readFrom 44 = .ok (.iconst 0, 1) := by decide +kernel
theorem dX4_readFrom_45 : decode cX4_readFrom 45 = .ok (.ireturn, 1) := by decide +kernel
theorem dX4_readFrom_46 : decode cX4_readFrom 46 = .ok (.iinc 2 1, 3) := by decide +kernel
theorem dX4_readFrom_49 : decode cX4_readFrom 49 = .ok (.goto (-37), 3) := by decide +kernel
theorem dX4_readFrom_52 : decode cX4_readFrom 52 = .ok (.aload_n 1, 1) := by decide +kernel
theorem dX4_readFrom_53 : decode cX4_readFrom 53 = .ok (.iconst 3, 1) := by decide +kernel
theorem dX4_readFrom_54 : decode cX4_readFrom 54 = .ok (.invokevirtual 51, 3) := by decide +kernel
theorem dX4_readFrom_57 : decode cX4_readFrom 57 = .ok (.ireturn, 1) := by decide +kernel
theorem dX4_readRule_0 : decode cX4_readRule 0 = .ok (.aload_n 1, 1) := by decide +kernel
theorem dX4_readRule_1 : decode cX4_readRule 1 = .ok (.ldc 55, 2) := by decide +kernel
theorem dX4_readRule_3 : decode cX4_readRule 3 = .ok (.invokevirtual 57, 3) := by decide +kernel
theorem dX4_readRule_6 : decode cX4_readRule 6 = .ok (.istore_n 2, 1) := by decide +kernel
theorem dX4_readRule_7 : decode cX4_readRule 7 = .ok (.iload_n 2, 1) := by decide +kernel
theorem dX4_readRule_8 : decode cX4_readRule 8 = .ok (.ifCond .ne 17, 3) := by decide +kernel
theorem dX4_readRule_11 : decode cX4_readRule 11 = .ok (.aload_n 1, 1) := by decide +kernel
theorem dX4_readRule_12 : decode cX4_readRule 12 = .ok (.invokestatic 61, 3) := by decide +kernel
theorem dX4_readRule_15 : decode cX4_readRule 15 = .ok (.iconst (-1), 1) := by decide +kernel
theorem dX4_readRule_16 : decode cX4_readRule 16 = .ok (.if_icmp .ne 9, 3) := by decide +kernel
theorem dX4_readRule_19 : decode cX4_readRule 19 = .ok (.aload_n 1, 1) := by decide +kernel
theorem dX4_readRule_20 : decode cX4_readRule 20 = .ok (.iconst 1, 1) := by decide +kernel
theorem dX4_readRule_21 : decode cX4_readRule 21 = .ok (.invokevirtual 51, 3) := by decide +kernel
theorem dX4_readRule_24 : decode cX4_readRule 24 = .ok (.ireturn, 1) := by decide +kernel
theorem dX4_readRule_25 : decode cX4_readRule 25 = .ok (.aload_n 0, 1) := by decide +kernel
theorem dX4_readRule_26 : decode cX4_readRule 26 = .ok (.getfield 31, 3) := by decide +kernel
theorem dX4_readRule_29 : decode cX4_readRule 29 = .ok (.bipush 12, 2) := by decide +kernel
theorem dX4_readRule_31 : decode cX4_readRule 31 = .ok (.if_icmp .lt 9, 3) := by decide +kernel
theorem dX4_readRule_34 : decode cX4_readRule 34 = .ok (.aload_n 1, 1) := by decide +kernel
theorem dX4_readRule_35 : decode cX4_readRule 35 = .ok (.iconst 3, 1) := by decide +kernel
theorem dX4_readRule_36 : decode cX4_readRule 36 = .ok (.invokevirtual 51, 3) := by decide +kernel
theorem dX4_readRule_39 : decode cX4_readRule 39 = .ok (.ireturn, 1) := by decide +kernel
theorem dX4_readRule_40 : decode cX4_readRule 40 = .ok (.aload_n 0, 1) := by decide +kernel
theorem dX4_readRule_41 : decode cX4_readRule 41 = .ok (.getfield 15, 3) := by decide +kernel
theorem dX4_readRule_44 : decode cX4_readRule 44 = .ok (.aload_n 0, 1) := by decide +kernel
theorem dX4_readRule_45 : decode cX4_readRule 45 = .ok (.getfield 31, 3) := by decide +kernel
theorem dX4_readRule_48 : decode cX4_readRule 48 = .ok (.aload_n 0, 1) := by decide +kernel
theorem dX4_readRule_49 : decode cX4_readRule 49 = .ok (.getfield 35, 3) := by decide +kernel
theorem dX4_readRule_52 : decode cX4_readRule 52 = .ok (.iastore, 1) := by decide +kernel
theorem dX4_readRule_53 : decode cX4_readRule 53 = .ok (.iload_n 2, 1) := by decide +kernel
theorem dX4_readRule_54 : decode cX4_readRule 54 = .ok (.ifCond .eq 13, 3) := by decide +kernel
theorem dX4_readRule_57 : decode cX4_readRule 57 = .ok (.aload_n 0, 1) := by decide +kernel
theorem dX4_readRule_58 : decode cX4_readRule 58 = .ok (.aload_n 1, 1) := by decide +kernel
theorem dX4_readRule_59 : decode cX4_readRule 59 = .ok (.invokevirtual 65, 3) := by decide +kernel
theorem dX4_readRule_62 : decode cX4_readRule 62 = .ok (.ifCond .ne 5, 3) := by decide +kernel
theorem dX4_readRule_65 : decode cX4_readRule 65 = .ok (.iconst 0, 1) := by decide +kernel
theorem dX4_readRule_66 : decode cX4_readRule 66 = .ok (.ireturn, 1) := by decide +kernel
theorem dX4_readRule_67 : decode cX4_readRule 67 = .ok (.aload_n 1, 1) := by decide +kernel
theorem dX4_readRule_68 : decode cX4_readRule 68 = .ok (.invokestatic 61, 3) := by decide +kernel
theorem dX4_readRule_71 : decode cX4_readRule 71 = .ok (.istore_n 3, 1) := by decide +kernel
theorem dX4_readRule_72 : decode cX4_readRule 72 = .ok (.iload_n 3, 1) := by decide +kernel
theorem dX4_readRule_73 : decode cX4_readRule 73 = .ok (.iconst (-1), 1) := by decide +kernel
theorem dX4_readRule_74 : decode cX4_readRule 74 = .ok (.if_icmp .ne 9, 3) := by decide +kernel
theorem dX4_readRule_77 : decode cX4_readRule 77 = .ok (.aload_n 1, 1) := by decide +kernel
theorem dX4_readRule_78 : decode cX4_readRule 78 = .ok (.iconst 1, 1) := by decide +kernel
theorem dX4_readRule_79 : decode cX4_readRule 79 = .ok (.invokevirtual 51, 3) := by decide +kernel
theorem dX4_readRule_82 : decode cX4_readRule 82 = .ok (.ireturn, 1) := by decide +kernel
theorem dX4_readRule_83 : decode cX4_readRule 83 = .ok (.aload_n 1, 1) := by decide +kernel
theorem dX4_readRule_84 : decode cX4_readRule 84 = .ok (.invokevirtual 68, 3) := by decide +kernel
theorem dX4_readRule_87 : decode cX4_readRule 87 = .ok (.aload_n 0, 1) := by decide +kernel
theorem dX4_readRule_88 : decode cX4_readRule 88 = .ok (.getfield 9, 3) := by decide +kernel
theorem dX4_readRule_91 : decode cX4_readRule 91 = .ok (.aload_n 0, 1) := by decide +kernel
theorem dX4_readRule_92 : decode cX4_readRule 92 = .ok (.getfield 31, 3) := by decide +kernel
theorem dX4_readRule_95 : decode cX4_readRule 95 = .ok (.iload_n 3, 1) := by decide +kernel
theorem dX4_readRule_96 : decode cX4_readRule 96 = .ok (.iastore, 1) := by decide +kernel
theorem dX4_readRule_97 : decode cX4_readRule 97 = .ok (.aload_n 0, 1) := by decide +kernel
theorem dX4_readRule_98 : decode cX4_readRule 98 = .ok (.getfield 18, 3) := by decide +kernel
theorem dX4_readRule_101 : decode cX4_readRule 101 = .ok (.aload_n 0, 1) := by decide +kernel
theorem dX4_readRule_102 : decode cX4_readRule 102 = .ok (.getfield 31, 3) := by decide +kernel
theorem dX4_readRule_105 : decode cX4_readRule 105 = .ok (.aload_n 0, 1) := by decide +kernel
theorem dX4_readRule_106 : decode cX4_readRule 106 = .ok (.getfield 35, 3) := by decide +kernel
theorem dX4_readRule_109 : decode cX4_readRule 109 = .ok (.aload_n 0, 1) := by decide +kernel
theorem dX4_readRule_110 : decode cX4_readRule 110 = .ok (.getfield 15, 3) := by decide +kernel
theorem dX4_readRule_113 : decode cX4_readRule 113 = .ok (.aload_n 0, 1) := by decide +kernel
theorem dX4_readRule_114 : decode cX4_readRule 114 = .ok (.getfield 31, 3) := by decide +kernel
theorem dX4_readRule_117 : decode cX4_readRule 117 = .ok (.iaload, 1) := by decide +kernel
theorem dX4_readRule_118 : decode cX4_readRule 118 = .ok (.isub, 1) := by decide +kernel
theorem dX4_readRule_119 : decode cX4_readRule 119 = .ok (.iastore, 1) := by decide +kernel
theorem dX4_readRule_120 : decode cX4_readRule 120 = .ok (.aload_n 0, 1) := by decide +kernel
theorem dX4_readRule_121 : decode cX4_readRule 121 = .ok (.dup, 1) := by decide +kernel
theorem dX4_readRule_122 : decode cX4_readRule 122 = .ok (.getfield 31, 3) := by decide +kernel
theorem dX4_readRule_125 : decode cX4_readRule 125 = .ok (.iconst 1, 1) := by decide +kernel
theorem dX4_readRule_126 : decode cX4_readRule 126 = .ok (.iadd, 1) := by decide +kernel
theorem dX4_readRule_127 : decode cX4_readRule 127 = .ok (.putfield 31, 3) := by decide +kernel
theorem dX4_readRule_130 : decode cX4_readRule 130 = .ok (.iconst 1, 1) := by decide +kernel
theorem dX4_readRule_131 : decode cX4_readRule 131 = .ok (.ireturn, 1) := by decide +kernel
theorem dX4_readTests_0 : decode cX4_readTests 0 = .ok (.iconst 1, 1) := by decide +kernel
theorem dX4_readTests_1 : decode cX4_readTests 1 = .ok (.istore_n 2, 1) := by decide +kernel
theorem dX4_readTests_2 : decode cX4_readTests 2 = .ok (.iconst 0, 1) := by decide +kernel
theorem dX4_readTests_3 : decode cX4_readTests 3 = .ok (.istore_n 3, 1) := by decide +kernel
theorem dX4_readTests_4 : decode cX4_readTests 4 = .ok (.iload_n 3, 1) := by decide +kernel
theorem dX4_readTests_5 : decode cX4_readTests 5 = .ok (.iconst 4, 1) := by decide +kernel
theorem dX4_readTests_6 : decode cX4_readTests 6 = .ok (.if_icmp .gt 35, 3) := by decide +kernel
theorem dX4_readTests_9 : decode cX4_readTests 9 = .ok (.iload_n 2, 1) := by decide +kernel
theorem dX4_readTests_10 : decode cX4_readTests 10 = .ok (.ifCond .eq 31, 3) := by decide +kernel
theorem dX4_readTests_13 : decode cX4_readTests 13 = .ok (.aload_n 1, 1) := by decide +kernel
theorem dX4_readTests_14 : decode cX4_readTests 14 = .ok (.invokevirtual 68, 3) := by decide +kernel
theorem dX4_readTests_17 : decode cX4_readTests 17 = .ok (.aload_n 0, 1) := by decide +kernel
theorem dX4_readTests_18 : decode cX4_readTests 18 = .ok (.aload_n 1, 1) := by decide +kernel
theorem dX4_readTests_19 : decode cX4_readTests 19 = .ok (.iload_n 3, 1) := by decide +kernel
theorem dX4_readTests_20 : decode cX4_readTests 20 = .ok (.invokevirtual 71, 3) := by decide +kernel
theorem dX4_readTests_23 : decode cX4_readTests 23 = .ok (.ifCond .ne 5, 3) := by decide +kernel
theorem dX4_readTests_26 : decode cX4_readTests 26 = .ok (.iconst 0, 1) := by decide +kernel
theorem dX4_readTests_27 : decode cX4_readTests 27 = .ok (.ireturn, 1) := by decide +kernel
theorem dX4_readTests_28 : decode cX4_readTests 28 = .ok (.aload_n 1, 1) := by decide +kernel
theorem dX4_readTests_29 : decode cX4_readTests 29 = .ok (.ldc 75, 2) := by decide +kernel
theorem dX4_readTests_31 : decode cX4_readTests 31 = .ok (.invokevirtual 57, 3) := by decide +kernel
theorem dX4_readTests_34 : decode cX4_readTests 34 = .ok (.istore_n 2, 1) := by decide +kernel
theorem dX4_readTests_35 : decode cX4_readTests 35 = .ok (.iinc 3 1, 3) := by decide +kernel
theorem dX4_readTests_38 : decode cX4_readTests 38 = .ok (.goto (-34), 3) := by decide +kernel
theorem dX4_readTests_41 : decode cX4_readTests 41 = .ok (.iconst 1, 1) := by decide +kernel
theorem dX4_readTests_42 : decode cX4_readTests 42 = .ok (.ireturn, 1) := by decide +kernel
theorem dX4_readTest_0 : decode cX4_readTest 0 = .ok (.aload_n 1, 1) := by decide +kernel
theorem dX4_readTest_1 : decode cX4_readTest 1 = .ok (.invokestatic 77, 3) := by decide +kernel
theorem dX4_readTest_4 : decode cX4_readTest 4 = .ok (.istore_n 3, 1) := by decide +kernel
theorem dX4_readTest_5 : decode cX4_readTest 5 = .ok (.iload_n 3, 1) := by decide +kernel
theorem dX4_readTest_6 : decode cX4_readTest 6 = .ok (.iconst (-1), 1) := by decide +kernel
theorem dX4_readTest_7 : decode cX4_readTest 7 = .ok (.if_icmp .ne 59, 3) := by decide +kernel
theorem dX4_readTest_10 : decode cX4_readTest 10 = .ok (.aload_n 1, 1) := by decide +kernel
theorem dX4_readTest_11 : decode cX4_readTest 11 = .ok (.ldc 55, 2) := by decide +kernel
theorem dX4_readTest_13 : decode cX4_readTest 13 = .ok (.invokevirtual 57, 3) := by decide +kernel
theorem dX4_readTest_16 : decode cX4_readTest 16 = .ok (.ifCond .ne 20, 3) := by decide +kernel
theorem dX4_readTest_19 : decode cX4_readTest 19 = .ok (.aload_n 1, 1) := by decide +kernel
theorem dX4_readTest_20 : decode cX4_readTest 20 = .ok (.ldc 75, 2) := by decide +kernel
theorem dX4_readTest_22 : decode cX4_readTest 22 = .ok (.invokevirtual 57, 3) := by decide +kernel
theorem dX4_readTest_25 : decode cX4_readTest 25 = .ok (.ifCond .ne 11, 3) := by decide +kernel
theorem dX4_readTest_28 : decode cX4_readTest 28 = .ok (.aload_n 1, 1) := by decide +kernel
theorem dX4_readTest_29 : decode cX4_readTest 29 = .ok (.invokestatic 61, 3) := by decide +kernel
theorem dX4_readTest_32 : decode cX4_readTest 32 = .ok (.iconst (-1), 1) := by decide +kernel
theorem dX4_readTest_33 : decode cX4_readTest 33 = .ok (.if_icmp .eq 7, 3) := by decide +kernel
theorem dX4_readTest_36 : decode cX4_readTest 36 = .ok (.iconst 1, 1) := by decide +kernel
theorem dX4_readTest_37 : decode cX4_readTest 37 = .ok (.goto 4, 3) := by decide +kernel
theorem dX4_readTest_40 : decode cX4_readTest 40 = .ok (.iconst 0, 1) := by decide +kernel
theorem dX4_readTest_41 : decode cX4_readTest 41 = .ok (.istore 4, 2) := by decide +kernel
theorem dX4_readTest_43 : decode cX4_readTest 43 = .ok (.aload_n 1, 1) := by decide +kernel
theorem dX4_readTest_44 : decode cX4_readTest 44 = .ok (.aload_n 1, 1) := by decide +kernel
theorem dX4_readTest_45 : decode cX4_readTest 45 = .ok (.getfield 42, 3) := by decide +kernel
theorem dX4_readTest_48 : decode cX4_readTest 48 = .ok (.iconst 1, 1) := by decide +kernel
theorem dX4_readTest_49 : decode cX4_readTest 49 = .ok (.if_icmp .ne 12, 3) := by decide +kernel
theorem dX4_readTest_52 : decode cX4_readTest 52 = .ok (.iload 4, 2) := by decide +kernel
theorem dX4_readTest_54 : decode cX4_readTest 54 = .ok (.ifCond .ne 7, 3) := by decide +kernel
theorem dX4_readTest_57 : decode cX4_readTest 57 = .ok (.iconst 2, 1) := by decide +kernel
theorem dX4_readTest_58 : decode cX4_readTest 58 = .ok (.goto 4, 3) := by decide +kernel
theorem dX4_readTest_61 : decode cX4_readTest 61 = .ok (.iconst 1, 1) := by decide +kernel
theorem dX4_readTest_62 : decode cX4_readTest 62 = .ok (.invokevirtual 51, 3) := by decide +kernel
theorem dX4_readTest_65 : decode cX4_readTest 65 = .ok (.ireturn, 1) := by decide +kernel
theorem dX4_readTest_66 : decode cX4_readTest 66 = .ok (.iload_n 2, 1) := by decide +kernel
theorem dX4_readTest_67 : decode cX4_readTest 67 = .ok (.iconst 4, 1) := by decide +kernel
theorem dX4_readTest_68 : decode cX4_readTest 68 = .ok (.if_icmp .ge 15, 3) := by decide +kernel
theorem dX4_readTest_71 : decode cX4_readTest 71 = .ok (.aload_n 0, 1) := by decide +kernel
theorem dX4_readTest_72 : decode cX4_readTest 72 = .ok (.getfield 35, 3) := by decide +kernel
theorem dX4_readTest_75 : decode cX4_readTest 75 = .ok (.aload_n 0, 1) := by decide +kernel
theorem dX4_readTest_76 : decode cX4_readTest 76 = .ok (.getfield 21, 3) := by decide +kernel
theorem dX4_readTest_79 : decode cX4_readTest 79 = .ok (.arraylength, 1) := by decide +kernel
theorem dX4_readTest_80 : decode cX4_readTest 80 = .ok (.if_icmp .lt 9, 3) := by decide +kernel
theorem dX4_readTest_83 : decode cX4_readTest 83 = .ok (.aload_n 1, 1) := by decide +kernel
theorem dX4_readTest_84 : decode cX4_readTest 84 = .ok (.iconst 3, 1) := by decide +kernel
theorem dX4_readTest_85 : decode cX4_readTest 85 = .ok (.invokevirtual 51, 3) := by decide +kernel
theorem dX4_readTest_88 : decode cX4_readTest 88 = .ok (.ireturn, 1) := by decide +kernel
theorem dX4_readTest_89 : decode cX4_readTest 89 = .ok (.aload_n 1, 1) := by decide +kernel
theorem dX4_readTest_90 : decode cX4_readTest 90 = .ok (.invokevirtual 68, 3) := by decide +kernel
theorem dX4_readTest_93 : decode cX4_readTest 93 = .ok (.aload_n 1, 1) := by decide +kernel
theorem dX4_readTest_94 : decode cX4_readTest 94 = .ok (.getfield 42, 3) := by decide +kernel
theorem dX4_readTest_97 : decode cX4_readTest 97 = .ok (.iconst 3, 1) := by decide +kernel
theorem dX4_readTest_98 : decode cX4_readTest 98 = .ok (.if_icmp .eq 17, 3) := by decide +kernel
theorem dX4_readTest_101 : decode cX4_readTest 101 = .ok (.aload_n 1, 1) := by decide +kernel
theorem dX4_readTest_102 : decode cX4_readTest 102 = .ok (.getfield 42, 3) := by decide +kernel
theorem dX4_readTest_105 : decode cX4_readTest 105 = .ok (.iconst 4, 1) := by decide +kernel
theorem dX4_readTest_106 : decode cX4_readTest 106 = .ok (.if_icmp .eq 9, 3) := by decide +kernel
theorem dX4_readTest_109 : decode cX4_readTest 109 = .ok (.aload_n 1, 1) := by decide +kernel
theorem dX4_readTest_110 : decode cX4_readTest 110 = .ok (.iconst 1, 1) := by decide +kernel
theorem dX4_readTest_111 : decode cX4_readTest 111 = .ok (.invokevirtual 51, 3) := by decide +kernel
theorem dX4_readTest_114 : decode cX4_readTest 114 = .ok (.ireturn, 1) := by decide +kernel
theorem dX4_readTest_115 : decode cX4_readTest 115 = .ok (.aload_n 0, 1) := by decide +kernel
theorem dX4_readTest_116 : decode cX4_readTest 116 = .ok (.getfield 21, 3) := by decide +kernel
theorem dX4_readTest_119 : decode cX4_readTest 119 = .ok (.aload_n 0, 1) := by decide +kernel
theorem dX4_readTest_120 : decode cX4_readTest 120 = .ok (.getfield 35, 3) := by decide +kernel
theorem dX4_readTest_123 : decode cX4_readTest 123 = .ok (.iload_n 3, 1) := by decide +kernel
theorem dX4_readTest_124 : decode cX4_readTest 124 = .ok (.iastore, 1) := by decide +kernel
theorem dX4_readTest_125 : decode cX4_readTest 125 = .ok (.aload_n 0, 1) := by decide +kernel
theorem dX4_readTest_126 : decode cX4_readTest 126 = .ok (.getfield 27, 3) := by decide +kernel
theorem dX4_readTest_129 : decode cX4_readTest 129 = .ok (.aload_n 0, 1) := by decide +kernel
theorem dX4_readTest_130 : decode cX4_readTest 130 = .ok (.getfield 35, 3) := by decide +kernel
theorem dX4_readTest_133 : decode cX4_readTest 133 = .ok (.aload_n 1, 1) := by decide +kernel
theorem dX4_readTest_134 : decode cX4_readTest 134 = .ok (.getfield 42, 3) := by decide +kernel
theorem dX4_readTest_137 : decode cX4_readTest 137 = .ok (.iconst 4, 1) := by decide +kernel
theorem dX4_readTest_138 : decode cX4_readTest 138 = .ok (.if_icmp .ne 7, 3) := by decide +kernel
theorem dX4_readTest_141 : decode cX4_readTest 141 = .ok (.iconst 1, 1) := by decide +kernel
theorem dX4_readTest_142 : decode cX4_readTest 142 = .ok (.goto 4, 3) := by decide +kernel
theorem dX4_readTest_145 : decode cX4_readTest 145 = .ok (.iconst 0, 1) := by decide +kernel
theorem dX4_readTest_146 : decode cX4_readTest 146 = .ok (.bastore, 1) := by decide +kernel
theorem dX4_readTest_147 : decode cX4_readTest 147 = .ok (.aload_n 1, 1) := by decide +kernel
theorem dX4_readTest_148 : decode cX4_readTest 148 = .ok (.invokevirtual 68, 3) := by decide +kernel
theorem dX4_readTest_151 : decode cX4_readTest 151 = .ok (.aload_n 1, 1) := by decide +kernel
theorem dX4_readTest_152 : decode cX4_readTest 152 = .ok (.getfield 42, 3) := by decide +kernel
theorem dX4_readTest_155 : decode cX4_readTest 155 = .ok (.iconst 2, 1) := by decide +kernel
theorem dX4_readTest_156 : decode cX4_readTest 156 = .ok (.if_icmp .eq 9, 3) := by decide +kernel
theorem dX4_readTest_159 : decode cX4_readTest 159 = .ok (.aload_n 1, 1) := by decide +kernel
theorem dX4_readTest_160 : decode cX4_readTest 160 = .ok (.iconst 1, 1) := by decide +kernel
theorem dX4_readTest_161 : decode cX4_readTest 161 = .ok (.invokevirtual 51, 3) := by decide +kernel
theorem dX4_readTest_164 : decode cX4_readTest 164 = .ok (.ireturn, 1) := by decide +kernel
theorem dX4_readTest_165 : decode cX4_readTest 165 = .ok (.aload_n 0, 1) := by decide +kernel
theorem dX4_readTest_166 : decode cX4_readTest 166 = .ok (.getfield 24, 3) := by decide +kernel
theorem dX4_readTest_169 : decode cX4_readTest 169 = .ok (.aload_n 0, 1) := by decide +kernel
theorem dX4_readTest_170 : decode cX4_readTest 170 = .ok (.getfield 35, 3) := by decide +kernel
theorem dX4_readTest_173 : decode cX4_readTest 173 = .ok (.aload_n 1, 1) := by decide +kernel
theorem dX4_readTest_174 : decode cX4_readTest 174 = .ok (.getfield 80, 3) := by decide +kernel
theorem dX4_readTest_177 : decode cX4_readTest 177 = .ok (.iastore, 1) := by decide +kernel
theorem dX4_readTest_178 : decode cX4_readTest 178 = .ok (.aload_n 0, 1) := by decide +kernel
theorem dX4_readTest_179 : decode cX4_readTest 179 = .ok (.dup, 1) := by decide +kernel
theorem dX4_readTest_180 : decode cX4_readTest 180 = .ok (.getfield 35, 3) := by decide +kernel
theorem dX4_readTest_183 : decode cX4_readTest 183 = .ok (.iconst 1, 1) := by decide +kernel
theorem dX4_readTest_184 : decode cX4_readTest 184 = .ok (.iadd, 1) := by decide +kernel
theorem dX4_readTest_185 : decode cX4_readTest 185 = .ok (.putfield 35, 3) := by decide +kernel
theorem dX4_readTest_188 : decode cX4_readTest 188 = .ok (.aload_n 1, 1) := by decide +kernel
theorem dX4_readTest_189 : decode cX4_readTest 189 = .ok (.invokevirtual 68, 3) := by decide +kernel
theorem dX4_readTest_192 : decode cX4_readTest 192 = .ok (.iconst 1, 1) := by decide +kernel
theorem dX4_readTest_193 : decode cX4_readTest 193 = .ok (.ireturn, 1) := by decide +kernel
theorem dX4_actOf_0 : decode cX4_actOf 0 = .ok (.aload_n 0, 1) := by decide +kernel
theorem dX4_actOf_1 : decode cX4_actOf 1 = .ok (.ldc 83, 2) := by decide +kernel
theorem dX4_actOf_3 : decode cX4_actOf 3 = .ok (.invokevirtual 57, 3) := by decide +kernel
theorem dX4_actOf_6 : decode cX4_actOf 6 = .ok (.ifCond .eq 5, 3) := by decide +kernel
theorem dX4_actOf_9 : decode cX4_actOf 9 = .ok (.iconst 0, 1) := by decide +kernel
theorem dX4_actOf_10 : decode cX4_actOf 10 = .ok (.ireturn, 1) := by decide +kernel
theorem dX4_actOf_11 : decode cX4_actOf 11 = .ok (.aload_n 0, 1) := by decide +kernel
theorem dX4_actOf_12 : decode cX4_actOf 12 = .ok (.ldc 85, 2) := by decide +kernel
theorem dX4_actOf_14 : decode cX4_actOf 14 = .ok (.invokevirtual 57, 3) := by decide +kernel
theorem dX4_actOf_17 : decode cX4_actOf 17 = .ok (.ifCond .eq 5, 3) := by decide +kernel
theorem dX4_actOf_20 : decode cX4_actOf 20 = .ok (.iconst 1, 1) := by decide +kernel
theorem dX4_actOf_21 : decode cX4_actOf 21 = .ok (.ireturn, 1) := by decide +kernel
theorem dX4_actOf_22 : decode cX4_actOf 22 = .ok (.aload_n 0, 1) := by decide +kernel
theorem dX4_actOf_23 : decode cX4_actOf 23 = .ok (.ldc 87, 2) := by decide +kernel
theorem dX4_actOf_25 : decode cX4_actOf 25 = .ok (.invokevirtual 57, 3) := by decide +kernel
theorem dX4_actOf_28 : decode cX4_actOf 28 = .ok (.ifCond .eq 5, 3) := by decide +kernel
theorem dX4_actOf_31 : decode cX4_actOf 31 = .ok (.iconst 2, 1) := by decide +kernel
theorem dX4_actOf_32 : decode cX4_actOf 32 = .ok (.ireturn, 1) := by decide +kernel
theorem dX4_actOf_33 : decode cX4_actOf 33 = .ok (.aload_n 0, 1) := by decide +kernel
theorem dX4_actOf_34 : decode cX4_actOf 34 = .ok (.ldc 89, 2) := by decide +kernel
theorem dX4_actOf_36 : decode cX4_actOf 36 = .ok (.invokevirtual 57, 3) := by decide +kernel
theorem dX4_actOf_39 : decode cX4_actOf 39 = .ok (.ifCond .eq 7, 3) := by decide +kernel
theorem dX4_actOf_42 : decode cX4_actOf 42 = .ok (.iconst 3, 1) := by decide +kernel
theorem dX4_actOf_43 : decode cX4_actOf 43 = .ok (.goto 4, 3) := by decide +kernel
theorem dX4_actOf_46 : decode cX4_actOf 46 = .ok (.iconst (-1), 1) := by decide +kernel
theorem dX4_actOf_47 : decode cX4_actOf 47 = .ok (.ireturn, 1) := by decide +kernel
theorem dX4_nameOf_0 : decode cX4_nameOf 0 = .ok (.aload_n 0, 1) := by decide +kernel
theorem dX4_nameOf_1 : decode cX4_nameOf 1 = .ok (.ldc 91, 2) := by decide +kernel
theorem dX4_nameOf_3 : decode cX4_nameOf 3 = .ok (.invokevirtual 57, 3) := by decide +kernel
theorem dX4_nameOf_6 : decode cX4_nameOf 6 = .ok (.ifCond .eq 5, 3) := by decide +kernel
theorem dX4_nameOf_9 : decode cX4_nameOf 9 = .ok (.iconst 0, 1) := by decide +kernel
theorem dX4_nameOf_10 : decode cX4_nameOf 10 = .ok (.ireturn, 1) := by decide +kernel
theorem dX4_nameOf_11 : decode cX4_nameOf 11 = .ok (.aload_n 0, 1) := by decide +kernel
theorem dX4_nameOf_12 : decode cX4_nameOf 12 = .ok (.ldc 95, 2) := by decide +kernel
theorem dX4_nameOf_14 : decode cX4_nameOf 14 = .ok (.invokevirtual 57, 3) := by decide +kernel
theorem dX4_nameOf_17 : decode cX4_nameOf 17 = .ok (.ifCond .eq 5, 3) := by decide +kernel
theorem dX4_nameOf_20 : decode cX4_nameOf 20 = .ok (.iconst 1, 1) := by decide +kernel
theorem dX4_nameOf_21 : decode cX4_nameOf 21 = .ok (.ireturn, 1) := by decide +kernel
theorem dX4_nameOf_22 : decode cX4_nameOf 22 = .ok (.aload_n 0, 1) := by decide +kernel
theorem dX4_nameOf_23 : decode cX4_nameOf 23 = .ok (.ldc 97, 2) := by decide +kernel
theorem dX4_nameOf_25 : decode cX4_nameOf 25 = .ok (.invokevirtual 57, 3) := by decide +kernel
theorem dX4_nameOf_28 : decode cX4_nameOf 28 = .ok (.ifCond .eq 5, 3) := by decide +kernel
theorem dX4_nameOf_31 : decode cX4_nameOf 31 = .ok (.iconst 2, 1) := by decide +kernel
theorem dX4_nameOf_32 : decode cX4_nameOf 32 = .ok (.ireturn, 1) := by decide +kernel
theorem dX4_nameOf_33 : decode cX4_nameOf 33 = .ok (.aload_n 0, 1) := by decide +kernel
theorem dX4_nameOf_34 : decode cX4_nameOf 34 = .ok (.ldc 99, 2) := by decide +kernel
theorem dX4_nameOf_36 : decode cX4_nameOf 36 = .ok (.invokevirtual 57, 3) := by decide +kernel
theorem dX4_nameOf_39 : decode cX4_nameOf 39 = .ok (.ifCond .eq 5, 3) := by decide +kernel
theorem dX4_nameOf_42 : decode cX4_nameOf 42 = .ok (.iconst 3, 1) := by decide +kernel
theorem dX4_nameOf_43 : decode cX4_nameOf 43 = .ok (.ireturn, 1) := by decide +kernel
theorem dX4_nameOf_44 : decode cX4_nameOf 44 = .ok (.aload_n 0, 1) := by decide +kernel
theorem dX4_nameOf_45 : decode cX4_nameOf 45 = .ok (.ldc 101, 2) := by decide +kernel
theorem dX4_nameOf_47 : decode cX4_nameOf 47 = .ok (.invokevirtual 57, 3) := by decide +kernel
theorem dX4_nameOf_50 : decode cX4_nameOf 50 = .ok (.ifCond .eq 5, 3) := by decide +kernel
theorem dX4_nameOf_53 : decode cX4_nameOf 53 = .ok (.iconst 4, 1) := by decide +kernel
theorem dX4_nameOf_54 : decode cX4_nameOf 54 = .ok (.ireturn, 1) := by decide +kernel
theorem dX4_nameOf_55 : decode cX4_nameOf 55 = .ok (.aload_n 0, 1) := by decide +kernel
theorem dX4_nameOf_56 : decode cX4_nameOf 56 = .ok (.ldc 103, 2) := by decide +kernel
theorem dX4_nameOf_58 : decode cX4_nameOf 58 = .ok (.invokevirtual 57, 3) := by decide +kernel
theorem dX4_nameOf_61 : decode cX4_nameOf 61 = .ok (.ifCond .eq 5, 3) := by decide +kernel
theorem dX4_nameOf_64 : decode cX4_nameOf 64 = .ok (.iconst 5, 1) := by decide +kernel
theorem dX4_nameOf_65 : decode cX4_nameOf 65 = .ok (.ireturn, 1) := by decide +kernel
theorem dX4_nameOf_66 : decode cX4_nameOf 66 = .ok (.aload_n 0, 1) := by decide +kernel
theorem dX4_nameOf_67 : decode cX4_nameOf 67 = .ok (.ldc 105, 2) := by decide +kernel
theorem dX4_nameOf_69 : decode cX4_nameOf 69 = .ok (.invokevirtual 57, 3) := by decide +kernel
theorem dX4_nameOf_72 : decode cX4_nameOf 72 = .ok (.ifCond .eq 6, 3) := by decide +kernel
theorem dX4_nameOf_75 : decode cX4_nameOf 75 = .ok (.bipush 6, 2) := by decide +kernel
theorem dX4_nameOf_77 : decode cX4_nameOf 77 = .ok (.ireturn, 1) := by decide +kernel
theorem dX4_nameOf_78 : decode cX4_nameOf 78 = .ok (.aload_n 0, 1) := by decide +kernel
theorem dX4_nameOf_79 : decode cX4_nameOf 79 = .ok (.ldc 107, 2) := by decide +kernel
theorem dX4_nameOf_81 : decode cX4_nameOf 81 = .ok (.invokevirtual 57, 3) := by decide +kernel
theorem dX4_nameOf_84 : decode cX4_nameOf 84 = .ok (.ifCond .eq 6, 3) := by decide +kernel
theorem dX4_nameOf_87 : decode cX4_nameOf 87 = .ok (.bipush 7, 2) := by decide +kernel
theorem dX4_nameOf_89 : decode cX4_nameOf 89 = .ok (.ireturn, 1) := by decide +kernel
theorem dX4_nameOf_90 : decode cX4_nameOf 90 = .ok (.aload_n 0, 1) := by decide +kernel
theorem dX4_nameOf_91 : decode cX4_nameOf 91 = .ok (.ldc 109, 2) := by decide +kernel
theorem dX4_nameOf_93 : decode cX4_nameOf 93 = .ok (.invokevirtual 57, 3) := by decide +kernel
theorem dX4_nameOf_96 : decode cX4_nameOf 96 = .ok (.ifCond .eq 6, 3) := by decide +kernel
theorem dX4_nameOf_99 : decode cX4_nameOf 99 = .ok (.bipush 8, 2) := by decide +kernel
theorem dX4_nameOf_101 : decode cX4_nameOf 101 = .ok (.ireturn, 1) := by decide +kernel
theorem dX4_nameOf_102 : decode cX4_nameOf 102 = .ok (.aload_n 0, 1) := by decide +kernel
theorem dX4_nameOf_103 : decode cX4_nameOf 103 = .ok (.ldc 111, 2) := by decide +kernel
theorem dX4_nameOf_105 : decode cX4_nameOf 105 = .ok (.invokevirtual 57, 3) := by decide +kernel
theorem dX4_nameOf_108 : decode cX4_nameOf 108 = .ok (.ifCond .eq 6, 3) := by decide +kernel
theorem dX4_nameOf_111 : decode cX4_nameOf 111 = .ok (.bipush 9, 2) := by decide +kernel
theorem dX4_nameOf_113 : decode cX4_nameOf 113 = .ok (.ireturn, 1) := by decide +kernel
theorem dX4_nameOf_114 : decode cX4_nameOf 114 = .ok (.aload_n 0, 1) := by decide +kernel
theorem dX4_nameOf_115 : decode cX4_nameOf 115 = .ok (.ldc 113, 2) := by decide +kernel
theorem dX4_nameOf_117 : decode cX4_nameOf 117 = .ok (.invokevirtual 57, 3) := by decide +kernel
theorem dX4_nameOf_120 : decode cX4_nameOf 120 = .ok (.ifCond .eq 8, 3) := by decide +kernel
theorem dX4_nameOf_123 : decode cX4_nameOf 123 = .ok (.bipush 10, 2) := by decide +kernel
theorem dX4_nameOf_125 : decode cX4_nameOf 125 = .ok (.goto 4, 3) := by decide +kernel
theorem dX4_nameOf_128 : decode cX4_nameOf 128 = .ok (.iconst (-1), 1) := by decide +kernel
theorem dX4_nameOf_129 : decode cX4_nameOf 129 = .ok (.ireturn, 1) := by decide +kernel
theorem dX4_ruleFor_0 : decode cX4_ruleFor 0 = .ok (.iconst 0, 1) := by decide +kernel
theorem dX4_ruleFor_1 : decode cX4_ruleFor 1 = .ok (.istore 4, 2) := by decide +kernel
theorem dX4_ruleFor_3 : decode cX4_ruleFor 3 = .ok (.iload 4, 2) := by decide +kernel
theorem dX4_ruleFor_5 : decode cX4_ruleFor 5 = .ok (.aload_n 0, 1) := by decide +kernel
theorem dX4_ruleFor_6 : decode cX4_ruleFor 6 = .ok (.getfield 31, 3) := by decide +kernel
theorem dX4_ruleFor_9 : decode cX4_ruleFor 9 = .ok (.if_icmp .ge 24, 3) := by decide +kernel
theorem dX4_ruleFor_12 : decode cX4_ruleFor 12 = .ok (.aload_n 0, 1) := by decide +kernel
theorem dX4_ruleFor_13 : decode cX4_ruleFor 13 = .ok (.iload 4, 2) := by decide +kernel
theorem dX4_ruleFor_15 : decode cX4_ruleFor 15 = .ok (.aload_n 1, 1) := by decide +kernel
theorem dX4_ruleFor_16 : decode cX4_ruleFor 16 = .ok (.aload_n 2, 1) := by decide +kernel
theorem dX4_ruleFor_17 : decode cX4_ruleFor 17 = .ok (.iload_n 3, 1) := by decide +kernel
theorem dX4_ruleFor_18 : decode cX4_ruleFor 18 = .ok (.invokevirtual 115, 3) := by decide +kernel
theorem dX4_ruleFor_21 : decode cX4_ruleFor 21 = .ok (.ifCond .eq 6, 3) := by decide +kernel
theorem dX4_ruleFor_24 : decode cX4_ruleFor 24 = .ok (.iload 4, 2) := by decide +kernel
theorem dX4_ruleFor_26 : decode cX4_ruleFor 26 = .ok (.ireturn, 1) := by decide +kernel
theorem dX4_ruleFor_27 : decode cX4_ruleFor 27 = .ok (.iinc 4 1, 3) := by decide +kernel
theorem dX4_ruleFor_30 : decode cX4_ruleFor 30 = .ok (.goto (-27), 3) := by decide +kernel
theorem dX4_ruleFor_33 : decode cX4_ruleFor 33 = .ok (.bipush 100, 2) := by decide +kernel
theorem dX4_ruleFor_35 : decode cX4_ruleFor 35 = .ok (.ireturn, 1) := by decide +kernel
theorem dX4_holds_0 : decode cX4_holds 0 = .ok (.aload_n 0, 1) := by decide +kernel
theorem dX4_holds_1 : decode cX4_holds 1 = .ok (.getfield 15, 3) := by decide +kernel
theorem dX4_holds_4 : decode cX4_holds 4 = .ok (.iload_n 1, 1) := by decide +kernel
theorem dX4_holds_5 : decode cX4_holds 5 = .ok (.iaload, 1) := by decide +kernel
theorem dX4_holds_6 : decode cX4_holds 6 = .ok (.aload_n 0, 1) := by decide +kernel
theorem dX4_holds_7 : decode cX4_holds 7 = .ok (.getfield 18, 3) := by decide +kernel
theorem dX4_holds_10 : decode cX4_holds 10 = .ok (.iload_n 1, 1) := by decide +kernel
theorem dX4_holds_11 : decode cX4_holds 11 = .ok (.iaload, 1) := by decide +kernel
theorem dX4_holds_12 : decode cX4_holds 12 = .ok (.iadd, 1) := by decide +kernel
theorem dX4_holds_13 : decode cX4_holds 13 = .ok (.istore 5, 2) := by decide +kernel
theorem dX4_holds_15 : decode cX4_holds 15 = .ok (.aload_n 0, 1) := by decide +kernel
theorem dX4_holds_16 : decode cX4_holds 16 = .ok (.getfield 15, 3) := by decide +kernel
theorem dX4_holds_19 : decode cX4_holds 19 = .ok (.iload_n 1, 1) := by decide +kernel
theorem dX4_holds_20 : decode cX4_holds 20 = .ok (.iaload, 1) := by decide +kernel
theorem dX4_holds_21 : decode cX4_holds 21 = .ok (.istore 6, 2) := by decide +kernel
theorem dX4_holds_23 : decode cX4_holds 23 = .ok (.iload 6, 2) := by decide +kernel
theorem dX4_holds_25 : decode cX4_holds 25 = .ok (.iload 5, 2) := by decide +kernel
theorem dX4_holds_27 : decode cX4_holds 27 = .ok (.if_icmp .ge 64, 3) := by decide +kernel
theorem dX4_holds_30 : decode cX4_holds 30 = .ok (.aload_n 0, 1) := by decide +kernel
theorem dX4_holds_31 : decode cX4_holds 31 = .ok (.getfield 21, 3) := by decide +kernel
theorem dX4_holds_34 : decode cX4_holds 34 = .ok (.iload 6, 2) := by decide +kernel
theorem dX4_holds_36 : decode cX4_holds 36 = .ok (.iaload, 1) := by decide +kernel
theorem dX4_holds_37 : decode cX4_holds 37 = .ok (.aload_n 2, 1) := by decide +kernel
theorem dX4_holds_38 : decode cX4_holds 38 = .ok (.aload_n 3, 1) := by decide +kernel
theorem dX4_holds_39 : decode cX4_holds 39 = .ok (.iload 4, 2) := by decide +kernel
theorem dX4_holds_41 : decode cX4_holds 41 = .ok (.invokestatic 119, 3) := by decide +kernel
theorem dX4_holds_44 : decode cX4_holds 44 = .ok (.istore 7, 2) := by decide +kernel
theorem dX4_holds_46 : decode cX4_holds 46 = .ok (.aload_n 0, 1) := by decide +kernel
theorem dX4_holds_47 : decode cX4_holds 47 = .ok (.getfield 27, 3) := by decide +kernel
theorem dX4_holds_50 : decode cX4_holds 50 = .ok (.iload 6, 2) := by decide +kernel
theorem dX4_holds_52 : decode cX4_holds 52 = .ok (.baload, 1) := by decide +kernel
theorem dX4_holds_53 : decode cX4_holds 53 = .ok (.ifCond .eq 18, 3) := by decide +kernel
theorem dX4_holds_56 : decode cX4_holds 56 = .ok (.iload 7, 2) := by decide +kernel
theorem dX4_holds_58 : decode cX4_holds 58 = .ok (.aload_n 0, 1) := by decide +kernel
theorem dX4_holds_59 : decode cX4_holds 59 = .ok (.getfield 24, 3) := by decide +kernel
theorem dX4_holds_62 : decode cX4_holds 62 = .ok (.iload 6, 2) := by decide +kernel
theorem dX4_holds_64 : decode cX4_holds 64 = .ok (.iaload, 1) := by decide +kernel
theorem dX4_holds_65 : decode cX4_holds 65 = .ok (.if_icmp .gt 20, 3) := by decide +kernel
theorem dX4_holds_68 : decode cX4_holds 68 = .ok (.goto 15, 3) := by decide +kernel
theorem dX4_holds_71 : decode cX4_holds 71 = .ok (.iload 7, 2) := by decide +kernel
theorem dX4_holds_73 : decode cX4_holds 73 = .ok (.aload_n 0, 1) := by decide +kernel
theorem dX4_holds_74 : decode cX4_holds 74 = .ok (.getfield 24, 3) := by decide +kernel
theorem dX4_holds_77 : decode cX4_holds 77 = .ok (.iload 6, 2) := by decide +kernel
theorem dX4_holds_79 : decode cX4_holds 79 = .ok (.iaload, 1) := by decide +kernel
theorem dX4_holds_80 : decode cX4_holds 80 = .ok (.if_icmp .lt 5, 3) := by decide +kernel
theorem dX4_holds_83 : decode cX4_holds 83 = .ok (.iconst 0, 1) := by decide +kernel
theorem dX4_holds_84 : decode cX4_holds 84 = .ok (.ireturn, 1) := by decide +kernel
theorem dX4_holds_85 : decode cX4_holds 85 = .ok (.iinc 6 1, 3) := by decide +kernel
theorem dX4_holds_88 : decode cX4_holds 88 = .ok (.goto (-65), 3) := by decide +kernel
theorem dX4_holds_91 : decode cX4_holds 91 = .ok (.iconst 1, 1) := by decide +kernel
theorem dX4_holds_92 : decode cX4_holds 92 = .ok (.ireturn, 1) := by decide +kernel
theorem dX4_actOfRule_0 : decode cX4_actOfRule 0 = .ok (.iload_n 1, 1) := by decide +kernel
theorem dX4_actOfRule_1 : decode cX4_actOfRule 1 = .ok (.ifCond .lt 20, 3) := by decide +kernel
theorem dX4_actOfRule_4 : decode cX4_actOfRule 4 = .ok (.iload_n 1, 1) := by decide +kernel
theorem dX4_actOfRule_5 : decode cX4_actOfRule 5 = .ok (.aload_n 0, 1) := by decide +kernel
theorem dX4_actOfRule_6 : decode cX4_actOfRule 6 = .ok (.getfield 31, 3) := by decide +kernel
theorem dX4_actOfRule_9 : decode cX4_actOfRule 9 = .ok (.if_icmp .ge 12, 3) := by decide +kernel
theorem dX4_actOfRule_12 : decode cX4_actOfRule 12 = .ok (.aload_n 0, 1) := by decide +kernel
theorem dX4_actOfRule_13 : decode cX4_actOfRule 13 = .ok (.getfield 9, 3) := by decide +kernel
theorem dX4_actOfRule_16 : decode cX4_actOfRule 16 = .ok (.iload_n 1, 1) := by decide +kernel
theorem dX4_actOfRule_17 : decode cX4_actOfRule 17 = .ok (.iaload, 1) := by decide +kernel
theorem dX4_actOfRule_18 : decode cX4_actOfRule 18 = .ok (.goto 4, 3) := by decide +kernel
theorem dX4_actOfRule_21 : decode cX4_actOfRule 21 = .ok (.iconst 0, 1) := by decide +kernel
theorem dX4_actOfRule_22 : decode cX4_actOfRule 22 = .ok (.ireturn, 1) := by decide +kernel
theorem dX5_init_0 : decode cX5_init 0 = .ok (.aload_n 0, 1) := by decide +kernel
theorem dX5_init_1 : decode cX5_init 1 = .ok (.invokespecial 3, 3) := by decide +kernel
theorem dX5_init_4 : decode cX5_init 4 = .ok (.aload_n 0, 1) := by decide +kernel
theorem dX5_init_5 : decode cX5_init 5 = .ok (.new 9, 3) := by decide +kernel
theorem dX5_init_8 : decode cX5_init 8 = .ok (.dup, 1) := by decide +kernel
theorem dX5_init_9 : decode cX5_init 9 = .ok (.invokespecial 11, 3) := by decide +kernel
theorem dX5_init_12 : decode cX5_init 12 = .ok (.putfield 12, 3) := by decide +kernel
theorem dX5_init_15 : decode cX5_init 15 = .ok (.aload_n 0, 1) := by decide +kernel
theorem dX5_init_16 : decode cX5_init 16 = .ok (.bipush 6, 2) := by decide +kernel
theorem dX5_init_18 : decode cX5_init 18 = .ok (.anewarray 18, 3) := by decide +kernel
theorem dX5_init_21 : decode cX5_init 21 = .ok (.putfield 20, 3) := by decide +kernel
theorem dX5_init_24 : decode cX5_init 24 = .ok (.aload_n 0, 1) := by decide +kernel
theorem dX5_init_25 : decode cX5_init 25 = .ok (.iconst 0, 1) := by decide +kernel
theorem dX5_init_26 : decode cX5_init 26 = .ok (.putfield 24, 3) := by decide +kernel
theorem dX5_init_29 : decode cX5_init 29 = .ok (.aload_n 0, 1) := by decide +kernel
theorem dX5_init_30 : decode cX5_init 30 = .ok (.iconst 0, 1) := by decide +kernel
theorem dX5_init_31 : decode cX5_init 31 = .ok (.putfield 28, 3) := by decide +kernel
theorem dX5_init_34 : decode cX5_init 34 = .ok (.aload_n 0, 1) := by decide +kernel
theorem dX5_init_35 : decode cX5_init 35 = .ok (.bipush 6, 2) := by decide +kernel
theorem dX5_init_37 : decode cX5_init 37 = .ok (.putfield 31, 3) := by decide +kernel
theorem dX5_init_40 : decode cX5_init 40 = .ok (.iconst 0, 1) := by decide +kernel
theorem dX5_init_41 : decode cX5_init 41 = .ok (.istore_n 1, 1) := by decide +kernel
theorem dX5_init_42 : decode cX5_init 42 = .ok (.iload_n 1, 1) := by decide +kernel
theorem dX5_init_43 : decode cX5_init 43 = .ok (.bipush 6, 2) := by decide +kernel
theorem dX5_init_45 : decode cX5_init 45 = .ok (.if_icmp .ge 22, 3) := by decide +kernel
theorem dX5_init_48 : decode cX5_init 48 = .ok (.aload_n 0, 1) := by decide +kernel
theorem dX5_init_49 : decode cX5_init 49 = .ok (.getfield 20, 3) := by decide +kernel
theorem dX5_init_52 : decode cX5_init 52 = .ok (.iload_n 1, 1) := by decide +kernel
theorem dX5_init_53 : decode cX5_init 53 = .ok (.new 18, 3) := by decide +kernel
theorem dX5_init_56 : decode cX5_init 56 = .ok (.dup, 1) := by decide +kernel
theorem dX5_init_57 : decode cX5_init 57 = .ok (.invokespecial 34, 3) := by decide +kernel
theorem dX5_init_60 : decode cX5_init 60 = .ok (.aastore, 1) := by decide +kernel
theorem dX5_init_61 : decode cX5_init 61 = .ok (.iinc 1 1, 3) := by decide +kernel
theorem dX5_init_64 : decode cX5_init 64 = .ok (.goto (-22), 3) := by decide +kernel
theorem dX5_init_67 : decode cX5_init 67 = .ok (.return_, 1) := by decide +kernel
theorem dX5_copyFrom_0 : decode cX5_copyFrom 0 = .ok (.aload_n 0, 1) := by decide +kernel
theorem dX5_copyFrom_1 : decode cX5_copyFrom 1 = .ok (.getfield 12, 3) := by decide +kernel
theorem dX5_copyFrom_4 : decode cX5_copyFrom 4 = .ok (.aload_n 1, 1) := by decide +kernel
theorem dX5_copyFrom_5 : decode cX5_copyFrom 5 = .ok (.getfield 12, 3) := by decide +kernel
theorem dX5_copyFrom_8 : decode cX5_copyFrom 8 = .ok (.invokevirtual 35, 3) := by decide +kernel
theorem dX5_copyFrom_11 : decode cX5_copyFrom 11 = .ok (.iconst 0, 1) := by decide +kernel
theorem dX5_copyFrom_12 : decode cX5_copyFrom 12 = .ok (.istore_n 2, 1) := by decide +kernel
theorem dX5_copyFrom_13 : decode cX5_copyFrom 13 = .ok (.iload_n 2, 1) := by decide +kernel
theorem dX5_copyFrom_14 : decode cX5_copyFrom 14 = .ok (.aload_n 1, 1) := by decide +kernel
theorem dX5_copyFrom_15 : decode cX5_copyFrom 15 = .ok (.getfield 24, 3) := by decide +kernel
theorem dX5_copyFrom_18 : decode cX5_copyFrom 18 = .ok (.if_icmp .ge 24, 3) := by decide +kernel
theorem dX5_copyFrom_21 : decode cX5_copyFrom 21 = .ok (.aload_n 0, 1) := by decide +kernel
theorem dX5_copyFrom_22 : decode cX5_copyFrom 22 = .ok (.getfield 20, 3) := by decide +kernel
theorem dX5_copyFrom_25 : decode cX5_copyFrom 25 = .ok (.iload_n 2, 1) := by decide +kernel
theorem dX5_copyFrom_26 : decode cX5_copyFrom 26 = .ok (.aaload, 1) := by decide +kernel
theorem dX5_copyFrom_27 : decode cX5_copyFrom 27 = .ok (.aload_n 1, 1) := by decide +kernel
theorem dX5_copyFrom_28 : decode cX5_copyFrom 28 = .ok (.getfield 20, 3) := by decide +kernel
theorem dX5_copyFrom_31 : decode cX5_copyFrom 31 = .ok (.iload_n 2, 1) := by decide +kernel
theorem dX5_copyFrom_32 : decode cX5_copyFrom 32 = .ok (.aaload, 1) := by decide +kernel
theorem dX5_copyFrom_33 : decode cX5_copyFrom 33 = .ok (.invokevirtual 39, 3) := by decide +kernel
theorem dX5_copyFrom_36 : decode cX5_copyFrom 36 = .ok (.iinc 2 1, 3) := by decide +kernel
theorem dX5_copyFrom_39 : decode cX5_copyFrom 39 = .ok (.goto (-26), 3) := by decide +kernel
theorem dX5_copyFrom_42 : decode cX5_copyFrom 42 = .ok (.aload_n 0, 1) := by decide +kernel
theorem dX5_copyFrom_43 : decode cX5_copyFrom 43 = .ok (.aload_n 1, 1) := by decide +kernel
theorem dX5_copyFrom_44 : decode cX5_copyFrom 44 = .ok (.getfield 24, 3) := by decide +kernel
theorem dX5_copyFrom_47 : decode cX5_copyFrom 47 = .ok (.putfield 24, 3) := by decide +kernel
theorem dX5_copyFrom_50 : decode cX5_copyFrom 50 = .ok (.aload_n 0, 1) := by decide +kernel
theorem dX5_copyFrom_51 : decode cX5_copyFrom 51 = .ok (.aload_n 1, 1) := by decide +kernel
theorem dX5_copyFrom_52 : decode cX5_copyFrom 52 = .ok (.getfield 28, 3) := by decide +kernel
theorem dX5_copyFrom_55 : decode cX5_copyFrom 55 = .ok (.putfield 28, 3) := by decide +kernel
theorem dX5_copyFrom_58 : decode cX5_copyFrom 58 = .ok (.aload_n 0, 1) := by decide +kernel
theorem dX5_copyFrom_59 : decode cX5_copyFrom 59 = .ok (.aload_n 1, 1) := by decide +kernel
theorem dX5_copyFrom_60 : decode cX5_copyFrom 60 = .ok (.getfield 31, 3) := by decide +kernel
theorem dX5_copyFrom_63 : decode cX5_copyFrom 63 = .ok (.putfield 31, 3) := by decide +kernel
theorem dX5_copyFrom_66 : decode cX5_copyFrom 66 = .ok (.return_, 1) := by decide +kernel
theorem dX5_canStep_0 : decode cX5_canStep 0 = .ok (.aload_n 0, 1) := by decide +kernel
theorem dX5_canStep_1 : decode cX5_canStep 1 = .ok (.getfield 28, 3) := by decide +kernel
theorem dX5_canStep_4 : decode cX5_canStep 4 = .ok (.sipush 2000, 3) := by decide +kernel
theorem dX5_canStep_7 : decode cX5_canStep 7 = .ok (.if_icmp .lt 5, 3) := by decide +kernel
theorem dX5_canStep_10 : decode cX5_canStep 10 = .ok (.iconst 0, 1) := by decide +kernel
theorem dX5_canStep_11 : decode cX5_canStep 11 = .ok (.ireturn, 1) := by decide +kernel
theorem dX5_canStep_12 : decode cX5_canStep 12 = .ok (.iconst 0, 1) := by decide +kernel
theorem dX5_canStep_13 : decode cX5_canStep 13 = .ok (.istore_n 1, 1) := by decide +kernel
theorem dX5_canStep_14 : decode cX5_canStep 14 = .ok (.iload_n 1, 1) := by decide +kernel
theorem dX5_canStep_15 : decode cX5_canStep 15 = .ok (.aload_n 0, 1) := by decide +kernel
theorem dX5_canStep_16 : decode cX5_canStep 16 = .ok (.getfield 24, 3) := by decide +kernel
theorem dX5_canStep_19 : decode cX5_canStep 19 = .ok (.if_icmp .ge 23, 3) := by decide +kernel
theorem dX5_canStep_22 : decode cX5_canStep 22 = .ok (.aload_n 0, 1) := by decide +kernel
theorem dX5_canStep_23 : decode cX5_canStep 23 = .ok (.getfield 20, 3) := by decide +kernel
theorem dX5_canStep_26 : decode cX5_canStep 26 = .ok (.iload_n 1, 1) := by decide +kernel
theorem dX5_canStep_27 : decode cX5_canStep 27 = .ok (.aaload, 1) := by decide +kernel
theorem dX5_canStep_28 : decode cX5_canStep 28 = .ok (.invokevirtual 42, 3) := by decide +kernel
theorem dX5_canStep_31 : decode cX5_canStep 31 = .ok (.ifCond .ne 5, 3) := by decide +kernel
theorem dX5_canStep_34 : decode cX5_canStep 34 = .ok (.iconst 1, 1) := by decide +kernel
theorem dX5_canStep_35 : decode cX5_canStep 35 = .ok (.ireturn, 1) := by decide +kernel
theorem dX5_canStep_36 : decode cX5_canStep 36 = .ok (.iinc 1 1, 3) := by decide +kernel
theorem dX5_canStep_39 : decode cX5_canStep 39 = .ok (.goto (-25), 3) := by decide +kernel
theorem dX5_canStep_42 : decode cX5_canStep 42 = .ok (.iconst 0, 1) := by decide +kernel
theorem dX5_canStep_43 : decode cX5_canStep 43 = .ok (.ireturn, 1) := by decide +kernel
theorem dX6_init_0 : decode cX6_init 0 = .ok (.aload_n 0, 1) := by decide +kernel
theorem dX6_init_1 : decode cX6_init 1 = .ok (.invokespecial 3, 3) := by decide +kernel
theorem dX6_init_4 : decode cX6_init 4 = .ok (.aload_n 0, 1) := by decide +kernel
theorem dX6_init_5 : decode cX6_init 5 = .ok (.iconst 0, 1) := by decide +kernel
theorem dX6_init_6 : decode cX6_init 6 = .ok (.newarray .int, 2) := by decide +kernel
theorem dX6_init_8 : decode cX6_init 8 = .ok (.putfield 9, 3) := by decide +kernel
theorem dX6_init_11 : decode cX6_init 11 = .ok (.return_, 1) := by decide +kernel
theorem dX6_tell_0 : decode cX6_tell 0 = .ok (.iload 4, 2) := by decide +kernel
theorem dX6_tell_2 : decode cX6_tell 2 = .ok (.iconst 1, 1) := by decide +kernel
theorem dX6_tell_3 : decode cX6_tell 3 = .ok (.if_icmp .lt 10, 3) := by decide +kernel
theorem dX6_tell_6 : decode cX6_tell 6 = .ok (.iload_n 3, 1) := by decide +kernel
theorem dX6_tell_7 : decode cX6_tell 7 = .ok (.iload 4, 2) := by decide +kernel
theorem dX6_tell_9 : decode cX6_tell 9 = .ok (.irem, 1) := by decide +kernel
theorem dX6_tell_10 : decode cX6_tell 10 = .ok (.ifCond .eq 4, 3) := by decide +kernel
theorem dX6_tell_13 : decode cX6_tell 13 = .ok (.return_, 1) := by decide +kernel
theorem dX6_tell_14 : decode cX6_tell 14 = .ok (.sipush 1999, 3) := by decide +kernel
theorem dX6_tell_17 : decode cX6_tell 17 = .ok (.iload 4, 2) := by decide +kernel
theorem dX6_tell_19 : decode cX6_tell 19 = .ok (.idiv, 1) := by decide +kernel
theorem dX6_tell_20 : decode cX6_tell 20 = .ok (.iconst 1, 1) := by decide +kernel
theorem dX6_tell_21 : decode cX6_tell 21 = .ok (.iadd, 1) := by decide +kernel
theorem dX6_tell_22 : decode cX6_tell 22 = .ok (.istore 5, 2) := by decide +kernel
theorem dX6_tell_24 : decode cX6_tell 24 = .ok (.aload_n 0, 1) := by decide +kernel
theorem dX6_tell_25 : decode cX6_tell 25 = .ok (.getfield 9, 3) := by decide +kernel
theorem dX6_tell_28 : decode cX6_tell 28 = .ok (.arraylength, 1) := by decide +kernel
theorem dX6_tell_29 : decode cX6_tell 29 = .ok (.iload 5, 2) := by decide +kernel
theorem dX6_tell_31 : decode cX6_tell 31 = .ok (.if_icmp .ge 16, 3) := by decide +kernel
theorem dX6_tell_34 : decode cX6_tell 34 = .ok (.aload_n 0, 1) := by decide +kernel
theorem dX6_tell_35 : decode cX6_tell 35 = .ok (.aload_n 0, 1) := by decide +kernel
theorem dX6_tell_36 : decode cX6_tell 36 = .ok (.getfield 9, 3) := by decide +kernel
theorem dX6_tell_39 : decode cX6_tell 39 = .ok (.iload 5, 2) := by decide +kernel
theorem dX6_tell_41 : decode cX6_tell 41 = .ok (.invokestatic 15, 3) := by decide +kernel
theorem dX6_tell_44 : decode cX6_tell 44 = .ok (.putfield 9, 3) := by decide +kernel
theorem dX6_tell_47 : decode cX6_tell 47 = .ok (.aload_n 1, 1) := by decide +kernel
theorem dX6_tell_48 : decode cX6_tell 48 = .ok (.getfield 21, 3) := by decide +kernel
theorem dX6_tell_51 : decode cX6_tell 51 = .ok (.ifCond .eq 18, 3) := by decide +kernel
theorem dX6_tell_54 : decode cX6_tell 54 = .ok (.aload_n 1, 1) := by decide +kernel
theorem dX6_tell_55 : decode cX6_tell 55 = .ok (.getfield 27, 3) := by decide +kernel
theorem dX6_tell_58 : decode cX6_tell 58 = .ok (.iload_n 3, 1) := by decide +kernel
theorem dX6_tell_59 : decode cX6_tell 59 = .ok (.invokevirtual 31, 3) := by decide +kernel
theorem dX6_tell_62 : decode cX6_tell 62 = .ok (.ifCond .ne 7, 3) := by decide +kernel
theorem dX6_tell_65 : decode cX6_tell 65 = .ok (.iconst 1, 1) := by decide +kernel
theorem dX6_tell_66 : decode cX6_tell 66 = .ok (.goto 4, 3) := by decide +kernel
theorem dX6_tell_69 : decode cX6_tell 69 = .ok (.iconst 0, 1) := by decide +kernel
theorem dX6_tell_70 : decode cX6_tell 70 = .ok (.istore 6, 2) := by decide +kernel
theorem dX6_tell_72 : decode cX6_tell 72 = .ok (.aload_n 0, 1) := by decide +kernel
theorem dX6_tell_73 : decode cX6_tell 73 = .ok (.getfield 9, 3) := by decide +kernel
theorem dX6_tell_76 : decode cX6_tell 76 = .ok (.iload_n 3, 1) := by decide +kernel
theorem dX6_tell_77 : decode cX6_tell 77 = .ok (.iload 4, 2) := by decide +kernel
theorem dX6_tell_79 : decode cX6_tell 79 = .ok (.idiv, 1) := by decide +kernel
theorem dX6_tell_80 : decode cX6_tell 80 = .ok (.iload 6, 2) := by decide +kernel
theorem dX6_tell_82 : decode cX6_tell 82 = .ok (.ifCond .eq 11, 3) := by decide +kernel
theorem dX6_tell_85 : decode cX6_tell 85 = .ok (.aload_n 1, 1) := by decide +kernel
theorem dX6_tell_86 : decode cX6_tell 86 = .ok (.aload_n 2, 1) := by decide +kernel
theorem dX6_tell_87 : decode cX6_tell 87 = .ok (.invokevirtual 37, 3) := by decide +kernel
theorem dX6_tell_90 : decode cX6_tell 90 = .ok (.goto 4, 3) := by decide +kernel
theorem dX6_tell_93 : decode cX6_tell 93 = .ok (.iconst (-1), 1) := by decide +kernel
theorem dX6_tell_94 : decode cX6_tell 94 = .ok (.iastore, 1) := by decide +kernel
theorem dX6_tell_95 : decode cX6_tell 95 = .ok (.return_, 1) := by decide +kernel
theorem dX6_past_0 : decode cX6_past 0 = .ok (.aload_n 0, 1) := by decide +kernel
theorem dX6_past_1 : decode cX6_past 1 = .ok (.getfield 9, 3) := by decide +kernel
theorem dX6_past_4 : decode cX6_past 4 = .ok (.arraylength, 1) := by decide +kernel
theorem dX6_past_5 : decode cX6_past 5 = .ok (.iload_n 2, 1) := by decide +kernel
theorem dX6_past_6 : decode cX6_past 6 = .ok (.iload_n 1, 1) := by decide +kernel
theorem dX6_past_7 : decode cX6_past 7 = .ok (.iadd, 1) := by decide +kernel
theorem dX6_past_8 : decode cX6_past 8 = .ok (.iconst 1, 1) := by decide +kernel
theorem dX6_past_9 : decode cX6_past 9 = .ok (.isub, 1) := by decide +kernel
theorem dX6_past_10 : decode cX6_past 10 = .ok (.iload_n 1, 1) := by decide +kernel
theorem dX6_past_11 : decode cX6_past 11 = .ok (.invokestatic 41, 3) := by decide +kernel
theorem dX6_past_14 : decode cX6_past 14 = .ok (.invokestatic 45, 3) := by decide +kernel
theorem dX6_past_17 : decode cX6_past 17 = .ok (.ireturn, 1) := by decide +kernel
theorem dX6_howMany_0 : decode cX6_howMany 0 = .ok (.iconst 0, 1) := by decide +kernel
theorem dX6_howMany_1 : decode cX6_howMany 1 = .ok (.istore_n 3, 1) := by decide +kernel
theorem dX6_howMany_2 : decode cX6_howMany 2 = .ok (.aload_n 0, 1) := by decide +kernel
theorem dX6_howMany_3 : decode cX6_howMany 3 = .ok (.iload_n 1, 1) := by decide +kernel
theorem dX6_howMany_4 : decode cX6_howMany 4 = .ok (.iload_n 2, 1) := by decide +kernel
theorem dX6_howMany_5 : decode cX6_howMany 5 = .ok (.invokevirtual 50, 3) := by decide +kernel
theorem dX6_howMany_8 : decode cX6_howMany 8 = .ok (.istore 4, 2) := by decide +kernel
theorem dX6_howMany_10 : decode cX6_howMany 10 = .ok (.iconst 0, 1) := by decide +kernel
theorem dX6_howMany_11 : decode cX6_howMany 11 = .ok (.istore 5, 2) := by decide +kernel
theorem dX6_howMany_13 : decode cX6_howMany 13 = .ok (.iload 5, 2) := by decide +kernel
theorem dX6_howMany_15 : decode cX6_howMany 15 = .ok (.iload 4, 2) := by decide +kernel
theorem dX6_howMany_17 : decode cX6_howMany 17 = .ok (.if_icmp .ge 23, 3) := by decide +kernel
theorem dX6_howMany_20 : decode cX6_howMany 20 = .ok (.aload_n 0, 1) := by decide +kernel
theorem dX6_howMany_21 : decode cX6_howMany 21 = .ok (.getfield 9, 3) := by decide +kernel
theorem dX6_howMany_24 : decode cX6_howMany 24 = .ok (.iload 5, 2) := by decide +kernel
theorem dX6_howMany_26 : decode cX6_howMany 26 = .ok (.iaload, 1) := by decide +kernel
theorem dX6_howMany_27 : decode cX6_howMany 27 = .ok (.iconst (-1), 1) := by decide +kernel
theorem dX6_howMany_28 : decode cX6_howMany 28 = .ok (.if_icmp .eq 6, 3) := by decide +kernel
theorem dX6_howMany_31 : decode cX6_howMany 31 = .ok (.iinc 3 1, 3) := by decide +kernel
theorem dX6_howMany_34 : decode cX6_howMany 34 = .ok (.iinc 5 1, 3) := by decide +kernel
theorem dX6_howMany_37 : decode cX6_howMany 37 = .ok (.goto (-24), 3) := by decide +kernel
theorem dX6_howMany_40 : decode cX6_howMany 40 = .ok (.iload_n 3, 1) := by decide +kernel
theorem dX6_howMany_41 : decode cX6_howMany 41 = .ok (.ireturn, 1) := by decide +kernel
theorem dX6_latest_0 : decode cX6_latest 0 = .ok (.aload_n 0, 1) := by decide +kernel
theorem dX6_latest_1 : decode cX6_latest 1 = .ok (.iload_n 1, 1) := by decide +kernel
theorem dX6_latest_2 : decode cX6_latest 2 = .ok (.iload_n 2, 1) := by decide +kernel
theorem dX6_latest_3 : decode cX6_latest 3 = .ok (.iconst 1, 1) := by decide +kernel
theorem dX6_latest_4 : decode cX6_latest 4 = .ok (.iadd, 1) := by decide +kernel
theorem dX6_latest_5 : decode cX6_latest 5 = .ok (.invokevirtual 50, 3) := by decide +kernel
theorem dX6_latest_8 : decode cX6_latest 8 = .ok (.iconst 1, 1) := by decide +kernel
theorem dX6_latest_9 : decode cX6_latest 9 = .ok (.isub, 1) := by decide +kernel
theorem dX6_latest_10 : decode cX6_latest 10 = .ok (.istore_n 3, 1) := by decide +kernel
theorem dX6_latest_11 : decode cX6_latest 11 = .ok (.iload_n 3, 1) := by decide +kernel
theorem dX6_latest_12 : decode cX6_latest 12 = .ok (.ifCond .lt 21, 3) := by decide +kernel
theorem dX6_latest_15 : decode cX6_latest 15 = .ok (.aload_n 0, 1) := by decide +kernel
theorem dX6_latest_16 : decode cX6_latest 16 = .ok (.getfield 9, 3) := by decide +kernel
theorem dX6_latest_19 : decode cX6_latest 19 = .ok (.iload_n 3, 1) := by decide +kernel
theorem dX6_latest_20 : decode cX6_latest 20 = .ok (.iaload, 1) := by decide +kernel
theorem dX6_latest_21 : decode cX6_latest 21 = .ok (.iconst (-1), 1) := by decide +kernel
theorem dX6_latest_22 : decode cX6_latest 22 = .ok (.if_icmp .eq 5, 3) := by decide +kernel
theorem dX6_latest_25 : decode cX6_latest 25 = .ok (.iload_n 3, 1) := by decide +kernel
theorem dX6_latest_26 : decode cX6_latest 26 = .ok (.ireturn, 1) := by decide +kernel
theorem dX6_latest_27 : decode cX6_latest 27 = .ok (.iinc 3 (-1), 3) := by decide +kernel
theorem dX6_latest_30 : decode cX6_latest 30 = .ok (.goto (-19), 3) := by decide +kernel
theorem dX6_latest_33 : decode cX6_latest 33 = .ok (.iconst (-1), 1) := by decide +kernel
theorem dX6_latest_34 : decode cX6_latest 34 = .ok (.ireturn, 1) := by decide +kernel
theorem dX6_next_0 : decode cX6_next 0 = .ok (.aload_n 0, 1) := by decide +kernel
theorem dX6_next_1 : decode cX6_next 1 = .ok (.iload_n 1, 1) := by decide +kernel
theorem dX6_next_2 : decode cX6_next 2 = .ok (.iload_n 3, 1) := by decide +kernel
theorem dX6_next_3 : decode cX6_next 3 = .ok (.invokevirtual 50, 3) := by decide +kernel
theorem dX6_next_6 : decode cX6_next 6 = .ok (.istore 4, 2) := by decide +kernel
theorem dX6_next_8 : decode cX6_next 8 = .ok (.iload_n 2, 1) := by decide +kernel
theorem dX6_next_9 : decode cX6_next 9 = .ok (.iload_n 1, 1) := by decide +kernel
theorem dX6_next_10 : decode cX6_next 10 = .ok (.invokestatic 41, 3) := by decide +kernel
theorem dX6_next_13 : decode cX6_next 13 = .ok (.iconst 1, 1) := by decide +kernel
theorem dX6_next_14 : decode cX6_next 14 = .ok (.iadd, 1) := by decide +kernel
theorem dX6_next_15 : decode cX6_next 15 = .ok (.istore 5, 2) := by decide +kernel
theorem dX6_next_17 : decode cX6_next 17 = .ok (.iload 5, 2) := by decide +kernel
theorem dX6_next_19 : decode cX6_next 19 = .ok (.iload 4, 2) := by decide +kernel
theorem dX6_next_21 : decode cX6_next 21 = .ok (.if_icmp .ge 23, 3) := by decide +kernel
theorem dX6_next_24 : decode cX6_next 24 = .ok (.aload_n 0, 1) := by decide +kernel
theorem dX6_next_25 : decode cX6_next 25 = .ok (.getfield 9, 3) := by decide +kernel
theorem dX6_next_28 : decode cX6_next 28 = .ok (.iload 5, 2) := by decide +kernel
theorem dX6_next_30 : decode cX6_next 30 = .ok (.iaload, 1) := by decide +kernel
theorem dX6_next_31 : decode cX6_next 31 = .ok (.iconst (-1), 1) := by decide +kernel
theorem dX6_next_32 : decode cX6_next 32 = .ok (.if_icmp .eq 6, 3) := by decide +kernel
theorem dX6_next_35 : decode cX6_next 35 = .ok (.iload 5, 2) := by decide +kernel
theorem dX6_next_37 : decode cX6_next 37 = .ok (.ireturn, 1) := by decide +kernel
theorem dX6_next_38 : decode cX6_next 38 = .ok (.iinc 5 1, 3) := by decide +kernel
theorem dX6_next_41 : decode cX6_next 41 = .ok (.goto (-24), 3) := by decide +kernel
theorem dX6_next_44 : decode cX6_next 44 = .ok (.iconst (-1), 1) := by decide +kernel
theorem dX6_next_45 : decode cX6_next 45 = .ok (.ireturn, 1) := by decide +kernel
theorem dX7_init_0 : decode cX7_init 0 = .ok (.aload_n 0, 1) := by decide +kernel
theorem dX7_init_1 : decode cX7_init 1 = .ok (.invokespecial 3, 3) := by decide +kernel
theorem dX7_init_4 : decode cX7_init 4 = .ok (.aload_n 0, 1) := by decide +kernel
theorem dX7_init_5 : decode cX7_init 5 = .ok (.sipush 400, 3) := by decide +kernel
theorem dX7_init_8 : decode cX7_init 8 = .ok (.newarray .byte, 2) := by decide +kernel
theorem dX7_init_10 : decode cX7_init 10 = .ok (.putfield 9, 3) := by decide +kernel
theorem dX7_init_13 : decode cX7_init 13 = .ok (.aload_n 0, 1) := by decide +kernel
theorem dX7_init_14 : decode cX7_init 14 = .ok (.iconst 0, 1) := by decide +kernel
theorem dX7_init_15 : decode cX7_init 15 = .ok (.putfield 15, 3) := by decide +kernel
theorem dX7_init_18 : decode cX7_init 18 = .ok (.aload_n 0, 1) := by decide +kernel
theorem dX7_init_19 : decode cX7_init 19 = .ok (.iconst 0, 1) := by decide +kernel
theorem dX7_init_20 : decode cX7_init 20 = .ok (.putfield 19, 3) := by decide +kernel
theorem dX7_init_23 : decode cX7_init 23 = .ok (.aload_n 0, 1) := by decide +kernel
theorem dX7_init_24 : decode cX7_init 24 = .ok (.iconst 0, 1) := by decide +kernel
theorem dX7_init_25 : decode cX7_init 25 = .ok (.putfield 22, 3) := by decide +kernel
theorem dX7_init_28 : decode cX7_init 28 = .ok (.aload_n 0, 1) := by decide +kernel
theorem dX7_init_29 : decode cX7_init 29 = .ok (.iconst 0, 1) := by decide +kernel
theorem dX7_init_30 : decode cX7_init 30 = .ok (.putfield 25, 3) := by decide +kernel
theorem dX7_init_33 : decode cX7_init 33 = .ok (.aload_n 0, 1) := by decide +kernel
theorem dX7_init_34 : decode cX7_init 34 = .ok (.iconst 0, 1) := by decide +kernel
theorem dX7_init_35 : decode cX7_init 35 = .ok (.putfield 28, 3) := by decide +kernel
theorem dX7_init_38 : decode cX7_init 38 = .ok (.aload_n 0, 1) := by decide +kernel
theorem dX7_init_39 : decode cX7_init 39 = .ok (.iconst 0, 1) := by decide +kernel
theorem dX7_init_40 : decode cX7_init 40 = .ok (.putfield 31, 3) := by decide +kernel
theorem dX7_init_43 : decode cX7_init 43 = .ok (.aload_n 0, 1) := by decide +kernel
theorem dX7_init_44 : decode cX7_init 44 = .ok (.iconst 0, 1) := by decide +kernel
theorem dX7_init_45 : decode cX7_init 45 = .ok (.putfield 34, 3) := by decide +kernel
theorem dX7_init_48 : decode cX7_init 48 = .ok (.aload_n 0, 1) := by decide +kernel
theorem dX7_init_49 : decode cX7_init 49 = .ok (.iconst (-1), 1) := by decide +kernel
theorem dX7_init_50 : decode cX7_init 50 = .ok (.putfield 37, 3) := by decide +kernel
theorem dX7_init_53 : decode cX7_init 53 = .ok (.return_, 1) := by decide +kernel
theorem dX7_put_0 : decode cX7_put 0 = .ok (.bipush 24, 2) := by decide +kernel
theorem dX7_put_2 : decode cX7_put 2 = .ok (.istore_n 2, 1) := by decide +kernel
theorem dX7_put_3 : decode cX7_put 3 = .ok (.iload_n 2, 1) := by decide +kernel
theorem dX7_put_4 : decode cX7_put 4 = .ok (.ifCond .lt 42, 3) := by decide +kernel
theorem dX7_put_7 : decode cX7_put 7 = .ok (.aload_n 0, 1) := by decide +kernel
theorem dX7_put_8 : decode cX7_put 8 = .ok (.getfield 15, 3) := by decide +kernel
theorem dX7_put_11 : decode cX7_put 11 = .ok (.sipush 400, 3) := by decide +kernel
theorem dX7_put_14 : decode cX7_put 14 = .ok (.if_icmp .ge 26, 3) := by decide +kernel
theorem dX7_put_17 : decode cX7_put 17 = .ok (.aload_n 0, 1) := by decide +kernel
theorem dX7_put_18 : decode cX7_put 18 = .ok (.getfield 9, 3) := by decide +kernel
theorem dX7_put_21 : decode cX7_put 21 = .ok (.aload_n 0, 1) := by decide +kernel
theorem dX7_put_22 : decode cX7_put 22 = .ok (.getfield 15, 3) := by decide +kernel
theorem dX7_put_25 : decode cX7_put 25 = .ok (.iload_n 1, 1) := by decide +kernel
theorem dX7_put_26 : decode cX7_put 26 = .ok (.iload_n 2, 1) := by decide +kernel
theorem dX7_put_27 : decode cX7_put 27 = .ok (.ishr, 1) := by decide +kernel
theorem dX7_put_28 : decode cX7_put 28 = .ok (.i2b, 1) := by decide +kernel
theorem dX7_put_29 : decode cX7_put 29 = .ok (.bastore, 1) := by decide +kernel
theorem dX7_put_30 : decode cX7_put 30 = .ok (.aload_n 0, 1) := by decide +kernel
theorem dX7_put_31 : decode cX7_put 31 = .ok (.dup, 1) := by decide +kernel
theorem dX7_put_32 : decode cX7_put 32 = .ok (.getfield 15, 3) := by decide +kernel
theorem dX7_put_35 : decode cX7_put 35 = .ok (.iconst 1, 1) := by decide +kernel
theorem dX7_put_36 : decode cX7_put 36 = .ok (.iadd, 1) := by decide +kernel
theorem dX7_put_37 : decode cX7_put 37 = .ok (.putfield 15, 3) := by decide +kernel
theorem dX7_put_40 : decode cX7_put 40 = .ok (.iinc 2 (-8), 3) := by decide +kernel
theorem dX7_put_43 : decode cX7_put 43 = .ok (.goto (-40), 3) := by decide +kernel
theorem dX7_put_46 : decode cX7_put 46 = .ok (.return_, 1) := by decide +kernel
theorem dX7_open_0 : decode cX7_open 0 = .ok (.aload_n 0, 1) := by decide +kernel
theorem dX7_open_1 : decode cX7_open 1 = .ok (.iload_n 1, 1) := by decide +kernel
theorem dX7_open_2 : decode cX7_open 2 = .ok (.sipush 400, 3) := by decide +kernel
theorem dX7_open_5 : decode cX7_open 5 = .ok (.invokestatic 40, 3) := by decide +kernel
theorem dX7_open_8 : decode cX7_open 8 = .ok (.putfield 19, 3) := by decide +kernel
theorem dX7_open_11 : decode cX7_open 11 = .ok (.aload_n 0, 1) := by decide +kernel
theorem dX7_open_12 : decode cX7_open 12 = .ok (.iconst 0, 1) := by decide +kernel
theorem dX7_open_13 : decode cX7_open 13 = .ok (.putfield 15, 3) := by decide +kernel
theorem dX7_open_16 : decode cX7_open 16 = .ok (.aload_n 0, 1) := by decide +kernel
theorem dX7_open_17 : decode cX7_open 17 = .ok (.iconst 0, 1) := by decide +kernel
theorem dX7_open_18 : decode cX7_open 18 = .ok (.putfield 22, 3) := by decide +kernel
theorem dX7_open_21 : decode cX7_open 21 = .ok (.aload_n 0, 1) := by decide +kernel
theorem dX7_open_22 : decode cX7_open 22 = .ok (.iconst 0, 1) := by decide +kernel
theorem dX7_open_23 : decode cX7_open 23 = .ok (.putfield 34, 3) := by decide +kernel
theorem dX7_open_26 : decode cX7_open 26 = .ok (.aload_n 0, 1) := by decide +kernel
theorem dX7_open_27 : decode cX7_open 27 = .ok (.iconst (-1), 1) := by decide +kernel
theorem dX7_open_28 : decode cX7_open 28 = .ok (.putfield 37, 3) := by decide +kernel
theorem dX7_open_31 : decode cX7_open 31 = .ok (.aload_n 0, 1) := by decide +kernel
theorem dX7_open_32 : decode cX7_open 32 = .ok (.invokevirtual 46, 3) := by decide +kernel
theorem dX7_open_35 : decode cX7_open 35 = .ok (.return_, 1) := by decide +kernel
theorem dX7_fail_0 : decode cX7_fail 0 = .ok (.aload_n 0, 1) := by decide +kernel
theorem dX7_fail_1 : decode cX7_fail 1 = .ok (.iload_n 1, 1) := by decide +kernel
theorem dX7_fail_2 : decode cX7_fail 2 = .ok (.putfield 34, 3) := by decide +kernel
theorem dX7_fail_5 : decode cX7_fail 5 = .ok (.aload_n 0, 1) := by decide +kernel
theorem dX7_fail_6 : decode cX7_fail 6 = .ok (.aload_n 0, 1) := by decide +kernel
theorem dX7_fail_7 : decode cX7_fail 7 = .ok (.getfield 28, 3) := by decide +kernel
theorem dX7_fail_10 : decode cX7_fail 10 = .ok (.putfield 37, 3) := by decide +kernel
theorem dX7_fail_13 : decode cX7_fail 13 = .ok (.iconst 0, 1) := by decide +kernel
theorem dX7_fail_14 : decode cX7_fail 14 = .ok (.ireturn, 1) := by decide +kernel
theorem dX7_advance_0 : decode cX7_advance 0 = .ok (.aload_n 0, 1) := by decide +kernel
theorem dX7_advance_1 : decode cX7_advance 1 = .ok (.getfield 22, 3) := by decide +kernel
theorem dX7_advance_4 : decode cX7_advance 4 = .ok (.aload_n 0, 1) := by decide +kernel
theorem dX7_advance_5 : decode cX7_advance 5 = .ok (.getfield 19, 3) := by decide +kernel
theorem dX7_advance_8 : decode cX7_advance 8 = .ok (.if_icmp .ge 33, 3) := by decide +kernel
theorem dX7_advance_11 : decode cX7_advance 11 = .ok (.aload_n 0, 1) := by decide +kernel
theorem dX7_advance_12 : decode cX7_advance 12 = .ok (.getfield 9, 3) := by decide +kernel
theorem dX7_advance_15 : decode cX7_advance 15 = .ok (.aload_n 0, 1) := by decide +kernel
theorem dX7_advance_16 : decode cX7_advance 16 = .ok (.getfield 22, 3) := by decide +kernel
theorem dX7_advance_19 : decode cX7_advance 19 = .ok (.baload, 1) := by decide +kernel
theorem dX7_advance_20 : decode cX7_advance 20 = .ok (.invokestatic 49, 3) := by decide +kernel
theorem dX7_advance_23 : decode cX7_advance 23 = .ok (.bipush 7, 2) := by decide +kernel
theorem dX7_advance_25 : decode cX7_advance 25 = .ok (.if_icmp .ne 16, 3) := by decide +kernel
theorem dX7_advance_28 : decode cX7_advance 28 = .ok (.aload_n 0, 1) := by decide +kernel
theorem dX7_advance_29 : decode cX7_advance 29 = .ok (.dup, 1) := by decide +kernel
theorem dX7_advance_30 : decode cX7_advance 30 = .ok (.getfield 22, 3) := by decide +kernel
theorem dX7_advance_33 : decode cX7_advance 33 = .ok (.iconst 1, 1) := by decide +kernel
theorem dX7_advance_34 : decode cX7_advance 34 = .ok (.iadd, 1) := by decide +kernel
theorem dX7_advance_35 : decode cX7_advance 35 = .ok (.putfield 22, 3) := by decide +kernel
theorem dX7_advance_38 : decode cX7_advance 38 = .ok (.goto (-38), 3) := by decide +kernel
theorem dX7_advance_41 : decode cX7_advance 41 = .ok (.aload_n 0, 1) := by decide +kernel
theorem dX7_advance_42 : decode cX7_advance 42 = .ok (.aload_n 0, 1) := by decide +kernel
theorem dX7_advance_43 : decode cX7_advance 43 = .ok (.getfield 22, 3) := by decide +kernel
theorem dX7_advance_46 : decode cX7_advance 46 = .ok (.putfield 28, 3) := by decide +kernel
theorem dX7_advance_49 : decode cX7_advance 49 = .ok (.aload_n 0, 1) := by decide +kernel
theorem dX7_advance_50 : decode cX7_advance 50 = .ok (.iconst 0, 1) := by decide +kernel
theorem dX7_advance_51 : decode cX7_advance 51 = .ok (.putfield 31, 3) := by decide +kernel
theorem dX7_advance_54 : decode cX7_advance 54 = .ok (.aload_n 0, 1) := by decide +kernel
theorem dX7_advance_55 : decode cX7_advance 55 = .ok (.aload_n 0, 1) := by decide +kernel
theorem dX7_advance_56 : decode cX7_advance 56 = .ok (.getfield 22, 3) := by decide +kernel
theorem dX7_advance_59 : decode cX7_advance 59 = .ok (.aload_n 0, 1) := by decide +kernel
theorem dX7_advance_60 : decode cX7_advance 60 = .ok (.getfield 19, 3) := by decide +kernel
theorem dX7_advance_63 : decode cX7_advance 63 = .ok (.if_icmp .ge 18, 3) := by decide +kernel
theorem dX7_advance_66 : decode cX7_advance 66 = .ok (.aload_n 0, 1) := by decide +kernel
theorem dX7_advance_67 : decode cX7_advance 67 = .ok (.getfield 9, 3) := by decide +kernel
theorem dX7_advance_70 : decode cX7_advance 70 = .ok (.aload_n 0, 1) := by decide +kernel
theorem dX7_advance_71 : decode cX7_advance 71 = .ok (.getfield 22, 3) := by decide +kernel
theorem dX7_advance_74 : decode cX7_advance 74 = .ok (.baload, 1) := by decide +kernel
theorem dX7_advance_75 : decode cX7_advance 75 = .ok (.invokestatic 49, 3) := by decide +kernel
theorem dX7_advance_78 : decode cX7_advance 78 = .ok (.goto 4, 3) := by decide +kernel
theorem dX7_advance_81 : decode cX7_advance 81 = .ok (.iconst 0, 1) := by decide +kernel
theorem dX7_advance_82 : decode cX7_advance 82 = .ok (.putfield 25, 3) := by decide +kernel
theorem dX7_advance_85 : decode cX7_advance 85 = .ok (.aload_n 0, 1) := by decide +kernel
theorem dX7_advance_86 : decode cX7_advance 86 = .ok (.getfield 25, 3) := by decide +kernel
theorem dX7_advance_89 : decode cX7_advance 89 = .ok (.iconst 1, 1) := by decide +kernel
theorem dX7_advance_90 : decode cX7_advance 90 = .ok (.if_icmp .eq 11, 3) := by decide +kernel
theorem dX7_advance_93 : decode cX7_advance 93 = .ok (.aload_n 0, 1) := by decide +kernel
theorem dX7_advance_94 : decode cX7_advance 94 = .ok (.getfield 25, 3) := by decide +kernel
theorem dX7_advance_97 : decode cX7_advance 97 = .ok (.iconst 2, 1) := by decide +kernel
theorem dX7_advance_98 : decode cX7_advance 98 = .ok (.if_icmp .ne 112, 3) := by decide +kernel
theorem dX7_advance_101 : decode cX7_advance 101 = .ok (.aload_n 0, 1) := by decide +kernel
theorem dX7_advance_102 : decode cX7_advance 102 = .ok (.getfield 22, 3) := by decide +kernel
theorem dX7_advance_105 : decode cX7_advance 105 = .ok (.aload_n 0, 1) := by decide +kernel
theorem dX7_advance_106 : decode cX7_advance 106 = .ok (.getfield 19, 3) := by decide +kernel
theorem dX7_advance_109 : decode cX7_advance 109 = .ok (.if_icmp .ge 59, 3) := by decide +kernel
theorem dX7_advance_112 : decode cX7_advance 112 = .ok (.aload_n 0, 1) := by decide +kernel
theorem dX7_advance_113 : decode cX7_advance 113 = .ok (.getfield 9, 3) := by decide +kernel
theorem dX7_advance_116 : decode cX7_advance 116 = .ok (.aload_n 0, 1) := by decide +kernel
theorem dX7_advance_117 : decode cX7_advance 117 = .ok (.getfield 22, 3) := by decide +kernel
theorem dX7_advance_120 : decode cX7_advance 120 = .ok (.baload, 1) := by decide +kernel
theorem dX7_advance_121 : decode cX7_advance 121 = .ok (.invokestatic 49, 3) := by decide +kernel
theorem dX7_advance_124 : decode cX7_advance 124 = .ok (.aload_n 0, 1) := by decide +kernel
theorem dX7_advance_125 : decode cX7_advance 125 = .ok (.getfield 25, 3) := by decide +kernel
theorem dX7_advance_128 : decode cX7_advance 128 = .ok (.if_icmp .ne 40, 3) := by decide +kernel
theorem dX7_advance_131 : decode cX7_advance 131 = .ok (.aload_n 0, 1) := by decide +kernel
theorem dX7_advance_132 : decode cX7_advance 132 = .ok (.aload_n 0, 1) := by decide +kernel
theorem dX7_advance_133 : decode cX7_advance 133 = .ok (.getfield 31, 3) := by decide +kernel
theorem dX7_advance_136 : decode cX7_advance 136 = .ok (.bipush 10, 2) := by decide +kernel
theorem dX7_advance_138 : decode cX7_advance 138 = .ok (.imul, 1) := by decide +kernel
theorem dX7_advance_139 : decode cX7_advance 139 = .ok (.aload_n 0, 1) := by decide +kernel
theorem dX7_advance_140 : decode cX7_advance 140 = .ok (.getfield 9, 3) := by decide +kernel
theorem dX7_advance_143 : decode cX7_advance 143 = .ok (.aload_n 0, 1) := by decide +kernel
theorem dX7_advance_144 : decode cX7_advance 144 = .ok (.getfield 22, 3) := by decide +kernel
theorem dX7_advance_147 : decode cX7_advance 147 = .ok (.baload, 1) := by decide +kernel
theorem dX7_advance_148 : decode cX7_advance 148 = .ok (.bipush 48, 2) := by decide +kernel
theorem dX7_advance_150 : decode cX7_advance 150 = .ok (.isub, 1) := by decide +kernel
theorem dX7_advance_151 : decode cX7_advance 151 = .ok (.iadd, 1) := by decide +kernel
theorem dX7_advance_152 : decode cX7_advance 152 = .ok (.putfield 31, 3) := by decide +kernel
theorem dX7_advance_155 : decode cX7_advance 155 = .ok (.aload_n 0, 1) := by decide +kernel
theorem dX7_advance_156 : decode cX7_advance 156 = .ok (.dup, 1) := by decide +kernel
theorem dX7_advance_157 : decode cX7_advance 157 = .ok (.getfield 22, 3) := by decide +kernel
theorem dX7_advance_160 : decode cX7_advance 160 = .ok (.iconst 1, 1) := by decide +kernel
theorem dX7_advance_161 : decode cX7_advance 161 = .ok (.iadd, 1) := by decide +kernel
theorem dX7_advance_162 : decode cX7_advance 162 = .ok (.putfield 22, 3) := by decide +kernel
theorem dX7_advance_165 : decode cX7_advance 165 = .ok (.goto (-64), 3) := by decide +kernel
theorem dX7_advance_168 : decode cX7_advance 168 = .ok (.aload_n 0, 1) := by decide +kernel
theorem dX7_advance_169 : decode cX7_advance 169 = .ok (.aload_n 0, 1) := by decide +kernel
theorem dX7_advance_170 : decode cX7_advance 170 = .ok (.getfield 22, 3) := by decide +kernel
theorem dX7_advance_173 : decode cX7_advance 173 = .ok (.aload_n 0, 1) := by decide +kernel
theorem dX7_advance_174 : decode cX7_advance 174 = .ok (.getfield 28, 3) := by decide +kernel
theorem dX7_advance_177 : decode cX7_advance 177 = .ok (.isub, 1) := by decide +kernel
theorem dX7_advance_178 : decode cX7_advance 178 = .ok (.aload_n 0, 1) := by decide +kernel
theorem dX7_advance_179 : decode cX7_advance 179 = .ok (.getfield 25, 3) := by decide +kernel
theorem dX7_advance_182 : decode cX7_advance 182 = .ok (.iconst 1, 1) := by decide +kernel
theorem dX7_advance_183 : decode cX7_advance 183 = .ok (.if_icmp .ne 8, 3) := by decide +kernel
theorem dX7_advance_186 : decode cX7_advance 186 = .ok (.bipush 8, 2) := by decide +kernel
theorem dX7_advance_188 : decode cX7_advance 188 = .ok (.goto 4, 3) := by decide +kernel
theorem dX7_advance_191 : decode cX7_advance 191 = .ok (.iconst 4, 1) := by decide +kernel
theorem dX7_advance_192 : decode cX7_advance 192 = .ok (.if_icmp .gt 10, 3) := by decide +kernel
theorem dX7_advance_195 : decode cX7_advance 195 = .ok (.aload_n 0, 1) := by decide +kernel
theorem dX7_advance_196 : decode cX7_advance 196 = .ok (.getfield 25, 3) := by decide +kernel
theorem dX7_advance_199 : decode cX7_advance 199 = .ok (.goto 5, 3) := by decide +kernel
theorem dX7_advance_202 : decode cX7_advance 202 = .ok (.bipush 6, 2) := by decide +kernel
theorem dX7_advance_204 : decode cX7_advance 204 = .ok (.putfield 25, 3) := by decide +kernel
theorem dX7_advance_207 : decode cX7_advance 207 = .ok (.goto 24, 3) := by decide +kernel
theorem dX7_advance_210 : decode cX7_advance 210 = .ok (.aload_n 0, 1) := by decide +kernel
theorem dX7_advance_211 : decode cX7_advance 211 = .ok (.getfield 22, 3) := by decide +kernel
theorem dX7_advance_214 : decode cX7_advance 214 = .ok (.aload_n 0, 1) := by decide +kernel
theorem dX7_advance_215 : decode cX7_advance 215 = .ok (.getfield 19, 3) := by decide +kernel
theorem dX7_advance_218 : decode cX7_advance 218 = .ok (.if_icmp .ge 13, 3) := by decide +kernel
theorem dX7_advance_221 : decode cX7_advance 221 = .ok (.aload_n 0, 1) := by decide +kernel
theorem dX7_advance_222 : decode cX7_advance 222 = .ok (.dup, 1) := by decide +kernel
theorem dX7_advance_223 : decode cX7_advance 223 = .ok (.getfield 22, 3) := by decide +kernel
theorem dX7_advance_226 : decode cX7_advance 226 = .ok (.iconst 1, 1) := by decide +kernel
theorem dX7_advance_227 : decode cX7_advance 227 = .ok (.iadd, 1) := by decide +kernel
theorem dX7_advance_228 : decode cX7_advance 228 = .ok (.putfield 22, 3) := by decide +kernel
theorem dX7_advance_231 : decode cX7_advance 231 = .ok (.return_, 1) := by decide +kernel
theorem dX7_kindOf_0 : decode cX7_kindOf 0 = .ok (.iload_n 0, 1) := by decide +kernel
theorem dX7_kindOf_1 : decode cX7_kindOf 1 = .ok (.bipush 97, 2) := by decide +kernel
theorem dX7_kindOf_3 : decode cX7_kindOf 3 = .ok (.if_icmp .lt 11, 3) := by decide +kernel
theorem dX7_kindOf_6 : decode cX7_kindOf 6 = .ok (.iload_n 0, 1) := by decide +kernel
theorem dX7_kindOf_7 : decode cX7_kindOf 7 = .ok (.bipush 122, 2) := by decide +kernel
theorem dX7_kindOf_9 : decode cX7_kindOf 9 = .ok (.if_icmp .gt 5, 3) := by decide +kernel
theorem dX7_kindOf_12 : decode cX7_kindOf 12 = .ok (.iconst 1, 1) := by decide +kernel
theorem dX7_kindOf_13 : decode cX7_kindOf 13 = .ok (.ireturn, 1) := by decide +kernel
theorem dX7_kindOf_14 : decode cX7_kindOf 14 = .ok (.iload_n 0, 1) := by decide +kernel
theorem dX7_kindOf_15 : decode cX7_kindOf 15 = .ok (.bipush 48, 2) := by decide +kernel
theorem dX7_kindOf_17 : decode cX7_kindOf 17 = .ok (.if_icmp .lt 11, 3) := by decide +kernel
theorem dX7_kindOf_20 : decode cX7_kindOf 20 = .ok (.iload_n 0, 1) := by decide +kernel
theorem dX7_kindOf_21 : decode cX7_kindOf 21 = .ok (.bipush 57, 2) := by decide +kernel
theorem dX7_kindOf_23 : decode cX7_kindOf 23 = .ok (.if_icmp .gt 5, 3) := by decide +kernel
theorem dX7_kindOf_26 : decode cX7_kindOf 26 = .ok (.iconst 2, 1) := by decide +kernel
theorem dX7_kindOf_27 : decode cX7_kindOf 27 = .ok (.ireturn, 1) := by decide +kernel
theorem dX7_kindOf_28 : decode cX7_kindOf 28 = .ok (.iload_n 0, 1) := by decide +kernel
theorem dX7_kindOf_29 : decode cX7_kindOf 29 = .ok (.lookupswitch 63 #[(10, 54), (32, 51), (59, 61), (60, 57), (62, 59)], 51) := by decide +kernel
theorem dX7_kindOf_80 : decode cX7_kindOf 80 = .ok (.bipush 7, 2) := by decide +kernel
theorem dX7_kindOf_82 : decode cX7_kindOf 82 = .ok (.ireturn, 1) := by decide +kernel
theorem dX7_kindOf_83 : decode cX7_kindOf 83 = .ok (.bipush 7, 2) := by decide +kernel
theorem dX7_kindOf_85 : decode cX7_kindOf 85 = .ok (.ireturn, 1) := by decide +kernel
theorem dX7_kindOf_86 : decode cX7_kindOf 86 = .ok (.iconst 3, 1) := by decide +kernel
theorem dX7_kindOf_87 : decode cX7_kindOf 87 = .ok (.ireturn, 1) := by decide +kernel
theorem dX7_kindOf_88 : decode cX7_kindOf 88 = .ok (.iconst 4, 1) := by decide +kernel
theorem dX7_kindOf_89 : decode cX7_kindOf 89 = .ok (.ireturn, 1) := by decide +kernel
theorem dX7_kindOf_90 : decode cX7_kindOf 90 = .ok (.iconst 5, 1) := by decide +kernel
theorem dX7_kindOf_91 : decode cX7_kindOf 91 = .ok (.ireturn, 1) := by decide +kernel
theorem dX7_kindOf_92 : decode cX7_kindOf 92 = .ok (.bipush 6, 2) := by decide +kernel
theorem dX7_kindOf_94 : decode cX7_kindOf 94 = .ok (.ireturn, 1) := by decide +kernel
theorem dX7_isWord_0 : decode cX7_isWord 0 = .ok (.aload_n 0, 1) := by decide +kernel
theorem dX7_isWord_1 : decode cX7_isWord 1 = .ok (.getfield 25, 3) := by decide +kernel
theorem dX7_isWord_4 : decode cX7_isWord 4 = .ok (.iconst 1, 1) := by decide +kernel
theorem dX7_isWord_5 : decode cX7_isWord 5 = .ok (.if_icmp .ne 19, 3) := by decide +kernel
theorem dX7_isWord_8 : decode cX7_isWord 8 = .ok (.aload_n 0, 1) := by decide +kernel
theorem dX7_isWord_9 : decode cX7_isWord 9 = .ok (.getfield 22, 3) := by decide +kernel
theorem dX7_isWord_12 : decode cX7_isWord 12 = .ok (.aload_n 0, 1) := by decide +kernel
theorem dX7_isWord_13 : decode cX7_isWord 13 = .ok (.getfield 28, 3) := by decide +kernel
theorem dX7_isWord_16 : decode cX7_isWord 16 = .ok (.isub, 1) := by decide +kernel
theorem dX7_isWord_17 : decode cX7_isWord 17 = .ok (.aload_n 1, 1) := by decide +kernel
theorem dX7_isWord_18 : decode cX7_isWord 18 = .ok (.invokevirtual 53, 3) := by decide +kernel
theorem dX7_isWord_21 : decode cX7_isWord 21 = .ok (.if_icmp .eq 5, 3) := by decide +kernel
theorem dX7_isWord_24 : decode cX7_isWord 24 = .ok (.iconst 0, 1) := by decide +kernel
theorem dX7_isWord_25 : decode cX7_isWord 25 = .ok (.ireturn, 1) := by decide +kernel
theorem dX7_isWord_26 : decode cX7_isWord 26 = .ok (.iconst 0, 1) := by decide +kernel
theorem dX7_isWord_27 : decode cX7_isWord 27 = .ok (.istore_n 2, 1) := by decide +kernel
theorem dX7_isWord_28 : decode cX7_isWord 28 = .ok (.iload_n 2, 1) := by decide +kernel
theorem dX7_isWord_29 : decode cX7_isWord 29 = .ok (.aload_n 1, 1) := by decide +kernel
theorem dX7_isWord_30 : decode cX7_isWord 30 = .ok (.invokevirtual 53, 3) := by decide +kernel
theorem dX7_isWord_33 : decode cX7_isWord 33 = .ok (.if_icmp .ge 43, 3) := by decide +kernel
theorem dX7_isWord_36 : decode cX7_isWord 36 = .ok (.aload_n 0, 1) := by decide +kernel
theorem dX7_isWord_37 : decode cX7_isWord 37 = .ok (.getfield 28, 3) := by decide +kernel
theorem dX7_isWord_40 : decode cX7_isWord 40 = .ok (.iload_n 2, 1) := by decide +kernel
theorem dX7_isWord_41 : decode cX7_isWord 41 = .ok (.iadd, 1) := by decide +kernel
theorem dX7_isWord_42 : decode cX7_isWord 42 = .ok (.aload_n 0, 1) := by decide +kernel
theorem dX7_isWord_43 : decode cX7_isWord 43 = .ok (.getfield 19, 3) := by decide +kernel
theorem dX7_isWord_46 : decode cX7_isWord 46 = .ok (.if_icmp .ge 30, 3) := by decide +kernel
theorem dX7_isWord_49 : decode cX7_isWord 49 = .ok (.aload_n 0, 1) := by decide +kernel
theorem dX7_isWord_50 : decode cX7_isWord 50 = .ok (.getfield 9, 3) := by decide +kernel
theorem dX7_isWord_53 : decode cX7_isWord 53 = .ok (.aload_n 0, 1) := by decide +kernel
theorem dX7_isWord_54 : decode cX7_isWord 54 = .ok (.getfield 28, 3) := by decide +kernel
theorem dX7_isWord_57 : decode cX7_isWord 57 = .ok (.iload_n 2, 1) := by decide +kernel
theorem dX7_isWord_58 : decode cX7_isWord 58 = .ok (.iadd, 1) := by decide +kernel
theorem dX7_isWord_59 : decode cX7_isWord 59 = .ok (.baload, 1) := by decide +kernel
theorem dX7_isWord_60 : decode cX7_isWord 60 = .ok (.aload_n 1, 1) := by decide +kernel
theorem dX7_isWord_61 : decode cX7_isWord 61 = .ok (.iload_n 2, 1) := by decide +kernel
theorem dX7_isWord_62 : decode cX7_isWord 62 = .ok (.invokevirtual 59, 3) := by decide +kernel
theorem dX7_isWord_65 : decode cX7_isWord 65 = .ok (.if_icmp .eq 5, 3) := by decide +kernel
theorem dX7_isWord_68 : decode cX7_isWord 68 = .ok (.iconst 0, 1) := by decide +kernel
theorem dX7_isWord_69 : decode cX7_isWord 69 = .ok (.ireturn, 1) := by decide +kernel
theorem dX7_isWord_70 : decode cX7_isWord 70 = .ok (.iinc 2 1, 3) := by decide +kernel
theorem dX7_isWord_73 : decode cX7_isWord 73 = .ok (.goto (-45), 3) := by decide +kernel
theorem dX7_isWord_76 : decode cX7_isWord 76 = .ok (.iconst 1, 1) := by decide +kernel
theorem dX7_isWord_77 : decode cX7_isWord 77 = .ok (.ireturn, 1) := by decide +kernel
theorem dX7_takeSemicolon_0 : decode cX7_takeSemicolon 0 = .ok (.aload_n 0, 1) := by decide +kernel
theorem dX7_takeSemicolon_1 : decode cX7_takeSemicolon 1 = .ok (.getfield 25, 3) := by decide +kernel
theorem dX7_takeSemicolon_4 : decode cX7_takeSemicolon 4 = .ok (.iconst 5, 1) := by decide +kernel
theorem dX7_takeSemicolon_5 : decode cX7_takeSemicolon 5 = .ok (.if_icmp .eq 9, 3) := by decide +kernel
theorem dX7_takeSemicolon_8 : decode cX7_takeSemicolon 8 = .ok (.aload_n 0, 1) := by decide +kernel
theorem dX7_takeSemicolon_9 : decode cX7_takeSemicolon 9 = .ok (.iconst 1, 1) := by decide +kernel
theorem dX7_takeSemicolon_10 : decode cX7_takeSemicolon 10 = .ok (.invokevirtual 63, 3) := by decide +kernel
theorem dX7_takeSemicolon_13 : decode cX7_takeSemicolon 13 = .ok (.ireturn, 1) := by decide +kernel
theorem dX7_takeSemicolon_14 : decode cX7_takeSemicolon 14 = .ok (.aload_n 0, 1) := by decide +kernel
theorem dX7_takeSemicolon_15 : decode cX7_takeSemicolon 15 = .ok (.invokevirtual 46, 3) := by decide +kernel
theorem dX7_takeSemicolon_18 : decode cX7_takeSemicolon 18 = .ok (.iconst 1, 1) := by decide +kernel
theorem dX7_takeSemicolon_19 : decode cX7_takeSemicolon 19 = .ok (.ireturn, 1) := by decide +kernel
theorem dX7_takeThis_0 : decode cX7_takeThis 0 = .ok (.aload_n 0, 1) := by decide +kernel
theorem dX7_takeThis_1 : decode cX7_takeThis 1 = .ok (.aload_n 1, 1) := by decide +kernel
theorem dX7_takeThis_2 : decode cX7_takeThis 2 = .ok (.invokevirtual 67, 3) := by decide +kernel
theorem dX7_takeThis_5 : decode cX7_takeThis 5 = .ok (.ifCond .ne 9, 3) := by decide +kernel
theorem dX7_takeThis_8 : decode cX7_takeThis 8 = .ok (.aload_n 0, 1) := by decide +kernel
theorem dX7_takeThis_9 : decode cX7_takeThis 9 = .ok (.iconst 1, 1) := by decide +kernel
theorem dX7_takeThis_10 : decode cX7_takeThis 10 = .ok (.invokevirtual 63, 3) := by decide +kernel
theorem dX7_takeThis_13 : decode cX7_takeThis 13 = .ok (.ireturn, 1) := by decide +kernel
theorem dX7_takeThis_14 : decode cX7_takeThis 14 = .ok (.aload_n 0, 1) := by decide +kernel
theorem dX7_takeThis_15 : decode cX7_takeThis 15 = .ok (.invokevirtual 46, 3) := by decide +kernel
theorem dX7_takeThis_18 : decode cX7_takeThis 18 = .ok (.iconst 1, 1) := by decide +kernel
theorem dX7_takeThis_19 : decode cX7_takeThis 19 = .ok (.ireturn, 1) := by decide +kernel
end
section
theorem dX8_init_0 : decode cX8_init 0 = .ok (.aload_n 0, 1) := by decide +kernel
theorem dX8_init_1 : decode cX8_init 1 = .ok (.invokespecial 3, 3) := by decide +kernel
theorem dX8_init_4 : decode cX8_init 4 = .ok (.aload_n 0, 1) := by decide +kernel
theorem dX8_init_5 : decode cX8_init 5 = .ok (.new 9, 3) := by decide +kernel
theorem dX8_init_8 : decode cX8_init 8 = .ok (.dup, 1) := by decide +kernel
theorem dX8_init_9 : decode cX8_init 9 = .ok (.invokespecial 11, 3) := by decide +kernel
theorem dX8_init_12 : decode cX8_init 12 = .ok (.putfield 12, 3) := by decide +kernel
theorem dX8_init_15 : decode cX8_init 15 = .ok (.aload_n 0, 1) := by decide +kernel
theorem dX8_init_16 : decode cX8_init 16 = .ok (.new 18, 3) := by decide +kernel
theorem dX8_init_19 : decode cX8_init 19 = .ok (.dup, 1) := by decide +kernel
theorem dX8_init_20 : decode cX8_init 20 = .ok (.invokespecial 20, 3) := by decide +kernel
theorem dX8_init_23 : decode cX8_init 23 = .ok (.putfield 21, 3) := by decide +kernel
theorem dX8_init_26 : decode cX8_init 26 = .ok (.aload_n 0, 1) := by decide +kernel
theorem dX8_init_27 : decode cX8_init 27 = .ok (.bipush 13, 2) := by decide +kernel
theorem dX8_init_29 : decode cX8_init 29 = .ok (.newarray .int, 2) := by decide +kernel
theorem dX8_init_31 : decode cX8_init 31 = .ok (.putfield 25, 3) := by decide +kernel
theorem dX8_init_34 : decode cX8_init 34 = .ok (.aload_n 0, 1) := by decide +kernel
theorem dX8_init_35 : decode cX8_init 35 = .ok (.bipush 13, 2) := by decide +kernel
theorem dX8_init_37 : decode cX8_init 37 = .ok (.newarray .int, 2) := by decide +kernel
theorem dX8_init_39 : decode cX8_init 39 = .ok (.putfield 29, 3) := by decide +kernel
theorem dX8_init_42 : decode cX8_init 42 = .ok (.aload_n 0, 1) := by decide +kernel
theorem dX8_init_43 : decode cX8_init 43 = .ok (.iconst 0, 1) := by decide +kernel
theorem dX8_init_44 : decode cX8_init 44 = .ok (.putfield 32, 3) := by decide +kernel
theorem dX8_init_47 : decode cX8_init 47 = .ok (.aload_n 0, 1) := by decide +kernel
theorem dX8_init_48 : decode cX8_init 48 = .ok (.iconst 0, 1) := by decide +kernel
theorem dX8_init_49 : decode cX8_init 49 = .ok (.putfield 36, 3) := by decide +kernel
theorem dX8_init_52 : decode cX8_init 52 = .ok (.aload_n 0, 1) := by decide +kernel
theorem dX8_init_53 : decode cX8_init 53 = .ok (.iconst 0, 1) := by decide +kernel
theorem dX8_init_54 : decode cX8_init 54 = .ok (.putfield 39, 3) := by decide +kernel
theorem dX8_init_57 : decode cX8_init 57 = .ok (.aload_n 0, 1) := by decide +kernel
theorem dX8_init_58 : decode cX8_init 58 = .ok (.iconst 0, 1) := by decide +kernel
theorem dX8_init_59 : decode cX8_init 59 = .ok (.putfield 42, 3) := by decide +kernel
theorem dX8_init_62 : decode cX8_init 62 = .ok (.aload_n 0, 1) := by decide +kernel
theorem dX8_init_63 : decode cX8_init 63 = .ok (.iconst 0, 1) := by decide +kernel
theorem dX8_init_64 : decode cX8_init 64 = .ok (.putfield 45, 3) := by decide +kernel
theorem dX8_init_67 : decode cX8_init 67 = .ok (.aload_n 0, 1) := by decide +kernel
theorem dX8_init_68 : decode cX8_init 68 = .ok (.iconst 0, 1) := by decide +kernel
theorem dX8_init_69 : decode cX8_init 69 = .ok (.putfield 48, 3) := by decide +kernel
theorem dX8_init_72 : decode cX8_init 72 = .ok (.aload_n 0, 1) := by decide +kernel
theorem dX8_init_73 : decode cX8_init 73 = .ok (.iconst 0, 1) := by decide +kernel
theorem dX8_init_74 : decode cX8_init 74 = .ok (.putfield 51, 3) := by decide +kernel
theorem dX8_init_77 : decode cX8_init 77 = .ok (.aload_n 0, 1) := by decide +kernel
theorem dX8_init_78 : decode cX8_init 78 = .ok (.iconst 0, 1) := by decide +kernel
theorem dX8_init_79 : decode cX8_init 79 = .ok (.putfield 54, 3) := by decide +kernel
theorem dX8_init_82 : decode cX8_init 82 = .ok (.aload_n 0, 1) := by decide +kernel
theorem dX8_init_83 : decode cX8_init 83 = .ok (.iconst 0, 1) := by decide +kernel
theorem dX8_init_84 : decode cX8_init 84 = .ok (.putfield 57, 3) := by decide +kernel
theorem dX8_init_87 : decode cX8_init 87 = .ok (.aload_n 0, 1) := by decide +kernel
theorem dX8_init_88 : decode cX8_init 88 = .ok (.iconst 0, 1) := by decide +kernel
theorem dX8_init_89 : decode cX8_init 89 = .ok (.putfield 60, 3) := by decide +kernel
theorem dX8_init_92 : decode cX8_init 92 = .ok (.aload_n 0, 1) := by decide +kernel
theorem dX8_init_93 : decode cX8_init 93 = .ok (.iconst (-1), 1) := by decide +kernel
theorem dX8_init_94 : decode cX8_init 94 = .ok (.putfield 63, 3) := by decide +kernel
theorem dX8_init_97 : decode cX8_init 97 = .ok (.return_, 1) := by decide +kernel
theorem dX8_begin_0 : decode cX8_begin 0 = .ok (.aload_n 0, 1) := by decide +kernel
theorem dX8_begin_1 : decode cX8_begin 1 = .ok (.getfield 12, 3) := by decide +kernel
theorem dX8_begin_4 : decode cX8_begin 4 = .ok (.iload_n 1, 1) := by decide +kernel
theorem dX8_begin_5 : decode cX8_begin 5 = .ok (.invokevirtual 66, 3) := by decide +kernel
theorem dX8_begin_8 : decode cX8_begin 8 = .ok (.aload_n 0, 1) := by decide +kernel
theorem dX8_begin_9 : decode cX8_begin 9 = .ok (.getfield 21, 3) := by decide +kernel
theorem dX8_begin_12 : decode cX8_begin 12 = .ok (.iconst 0, 1) := by decide +kernel
theorem dX8_begin_13 : decode cX8_begin 13 = .ok (.putfield 70, 3) := by decide +kernel
theorem dX8_begin_16 : decode cX8_begin 16 = .ok (.aload_n 0, 1) := by decide +kernel
theorem dX8_begin_17 : decode cX8_begin 17 = .ok (.getfield 25, 3) := by decide +kernel
theorem dX8_begin_20 : decode cX8_begin 20 = .ok (.iconst (-1), 1) := by decide +kernel
theorem dX8_begin_21 : decode cX8_begin 21 = .ok (.invokestatic 73, 3) := by decide +kernel
theorem dX8_begin_24 : decode cX8_begin 24 = .ok (.aload_n 0, 1) := by decide +kernel
theorem dX8_begin_25 : decode cX8_begin 25 = .ok (.getfield 29, 3) := by decide +kernel
theorem dX8_begin_28 : decode cX8_begin 28 = .ok (.iconst (-1), 1) := by decide +kernel
theorem dX8_begin_29 : decode cX8_begin 29 = .ok (.invokestatic 73, 3) := by decide +kernel
theorem dX8_begin_32 : decode cX8_begin 32 = .ok (.aload_n 0, 1) := by decide +kernel
theorem dX8_begin_33 : decode cX8_begin 33 = .ok (.iload_n 2, 1) := by decide +kernel
theorem dX8_begin_34 : decode cX8_begin 34 = .ok (.putfield 32, 3) := by decide +kernel
theorem dX8_begin_37 : decode cX8_begin 37 = .ok (.aload_n 0, 1) := by decide +kernel
theorem dX8_begin_38 : decode cX8_begin 38 = .ok (.iload_n 3, 1) := by decide +kernel
theorem dX8_begin_39 : decode cX8_begin 39 = .ok (.putfield 36, 3) := by decide +kernel
theorem dX8_begin_42 : decode cX8_begin 42 = .ok (.aload_n 0, 1) := by decide +kernel
theorem dX8_begin_43 : decode cX8_begin 43 = .ok (.iload 4, 2) := by decide +kernel
theorem dX8_begin_45 : decode cX8_begin 45 = .ok (.putfield 39, 3) := by decide +kernel
theorem dX8_begin_48 : decode cX8_begin 48 = .ok (.aload_n 0, 1) := by decide +kernel
theorem dX8_begin_49 : decode cX8_begin 49 = .ok (.iload 5, 2) := by decide +kernel
theorem dX8_begin_51 : decode cX8_begin 51 = .ok (.putfield 42, 3) := by decide +kernel
theorem dX8_begin_54 : decode cX8_begin 54 = .ok (.aload_n 0, 1) := by decide +kernel
theorem dX8_begin_55 : decode cX8_begin 55 = .ok (.iconst 0, 1) := by decide +kernel
theorem dX8_begin_56 : decode cX8_begin 56 = .ok (.putfield 45, 3) := by decide +kernel
theorem dX8_begin_59 : decode cX8_begin 59 = .ok (.aload_n 0, 1) := by decide +kernel
theorem dX8_begin_60 : decode cX8_begin 60 = .ok (.iload_n 3, 1) := by decide +kernel
theorem dX8_begin_61 : decode cX8_begin 61 = .ok (.putfield 48, 3) := by decide +kernel
theorem dX8_begin_64 : decode cX8_begin 64 = .ok (.aload_n 0, 1) := by decide +kernel
theorem dX8_begin_65 : decode cX8_begin 65 = .ok (.iconst 0, 1) := by decide +kernel
theorem dX8_begin_66 : decode cX8_begin 66 = .ok (.putfield 51, 3) := by decide +kernel
theorem dX8_begin_69 : decode cX8_begin 69 = .ok (.aload_n 0, 1) := by decide +kernel
theorem dX8_begin_70 : decode cX8_begin 70 = .ok (.iconst 0, 1) := by decide +kernel
theorem dX8_begin_71 : decode cX8_begin 71 = .ok (.putfield 54, 3) := by decide +kernel
theorem dX8_begin_74 : decode cX8_begin 74 = .ok (.aload_n 0, 1) := by decide +kernel
theorem dX8_begin_75 : decode cX8_begin 75 = .ok (.iconst 0, 1) := by decide +kernel
theorem dX8_begin_76 : decode cX8_begin 76 = .ok (.putfield 57, 3) := by decide +kernel
theorem dX8_begin_79 : decode cX8_begin 79 = .ok (.aload_n 0, 1) := by decide +kernel
theorem dX8_begin_80 : decode cX8_begin 80 = .ok (.iconst 0, 1) := by decide +kernel
theorem dX8_begin_81 : decode cX8_begin 81 = .ok (.putfield 60, 3) := by decide +kernel
theorem dX8_begin_84 : decode cX8_begin 84 = .ok (.aload_n 0, 1) := by decide +kernel
theorem dX8_begin_85 : decode cX8_begin 85 = .ok (.iconst (-1), 1) := by decide +kernel
theorem dX8_begin_86 : decode cX8_begin 86 = .ok (.putfield 63, 3) := by decide +kernel
theorem dX8_begin_89 : decode cX8_begin 89 = .ok (.return_, 1) := by decide +kernel
theorem dX8_beginAgain_0 : decode cX8_beginAgain 0 = .ok (.aload_n 1, 1) := by decide +kernel
theorem dX8_beginAgain_1 : decode cX8_beginAgain 1 = .ok (.aload_n 0, 1) := by decide +kernel
theorem dX8_beginAgain_2 : decode cX8_beginAgain 2 = .ok (.getfield 12, 3) := by decide +kernel
theorem dX8_beginAgain_5 : decode cX8_beginAgain 5 = .ok (.getfield 79, 3) := by decide +kernel
theorem dX8_beginAgain_8 : decode cX8_beginAgain 8 = .ok (.aload_n 0, 1) := by decide +kernel
theorem dX8_beginAgain_9 : decode cX8_beginAgain 9 = .ok (.getfield 32, 3) := by decide +kernel
theorem dX8_beginAgain_12 : decode cX8_beginAgain 12 = .ok (.aload_n 0, 1) := by decide +kernel
theorem dX8_beginAgain_13 : decode cX8_beginAgain 13 = .ok (.getfield 36, 3) := by decide +kernel
theorem dX8_beginAgain_16 : decode cX8_beginAgain 16 = .ok (.aload_n 0, 1) := by decide +kernel
theorem dX8_beginAgain_17 : decode cX8_beginAgain 17 = .ok (.getfield 39, 3) := by decide +kernel
theorem dX8_beginAgain_20 : decode cX8_beginAgain 20 = .ok (.iload_n 2, 1) := by decide +kernel
theorem dX8_beginAgain_21 : decode cX8_beginAgain 21 = .ok (.invokevirtual 80, 3) := by decide +kernel
theorem dX8_beginAgain_24 : decode cX8_beginAgain 24 = .ok (.return_, 1) := by decide +kernel
theorem dX8_copyFrom_0 : decode cX8_copyFrom 0 = .ok (.aload_n 0, 1) := by decide +kernel
theorem dX8_copyFrom_1 : decode cX8_copyFrom 1 = .ok (.getfield 12, 3) := by decide +kernel
theorem dX8_copyFrom_4 : decode cX8_copyFrom 4 = .ok (.aload_n 1, 1) := by decide +kernel
theorem dX8_copyFrom_5 : decode cX8_copyFrom 5 = .ok (.getfield 12, 3) := by decide +kernel
theorem dX8_copyFrom_8 : decode cX8_copyFrom 8 = .ok (.invokevirtual 83, 3) := by decide +kernel
theorem dX8_copyFrom_11 : decode cX8_copyFrom 11 = .ok (.aload_n 0, 1) := by decide +kernel
theorem dX8_copyFrom_12 : decode cX8_copyFrom 12 = .ok (.getfield 21, 3) := by decide +kernel
theorem dX8_copyFrom_15 : decode cX8_copyFrom 15 = .ok (.aload_n 1, 1) := by decide +kernel
theorem dX8_copyFrom_16 : decode cX8_copyFrom 16 = .ok (.getfield 21, 3) := by decide +kernel
theorem dX8_copyFrom_19 : decode cX8_copyFrom 19 = .ok (.invokevirtual 87, 3) := by decide +kernel
theorem dX8_copyFrom_22 : decode cX8_copyFrom 22 = .ok (.aload_n 1, 1) := by decide +kernel
theorem dX8_copyFrom_23 : decode cX8_copyFrom 23 = .ok (.getfield 25, 3) := by decide +kernel
theorem dX8_copyFrom_26 : decode cX8_copyFrom 26 = .ok (.iconst 0, 1) := by decide +kernel
theorem dX8_copyFrom_27 : decode cX8_copyFrom 27 = .ok (.aload_n 0, 1) := by decide +kernel
theorem dX8_copyFrom_28 : decode cX8_copyFrom 28 = .ok (.getfield 25, 3) := by decide +kernel
theorem dX8_copyFrom_31 : decode cX8_copyFrom 31 = .ok (.iconst 0, 1) := by decide +kernel
theorem dX8_copyFrom_32 : decode cX8_copyFrom 32 = .ok (.bipush 13, 2) := by decide +kernel
theorem dX8_copyFrom_34 : decode cX8_copyFrom 34 = .ok (.invokestatic 90, 3) := by decide +kernel
theorem dX8_copyFrom_37 : decode cX8_copyFrom 37 = .ok (.aload_n 1, 1) := by decide +kernel
theorem dX8_copyFrom_38 : decode cX8_copyFrom 38 = .ok (.getfield 29, 3) := by decide +kernel
theorem dX8_copyFrom_41 : decode cX8_copyFrom 41 = .ok (.iconst 0, 1) := by decide +kernel
theorem dX8_copyFrom_42 : decode cX8_copyFrom 42 = .ok (.aload_n 0, 1) := by decide +kernel
theorem dX8_copyFrom_43 : decode cX8_copyFrom 43 = .ok (.getfield 29, 3) := by decide +kernel
theorem dX8_copyFrom_46 : decode cX8_copyFrom 46 = .ok (.iconst 0, 1) := by decide +kernel
theorem dX8_copyFrom_47 : decode cX8_copyFrom 47 = .ok (.bipush 13, 2) := by decide +kernel
theorem dX8_copyFrom_49 : decode cX8_copyFrom 49 = .ok (.invokestatic 90, 3) := by decide +kernel
theorem dX8_copyFrom_52 : decode cX8_copyFrom 52 = .ok (.aload_n 0, 1) := by decide +kernel
theorem dX8_copyFrom_53 : decode cX8_copyFrom 53 = .ok (.aload_n 1, 1) := by decide +kernel
theorem dX8_copyFrom_54 : decode cX8_copyFrom 54 = .ok (.getfield 32, 3) := by decide +kernel
theorem dX8_copyFrom_57 : decode cX8_copyFrom 57 = .ok (.putfield 32, 3) := by decide +kernel
theorem dX8_copyFrom_60 : decode cX8_copyFrom 60 = .ok (.aload_n 0, 1) := by decide +kernel
theorem dX8_copyFrom_61 : decode cX8_copyFrom 61 = .ok (.aload_n 1, 1) := by decide +kernel
theorem dX8_copyFrom_62 : decode cX8_copyFrom 62 = .ok (.getfield 36, 3) := by decide +kernel
theorem dX8_copyFrom_65 : decode cX8_copyFrom 65 = .ok (.putfield 36, 3) := by decide +kernel
theorem dX8_copyFrom_68 : decode cX8_copyFrom 68 = .ok (.aload_n 0, 1) := by decide +kernel
theorem dX8_copyFrom_69 : decode cX8_copyFrom 69 = .ok (.aload_n 1, 1) := by decide +kernel
theorem dX8_copyFrom_70 : decode cX8_copyFrom 70 = .ok (.getfield 39, 3) := by decide +kernel
theorem dX8_copyFrom_73 : decode cX8_copyFrom 73 = .ok (.putfield 39, 3) := by decide +kernel
theorem dX8_copyFrom_76 : decode cX8_copyFrom 76 = .ok (.aload_n 0, 1) := by decide +kernel
theorem dX8_copyFrom_77 : decode cX8_copyFrom 77 = .ok (.aload_n 1, 1) := by decide +kernel
theorem dX8_copyFrom_78 : decode cX8_copyFrom 78 = .ok (.getfield 42, 3) := by decide +kernel
theorem dX8_copyFrom_81 : decode cX8_copyFrom 81 = .ok (.putfield 42, 3) := by decide +kernel
theorem dX8_copyFrom_84 : decode cX8_copyFrom 84 = .ok (.aload_n 0, 1) := by decide +kernel
theorem dX8_copyFrom_85 : decode cX8_copyFrom 85 = .ok (.aload_n 1, 1) := by decide +kernel
theorem dX8_copyFrom_86 : decode cX8_copyFrom 86 = .ok (.getfield 45, 3) := by decide +kernel
theorem dX8_copyFrom_89 : decode cX8_copyFrom 89 = .ok (.putfield 45, 3) := by decide +kernel
theorem dX8_copyFrom_92 : decode cX8_copyFrom 92 = .ok (.aload_n 0, 1) := by decide +kernel
theorem dX8_copyFrom_93 : decode cX8_copyFrom 93 = .ok (.aload_n 1, 1) := by decide +kernel
theorem dX8_copyFrom_94 : decode cX8_copyFrom 94 = .ok (.getfield 48, 3) := by decide +kernel
theorem dX8_copyFrom_97 : decode cX8_copyFrom 97 = .ok (.putfield 48, 3) := by decide +kernel
theorem dX8_copyFrom_100 : decode cX8_copyFrom 100 = .ok (.aload_n 0, 1) := by decide +kernel
theorem dX8_copyFrom_101 : decode cX8_copyFrom 101 = .ok (.aload_n 1, 1) := by decide +kernel
theorem dX8_copyFrom_102 : decode cX8_copyFrom 102 = .ok (.getfield 51, 3) := by decide +kernel
theorem dX8_copyFrom_105 : decode cX8_copyFrom 105 = .ok (.putfield 51, 3) := by decide +kernel
theorem dX8_copyFrom_108 : decode cX8_copyFrom 108 = .ok (.aload_n 0, 1) := by decide +kernel
theorem dX8_copyFrom_109 : decode cX8_copyFrom 109 = .ok (.aload_n 1, 1) := by decide +kernel
theorem dX8_copyFrom_110 : decode cX8_copyFrom 110 = .ok (.getfield 54, 3) := by decide +kernel
theorem dX8_copyFrom_113 : decode cX8_copyFrom 113 = .ok (.putfield 54, 3) := by decide +kernel
theorem dX8_copyFrom_116 : decode cX8_copyFrom 116 = .ok (.aload_n 0, 1) := by decide +kernel
theorem dX8_copyFrom_117 : decode cX8_copyFrom 117 = .ok (.aload_n 1, 1) := by decide +kernel
theorem dX8_copyFrom_118 : decode cX8_copyFrom 118 = .ok (.getfield 57, 3) := by decide +kernel
theorem dX8_copyFrom_121 : decode cX8_copyFrom 121 = .ok (.putfield 57, 3) := by decide +kernel
theorem dX8_copyFrom_124 : decode cX8_copyFrom 124 = .ok (.aload_n 0, 1) := by decide +kernel
theorem dX8_copyFrom_125 : decode cX8_copyFrom 125 = .ok (.aload_n 1, 1) := by decide +kernel
theorem dX8_copyFrom_126 : decode cX8_copyFrom 126 = .ok (.getfield 60, 3) := by decide +kernel
theorem dX8_copyFrom_129 : decode cX8_copyFrom 129 = .ok (.putfield 60, 3) := by decide +kernel
theorem dX8_copyFrom_132 : decode cX8_copyFrom 132 = .ok (.aload_n 0, 1) := by decide +kernel
theorem dX8_copyFrom_133 : decode cX8_copyFrom 133 = .ok (.aload_n 1, 1) := by decide +kernel
theorem dX8_copyFrom_134 : decode cX8_copyFrom 134 = .ok (.getfield 63, 3) := by decide +kernel
theorem dX8_copyFrom_137 : decode cX8_copyFrom 137 = .ok (.putfield 63, 3) := by decide +kernel
theorem dX8_copyFrom_140 : decode cX8_copyFrom 140 = .ok (.return_, 1) := by decide +kernel
theorem dX8_isThrough_0 : decode cX8_isThrough 0 = .ok (.aload_n 0, 1) := by decide +kernel
theorem dX8_isThrough_1 : decode cX8_isThrough 1 = .ok (.getfield 45, 3) := by decide +kernel
theorem dX8_isThrough_4 : decode cX8_isThrough 4 = .ok (.iconst 2, 1) := by decide +kernel
theorem dX8_isThrough_5 : decode cX8_isThrough 5 = .ok (.if_icmp .eq 11, 3) := by decide +kernel
theorem dX8_isThrough_8 : decode cX8_isThrough 8 = .ok (.aload_n 0, 1) := by decide +kernel
theorem dX8_isThrough_9 : decode cX8_isThrough 9 = .ok (.getfield 45, 3) := by decide +kernel
theorem dX8_isThrough_12 : decode cX8_isThrough 12 = .ok (.iconst 3, 1) := by decide +kernel
theorem dX8_isThrough_13 : decode cX8_isThrough 13 = .ok (.if_icmp .ne 7, 3) := by decide +kernel
theorem dX8_isThrough_16 : decode cX8_isThrough 16 = .ok (.iconst 1, 1) := by decide +kernel
theorem dX8_isThrough_17 : decode cX8_isThrough 17 = .ok (.goto 4, 3) := by decide +kernel
theorem dX8_isThrough_20 : decode cX8_isThrough 20 = .ok (.iconst 0, 1) := by decide +kernel
theorem dX8_isThrough_21 : decode cX8_isThrough 21 = .ok (.ireturn, 1) := by decide +kernel
theorem dX8_way_0 : decode cX8_way 0 = .ok (.aload_n 1, 1) := by decide +kernel
theorem dX8_way_1 : decode cX8_way 1 = .ok (.getfield 96, 3) := by decide +kernel
theorem dX8_way_4 : decode cX8_way 4 = .ok (.aload_n 0, 1) := by decide +kernel
theorem dX8_way_5 : decode cX8_way 5 = .ok (.getfield 51, 3) := by decide +kernel
theorem dX8_way_8 : decode cX8_way 8 = .ok (.iaload, 1) := by decide +kernel
theorem dX8_way_9 : decode cX8_way 9 = .ok (.aload_n 0, 1) := by decide +kernel
theorem dX8_way_10 : decode cX8_way 10 = .ok (.getfield 54, 3) := by decide +kernel
theorem dX8_way_13 : decode cX8_way 13 = .ok (.iadd, 1) := by decide +kernel
theorem dX8_way_14 : decode cX8_way 14 = .ok (.ireturn, 1) := by decide +kernel
theorem dX8_loadNow_0 : decode cX8_loadNow 0 = .ok (.aload_n 0, 1) := by decide +kernel
theorem dX8_loadNow_1 : decode cX8_loadNow 1 = .ok (.getfield 32, 3) := by decide +kernel
theorem dX8_loadNow_4 : decode cX8_loadNow 4 = .ok (.bipush 25, 2) := by decide +kernel
theorem dX8_loadNow_6 : decode cX8_loadNow 6 = .ok (.aload_n 0, 1) := by decide +kernel
theorem dX8_loadNow_7 : decode cX8_loadNow 7 = .ok (.getfield 12, 3) := by decide +kernel
theorem dX8_loadNow_10 : decode cX8_loadNow 10 = .ok (.getfield 101, 3) := by decide +kernel
theorem dX8_loadNow_13 : decode cX8_loadNow 13 = .ok (.imul, 1) := by decide +kernel
theorem dX8_loadNow_14 : decode cX8_loadNow 14 = .ok (.iadd, 1) := by decide +kernel
theorem dX8_loadNow_15 : decode cX8_loadNow 15 = .ok (.ireturn, 1) := by decide +kernel
theorem dX8_restedAt_0 : decode cX8_restedAt 0 = .ok (.iload_n 1, 1) := by decide +kernel
theorem dX8_restedAt_1 : decode cX8_restedAt 1 = .ok (.ifCond .lt 19, 3) := by decide +kernel
theorem dX8_restedAt_4 : decode cX8_restedAt 4 = .ok (.iload_n 1, 1) := by decide +kernel
theorem dX8_restedAt_5 : decode cX8_restedAt 5 = .ok (.bipush 12, 2) := by decide +kernel
theorem dX8_restedAt_7 : decode cX8_restedAt 7 = .ok (.if_icmp .gt 13, 3) := by decide +kernel
theorem dX8_restedAt_10 : decode cX8_restedAt 10 = .ok (.aload_n 0, 1) := by decide +kernel
theorem dX8_restedAt_11 : decode cX8_restedAt 11 = .ok (.getfield 29, 3) := by decide +kernel
theorem dX8_restedAt_14 : decode cX8_restedAt 14 = .ok (.iload_n 1, 1) := by decide +kernel
theorem dX8_restedAt_15 : decode cX8_restedAt 15 = .ok (.iaload, 1) := by decide +kernel
theorem dX8_restedAt_16 : decode cX8_restedAt 16 = .ok (.iconst (-1), 1) := by decide +kernel
theorem dX8_restedAt_17 : decode cX8_restedAt 17 = .ok (.if_icmp .ne 5, 3) := by decide +kernel
theorem dX8_restedAt_20 : decode cX8_restedAt 20 = .ok (.iconst 0, 1) := by decide +kernel
theorem dX8_restedAt_21 : decode cX8_restedAt 21 = .ok (.ireturn, 1) := by decide +kernel
theorem dX8_restedAt_22 : decode cX8_restedAt 22 = .ok (.aload_n 0, 1) := by decide +kernel
theorem dX8_restedAt_23 : decode cX8_restedAt 23 = .ok (.getfield 29, 3) := by decide +kernel
theorem dX8_restedAt_26 : decode cX8_restedAt 26 = .ok (.iload_n 1, 1) := by decide +kernel
theorem dX8_restedAt_27 : decode cX8_restedAt 27 = .ok (.iaload, 1) := by decide +kernel
theorem dX8_restedAt_28 : decode cX8_restedAt 28 = .ok (.aload_n 0, 1) := by decide +kernel
theorem dX8_restedAt_29 : decode cX8_restedAt 29 = .ok (.getfield 25, 3) := by decide +kernel
theorem dX8_restedAt_32 : decode cX8_restedAt 32 = .ok (.iload_n 1, 1) := by decide +kernel
theorem dX8_restedAt_33 : decode cX8_restedAt 33 = .ok (.iaload, 1) := by decide +kernel
theorem dX8_restedAt_34 : decode cX8_restedAt 34 = .ok (.isub, 1) := by decide +kernel
theorem dX8_restedAt_35 : decode cX8_restedAt 35 = .ok (.ireturn, 1) := by decide +kernel
theorem dX8_doStep_0 : decode cX8_doStep 0 = .ok (.aload_n 0, 1) := by decide +kernel
theorem dX8_doStep_1 : decode cX8_doStep 1 = .ok (.getfield 45, 3) := by decide +kernel
theorem dX8_doStep_4 : decode cX8_doStep 4 = .ok (.ifCond .ne 26, 3) := by decide +kernel
theorem dX8_doStep_7 : decode cX8_doStep 7 = .ok (.iload_n 3, 1) := by decide +kernel
theorem dX8_doStep_8 : decode cX8_doStep 8 = .ok (.aload_n 0, 1) := by decide +kernel
theorem dX8_doStep_9 : decode cX8_doStep 9 = .ok (.getfield 39, 3) := by decide +kernel
theorem dX8_doStep_12 : decode cX8_doStep 12 = .ok (.if_icmp .ne 18, 3) := by decide +kernel
theorem dX8_doStep_15 : decode cX8_doStep 15 = .ok (.aload_n 0, 1) := by decide +kernel
theorem dX8_doStep_16 : decode cX8_doStep 16 = .ok (.iconst 1, 1) := by decide +kernel
theorem dX8_doStep_17 : decode cX8_doStep 17 = .ok (.putfield 45, 3) := by decide +kernel
theorem dX8_doStep_20 : decode cX8_doStep 20 = .ok (.aload_n 0, 1) := by decide +kernel
theorem dX8_doStep_21 : decode cX8_doStep 21 = .ok (.getfield 25, 3) := by decide +kernel
theorem dX8_doStep_24 : decode cX8_doStep 24 = .ok (.iconst 0, 1) := by decide +kernel
theorem dX8_doStep_25 : decode cX8_doStep 25 = .ok (.aload_n 0, 1) := by decide +kernel
theorem dX8_doStep_26 : decode cX8_doStep 26 = .ok (.getfield 39, 3) := by decide +kernel
theorem dX8_doStep_29 : decode cX8_doStep 29 = .ok (.iastore, 1) := by decide +kernel
theorem dX8_doStep_30 : decode cX8_doStep 30 = .ok (.aload_n 0, 1) := by decide +kernel
theorem dX8_doStep_31 : decode cX8_doStep 31 = .ok (.getfield 45, 3) := by decide +kernel
theorem dX8_doStep_34 : decode cX8_doStep 34 = .ok (.iconst 1, 1) := by decide +kernel
theorem dX8_doStep_35 : decode cX8_doStep 35 = .ok (.if_icmp .ne 14, 3) := by decide +kernel
theorem dX8_doStep_38 : decode cX8_doStep 38 = .ok (.aload_n 0, 1) := by decide +kernel
theorem dX8_doStep_39 : decode cX8_doStep 39 = .ok (.getfield 51, 3) := by decide +kernel
theorem dX8_doStep_42 : decode cX8_doStep 42 = .ok (.aload_n 1, 1) := by decide +kernel
theorem dX8_doStep_43 : decode cX8_doStep 43 = .ok (.getfield 104, 3) := by decide +kernel
theorem dX8_doStep_46 : decode cX8_doStep 46 = .ok (.if_icmp .lt 4, 3) := by decide +kernel
theorem dX8_doStep_49 : decode cX8_doStep 49 = .ok (.return_, 1) := by decide +kernel
theorem dX8_doStep_50 : decode cX8_doStep 50 = .ok (.aload_n 0, 1) := by decide +kernel
theorem dX8_doStep_51 : decode cX8_doStep 51 = .ok (.aload_n 2, 1) := by decide +kernel
theorem dX8_doStep_52 : decode cX8_doStep 52 = .ok (.aload_n 0, 1) := by decide +kernel
theorem dX8_doStep_53 : decode cX8_doStep 53 = .ok (.aload_n 1, 1) := by decide +kernel
theorem dX8_doStep_54 : decode cX8_doStep 54 = .ok (.iload_n 3, 1) := by decide +kernel
theorem dX8_doStep_55 : decode cX8_doStep 55 = .ok (.invokevirtual 107, 3) := by decide +kernel
theorem dX8_doStep_58 : decode cX8_doStep 58 = .ok (.putfield 63, 3) := by decide +kernel
theorem dX8_doStep_61 : decode cX8_doStep 61 = .ok (.aload_n 2, 1) := by decide +kernel
theorem dX8_doStep_62 : decode cX8_doStep 62 = .ok (.aload_n 0, 1) := by decide +kernel
theorem dX8_doStep_63 : decode cX8_doStep 63 = .ok (.getfield 63, 3) := by decide +kernel
theorem dX8_doStep_66 : decode cX8_doStep 66 = .ok (.invokevirtual 113, 3) := by decide +kernel
theorem dX8_doStep_69 : decode cX8_doStep 69 = .ok (.istore 4, 2) := by decide +kernel
theorem dX8_doStep_71 : decode cX8_doStep 71 = .ok (.iload 4, 2) := by decide +kernel
theorem dX8_doStep_73 : decode cX8_doStep 73 = .ok (.ifCond .ne 12, 3) := by decide +kernel
theorem dX8_doStep_76 : decode cX8_doStep 76 = .ok (.aload_n 0, 1) := by decide +kernel
theorem dX8_doStep_77 : decode cX8_doStep 77 = .ok (.aload_n 1, 1) := by decide +kernel
theorem dX8_doStep_78 : decode cX8_doStep 78 = .ok (.iload_n 3, 1) := by decide +kernel
theorem dX8_doStep_79 : decode cX8_doStep 79 = .ok (.invokevirtual 117, 3) := by decide +kernel
theorem dX8_doStep_82 : decode cX8_doStep 82 = .ok (.goto 14, 3) := by decide +kernel
theorem dX8_doStep_85 : decode cX8_doStep 85 = .ok (.aload_n 0, 1) := by decide +kernel
theorem dX8_doStep_86 : decode cX8_doStep 86 = .ok (.iload 4, 2) := by decide +kernel
theorem dX8_doStep_88 : decode cX8_doStep 88 = .ok (.aload_n 1, 1) := by decide +kernel
theorem dX8_doStep_89 : decode cX8_doStep 89 = .ok (.iload_n 3, 1) := by decide +kernel
theorem dX8_doStep_90 : decode cX8_doStep 90 = .ok (.invokevirtual 121, 3) := by decide +kernel
theorem dX8_doStep_93 : decode cX8_doStep 93 = .ok (.invokevirtual 124, 3) := by decide +kernel
theorem dX8_doStep_96 : decode cX8_doStep 96 = .ok (.return_, 1) := by decide +kernel
theorem dX8_pause_0 : decode cX8_pause 0 = .ok (.iload_n 1, 1) := by decide +kernel
theorem dX8_pause_1 : decode cX8_pause 1 = .ok (.iconst 2, 1) := by decide +kernel
theorem dX8_pause_2 : decode cX8_pause 2 = .ok (.if_icmp .ne 32, 3) := by decide +kernel
theorem dX8_pause_5 : decode cX8_pause 5 = .ok (.aload_n 0, 1) := by decide +kernel
theorem dX8_pause_6 : decode cX8_pause 6 = .ok (.getfield 48, 3) := by decide +kernel
theorem dX8_pause_9 : decode cX8_pause 9 = .ok (.ifCond .le 25, 3) := by decide +kernel
theorem dX8_pause_12 : decode cX8_pause 12 = .ok (.aload_n 0, 1) := by decide +kernel
theorem dX8_pause_13 : decode cX8_pause 13 = .ok (.dup, 1) := by decide +kernel
theorem dX8_pause_14 : decode cX8_pause 14 = .ok (.getfield 48, 3) := by decide +kernel
theorem dX8_pause_17 : decode cX8_pause 17 = .ok (.iconst 1, 1) := by decide +kernel
theorem dX8_pause_18 : decode cX8_pause 18 = .ok (.isub, 1) := by decide +kernel
theorem dX8_pause_19 : decode cX8_pause 19 = .ok (.putfield 48, 3) := by decide +kernel
theorem dX8_pause_22 : decode cX8_pause 22 = .ok (.aload_n 0, 1) := by decide +kernel
theorem dX8_pause_23 : decode cX8_pause 23 = .ok (.getfield 12, 3) := by decide +kernel
theorem dX8_pause_26 : decode cX8_pause 26 = .ok (.bipush 120, 2) := by decide +kernel
theorem dX8_pause_28 : decode cX8_pause 28 = .ok (.invokevirtual 128, 3) := by decide +kernel
theorem dX8_pause_31 : decode cX8_pause 31 = .ok (.goto 37, 3) := by decide +kernel
theorem dX8_pause_34 : decode cX8_pause 34 = .ok (.iload_n 1, 1) := by decide +kernel
theorem dX8_pause_35 : decode cX8_pause 35 = .ok (.iconst 3, 1) := by decide +kernel
theorem dX8_pause_36 : decode cX8_pause 36 = .ok (.if_icmp .ne 32, 3) := by decide +kernel
theorem dX8_pause_39 : decode cX8_pause 39 = .ok (.aload_n 0, 1) := by decide +kernel
theorem dX8_pause_40 : decode cX8_pause 40 = .ok (.getfield 54, 3) := by decide +kernel
theorem dX8_pause_43 : decode cX8_pause 43 = .ok (.ifCond .ne 25, 3) := by decide +kernel
theorem dX8_pause_46 : decode cX8_pause 46 = .ok (.aload_n 0, 1) := by decide +kernel
theorem dX8_pause_47 : decode cX8_pause 47 = .ok (.getfield 12, 3) := by decide +kernel
theorem dX8_pause_50 : decode cX8_pause 50 = .ok (.getfield 131, 3) := by decide +kernel
theorem dX8_pause_53 : decode cX8_pause 53 = .ok (.iconst 1, 1) := by decide +kernel
theorem dX8_pause_54 : decode cX8_pause 54 = .ok (.if_icmp .le 14, 3) := by decide +kernel
theorem dX8_pause_57 : decode cX8_pause 57 = .ok (.aload_n 0, 1) := by decide +kernel
theorem dX8_pause_58 : decode cX8_pause 58 = .ok (.getfield 12, 3) := by decide +kernel
theorem dX8_pause_61 : decode cX8_pause 61 = .ok (.aload_n 0, 1) := by decide +kernel
theorem dX8_pause_62 : decode cX8_pause 62 = .ok (.getfield 51, 3) := by decide +kernel
theorem dX8_pause_65 : decode cX8_pause 65 = .ok (.invokevirtual 134, 3) := by decide +kernel
theorem dX8_pause_68 : decode cX8_pause 68 = .ok (.aload_n 0, 1) := by decide +kernel
theorem dX8_pause_69 : decode cX8_pause 69 = .ok (.getfield 12, 3) := by decide +kernel
theorem dX8_pause_72 : decode cX8_pause 72 = .ok (.iload_n 2, 1) := by decide +kernel
theorem dX8_pause_73 : decode cX8_pause 73 = .ok (.invokestatic 137, 3) := by decide +kernel
theorem dX8_pause_76 : decode cX8_pause 76 = .ok (.invokevirtual 128, 3) := by decide +kernel
theorem dX8_pause_79 : decode cX8_pause 79 = .ok (.aload_n 0, 1) := by decide +kernel
theorem dX8_pause_80 : decode cX8_pause 80 = .ok (.dup, 1) := by decide +kernel
theorem dX8_pause_81 : decode cX8_pause 81 = .ok (.getfield 60, 3) := by decide +kernel
theorem dX8_pause_84 : decode cX8_pause 84 = .ok (.iconst 1, 1) := by decide +kernel
theorem dX8_pause_85 : decode cX8_pause 85 = .ok (.iadd, 1) := by decide +kernel
theorem dX8_pause_86 : decode cX8_pause 86 = .ok (.putfield 60, 3) := by decide +kernel
theorem dX8_pause_89 : decode cX8_pause 89 = .ok (.aload_n 0, 1) := by decide +kernel
theorem dX8_pause_90 : decode cX8_pause 90 = .ok (.iconst 0, 1) := by decide +kernel
theorem dX8_pause_91 : decode cX8_pause 91 = .ok (.putfield 57, 3) := by decide +kernel
theorem dX8_pause_94 : decode cX8_pause 94 = .ok (.return_, 1) := by decide +kernel
theorem dX8_restGain_0 : decode cX8_restGain 0 = .ok (.iload_n 0, 1) := by decide +kernel
theorem dX8_restGain_1 : decode cX8_restGain 1 = .ok (.bipush (-30), 2) := by decide +kernel
theorem dX8_restGain_3 : decode cX8_restGain 3 = .ok (.if_icmp .ge 6, 3) := by decide +kernel
theorem dX8_restGain_6 : decode cX8_restGain 6 = .ok (.bipush 10, 2) := by decide +kernel
theorem dX8_restGain_8 : decode cX8_restGain 8 = .ok (.ireturn, 1) := by decide +kernel
theorem dX8_restGain_9 : decode cX8_restGain 9 = .ok (.iload_n 0, 1) := by decide +kernel
theorem dX8_restGain_10 : decode cX8_restGain 10 = .ok (.bipush (-5), 2) := by decide +kernel
theorem dX8_restGain_12 : decode cX8_restGain 12 = .ok (.if_icmp .le 8, 3) := by decide +kernel
theorem dX8_restGain_15 : decode cX8_restGain 15 = .ok (.bipush 12, 2) := by decide +kernel
theorem dX8_restGain_17 : decode cX8_restGain 17 = .ok (.goto 5, 3) := by decide +kernel
theorem dX8_restGain_20 : decode cX8_restGain 20 = .ok (.bipush 15, 2) := by decide +kernel
theorem dX8_restGain_22 : decode cX8_restGain 22 = .ok (.ireturn, 1) := by decide +kernel
theorem dX8_goOn_0 : decode cX8_goOn 0 = .ok (.aload_n 1, 1) := by decide +kernel
theorem dX8_goOn_1 : decode cX8_goOn 1 = .ok (.getfield 140, 3) := by decide +kernel
theorem dX8_goOn_4 : decode cX8_goOn 4 = .ok (.aload_n 0, 1) := by decide +kernel
theorem dX8_goOn_5 : decode cX8_goOn 5 = .ok (.getfield 51, 3) := by decide +kernel
theorem dX8_goOn_8 : decode cX8_goOn 8 = .ok (.iaload, 1) := by decide +kernel
theorem dX8_goOn_9 : decode cX8_goOn 9 = .ok (.istore_n 3, 1) := by decide +kernel
theorem dX8_goOn_10 : decode cX8_goOn 10 = .ok (.aload_n 0, 1) := by decide +kernel
theorem dX8_goOn_11 : decode cX8_goOn 11 = .ok (.getfield 54, 3) := by decide +kernel
theorem dX8_goOn_14 : decode cX8_goOn 14 = .ok (.ifCond .ne 26, 3) := by decide +kernel
theorem dX8_goOn_17 : decode cX8_goOn 17 = .ok (.aload_n 0, 1) := by decide +kernel
theorem dX8_goOn_18 : decode cX8_goOn 18 = .ok (.getfield 29, 3) := by decide +kernel
theorem dX8_goOn_21 : decode cX8_goOn 21 = .ok (.aload_n 0, 1) := by decide +kernel
theorem dX8_goOn_22 : decode cX8_goOn 22 = .ok (.getfield 51, 3) := by decide +kernel
theorem dX8_goOn_25 : decode cX8_goOn 25 = .ok (.iaload, 1) := by decide +kernel
theorem dX8_goOn_26 : decode cX8_goOn 26 = .ok (.iconst (-1), 1) := by decide +kernel
theorem dX8_goOn_27 : decode cX8_goOn 27 = .ok (.if_icmp .ne 13, 3) := by decide +kernel
theorem dX8_goOn_30 : decode cX8_goOn 30 = .ok (.aload_n 0, 1) := by decide +kernel
theorem dX8_goOn_31 : decode cX8_goOn 31 = .ok (.getfield 29, 3) := by decide +kernel
theorem dX8_goOn_34 : decode cX8_goOn 34 = .ok (.aload_n 0, 1) := by decide +kernel
theorem dX8_goOn_35 : decode cX8_goOn 35 = .ok (.getfield 51, 3) := by decide +kernel
theorem dX8_goOn_38 : decode cX8_goOn 38 = .ok (.iload_n 2, 1) := by decide +kernel
theorem dX8_goOn_39 : decode cX8_goOn 39 = .ok (.iastore, 1) := by decide +kernel
theorem dX8_goOn_40 : decode cX8_goOn 40 = .ok (.aload_n 0, 1) := by decide +kernel
theorem dX8_goOn_41 : decode cX8_goOn 41 = .ok (.dup, 1) := by decide +kernel
theorem dX8_goOn_42 : decode cX8_goOn 42 = .ok (.getfield 57, 3) := by decide +kernel
theorem dX8_goOn_45 : decode cX8_goOn 45 = .ok (.iconst 1, 1) := by decide +kernel
theorem dX8_goOn_46 : decode cX8_goOn 46 = .ok (.iadd, 1) := by decide +kernel
theorem dX8_goOn_47 : decode cX8_goOn 47 = .ok (.putfield 57, 3) := by decide +kernel
theorem dX8_goOn_50 : decode cX8_goOn 50 = .ok (.aload_n 0, 1) := by decide +kernel
theorem dX8_goOn_51 : decode cX8_goOn 51 = .ok (.iconst 0, 1) := by decide +kernel
theorem dX8_goOn_52 : decode cX8_goOn 52 = .ok (.putfield 60, 3) := by decide +kernel
theorem dX8_goOn_55 : decode cX8_goOn 55 = .ok (.aload_n 0, 1) := by decide +kernel
theorem dX8_goOn_56 : decode cX8_goOn 56 = .ok (.getfield 12, 3) := by decide +kernel
theorem dX8_goOn_59 : decode cX8_goOn 59 = .ok (.bipush 6, 2) := by decide +kernel
theorem dX8_goOn_61 : decode cX8_goOn 61 = .ok (.aload_n 0, 1) := by decide +kernel
theorem dX8_goOn_62 : decode cX8_goOn 62 = .ok (.invokevirtual 143, 3) := by decide +kernel
theorem dX8_goOn_65 : decode cX8_goOn 65 = .ok (.bipush 40, 2) := by decide +kernel
theorem dX8_goOn_67 : decode cX8_goOn 67 = .ok (.idiv, 1) := by decide +kernel
theorem dX8_goOn_68 : decode cX8_goOn 68 = .ok (.iadd, 1) := by decide +kernel
theorem dX8_goOn_69 : decode cX8_goOn 69 = .ok (.iload_n 3, 1) := by decide +kernel
theorem dX8_goOn_70 : decode cX8_goOn 70 = .ok (.bipush 25, 2) := by decide +kernel
theorem dX8_goOn_72 : decode cX8_goOn 72 = .ok (.idiv, 1) := by decide +kernel
theorem dX8_goOn_73 : decode cX8_goOn 73 = .ok (.iadd, 1) := by decide +kernel
theorem dX8_goOn_74 : decode cX8_goOn 74 = .ok (.aload_n 1, 1) := by decide +kernel
theorem dX8_goOn_75 : decode cX8_goOn 75 = .ok (.iload_n 2, 1) := by decide +kernel
theorem dX8_goOn_76 : decode cX8_goOn 76 = .ok (.invokevirtual 121, 3) := by decide +kernel
theorem dX8_goOn_79 : decode cX8_goOn 79 = .ok (.invokestatic 147, 3) := by decide +kernel
theorem dX8_goOn_82 : decode cX8_goOn 82 = .ok (.iadd, 1) := by decide +kernel
theorem dX8_goOn_83 : decode cX8_goOn 83 = .ok (.invokevirtual 150, 3) := by decide +kernel
theorem dX8_goOn_86 : decode cX8_goOn 86 = .ok (.aload_n 0, 1) := by decide +kernel
theorem dX8_goOn_87 : decode cX8_goOn 87 = .ok (.getfield 12, 3) := by decide +kernel
theorem dX8_goOn_90 : decode cX8_goOn 90 = .ok (.getfield 131, 3) := by decide +kernel
theorem dX8_goOn_93 : decode cX8_goOn 93 = .ok (.ifCond .ne 9, 3) := by decide +kernel
theorem dX8_goOn_96 : decode cX8_goOn 96 = .ok (.aload_n 0, 1) := by decide +kernel
theorem dX8_goOn_97 : decode cX8_goOn 97 = .ok (.iconst 3, 1) := by decide +kernel
theorem dX8_goOn_98 : decode cX8_goOn 98 = .ok (.putfield 45, 3) := by decide +kernel
theorem dX8_goOn_101 : decode cX8_goOn 101 = .ok (.return_, 1) := by decide +kernel
theorem dX8_goOn_102 : decode cX8_goOn 102 = .ok (.aload_n 0, 1) := by decide +kernel
theorem dX8_goOn_103 : decode cX8_goOn 103 = .ok (.dup, 1) := by decide +kernel
theorem dX8_goOn_104 : decode cX8_goOn 104 = .ok (.getfield 54, 3) := by decide +kernel
theorem dX8_goOn_107 : decode cX8_goOn 107 = .ok (.aload_n 0, 1) := by decide +kernel
theorem dX8_goOn_108 : decode cX8_goOn 108 = .ok (.iload_n 3, 1) := by decide +kernel
theorem dX8_goOn_109 : decode cX8_goOn 109 = .ok (.invokevirtual 153, 3) := by decide +kernel
theorem dX8_goOn_112 : decode cX8_goOn 112 = .ok (.iadd, 1) := by decide +kernel
theorem dX8_goOn_113 : decode cX8_goOn 113 = .ok (.putfield 54, 3) := by decide +kernel
theorem dX8_goOn_116 : decode cX8_goOn 116 = .ok (.aload_n 0, 1) := by decide +kernel
theorem dX8_goOn_117 : decode cX8_goOn 117 = .ok (.getfield 54, 3) := by decide +kernel
theorem dX8_goOn_120 : decode cX8_goOn 120 = .ok (.aload_n 1, 1) := by decide +kernel
theorem dX8_goOn_121 : decode cX8_goOn 121 = .ok (.aload_n 0, 1) := by decide +kernel
theorem dX8_goOn_122 : decode cX8_goOn 122 = .ok (.getfield 51, 3) := by decide +kernel
theorem dX8_goOn_125 : decode cX8_goOn 125 = .ok (.invokevirtual 156, 3) := by decide +kernel
theorem dX8_goOn_128 : decode cX8_goOn 128 = .ok (.if_icmp .lt 14, 3) := by decide +kernel
theorem dX8_goOn_131 : decode cX8_goOn 131 = .ok (.aload_n 0, 1) := by decide +kernel
theorem dX8_goOn_132 : decode cX8_goOn 132 = .ok (.aload_n 1, 1) := by decide +kernel
theorem dX8_goOn_133 : decode cX8_goOn 133 = .ok (.getfield 104, 3) := by decide +kernel
theorem dX8_goOn_136 : decode cX8_goOn 136 = .ok (.iload_n 2, 1) := by decide +kernel
theorem dX8_goOn_137 : decode cX8_goOn 137 = .ok (.iconst 1, 1) := by decide +kernel
theorem dX8_goOn_138 : decode cX8_goOn 138 = .ok (.iadd, 1) := by decide +kernel
theorem dX8_goOn_139 : decode cX8_goOn 139 = .ok (.invokevirtual 159, 3) := by decide +kernel
theorem dX8_goOn_142 : decode cX8_goOn 142 = .ok (.return_, 1) := by decide +kernel
theorem dX8_heatLoss_0 : decode cX8_heatLoss 0 = .ok (.iload_n 0, 1) := by decide +kernel
theorem dX8_heatLoss_1 : decode cX8_heatLoss 1 = .ok (.bipush (-10), 2) := by decide +kernel
theorem dX8_heatLoss_3 : decode cX8_heatLoss 3 = .ok (.if_icmp .le 12, 3) := by decide +kernel
theorem dX8_heatLoss_6 : decode cX8_heatLoss 6 = .ok (.iload_n 0, 1) := by decide +kernel
theorem dX8_heatLoss_7 : decode cX8_heatLoss 7 = .ok (.bipush 10, 2) := by decide +kernel
theorem dX8_heatLoss_9 : decode cX8_heatLoss 9 = .ok (.iadd, 1) := by decide +kernel
theorem dX8_heatLoss_10 : decode cX8_heatLoss 10 = .ok (.iconst 3, 1) := by decide +kernel
theorem dX8_heatLoss_11 : decode cX8_heatLoss 11 = .ok (.idiv, 1) := by decide +kernel
theorem dX8_heatLoss_12 : decode cX8_heatLoss 12 = .ok (.goto 4, 3) := by decide +kernel
theorem dX8_heatLoss_15 : decode cX8_heatLoss 15 = .ok (.iconst 0, 1) := by decide +kernel
theorem dX8_heatLoss_16 : decode cX8_heatLoss 16 = .ok (.ireturn, 1) := by decide +kernel
theorem dX8_reach_0 : decode cX8_reach 0 = .ok (.bipush 30, 2) := by decide +kernel
theorem dX8_reach_2 : decode cX8_reach 2 = .ok (.aload_n 0, 1) := by decide +kernel
theorem dX8_reach_3 : decode cX8_reach 3 = .ok (.getfield 12, 3) := by decide +kernel
theorem dX8_reach_6 : decode cX8_reach 6 = .ok (.invokevirtual 162, 3) := by decide +kernel
theorem dX8_reach_9 : decode cX8_reach 9 = .ok (.imul, 1) := by decide +kernel
theorem dX8_reach_10 : decode cX8_reach 10 = .ok (.aload_n 0, 1) := by decide +kernel
theorem dX8_reach_11 : decode cX8_reach 11 = .ok (.getfield 12, 3) := by decide +kernel
theorem dX8_reach_14 : decode cX8_reach 14 = .ok (.getfield 131, 3) := by decide +kernel
theorem dX8_reach_17 : decode cX8_reach 17 = .ok (.imul, 1) := by decide +kernel
theorem dX8_reach_18 : decode cX8_reach 18 = .ok (.bipush 100, 2) := by decide +kernel
theorem dX8_reach_20 : decode cX8_reach 20 = .ok (.imul, 1) := by decide +kernel
theorem dX8_reach_21 : decode cX8_reach 21 = .ok (.sipush 1000, 3) := by decide +kernel
theorem dX8_reach_24 : decode cX8_reach 24 = .ok (.iload_n 1, 1) := by decide +kernel
theorem dX8_reach_25 : decode cX8_reach 25 = .ok (.imul, 1) := by decide +kernel
theorem dX8_reach_26 : decode cX8_reach 26 = .ok (.invokestatic 165, 3) := by decide +kernel
theorem dX8_reach_29 : decode cX8_reach 29 = .ok (.istore_n 2, 1) := by decide +kernel
theorem dX8_reach_30 : decode cX8_reach 30 = .ok (.iload_n 2, 1) := by decide +kernel
theorem dX8_reach_31 : decode cX8_reach 31 = .ok (.bipush 20, 2) := by decide +kernel
theorem dX8_reach_33 : decode cX8_reach 33 = .ok (.imul, 1) := by decide +kernel
theorem dX8_reach_34 : decode cX8_reach 34 = .ok (.bipush 20, 2) := by decide +kernel
theorem dX8_reach_36 : decode cX8_reach 36 = .ok (.aload_n 0, 1) := by decide +kernel
theorem dX8_reach_37 : decode cX8_reach 37 = .ok (.getfield 12, 3) := by decide +kernel
theorem dX8_reach_40 : decode cX8_reach 40 = .ok (.getfield 131, 3) := by decide +kernel
theorem dX8_reach_43 : decode cX8_reach 43 = .ok (.imul, 1) := by decide +kernel
theorem dX8_reach_44 : decode cX8_reach 44 = .ok (.aload_n 0, 1) := by decide +kernel
theorem dX8_reach_45 : decode cX8_reach 45 = .ok (.invokevirtual 143, 3) := by decide +kernel
theorem dX8_reach_48 : decode cX8_reach 48 = .ok (.iadd, 1) := by decide +kernel
theorem dX8_reach_49 : decode cX8_reach 49 = .ok (.invokestatic 165, 3) := by decide +kernel
theorem dX8_reach_52 : decode cX8_reach 52 = .ok (.ireturn, 1) := by decide +kernel
theorem dX8_arrive_0 : decode cX8_arrive 0 = .ok (.aload_n 0, 1) := by decide +kernel
theorem dX8_arrive_1 : decode cX8_arrive 1 = .ok (.dup, 1) := by decide +kernel
theorem dX8_arrive_2 : decode cX8_arrive 2 = .ok (.getfield 51, 3) := by decide +kernel
theorem dX8_arrive_5 : decode cX8_arrive 5 = .ok (.iconst 1, 1) := by decide +kernel
theorem dX8_arrive_6 : decode cX8_arrive 6 = .ok (.iadd, 1) := by decide +kernel
theorem dX8_arrive_7 : decode cX8_arrive 7 = .ok (.putfield 51, 3) := by decide +kernel
theorem dX8_arrive_10 : decode cX8_arrive 10 = .ok (.aload_n 0, 1) := by decide +kernel
theorem dX8_arrive_11 : decode cX8_arrive 11 = .ok (.iconst 0, 1) := by decide +kernel
theorem dX8_arrive_12 : decode cX8_arrive 12 = .ok (.putfield 54, 3) := by decide +kernel
theorem dX8_arrive_15 : decode cX8_arrive 15 = .ok (.aload_n 0, 1) := by decide +kernel
theorem dX8_arrive_16 : decode cX8_arrive 16 = .ok (.getfield 25, 3) := by decide +kernel
theorem dX8_arrive_19 : decode cX8_arrive 19 = .ok (.aload_n 0, 1) := by decide +kernel
theorem dX8_arrive_20 : decode cX8_arrive 20 = .ok (.getfield 51, 3) := by decide +kernel
theorem dX8_arrive_23 : decode cX8_arrive 23 = .ok (.iload_n 2, 1) := by decide +kernel
theorem dX8_arrive_24 : decode cX8_arrive 24 = .ok (.iastore, 1) := by decide +kernel
theorem dX8_arrive_25 : decode cX8_arrive 25 = .ok (.aload_n 0, 1) := by decide +kernel
theorem dX8_arrive_26 : decode cX8_arrive 26 = .ok (.getfield 12, 3) := by decide +kernel
theorem dX8_arrive_29 : decode cX8_arrive 29 = .ok (.aload_n 0, 1) := by decide +kernel
theorem dX8_arrive_30 : decode cX8_arrive 30 = .ok (.getfield 51, 3) := by decide +kernel
theorem dX8_arrive_33 : decode cX8_arrive 33 = .ok (.invokevirtual 169, 3) := by decide +kernel
theorem dX8_arrive_36 : decode cX8_arrive 36 = .ok (.aload_n 0, 1) := by decide +kernel
theorem dX8_arrive_37 : decode cX8_arrive 37 = .ok (.getfield 51, 3) := by decide +kernel
theorem dX8_arrive_40 : decode cX8_arrive 40 = .ok (.iload_n 1, 1) := by decide +kernel
theorem dX8_arrive_41 : decode cX8_arrive 41 = .ok (.if_icmp .lt 8, 3) := by decide +kernel
theorem dX8_arrive_44 : decode cX8_arrive 44 = .ok (.aload_n 0, 1) := by decide +kernel
theorem dX8_arrive_45 : decode cX8_arrive 45 = .ok (.iconst 2, 1) := by decide +kernel
theorem dX8_arrive_46 : decode cX8_arrive 46 = .ok (.putfield 45, 3) := by decide +kernel
theorem dX8_arrive_49 : decode cX8_arrive 49 = .ok (.return_, 1) := by decide +kernel
theorem dX9_init_0 : decode cX9_init 0 = .ok (.aload_n 0, 1) := by decide +kernel
theorem dX9_init_1 : decode cX9_init 1 = .ok (.invokespecial 3, 3) := by decide +kernel
theorem dX9_init_4 : decode cX9_init 4 = .ok (.aload_n 0, 1) := by decide +kernel
theorem dX9_init_5 : decode cX9_init 5 = .ok (.bipush 12, 2) := by decide +kernel
theorem dX9_init_7 : decode cX9_init 7 = .ok (.newarray .int, 2) := by decide +kernel
theorem dX9_init_9 : decode cX9_init 9 = .ok (.putfield 9, 3) := by decide +kernel
theorem dX9_init_12 : decode cX9_init 12 = .ok (.aload_n 0, 1) := by decide +kernel
theorem dX9_init_13 : decode cX9_init 13 = .ok (.bipush 12, 2) := by decide +kernel
theorem dX9_init_15 : decode cX9_init 15 = .ok (.newarray .int, 2) := by decide +kernel
theorem dX9_init_17 : decode cX9_init 17 = .ok (.putfield 15, 3) := by decide +kernel
theorem dX9_init_20 : decode cX9_init 20 = .ok (.aload_n 0, 1) := by decide +kernel
theorem dX9_init_21 : decode cX9_init 21 = .ok (.bipush 13, 2) := by decide +kernel
theorem dX9_init_23 : decode cX9_init 23 = .ok (.newarray .int, 2) := by decide +kernel
theorem dX9_init_25 : decode cX9_init 25 = .ok (.putfield 18, 3) := by decide +kernel
theorem dX9_init_28 : decode cX9_init 28 = .ok (.aload_n 0, 1) := by decide +kernel
theorem dX9_init_29 : decode cX9_init 29 = .ok (.sipush 334, 3) := by decide +kernel
theorem dX9_init_32 : decode cX9_init 32 = .ok (.newarray .int, 2) := by decide +kernel
theorem dX9_init_34 : decode cX9_init 34 = .ok (.putfield 21, 3) := by decide +kernel
theorem dX9_init_37 : decode cX9_init 37 = .ok (.aload_n 0, 1) := by decide +kernel
theorem dX9_init_38 : decode cX9_init 38 = .ok (.iconst 0, 1) := by decide +kernel
theorem dX9_init_39 : decode cX9_init 39 = .ok (.putfield 24, 3) := by decide +kernel
theorem dX9_init_42 : decode cX9_init 42 = .ok (.aload_n 0, 1) := by decide +kernel
theorem dX9_init_43 : decode cX9_init 43 = .ok (.getfield 21, 3) := by decide +kernel
theorem dX9_init_46 : decode cX9_init 46 = .ok (.bipush (-20), 2) := by decide +kernel
theorem dX9_init_48 : decode cX9_init 48 = .ok (.invokestatic 28, 3) := by decide +kernel
theorem dX9_init_51 : decode cX9_init 51 = .ok (.return_, 1) := by decide +kernel
theorem dX9_add_0 : decode cX9_add 0 = .ok (.aload_n 0, 1) := by decide +kernel
theorem dX9_add_1 : decode cX9_add 1 = .ok (.getfield 9, 3) := by decide +kernel
theorem dX9_add_4 : decode cX9_add 4 = .ok (.aload_n 0, 1) := by decide +kernel
theorem dX9_add_5 : decode cX9_add 5 = .ok (.getfield 24, 3) := by decide +kernel
theorem dX9_add_8 : decode cX9_add 8 = .ok (.iload_n 1, 1) := by decide +kernel
theorem dX9_add_9 : decode cX9_add 9 = .ok (.iastore, 1) := by decide +kernel
theorem dX9_add_10 : decode cX9_add 10 = .ok (.aload_n 0, 1) := by decide +kernel
theorem dX9_add_11 : decode cX9_add 11 = .ok (.getfield 15, 3) := by decide +kernel
theorem dX9_add_14 : decode cX9_add 14 = .ok (.aload_n 0, 1) := by decide +kernel
theorem dX9_add_15 : decode cX9_add 15 = .ok (.getfield 24, 3) := by decide +kernel
theorem dX9_add_18 : decode cX9_add 18 = .ok (.iload_n 2, 1) := by decide +kernel
theorem dX9_add_19 : decode cX9_add 19 = .ok (.iastore, 1) := by decide +kernel
theorem dX9_add_20 : decode cX9_add 20 = .ok (.aload_n 0, 1) := by decide +kernel
theorem dX9_add_21 : decode cX9_add 21 = .ok (.getfield 18, 3) := by decide +kernel
theorem dX9_add_24 : decode cX9_add 24 = .ok (.aload_n 0, 1) := by decide +kernel
theorem dX9_add_25 : decode cX9_add 25 = .ok (.getfield 24, 3) := by decide +kernel
theorem dX9_add_28 : decode cX9_add 28 = .ok (.iconst 1, 1) := by decide +kernel
theorem dX9_add_29 : decode cX9_add 29 = .ok (.iadd, 1) := by decide +kernel
theorem dX9_add_30 : decode cX9_add 30 = .ok (.aload_n 0, 1) := by decide +kernel
theorem dX9_add_31 : decode cX9_add 31 = .ok (.getfield 18, 3) := by decide +kernel
theorem dX9_add_34 : decode cX9_add 34 = .ok (.aload_n 0, 1) := by decide +kernel
theorem dX9_add_35 : decode cX9_add 35 = .ok (.getfield 24, 3) := by decide +kernel
theorem dX9_add_38 : decode cX9_add 38 = .ok (.iaload, 1) := by decide +kernel
theorem dX9_add_39 : decode cX9_add 39 = .ok (.iload_n 1, 1) := by decide +kernel
theorem dX9_add_40 : decode cX9_add 40 = .ok (.iadd, 1) := by decide +kernel
theorem dX9_add_41 : decode cX9_add 41 = .ok (.iastore, 1) := by decide +kernel
theorem dX9_add_42 : decode cX9_add 42 = .ok (.aload_n 0, 1) := by decide +kernel
theorem dX9_add_43 : decode cX9_add 43 = .ok (.dup, 1) := by decide +kernel
theorem dX9_add_44 : decode cX9_add 44 = .ok (.getfield 24, 3) := by decide +kernel
theorem dX9_add_47 : decode cX9_add 47 = .ok (.iconst 1, 1) := by decide +kernel
theorem dX9_add_48 : decode cX9_add 48 = .ok (.iadd, 1) := by decide +kernel
theorem dX9_add_49 : decode cX9_add 49 = .ok (.putfield 24, 3) := by decide +kernel
theorem dX9_add_52 : decode cX9_add 52 = .ok (.return_, 1) := by decide +kernel
theorem dX9_whole_0 : decode cX9_whole 0 = .ok (.aload_n 0, 1) := by decide +kernel
theorem dX9_whole_1 : decode cX9_whole 1 = .ok (.getfield 18, 3) := by decide +kernel
theorem dX9_whole_4 : decode cX9_whole 4 = .ok (.aload_n 0, 1) := by decide +kernel
theorem dX9_whole_5 : decode cX9_whole 5 = .ok (.getfield 24, 3) := by decide +kernel
theorem dX9_whole_8 : decode cX9_whole 8 = .ok (.iaload, 1) := by decide +kernel
theorem dX9_whole_9 : decode cX9_whole 9 = .ok (.ireturn, 1) := by decide +kernel
theorem dX9_lengthOf_0 : decode cX9_lengthOf 0 = .ok (.iload_n 1, 1) := by decide +kernel
theorem dX9_lengthOf_1 : decode cX9_lengthOf 1 = .ok (.ifCond .lt 20, 3) := by decide +kernel
theorem dX9_lengthOf_4 : decode cX9_lengthOf 4 = .ok (.iload_n 1, 1) := by decide +kernel
theorem dX9_lengthOf_5 : decode cX9_lengthOf 5 = .ok (.aload_n 0, 1) := by decide +kernel
theorem dX9_lengthOf_6 : decode cX9_lengthOf 6 = .ok (.getfield 24, 3) := by decide +kernel
theorem dX9_lengthOf_9 : decode cX9_lengthOf 9 = .ok (.if_icmp .ge 12, 3) := by decide +kernel
theorem dX9_lengthOf_12 : decode cX9_lengthOf 12 = .ok (.aload_n 0, 1) := by decide +kernel
theorem dX9_lengthOf_13 : decode cX9_lengthOf 13 = .ok (.getfield 9, 3) := by decide +kernel
theorem dX9_lengthOf_16 : decode cX9_lengthOf 16 = .ok (.iload_n 1, 1) := by decide +kernel
theorem dX9_lengthOf_17 : decode cX9_lengthOf 17 = .ok (.iaload, 1) := by decide +kernel
theorem dX9_lengthOf_18 : decode cX9_lengthOf 18 = .ok (.goto 4, 3) := by decide +kernel
theorem dX9_lengthOf_21 : decode cX9_lengthOf 21 = .ok (.iconst 0, 1) := by decide +kernel
theorem dX9_lengthOf_22 : decode cX9_lengthOf 22 = .ok (.ireturn, 1) := by decide +kernel
theorem dX9_coldIn_0 : decode cX9_coldIn 0 = .ok (.iload_n 1, 1) := by decide +kernel
theorem dX9_coldIn_1 : decode cX9_coldIn 1 = .ok (.bipush 6, 2) := by decide +kernel
theorem dX9_coldIn_3 : decode cX9_coldIn 3 = .ok (.idiv, 1) := by decide +kernel
theorem dX9_coldIn_4 : decode cX9_coldIn 4 = .ok (.istore_n 2, 1) := by decide +kernel
theorem dX9_coldIn_5 : decode cX9_coldIn 5 = .ok (.iload_n 2, 1) := by decide +kernel
theorem dX9_coldIn_6 : decode cX9_coldIn 6 = .ok (.ifCond .lt 19, 3) := by decide +kernel
theorem dX9_coldIn_9 : decode cX9_coldIn 9 = .ok (.iload_n 2, 1) := by decide +kernel
theorem dX9_coldIn_10 : decode cX9_coldIn 10 = .ok (.sipush 334, 3) := by decide +kernel
theorem dX9_coldIn_13 : decode cX9_coldIn 13 = .ok (.if_icmp .ge 12, 3) := by decide +kernel
theorem dX9_coldIn_16 : decode cX9_coldIn 16 = .ok (.aload_n 0, 1) := by decide +kernel
theorem dX9_coldIn_17 : decode cX9_coldIn 17 = .ok (.getfield 21, 3) := by decide +kernel
theorem dX9_coldIn_20 : decode cX9_coldIn 20 = .ok (.iload_n 2, 1) := by decide +kernel
theorem dX9_coldIn_21 : decode cX9_coldIn 21 = .ok (.iaload, 1) := by decide +kernel
theorem dX9_coldIn_22 : decode cX9_coldIn 22 = .ok (.goto 4, 3) := by decide +kernel
theorem dX9_coldIn_25 : decode cX9_coldIn 25 = .ok (.iconst 0, 1) := by decide +kernel
theorem dX9_coldIn_26 : decode cX9_coldIn 26 = .ok (.ireturn, 1) := by decide +kernel
theorem dX9_copyFrom_0 : decode cX9_copyFrom 0 = .ok (.aload_n 1, 1) := by decide +kernel
theorem dX9_copyFrom_1 : decode cX9_copyFrom 1 = .ok (.getfield 9, 3) := by decide +kernel
theorem dX9_copyFrom_4 : decode cX9_copyFrom 4 = .ok (.iconst 0, 1) := by decide +kernel
theorem dX9_copyFrom_5 : decode cX9_copyFrom 5 = .ok (.aload_n 0, 1) := by decide +kernel
theorem dX9_copyFrom_6 : decode cX9_copyFrom 6 = .ok (.getfield 9, 3) := by decide +kernel
theorem dX9_copyFrom_9 : decode cX9_copyFrom 9 = .ok (.iconst 0, 1) := by decide +kernel
theorem dX9_copyFrom_10 : decode cX9_copyFrom 10 = .ok (.bipush 12, 2) := by decide +kernel
theorem dX9_copyFrom_12 : decode cX9_copyFrom 12 = .ok (.invokestatic 34, 3) := by decide +kernel
theorem dX9_copyFrom_15 : decode cX9_copyFrom 15 = .ok (.aload_n 1, 1) := by decide +kernel
theorem dX9_copyFrom_16 : decode cX9_copyFrom 16 = .ok (.getfield 15, 3) := by decide +kernel
theorem dX9_copyFrom_19 : decode cX9_copyFrom 19 = .ok (.iconst 0, 1) := by decide +kernel
theorem dX9_copyFrom_20 : decode cX9_copyFrom 20 = .ok (.aload_n 0, 1) := by decide +kernel
theorem dX9_copyFrom_21 : decode cX9_copyFrom 21 = .ok (.getfield 15, 3) := by decide +kernel
theorem dX9_copyFrom_24 : decode cX9_copyFrom 24 = .ok (.iconst 0, 1) := by decide +kernel
theorem dX9_copyFrom_25 : decode cX9_copyFrom 25 = .ok (.bipush 12, 2) := by decide +kernel
theorem dX9_copyFrom_27 : decode cX9_copyFrom 27 = .ok (.invokestatic 34, 3) := by decide +kernel
theorem dX9_copyFrom_30 : decode cX9_copyFrom 30 = .ok (.aload_n 1, 1) := by decide +kernel
theorem dX9_copyFrom_31 : decode cX9_copyFrom 31 = .ok (.getfield 18, 3) := by decide +kernel
theorem dX9_copyFrom_34 : decode cX9_copyFrom 34 = .ok (.iconst 0, 1) := by decide +kernel
theorem dX9_copyFrom_35 : decode cX9_copyFrom 35 = .ok (.aload_n 0, 1) := by decide +kernel
theorem dX9_copyFrom_36 : decode cX9_copyFrom 36 = .ok (.getfield 18, 3) := by decide +kernel
theorem dX9_copyFrom_39 : decode cX9_copyFrom 39 = .ok (.iconst 0, 1) := by decide +kernel
theorem dX9_copyFrom_40 : decode cX9_copyFrom 40 = .ok (.bipush 13, 2) := by decide +kernel
theorem dX9_copyFrom_42 : decode cX9_copyFrom 42 = .ok (.invokestatic 34, 3) := by decide +kernel
theorem dX9_copyFrom_45 : decode cX9_copyFrom 45 = .ok (.aload_n 1, 1) := by decide +kernel
theorem dX9_copyFrom_46 : decode cX9_copyFrom 46 = .ok (.getfield 21, 3) := by decide +kernel
theorem dX9_copyFrom_49 : decode cX9_copyFrom 49 = .ok (.iconst 0, 1) := by decide +kernel
theorem dX9_copyFrom_50 : decode cX9_copyFrom 50 = .ok (.aload_n 0, 1) := by decide +kernel
theorem dX9_copyFrom_51 : decode cX9_copyFrom 51 = .ok (.getfield 21, 3) := by decide +kernel
theorem dX9_copyFrom_54 : decode cX9_copyFrom 54 = .ok (.iconst 0, 1) := by decide +kernel
theorem dX9_copyFrom_55 : decode cX9_copyFrom 55 = .ok (.sipush 334, 3) := by decide +kernel
theorem dX9_copyFrom_58 : decode cX9_copyFrom 58 = .ok (.invokestatic 34, 3) := by decide +kernel
theorem dX9_copyFrom_61 : decode cX9_copyFrom 61 = .ok (.aload_n 0, 1) := by decide +kernel
theorem dX9_copyFrom_62 : decode cX9_copyFrom 62 = .ok (.aload_n 1, 1) := by decide +kernel
theorem dX9_copyFrom_63 : decode cX9_copyFrom 63 = .ok (.getfield 24, 3) := by decide +kernel
theorem dX9_copyFrom_66 : decode cX9_copyFrom 66 = .ok (.putfield 24, 3) := by decide +kernel
theorem dX9_copyFrom_69 : decode cX9_copyFrom 69 = .ok (.return_, 1) := by decide +kernel
theorem dX11_init_0 : decode cX11_init 0 = .ok (.aload_n 0, 1) := by decide +kernel
theorem dX11_init_1 : decode cX11_init 1 = .ok (.aconst_null, 1) := by decide +kernel
theorem dX11_init_2 : decode cX11_init 2 = .ok (.aconst_null, 1) := by decide +kernel
theorem dX11_init_3 : decode cX11_init 3 = .ok (.iconst 0, 1) := by decide +kernel
theorem dX11_init_4 : decode cX11_init 4 = .ok (.iconst 0, 1) := by decide +kernel
theorem dX11_init_5 : decode cX11_init 5 = .ok (.invokespecial 1, 3) := by decide +kernel
theorem dX11_init_8 : decode cX11_init 8 = .ok (.return_, 1) := by decide +kernel
theorem dX12_init_0 : decode cX12_init 0 = .ok (.aload_n 0, 1) := by decide +kernel
theorem dX12_init_1 : decode cX12_init 1 = .ok (.invokespecial 3, 3) := by decide +kernel
theorem dX12_init_4 : decode cX12_init 4 = .ok (.aload_n 0, 1) := by decide +kernel
theorem dX12_init_5 : decode cX12_init 5 = .ok (.bipush 16, 2) := by decide +kernel
theorem dX12_init_7 : decode cX12_init 7 = .ok (.newarray .int, 2) := by decide +kernel
theorem dX12_init_9 : decode cX12_init 9 = .ok (.putfield 9, 3) := by decide +kernel
theorem dX12_init_12 : decode cX12_init 12 = .ok (.aload_n 0, 1) := by decide +kernel
theorem dX12_init_13 : decode cX12_init 13 = .ok (.bipush 16, 2) := by decide +kernel
theorem dX12_init_15 : decode cX12_init 15 = .ok (.newarray .int, 2) := by decide +kernel
theorem dX12_init_17 : decode cX12_init 17 = .ok (.putfield 15, 3) := by decide +kernel
theorem dX12_init_20 : decode cX12_init 20 = .ok (.aload_n 0, 1) := by decide +kernel
theorem dX12_init_21 : decode cX12_init 21 = .ok (.bipush 16, 2) := by decide +kernel
theorem dX12_init_23 : decode cX12_init 23 = .ok (.newarray .int, 2) := by decide +kernel
theorem dX12_init_25 : decode cX12_init 25 = .ok (.putfield 18, 3) := by decide +kernel
theorem dX12_init_28 : decode cX12_init 28 = .ok (.aload_n 0, 1) := by decide +kernel
theorem dX12_init_29 : decode cX12_init 29 = .ok (.bipush 13, 2) := by decide +kernel
theorem dX12_init_31 : decode cX12_init 31 = .ok (.newarray .int, 2) := by decide +kernel
theorem dX12_init_33 : decode cX12_init 33 = .ok (.putfield 21, 3) := by decide +kernel
theorem dX12_init_36 : decode cX12_init 36 = .ok (.aload_n 0, 1) := by decide +kernel
theorem dX12_init_37 : decode cX12_init 37 = .ok (.bipush 13, 2) := by decide +kernel
theorem dX12_init_39 : decode cX12_init 39 = .ok (.newarray .int, 2) := by decide +kernel
theorem dX12_init_41 : decode cX12_init 41 = .ok (.putfield 24, 3) := by decide +kernel
theorem dX12_init_44 : decode cX12_init 44 = .ok (.aload_n 0, 1) := by decide +kernel
theorem dX12_init_45 : decode cX12_init 45 = .ok (.sipush 2000, 3) := by decide +kernel
theorem dX12_init_48 : decode cX12_init 48 = .ok (.newarray .int, 2) := by decide +kernel
theorem dX12_init_50 : decode cX12_init 50 = .ok (.putfield 27, 3) := by decide +kernel
theorem dX12_init_53 : decode cX12_init 53 = .ok (.aload_n 0, 1) := by decide +kernel
theorem dX12_init_54 : decode cX12_init 54 = .ok (.sipush 2000, 3) := by decide +kernel
theorem dX12_init_57 : decode cX12_init 57 = .ok (.newarray .int, 2) := by decide +kernel
theorem dX12_init_59 : decode cX12_init 59 = .ok (.putfield 30, 3) := by decide +kernel
theorem dX12_init_62 : decode cX12_init 62 = .ok (.aload_n 0, 1) := by decide +kernel
theorem dX12_init_63 : decode cX12_init 63 = .ok (.iconst 4, 1) := by decide +kernel
theorem dX12_init_64 : decode cX12_init 64 = .ok (.newarray .int, 2) := by decide +kernel
theorem dX12_init_66 : decode cX12_init 66 = .ok (.putfield 33, 3) := by decide +kernel
theorem dX12_init_69 : decode cX12_init 69 = .ok (.aload_n 0, 1) := by decide +kernel
theorem dX12_init_70 : decode cX12_init 70 = .ok (.iconst 4, 1) := by decide +kernel
theorem dX12_init_71 : decode cX12_init 71 = .ok (.newarray .int, 2) := by decide +kernel
theorem dX12_init_73 : decode cX12_init 73 = .ok (.putfield 36, 3) := by decide +kernel
theorem dX12_init_76 : decode cX12_init 76 = .ok (.return_, 1) := by decide +kernel
theorem dX12_begin_0 : decode cX12_begin 0 = .ok (.aload_n 0, 1) := by decide +kernel
theorem dX12_begin_1 : decode cX12_begin 1 = .ok (.iload_n 1, 1) := by decide +kernel
theorem dX12_begin_2 : decode cX12_begin 2 = .ok (.putfield 39, 3) := by decide +kernel
theorem dX12_begin_5 : decode cX12_begin 5 = .ok (.aload_n 0, 1) := by decide +kernel
theorem dX12_begin_6 : decode cX12_begin 6 = .ok (.iload_n 2, 1) := by decide +kernel
theorem dX12_begin_7 : decode cX12_begin 7 = .ok (.putfield 43, 3) := by decide +kernel
theorem dX12_begin_10 : decode cX12_begin 10 = .ok (.aload_n 0, 1) := by decide +kernel
theorem dX12_begin_11 : decode cX12_begin 11 = .ok (.iload_n 3, 1) := by decide +kernel
theorem dX12_begin_12 : decode cX12_begin 12 = .ok (.putfield 46, 3) := by decide +kernel
theorem dX12_begin_15 : decode cX12_begin 15 = .ok (.aload_n 0, 1) := by decide +kernel
theorem dX12_begin_16 : decode cX12_begin 16 = .ok (.iload_n 2, 1) := by decide +kernel
theorem dX12_begin_17 : decode cX12_begin 17 = .ok (.putfield 49, 3) := by decide +kernel
theorem dX12_begin_20 : decode cX12_begin 20 = .ok (.aload_n 0, 1) := by decide +kernel
theorem dX12_begin_21 : decode cX12_begin 21 = .ok (.iload_n 3, 1) := by decide +kernel
theorem dX12_begin_22 : decode cX12_begin 22 = .ok (.putfield 52, 3) := by decide +kernel
theorem dX12_begin_25 : decode cX12_begin 25 = .ok (.aload_n 0, 1) := by decide +kernel
theorem dX12_begin_26 : decode cX12_begin 26 = .ok (.iload 4, 2) := by decide +kernel
theorem dX12_begin_28 : decode cX12_begin 28 = .ok (.putfield 55, 3) := by decide +kernel
theorem dX12_begin_31 : decode cX12_begin 31 = .ok (.aload_n 0, 1) := by decide +kernel
theorem dX12_begin_32 : decode cX12_begin 32 = .ok (.iload 5, 2) := by decide +kernel
theorem dX12_begin_34 : decode cX12_begin 34 = .ok (.putfield 58, 3) := by decide +kernel
theorem dX12_begin_37 : decode cX12_begin 37 = .ok (.aload_n 0, 1) := by decide +kernel
theorem dX12_begin_38 : decode cX12_begin 38 = .ok (.iconst 0, 1) := by decide +kernel
theorem dX12_begin_39 : decode cX12_begin 39 = .ok (.putfield 61, 3) := by decide +kernel
theorem dX12_begin_42 : decode cX12_begin 42 = .ok (.aload_n 0, 1) := by decide +kernel
theorem dX12_begin_43 : decode cX12_begin 43 = .ok (.iconst 0, 1) := by decide +kernel
theorem dX12_begin_44 : decode cX12_begin 44 = .ok (.putfield 64, 3) := by decide +kernel
theorem dX12_begin_47 : decode cX12_begin 47 = .ok (.aload_n 0, 1) := by decide +kernel
theorem dX12_begin_48 : decode cX12_begin 48 = .ok (.iconst 0, 1) := by decide +kernel
theorem dX12_begin_49 : decode cX12_begin 49 = .ok (.putfield 67, 3) := by decide +kernel
theorem dX12_begin_52 : decode cX12_begin 52 = .ok (.aload_n 0, 1) := by decide +kernel
theorem dX12_begin_53 : decode cX12_begin 53 = .ok (.iconst 0, 1) := by decide +kernel
theorem dX12_begin_54 : decode cX12_begin 54 = .ok (.putfield 70, 3) := by decide +kernel
theorem dX12_begin_57 : decode cX12_begin 57 = .ok (.aload_n 0, 1) := by decide +kernel
theorem dX12_begin_58 : decode cX12_begin 58 = .ok (.iconst 0, 1) := by decide +kernel
theorem dX12_begin_59 : decode cX12_begin 59 = .ok (.putfield 73, 3) := by decide +kernel
theorem dX12_begin_62 : decode cX12_begin 62 = .ok (.aload_n 0, 1) := by decide +kernel
theorem dX12_begin_63 : decode cX12_begin 63 = .ok (.iconst (-1), 1) := by decide +kernel
theorem dX12_begin_64 : decode cX12_begin 64 = .ok (.putfield 76, 3) := by decide +kernel
theorem dX12_begin_67 : decode cX12_begin 67 = .ok (.aload_n 0, 1) := by decide +kernel
theorem dX12_begin_68 : decode cX12_begin 68 = .ok (.iconst 0, 1) := by decide +kernel
theorem dX12_begin_69 : decode cX12_begin 69 = .ok (.putfield 79, 3) := by decide +kernel
theorem dX12_begin_72 : decode cX12_begin 72 = .ok (.aload_n 0, 1) := by decide +kernel
theorem dX12_begin_73 : decode cX12_begin 73 = .ok (.iconst 0, 1) := by decide +kernel
theorem dX12_begin_74 : decode cX12_begin 74 = .ok (.putfield 82, 3) := by decide +kernel
theorem dX12_begin_77 : decode cX12_begin 77 = .ok (.iconst 0, 1) := by decide +kernel
theorem dX12_begin_78 : decode cX12_begin 78 = .ok (.istore 6, 2) := by decide +kernel
theorem dX12_begin_80 : decode cX12_begin 80 = .ok (.iload 6, 2) := by decide +kernel
theorem dX12_begin_82 : decode cX12_begin 82 = .ok (.bipush 16, 2) := by decide +kernel
theorem dX12_begin_84 : decode cX12_begin 84 = .ok (.if_icmp .ge 35, 3) := by decide +kernel
theorem dX12_begin_87 : decode cX12_begin 87 = .ok (.aload_n 0, 1) := by decide +kernel
theorem dX12_begin_88 : decode cX12_begin 88 = .ok (.getfield 9, 3) := by decide +kernel
theorem dX12_begin_91 : decode cX12_begin 91 = .ok (.iload 6, 2) := by decide +kernel
theorem dX12_begin_93 : decode cX12_begin 93 = .ok (.sipush 1000, 3) := by decide +kernel
theorem dX12_begin_96 : decode cX12_begin 96 = .ok (.iastore, 1) := by decide +kernel
theorem dX12_begin_97 : decode cX12_begin 97 = .ok (.aload_n 0, 1) := by decide +kernel
theorem dX12_begin_98 : decode cX12_begin 98 = .ok (.getfield 15, 3) := by decide +kernel
theorem dX12_begin_101 : decode cX12_begin 101 = .ok (.iload 6, 2) := by decide +kernel
theorem dX12_begin_103 : decode cX12_begin 103 = .ok (.iconst 0, 1) := by decide +kernel
theorem dX12_begin_104 : decode cX12_begin 104 = .ok (.iastore, 1) := by decide +kernel
theorem dX12_begin_105 : decode cX12_begin 105 = .ok (.aload_n 0, 1) := by decide +kernel
theorem dX12_begin_106 : decode cX12_begin 106 = .ok (.getfield 18, 3) := by decide +kernel
theorem dX12_begin_109 : decode cX12_begin 109 = .ok (.iload 6, 2) := by decide +kernel
theorem dX12_begin_111 : decode cX12_begin 111 = .ok (.iconst (-1), 1) := by decide +kernel
theorem dX12_begin_112 : decode cX12_begin 112 = .ok (.iastore, 1) := by decide +kernel
theorem dX12_begin_113 : decode cX12_begin 113 = .ok (.iinc 6 1, 3) := by decide +kernel
theorem dX12_begin_116 : decode cX12_begin 116 = .ok (.goto (-36), 3) := by decide +kernel
theorem dX12_begin_119 : decode cX12_begin 119 = .ok (.iconst 0, 1) := by decide +kernel
theorem dX12_begin_120 : decode cX12_begin 120 = .ok (.istore 6, 2) := by decide +kernel
theorem dX12_begin_122 : decode cX12_begin 122 = .ok (.iload 6, 2) := by decide +kernel
theorem dX12_begin_124 : decode cX12_begin 124 = .ok (.bipush 12, 2) := by decide +kernel
theorem dX12_begin_126 : decode cX12_begin 126 = .ok (.if_icmp .gt 25, 3) := by decide +kernel
theorem dX12_begin_129 : decode cX12_begin 129 = .ok (.aload_n 0, 1) := by decide +kernel
theorem dX12_begin_130 : decode cX12_begin 130 = .ok (.getfield 21, 3) := by decide +kernel
theorem dX12_begin_133 : decode cX12_begin 133 = .ok (.iload 6, 2) := by decide +kernel
theorem dX12_begin_135 : decode cX12_begin 135 = .ok (.iconst (-1), 1) := by decide +kernel
theorem dX12_begin_136 : decode cX12_begin 136 = .ok (.iastore, 1) := by decide +kernel
theorem dX12_begin_137 : decode cX12_begin 137 = .ok (.aload_n 0, 1) := by decide +kernel
theorem dX12_begin_138 : decode cX12_begin 138 = .ok (.getfield 24, 3) := by decide +kernel
theorem dX12_begin_141 : decode cX12_begin 141 = .ok (.iload 6, 2) := by decide +kernel
theorem dX12_begin_143 : decode cX12_begin 143 = .ok (.iconst (-1), 1) := by decide +kernel
theorem dX12_begin_144 : decode cX12_begin 144 = .ok (.iastore, 1) := by decide +kernel
theorem dX12_begin_145 : decode cX12_begin 145 = .ok (.iinc 6 1, 3) := by decide +kernel
theorem dX12_begin_148 : decode cX12_begin 148 = .ok (.goto (-26), 3) := by decide +kernel
theorem dX12_begin_151 : decode cX12_begin 151 = .ok (.return_, 1) := by decide +kernel
theorem dX12_become_0 : decode cX12_become 0 = .ok (.aload_n 0, 1) := by decide +kernel
theorem dX12_become_1 : decode cX12_become 1 = .ok (.aload_n 1, 1) := by decide +kernel
theorem dX12_become_2 : decode cX12_become 2 = .ok (.getfield 39, 3) := by decide +kernel
theorem dX12_become_5 : decode cX12_become 5 = .ok (.aload_n 1, 1) := by decide +kernel
theorem dX12_become_6 : decode cX12_become 6 = .ok (.getfield 43, 3) := by decide +kernel
theorem dX12_become_9 : decode cX12_become 9 = .ok (.aload_n 1, 1) := by decide +kernel
theorem dX12_become_10 : decode cX12_become 10 = .ok (.getfield 46, 3) := by decide +kernel
theorem dX12_become_13 : decode cX12_become 13 = .ok (.aload_n 1, 1) := by decide +kernel
theorem dX12_become_14 : decode cX12_become 14 = .ok (.getfield 55, 3) := by decide +kernel
theorem dX12_become_17 : decode cX12_become 17 = .ok (.aload_n 1, 1) := by decide +kernel
theorem dX12_become_18 : decode cX12_become 18 = .ok (.getfield 58, 3) := by decide +kernel
theorem dX12_become_21 : decode cX12_become 21 = .ok (.invokevirtual 85, 3) := by decide +kernel
theorem dX12_become_24 : decode cX12_become 24 = .ok (.aload_n 0, 1) := by decide +kernel
theorem dX12_become_25 : decode cX12_become 25 = .ok (.aload_n 1, 1) := by decide +kernel
theorem dX12_become_26 : decode cX12_become 26 = .ok (.getfield 49, 3) := by decide +kernel
theorem dX12_become_29 : decode cX12_become 29 = .ok (.putfield 49, 3) := by decide +kernel
theorem dX12_become_32 : decode cX12_become 32 = .ok (.aload_n 0, 1) := by decide +kernel
theorem dX12_become_33 : decode cX12_become 33 = .ok (.aload_n 1, 1) := by decide +kernel
theorem dX12_become_34 : decode cX12_become 34 = .ok (.getfield 52, 3) := by decide +kernel
theorem dX12_become_37 : decode cX12_become 37 = .ok (.putfield 52, 3) := by decide +kernel
theorem dX12_become_40 : decode cX12_become 40 = .ok (.aload_n 0, 1) := by decide +kernel
theorem dX12_become_41 : decode cX12_become 41 = .ok (.aload_n 1, 1) := by decide +kernel
theorem dX12_become_42 : decode cX12_become 42 = .ok (.getfield 61, 3) := by decide +kernel
theorem dX12_become_45 : decode cX12_become 45 = .ok (.putfield 61, 3) := by decide +kernel
theorem dX12_become_48 : decode cX12_become 48 = .ok (.aload_n 0, 1) := by decide +kernel
theorem dX12_become_49 : decode cX12_become 49 = .ok (.aload_n 1, 1) := by decide +kernel
theorem dX12_become_50 : decode cX12_become 50 = .ok (.getfield 64, 3) := by decide +kernel
theorem dX12_become_53 : decode cX12_become 53 = .ok (.putfield 64, 3) := by decide +kernel
theorem dX12_become_56 : decode cX12_become 56 = .ok (.aload_n 0, 1) := by decide +kernel
theorem dX12_become_57 : decode cX12_become 57 = .ok (.aload_n 1, 1) := by decide +kernel
theorem dX12_become_58 : decode cX12_become 58 = .ok (.getfield 67, 3) := by decide +kernel
theorem dX12_become_61 : decode cX12_become 61 = .ok (.putfield 67, 3) := by decide +kernel
theorem dX12_become_64 : decode cX12_become 64 = .ok (.aload_n 0, 1) := by decide +kernel
theorem dX12_become_65 : decode cX12_become 65 = .ok (.aload_n 1, 1) := by decide +kernel
theorem dX12_become_66 : decode cX12_become 66 = .ok (.getfield 70, 3) := by decide +kernel
theorem dX12_become_69 : decode cX12_become 69 = .ok (.putfield 70, 3) := by decide +kernel
theorem dX12_become_72 : decode cX12_become 72 = .ok (.aload_n 0, 1) := by decide +kernel
theorem dX12_become_73 : decode cX12_become 73 = .ok (.aload_n 1, 1) := by decide +kernel
theorem dX12_become_74 : decode cX12_become 74 = .ok (.getfield 73, 3) := by decide +kernel
theorem dX12_become_77 : decode cX12_become 77 = .ok (.putfield 73, 3) := by decide +kernel
theorem dX12_become_80 : decode cX12_become 80 = .ok (.aload_n 0, 1) := by decide +kernel
theorem dX12_become_81 : decode cX12_become 81 = .ok (.aload_n 1, 1) := by decide +kernel
theorem dX12_become_82 : decode cX12_become 82 = .ok (.getfield 76, 3) := by decide +kernel
theorem dX12_become_85 : decode cX12_become 85 = .ok (.putfield 76, 3) := by decide +kernel
theorem dX12_become_88 : decode cX12_become 88 = .ok (.aload_n 0, 1) := by decide +kernel
theorem dX12_become_89 : decode cX12_become 89 = .ok (.aload_n 1, 1) := by decide +kernel
theorem dX12_become_90 : decode cX12_become 90 = .ok (.getfield 79, 3) := by decide +kernel
theorem dX12_become_93 : decode cX12_become 93 = .ok (.putfield 79, 3) := by decide +kernel
theorem dX12_become_96 : decode cX12_become 96 = .ok (.aload_n 0, 1) := by decide +kernel
theorem dX12_become_97 : decode cX12_become 97 = .ok (.aload_n 1, 1) := by decide +kernel
theorem dX12_become_98 : decode cX12_become 98 = .ok (.getfield 82, 3) := by decide +kernel
theorem dX12_become_101 : decode cX12_become 101 = .ok (.putfield 82, 3) := by decide +kernel
theorem dX12_become_104 : decode cX12_become 104 = .ok (.iconst 0, 1) := by decide +kernel
theorem dX12_become_105 : decode cX12_become 105 = .ok (.istore_n 2, 1) := by decide +kernel
theorem dX12_become_106 : decode cX12_become 106 = .ok (.iload_n 2, 1) := by decide +kernel
theorem dX12_become_107 : decode cX12_become 107 = .ok (.bipush 16, 2) := by decide +kernel
theorem dX12_become_109 : decode cX12_become 109 = .ok (.if_icmp .ge 45, 3) := by decide +kernel
theorem dX12_become_112 : decode cX12_become 112 = .ok (.aload_n 0, 1) := by decide +kernel
theorem dX12_become_113 : decode cX12_become 113 = .ok (.getfield 9, 3) := by decide +kernel
theorem dX12_become_116 : decode cX12_become 116 = .ok (.iload_n 2, 1) := by decide +kernel
theorem dX12_become_117 : decode cX12_become 117 = .ok (.aload_n 1, 1) := by decide +kernel
theorem dX12_become_118 : decode cX12_become 118 = .ok (.getfield 9, 3) := by decide +kernel
theorem dX12_become_121 : decode cX12_become 121 = .ok (.iload_n 2, 1) := by decide +kernel
theorem dX12_become_122 : decode cX12_become 122 = .ok (.iaload, 1) := by decide +kernel
theorem dX12_become_123 : decode cX12_become 123 = .ok (.iastore, 1) := by decide +kernel
theorem dX12_become_124 : decode cX12_become 124 = .ok (.aload_n 0, 1) := by decide +kernel
theorem dX12_become_125 : decode cX12_become 125 = .ok (.getfield 15, 3) := by decide +kernel
theorem dX12_become_128 : decode cX12_become 128 = .ok (.iload_n 2, 1) := by decide +kernel
theorem dX12_become_129 : decode cX12_become 129 = .ok (.aload_n 1, 1) := by decide +kernel
theorem dX12_become_130 : decode cX12_become 130 = .ok (.getfield 15, 3) := by decide +kernel
theorem dX12_become_133 : decode cX12_become 133 = .ok (.iload_n 2, 1) := by decide +kernel
theorem dX12_become_134 : decode cX12_become 134 = .ok (.iaload, 1) := by decide +kernel
theorem dX12_become_135 : decode cX12_become 135 = .ok (.iastore, 1) := by decide +kernel
theorem dX12_become_136 : decode cX12_become 136 = .ok (.aload_n 0, 1) := by decide +kernel
theorem dX12_become_137 : decode cX12_become 137 = .ok (.getfield 18, 3) := by decide +kernel
theorem dX12_become_140 : decode cX12_become 140 = .ok (.iload_n 2, 1) := by decide +kernel
theorem dX12_become_141 : decode cX12_become 141 = .ok (.aload_n 1, 1) := by decide +kernel
theorem dX12_become_142 : decode cX12_become 142 = .ok (.getfield 18, 3) := by decide +kernel
theorem dX12_become_145 : decode cX12_become 145 = .ok (.iload_n 2, 1) := by decide +kernel
theorem dX12_become_146 : decode cX12_become 146 = .ok (.iaload, 1) := by decide +kernel
theorem dX12_become_147 : decode cX12_become 147 = .ok (.iastore, 1) := by decide +kernel
theorem dX12_become_148 : decode cX12_become 148 = .ok (.iinc 2 1, 3) := by decide +kernel
theorem dX12_become_151 : decode cX12_become 151 = .ok (.goto (-45), 3) := by decide +kernel
theorem dX12_become_154 : decode cX12_become 154 = .ok (.iconst 0, 1) := by decide +kernel
theorem dX12_become_155 : decode cX12_become 155 = .ok (.istore_n 2, 1) := by decide +kernel
theorem dX12_become_156 : decode cX12_become 156 = .ok (.iload_n 2, 1) := by decide +kernel
theorem dX12_become_157 : decode cX12_become 157 = .ok (.bipush 12, 2) := by decide +kernel
theorem dX12_become_159 : decode cX12_become 159 = .ok (.if_icmp .gt 33, 3) := by decide +kernel
theorem dX12_become_162 : decode cX12_become 162 = .ok (.aload_n 0, 1) := by decide +kernel
theorem dX12_become_163 : decode cX12_become 163 = .ok (.getfield 21, 3) := by decide +kernel
theorem dX12_become_166 : decode cX12_become 166 = .ok (.iload_n 2, 1) := by decide +kernel
theorem dX12_become_167 : decode cX12_become 167 = .ok (.aload_n 1, 1) := by decide +kernel
theorem dX12_become_168 : decode cX12_become 168 = .ok (.getfield 21, 3) := by decide +kernel
theorem dX12_become_171 : decode cX12_become 171 = .ok (.iload_n 2, 1) := by decide +kernel
theorem dX12_become_172 : decode cX12_become 172 = .ok (.iaload, 1) := by decide +kernel
theorem dX12_become_173 : decode cX12_become 173 = .ok (.iastore, 1) := by decide +kernel
theorem dX12_become_174 : decode cX12_become 174 = .ok (.aload_n 0, 1) := by decide +kernel
theorem dX12_become_175 : decode cX12_become 175 = .ok (.getfield 24, 3) := by decide +kernel
theorem dX12_become_178 : decode cX12_become 178 = .ok (.iload_n 2, 1) := by decide +kernel
theorem dX12_become_179 : decode cX12_become 179 = .ok (.aload_n 1, 1) := by decide +kernel
theorem dX12_become_180 : decode cX12_become 180 = .ok (.getfield 24, 3) := by decide +kernel
theorem dX12_become_183 : decode cX12_become 183 = .ok (.iload_n 2, 1) := by decide +kernel
theorem dX12_become_184 : decode cX12_become 184 = .ok (.iaload, 1) := by decide +kernel
theorem dX12_become_185 : decode cX12_become 185 = .ok (.iastore, 1) := by decide +kernel
theorem dX12_become_186 : decode cX12_become 186 = .ok (.iinc 2 1, 3) := by decide +kernel
theorem dX12_become_189 : decode cX12_become 189 = .ok (.goto (-33), 3) := by decide +kernel
theorem dX12_become_192 : decode cX12_become 192 = .ok (.iconst 0, 1) := by decide +kernel
theorem dX12_become_193 : decode cX12_become 193 = .ok (.istore_n 2, 1) := by decide +kernel
theorem dX12_become_194 : decode cX12_become 194 = .ok (.iload_n 2, 1) := by decide +kernel
theorem dX12_become_195 : decode cX12_become 195 = .ok (.aload_n 0, 1) := by decide +kernel
theorem dX12_become_196 : decode cX12_become 196 = .ok (.getfield 79, 3) := by decide +kernel
theorem dX12_become_199 : decode cX12_become 199 = .ok (.if_icmp .ge 33, 3) := by decide +kernel
theorem dX12_become_202 : decode cX12_become 202 = .ok (.aload_n 0, 1) := by decide +kernel
theorem dX12_become_203 : decode cX12_become 203 = .ok (.getfield 27, 3) := by decide +kernel
theorem dX12_become_206 : decode cX12_become 206 = .ok (.iload_n 2, 1) := by decide +kernel
theorem dX12_become_207 : decode cX12_become 207 = .ok (.aload_n 1, 1) := by decide +kernel
theorem dX12_become_208 : decode cX12_become 208 = .ok (.getfield 27, 3) := by decide +kernel
theorem dX12_become_211 : decode cX12_become 211 = .ok (.iload_n 2, 1) := by decide +kernel
theorem dX12_become_212 : decode cX12_become 212 = .ok (.iaload, 1) := by decide +kernel
theorem dX12_become_213 : decode cX12_become 213 = .ok (.iastore, 1) := by decide +kernel
theorem dX12_become_214 : decode cX12_become 214 = .ok (.aload_n 0, 1) := by decide +kernel
theorem dX12_become_215 : decode cX12_become 215 = .ok (.getfield 30, 3) := by decide +kernel
theorem dX12_become_218 : decode cX12_become 218 = .ok (.iload_n 2, 1) := by decide +kernel
theorem dX12_become_219 : decode cX12_become 219 = .ok (.aload_n 1, 1) := by decide +kernel
theorem dX12_become_220 : decode cX12_become 220 = .ok (.getfield 30, 3) := by decide +kernel
theorem dX12_become_223 : decode cX12_become 223 = .ok (.iload_n 2, 1) := by decide +kernel
theorem dX12_become_224 : decode cX12_become 224 = .ok (.iaload, 1) := by decide +kernel
theorem dX12_become_225 : decode cX12_become 225 = .ok (.iastore, 1) := by decide +kernel
theorem dX12_become_226 : decode cX12_become 226 = .ok (.iinc 2 1, 3) := by decide +kernel
theorem dX12_become_229 : decode cX12_become 229 = .ok (.goto (-35), 3) := by decide +kernel
theorem dX12_become_232 : decode cX12_become 232 = .ok (.iconst 0, 1) := by decide +kernel
theorem dX12_become_233 : decode cX12_become 233 = .ok (.istore_n 2, 1) := by decide +kernel
theorem dX12_become_234 : decode cX12_become 234 = .ok (.iload_n 2, 1) := by decide +kernel
theorem dX12_become_235 : decode cX12_become 235 = .ok (.aload_n 0, 1) := by decide +kernel
theorem dX12_become_236 : decode cX12_become 236 = .ok (.getfield 82, 3) := by decide +kernel
theorem dX12_become_239 : decode cX12_become 239 = .ok (.if_icmp .ge 33, 3) := by decide +kernel
theorem dX12_become_242 : decode cX12_become 242 = .ok (.aload_n 0, 1) := by decide +kernel
theorem dX12_become_243 : decode cX12_become 243 = .ok (.getfield 33, 3) := by decide +kernel
theorem dX12_become_246 : decode cX12_become 246 = .ok (.iload_n 2, 1) := by decide +kernel
theorem dX12_become_247 : decode cX12_become 247 = .ok (.aload_n 1, 1) := by decide +kernel
theorem dX12_become_248 : decode cX12_become 248 = .ok (.getfield 33, 3) := by decide +kernel
theorem dX12_become_251 : decode cX12_become 251 = .ok (.iload_n 2, 1) := by decide +kernel
theorem dX12_become_252 : decode cX12_become 252 = .ok (.iaload, 1) := by decide +kernel
theorem dX12_become_253 : decode cX12_become 253 = .ok (.iastore, 1) := by decide +kernel
theorem dX12_become_254 : decode cX12_become 254 = .ok (.aload_n 0, 1) := by decide +kernel
theorem dX12_become_255 : decode cX12_become 255 = .ok (.getfield 36, 3) := by decide +kernel
theorem dX12_become_258 : decode cX12_become 258 = .ok (.iload_n 2, 1) := by decide +kernel
theorem dX12_become_259 : decode cX12_become 259 = .ok (.aload_n 1, 1) := by decide +kernel
theorem dX12_become_260 : decode cX12_become 260 = .ok (.getfield 36, 3) := by decide +kernel
theorem dX12_become_263 : decode cX12_become 263 = .ok (.iload_n 2, 1) := by decide +kernel
theorem dX12_become_264 : decode cX12_become 264 = .ok (.iaload, 1) := by decide +kernel
theorem dX12_become_265 : decode cX12_become 265 = .ok (.iastore, 1) := by decide +kernel
theorem dX12_become_266 : decode cX12_become 266 = .ok (.iinc 2 1, 3) := by decide +kernel
theorem dX12_become_269 : decode cX12_become 269 = .ok (.goto (-35), 3) := by decide +kernel
theorem dX12_become_272 : decode cX12_become 272 = .ok (.return_, 1) := by decide +kernel
theorem dX12_of_0 : decode cX12_of 0 = .ok (.iconst 0, 1) := by decide +kernel
theorem dX12_of_1 : decode cX12_of 1 = .ok (.istore_n 2, 1) := by decide +kernel
theorem dX12_of_2 : decode cX12_of 2 = .ok (.iconst 0, 1) := by decide +kernel
theorem dX12_of_3 : decode cX12_of 3 = .ok (.istore_n 3, 1) := by decide +kernel
theorem dX12_of_4 : decode cX12_of 4 = .ok (.iload_n 3, 1) := by decide +kernel
theorem dX12_of_5 : decode cX12_of 5 = .ok (.aload_n 0, 1) := by decide +kernel
theorem dX12_of_6 : decode cX12_of 6 = .ok (.getfield 39, 3) := by decide +kernel
theorem dX12_of_9 : decode cX12_of 9 = .ok (.if_icmp .ge 27, 3) := by decide +kernel
theorem dX12_of_12 : decode cX12_of 12 = .ok (.iload_n 2, 1) := by decide +kernel
theorem dX12_of_13 : decode cX12_of 13 = .ok (.aload_n 0, 1) := by decide +kernel
theorem dX12_of_14 : decode cX12_of 14 = .ok (.getfield 15, 3) := by decide +kernel
theorem dX12_of_17 : decode cX12_of 17 = .ok (.iload_n 3, 1) := by decide +kernel
theorem dX12_of_18 : decode cX12_of 18 = .ok (.iaload, 1) := by decide +kernel
theorem dX12_of_19 : decode cX12_of 19 = .ok (.iload_n 1, 1) := by decide +kernel
theorem dX12_of_20 : decode cX12_of 20 = .ok (.if_icmp .ne 7, 3) := by decide +kernel
theorem dX12_of_23 : decode cX12_of 23 = .ok (.iconst 1, 1) := by decide +kernel
theorem dX12_of_24 : decode cX12_of 24 = .ok (.goto 4, 3) := by decide +kernel
theorem dX12_of_27 : decode cX12_of 27 = .ok (.iconst 0, 1) := by decide +kernel
theorem dX12_of_28 : decode cX12_of 28 = .ok (.iadd, 1) := by decide +kernel
theorem dX12_of_29 : decode cX12_of 29 = .ok (.istore_n 2, 1) := by decide +kernel
theorem dX12_of_30 : decode cX12_of 30 = .ok (.iinc 3 1, 3) := by decide +kernel
theorem dX12_of_33 : decode cX12_of 33 = .ok (.goto (-29), 3) := by decide +kernel
theorem dX12_of_36 : decode cX12_of 36 = .ok (.iload_n 2, 1) := by decide +kernel
theorem dX12_of_37 : decode cX12_of 37 = .ok (.ireturn, 1) := by decide +kernel
theorem dX12_weakest_0 : decode cX12_weakest 0 = .ok (.iconst (-1), 1) := by decide +kernel
theorem dX12_weakest_1 : decode cX12_weakest 1 = .ok (.istore_n 1, 1) := by decide +kernel
theorem dX12_weakest_2 : decode cX12_weakest 2 = .ok (.iconst 0, 1) := by decide +kernel
theorem dX12_weakest_3 : decode cX12_weakest 3 = .ok (.istore_n 2, 1) := by decide +kernel
theorem dX12_weakest_4 : decode cX12_weakest 4 = .ok (.iload_n 2, 1) := by decide +kernel
theorem dX12_weakest_5 : decode cX12_weakest 5 = .ok (.aload_n 0, 1) := by decide +kernel
theorem dX12_weakest_6 : decode cX12_weakest 6 = .ok (.getfield 39, 3) := by decide +kernel
theorem dX12_weakest_9 : decode cX12_weakest 9 = .ok (.if_icmp .ge 40, 3) := by decide +kernel
theorem dX12_weakest_12 : decode cX12_weakest 12 = .ok (.aload_n 0, 1) := by decide +kernel
theorem dX12_weakest_13 : decode cX12_weakest 13 = .ok (.getfield 15, 3) := by decide +kernel
theorem dX12_weakest_16 : decode cX12_weakest 16 = .ok (.iload_n 2, 1) := by decide +kernel
theorem dX12_weakest_17 : decode cX12_weakest 17 = .ok (.iaload, 1) := by decide +kernel
theorem dX12_weakest_18 : decode cX12_weakest 18 = .ok (.ifCond .ne 25, 3) := by decide +kernel
theorem dX12_weakest_21 : decode cX12_weakest 21 = .ok (.iload_n 1, 1) := by decide +kernel
theorem dX12_weakest_22 : decode cX12_weakest 22 = .ok (.iconst (-1), 1) := by decide +kernel
theorem dX12_weakest_23 : decode cX12_weakest 23 = .ok (.if_icmp .eq 18, 3) := by decide +kernel
theorem dX12_weakest_26 : decode cX12_weakest 26 = .ok (.aload_n 0, 1) := by decide +kernel
theorem dX12_weakest_27 : decode cX12_weakest 27 = .ok (.getfield 9, 3) := by decide +kernel
theorem dX12_weakest_30 : decode cX12_weakest 30 = .ok (.iload_n 2, 1) := by decide +kernel
theorem dX12_weakest_31 : decode cX12_weakest 31 = .ok (.iaload, 1) := by decide +kernel
theorem dX12_weakest_32 : decode cX12_weakest 32 = .ok (.aload_n 0, 1) := by decide +kernel
theorem dX12_weakest_33 : decode cX12_weakest 33 = .ok (.getfield 9, 3) := by decide +kernel
theorem dX12_weakest_36 : decode cX12_weakest 36 = .ok (.iload_n 1, 1) := by decide +kernel
theorem dX12_weakest_37 : decode cX12_weakest 37 = .ok (.iaload, 1) := by decide +kernel
theorem dX12_weakest_38 : decode cX12_weakest 38 = .ok (.if_icmp .ge 5, 3) := by decide +kernel
theorem dX12_weakest_41 : decode cX12_weakest 41 = .ok (.iload_n 2, 1) := by decide +kernel
theorem dX12_weakest_42 : decode cX12_weakest 42 = .ok (.istore_n 1, 1) := by decide +kernel
theorem dX12_weakest_43 : decode cX12_weakest 43 = .ok (.iinc 2 1, 3) := by decide +kernel
theorem dX12_weakest_46 : decode cX12_weakest 46 = .ok (.goto (-42), 3) := by decide +kernel
theorem dX12_weakest_49 : decode cX12_weakest 49 = .ok (.iload_n 1, 1) := by decide +kernel
theorem dX12_weakest_50 : decode cX12_weakest 50 = .ok (.ireturn, 1) := by decide +kernel
theorem dX12_mean_0 : decode cX12_mean 0 = .ok (.iconst 0, 1) := by decide +kernel
theorem dX12_mean_1 : decode cX12_mean 1 = .ok (.istore_n 1, 1) := by decide +kernel
theorem dX12_mean_2 : decode cX12_mean 2 = .ok (.iconst 0, 1) := by decide +kernel
theorem dX12_mean_3 : decode cX12_mean 3 = .ok (.istore_n 2, 1) := by decide +kernel
theorem dX12_mean_4 : decode cX12_mean 4 = .ok (.iload_n 2, 1) := by decide +kernel
theorem dX12_mean_5 : decode cX12_mean 5 = .ok (.aload_n 0, 1) := by decide +kernel
theorem dX12_mean_6 : decode cX12_mean 6 = .ok (.getfield 39, 3) := by decide +kernel
theorem dX12_mean_9 : decode cX12_mean 9 = .ok (.if_icmp .ge 31, 3) := by decide +kernel
theorem dX12_mean_12 : decode cX12_mean 12 = .ok (.iload_n 1, 1) := by decide +kernel
theorem dX12_mean_13 : decode cX12_mean 13 = .ok (.aload_n 0, 1) := by decide +kernel
theorem dX12_mean_14 : decode cX12_mean 14 = .ok (.getfield 15, 3) := by decide +kernel
theorem dX12_mean_17 : decode cX12_mean 17 = .ok (.iload_n 2, 1) := by decide +kernel
theorem dX12_mean_18 : decode cX12_mean 18 = .ok (.iaload, 1) := by decide +kernel
theorem dX12_mean_19 : decode cX12_mean 19 = .ok (.ifCond .ne 12, 3) := by decide +kernel
theorem dX12_mean_22 : decode cX12_mean 22 = .ok (.aload_n 0, 1) := by decide +kernel
theorem dX12_mean_23 : decode cX12_mean 23 = .ok (.getfield 9, 3) := by decide +kernel
theorem dX12_mean_26 : decode cX12_mean 26 = .ok (.iload_n 2, 1) := by decide +kernel
theorem dX12_mean_27 : decode cX12_mean 27 = .ok (.iaload, 1) := by decide +kernel
theorem dX12_mean_28 : decode cX12_mean 28 = .ok (.goto 4, 3) := by decide +kernel
theorem dX12_mean_31 : decode cX12_mean 31 = .ok (.iconst 0, 1) := by decide +kernel
theorem dX12_mean_32 : decode cX12_mean 32 = .ok (.iadd, 1) := by decide +kernel
theorem dX12_mean_33 : decode cX12_mean 33 = .ok (.istore_n 1, 1) := by decide +kernel
theorem dX12_mean_34 : decode cX12_mean 34 = .ok (.iinc 2 1, 3) := by decide +kernel
theorem dX12_mean_37 : decode cX12_mean 37 = .ok (.goto (-33), 3) := by decide +kernel
theorem dX12_mean_40 : decode cX12_mean 40 = .ok (.aload_n 0, 1) := by decide +kernel
theorem dX12_mean_41 : decode cX12_mean 41 = .ok (.iconst 0, 1) := by decide +kernel
theorem dX12_mean_42 : decode cX12_mean 42 = .ok (.invokevirtual 89, 3) := by decide +kernel
theorem dX12_mean_45 : decode cX12_mean 45 = .ok (.istore_n 2, 1) := by decide +kernel
theorem dX12_mean_46 : decode cX12_mean 46 = .ok (.iload_n 2, 1) := by decide +kernel
theorem dX12_mean_47 : decode cX12_mean 47 = .ok (.ifCond .ne 7, 3) := by decide +kernel
theorem dX12_mean_50 : decode cX12_mean 50 = .ok (.iconst 0, 1) := by decide +kernel
theorem dX12_mean_51 : decode cX12_mean 51 = .ok (.goto 6, 3) := by decide +kernel
theorem dX12_mean_54 : decode cX12_mean 54 = .ok (.iload_n 1, 1) := by decide +kernel
theorem dX12_mean_55 : decode cX12_mean 55 = .ok (.iload_n 2, 1) := by decide +kernel
theorem dX12_mean_56 : decode cX12_mean 56 = .ok (.idiv, 1) := by decide +kernel
theorem dX12_mean_57 : decode cX12_mean 57 = .ok (.ireturn, 1) := by decide +kernel
theorem dX12_gain_0 : decode cX12_gain 0 = .ok (.iconst 0, 1) := by decide +kernel
theorem dX12_gain_1 : decode cX12_gain 1 = .ok (.istore_n 2, 1) := by decide +kernel
theorem dX12_gain_2 : decode cX12_gain 2 = .ok (.iload_n 2, 1) := by decide +kernel
theorem dX12_gain_3 : decode cX12_gain 3 = .ok (.aload_n 0, 1) := by decide +kernel
theorem dX12_gain_4 : decode cX12_gain 4 = .ok (.getfield 39, 3) := by decide +kernel
theorem dX12_gain_7 : decode cX12_gain 7 = .ok (.if_icmp .ge 38, 3) := by decide +kernel
theorem dX12_gain_10 : decode cX12_gain 10 = .ok (.aload_n 0, 1) := by decide +kernel
theorem dX12_gain_11 : decode cX12_gain 11 = .ok (.getfield 15, 3) := by decide +kernel
theorem dX12_gain_14 : decode cX12_gain 14 = .ok (.iload_n 2, 1) := by decide +kernel
theorem dX12_gain_15 : decode cX12_gain 15 = .ok (.iaload, 1) := by decide +kernel
theorem dX12_gain_16 : decode cX12_gain 16 = .ok (.ifCond .ne 23, 3) := by decide +kernel
theorem dX12_gain_19 : decode cX12_gain 19 = .ok (.aload_n 0, 1) := by decide +kernel
theorem dX12_gain_20 : decode cX12_gain 20 = .ok (.getfield 9, 3) := by decide +kernel
theorem dX12_gain_23 : decode cX12_gain 23 = .ok (.iload_n 2, 1) := by decide +kernel
theorem dX12_gain_24 : decode cX12_gain 24 = .ok (.sipush 1000, 3) := by decide +kernel
theorem dX12_gain_27 : decode cX12_gain 27 = .ok (.aload_n 0, 1) := by decide +kernel
theorem dX12_gain_28 : decode cX12_gain 28 = .ok (.getfield 9, 3) := by decide +kernel
theorem dX12_gain_31 : decode cX12_gain 31 = .ok (.iload_n 2, 1) := by decide +kernel
theorem dX12_gain_32 : decode cX12_gain 32 = .ok (.iaload, 1) := by decide +kernel
theorem dX12_gain_33 : decode cX12_gain 33 = .ok (.iload_n 1, 1) := by decide +kernel
theorem dX12_gain_34 : decode cX12_gain 34 = .ok (.iadd, 1) := by decide +kernel
theorem dX12_gain_35 : decode cX12_gain 35 = .ok (.invokestatic 93, 3) := by decide +kernel
theorem dX12_gain_38 : decode cX12_gain 38 = .ok (.iastore, 1) := by decide +kernel
theorem dX12_gain_39 : decode cX12_gain 39 = .ok (.iinc 2 1, 3) := by decide +kernel
theorem dX12_gain_42 : decode cX12_gain 42 = .ok (.goto (-40), 3) := by decide +kernel
theorem dX12_gain_45 : decode cX12_gain 45 = .ok (.return_, 1) := by decide +kernel
theorem dX12_inGap_0 : decode cX12_inGap 0 = .ok (.iconst 0, 1) := by decide +kernel
theorem dX12_inGap_1 : decode cX12_inGap 1 = .ok (.istore_n 2, 1) := by decide +kernel
theorem dX12_inGap_2 : decode cX12_inGap 2 = .ok (.iconst 0, 1) := by decide +kernel
theorem dX12_inGap_3 : decode cX12_inGap 3 = .ok (.istore_n 3, 1) := by decide +kernel
theorem dX12_inGap_4 : decode cX12_inGap 4 = .ok (.iload_n 3, 1) := by decide +kernel
theorem dX12_inGap_5 : decode cX12_inGap 5 = .ok (.aload_n 0, 1) := by decide +kernel
theorem dX12_inGap_6 : decode cX12_inGap 6 = .ok (.getfield 82, 3) := by decide +kernel
theorem dX12_inGap_9 : decode cX12_inGap 9 = .ok (.if_icmp .ge 39, 3) := by decide +kernel
theorem dX12_inGap_12 : decode cX12_inGap 12 = .ok (.iload_n 2, 1) := by decide +kernel
theorem dX12_inGap_13 : decode cX12_inGap 13 = .ok (.ifCond .ne 23, 3) := by decide +kernel
theorem dX12_inGap_16 : decode cX12_inGap 16 = .ok (.aload_n 0, 1) := by decide +kernel
theorem dX12_inGap_17 : decode cX12_inGap 17 = .ok (.getfield 33, 3) := by decide +kernel
theorem dX12_inGap_20 : decode cX12_inGap 20 = .ok (.iload_n 3, 1) := by decide +kernel
theorem dX12_inGap_21 : decode cX12_inGap 21 = .ok (.iaload, 1) := by decide +kernel
theorem dX12_inGap_22 : decode cX12_inGap 22 = .ok (.iload_n 1, 1) := by decide +kernel
theorem dX12_inGap_23 : decode cX12_inGap 23 = .ok (.if_icmp .gt 17, 3) := by decide +kernel
theorem dX12_inGap_26 : decode cX12_inGap 26 = .ok (.iload_n 1, 1) := by decide +kernel
theorem dX12_inGap_27 : decode cX12_inGap 27 = .ok (.aload_n 0, 1) := by decide +kernel
theorem dX12_inGap_28 : decode cX12_inGap 28 = .ok (.getfield 36, 3) := by decide +kernel
theorem dX12_inGap_31 : decode cX12_inGap 31 = .ok (.iload_n 3, 1) := by decide +kernel
theorem dX12_inGap_32 : decode cX12_inGap 32 = .ok (.iaload, 1) := by decide +kernel
theorem dX12_inGap_33 : decode cX12_inGap 33 = .ok (.if_icmp .gt 7, 3) := by decide +kernel
theorem dX12_inGap_36 : decode cX12_inGap 36 = .ok (.iconst 1, 1) := by decide +kernel
theorem dX12_inGap_37 : decode cX12_inGap 37 = .ok (.goto 4, 3) := by decide +kernel
theorem dX12_inGap_40 : decode cX12_inGap 40 = .ok (.iconst 0, 1) := by decide +kernel
theorem dX12_inGap_41 : decode cX12_inGap 41 = .ok (.istore_n 2, 1) := by decide +kernel
theorem dX12_inGap_42 : decode cX12_inGap 42 = .ok (.iinc 3 1, 3) := by decide +kernel
theorem dX12_inGap_45 : decode cX12_inGap 45 = .ok (.goto (-41), 3) := by decide +kernel
theorem dX12_inGap_48 : decode cX12_inGap 48 = .ok (.iload_n 2, 1) := by decide +kernel
theorem dX12_inGap_49 : decode cX12_inGap 49 = .ok (.ireturn, 1) := by decide +kernel
end
section
theorem dX10_init_0 : decode cX10_init 0 = .ok (.aload_n 0, 1) := by decide +kernel
theorem dX10_init_1 : decode cX10_init 1 = .ok (.invokespecial 1, 3) := by decide +kernel
theorem dX10_init_4 : decode cX10_init 4 = .ok (.aload_n 0, 1) := by decide +kernel
theorem dX10_init_5 : decode cX10_init 5 = .ok (.new 7, 3) := by decide +kernel
theorem dX10_init_8 : decode cX10_init 8 = .ok (.dup, 1) := by decide +kernel
theorem dX10_init_9 : decode cX10_init 9 = .ok (.invokespecial 9, 3) := by decide +kernel
theorem dX10_init_12 : decode cX10_init 12 = .ok (.putfield 10, 3) := by decide +kernel
theorem dX10_init_15 : decode cX10_init 15 = .ok (.aload_n 0, 1) := by decide +kernel
theorem dX10_init_16 : decode cX10_init 16 = .ok (.bipush 9, 2) := by decide +kernel
theorem dX10_init_18 : decode cX10_init 18 = .ok (.anewarray 16, 3) := by decide +kernel
theorem dX10_init_21 : decode cX10_init 21 = .ok (.putfield 18, 3) := by decide +kernel
theorem dX10_init_24 : decode cX10_init 24 = .ok (.aload_n 0, 1) := by decide +kernel
theorem dX10_init_25 : decode cX10_init 25 = .ok (.new 22, 3) := by decide +kernel
theorem dX10_init_28 : decode cX10_init 28 = .ok (.dup, 1) := by decide +kernel
theorem dX10_init_29 : decode cX10_init 29 = .ok (.invokespecial 24, 3) := by decide +kernel
theorem dX10_init_32 : decode cX10_init 32 = .ok (.putfield 25, 3) := by decide +kernel
theorem dX10_init_35 : decode cX10_init 35 = .ok (.aload_n 0, 1) := by decide +kernel
theorem dX10_init_36 : decode cX10_init 36 = .ok (.new 29, 3) := by decide +kernel
theorem dX10_init_39 : decode cX10_init 39 = .ok (.dup, 1) := by decide +kernel
theorem dX10_init_40 : decode cX10_init 40 = .ok (.invokespecial 31, 3) := by decide +kernel
theorem dX10_init_43 : decode cX10_init 43 = .ok (.putfield 32, 3) := by decide +kernel
theorem dX10_init_46 : decode cX10_init 46 = .ok (.aload_n 0, 1) := by decide +kernel
theorem dX10_init_47 : decode cX10_init 47 = .ok (.bipush 6, 2) := by decide +kernel
theorem dX10_init_49 : decode cX10_init 49 = .ok (.anewarray 36, 3) := by decide +kernel
theorem dX10_init_52 : decode cX10_init 52 = .ok (.putfield 38, 3) := by decide +kernel
theorem dX10_init_55 : decode cX10_init 55 = .ok (.aload_n 0, 1) := by decide +kernel
theorem dX10_init_56 : decode cX10_init 56 = .ok (.new 42, 3) := by decide +kernel
theorem dX10_init_59 : decode cX10_init 59 = .ok (.dup, 1) := by decide +kernel
theorem dX10_init_60 : decode cX10_init 60 = .ok (.invokespecial 44, 3) := by decide +kernel
theorem dX10_init_63 : decode cX10_init 63 = .ok (.putfield 45, 3) := by decide +kernel
theorem dX10_init_66 : decode cX10_init 66 = .ok (.aload_n 0, 1) := by decide +kernel
theorem dX10_init_67 : decode cX10_init 67 = .ok (.aconst_null, 1) := by decide +kernel
theorem dX10_init_68 : decode cX10_init 68 = .ok (.putfield 49, 3) := by decide +kernel
theorem dX10_init_71 : decode cX10_init 71 = .ok (.aload_n 0, 1) := by decide +kernel
theorem dX10_init_72 : decode cX10_init 72 = .ok (.iconst 0, 1) := by decide +kernel
theorem dX10_init_73 : decode cX10_init 73 = .ok (.putfield 52, 3) := by decide +kernel
theorem dX10_init_76 : decode cX10_init 76 = .ok (.aload_n 0, 1) := by decide +kernel
theorem dX10_init_77 : decode cX10_init 77 = .ok (.iconst 0, 1) := by decide +kernel
theorem dX10_init_78 : decode cX10_init 78 = .ok (.putfield 56, 3) := by decide +kernel
theorem dX10_init_81 : decode cX10_init 81 = .ok (.aload_n 0, 1) := by decide +kernel
theorem dX10_init_82 : decode cX10_init 82 = .ok (.iconst (-1), 1) := by decide +kernel
theorem dX10_init_83 : decode cX10_init 83 = .ok (.putfield 59, 3) := by decide +kernel
theorem dX10_init_86 : decode cX10_init 86 = .ok (.aload_n 0, 1) := by decide +kernel
theorem dX10_init_87 : decode cX10_init 87 = .ok (.iconst (-1), 1) := by decide +kernel
theorem dX10_init_88 : decode cX10_init 88 = .ok (.putfield 62, 3) := by decide +kernel
theorem dX10_init_91 : decode cX10_init 91 = .ok (.aload_n 0, 1) := by decide +kernel
theorem dX10_init_92 : decode cX10_init 92 = .ok (.iconst 0, 1) := by decide +kernel
theorem dX10_init_93 : decode cX10_init 93 = .ok (.putfield 65, 3) := by decide +kernel
theorem dX10_init_96 : decode cX10_init 96 = .ok (.iconst 0, 1) := by decide +kernel
theorem dX10_init_97 : decode cX10_init 97 = .ok (.istore_n 1, 1) := by decide +kernel
theorem dX10_init_98 : decode cX10_init 98 = .ok (.iload_n 1, 1) := by decide +kernel
theorem dX10_init_99 : decode cX10_init 99 = .ok (.bipush 8, 2) := by decide +kernel
theorem dX10_init_101 : decode cX10_init 101 = .ok (.if_icmp .gt 22, 3) := by decide +kernel
theorem dX10_init_104 : decode cX10_init 104 = .ok (.aload_n 0, 1) := by decide +kernel
theorem dX10_init_105 : decode cX10_init 105 = .ok (.getfield 18, 3) := by decide +kernel
theorem dX10_init_108 : decode cX10_init 108 = .ok (.iload_n 1, 1) := by decide +kernel
theorem dX10_init_109 : decode cX10_init 109 = .ok (.new 16, 3) := by decide +kernel
theorem dX10_init_112 : decode cX10_init 112 = .ok (.dup, 1) := by decide +kernel
theorem dX10_init_113 : decode cX10_init 113 = .ok (.invokespecial 68, 3) := by decide +kernel
theorem dX10_init_116 : decode cX10_init 116 = .ok (.aastore, 1) := by decide +kernel
theorem dX10_init_117 : decode cX10_init 117 = .ok (.iinc 1 1, 3) := by decide +kernel
theorem dX10_init_120 : decode cX10_init 120 = .ok (.goto (-22), 3) := by decide +kernel
theorem dX10_init_123 : decode cX10_init 123 = .ok (.iconst 0, 1) := by decide +kernel
theorem dX10_init_124 : decode cX10_init 124 = .ok (.istore_n 1, 1) := by decide +kernel
theorem dX10_init_125 : decode cX10_init 125 = .ok (.iload_n 1, 1) := by decide +kernel
theorem dX10_init_126 : decode cX10_init 126 = .ok (.bipush 6, 2) := by decide +kernel
theorem dX10_init_128 : decode cX10_init 128 = .ok (.if_icmp .ge 22, 3) := by decide +kernel
theorem dX10_init_131 : decode cX10_init 131 = .ok (.aload_n 0, 1) := by decide +kernel
theorem dX10_init_132 : decode cX10_init 132 = .ok (.getfield 38, 3) := by decide +kernel
theorem dX10_init_135 : decode cX10_init 135 = .ok (.iload_n 1, 1) := by decide +kernel
theorem dX10_init_136 : decode cX10_init 136 = .ok (.new 36, 3) := by decide +kernel
theorem dX10_init_139 : decode cX10_init 139 = .ok (.dup, 1) := by decide +kernel
theorem dX10_init_140 : decode cX10_init 140 = .ok (.invokespecial 69, 3) := by decide +kernel
theorem dX10_init_143 : decode cX10_init 143 = .ok (.aastore, 1) := by decide +kernel
theorem dX10_init_144 : decode cX10_init 144 = .ok (.iinc 1 1, 3) := by decide +kernel
theorem dX10_init_147 : decode cX10_init 147 = .ok (.goto (-22), 3) := by decide +kernel
theorem dX10_init_150 : decode cX10_init 150 = .ok (.return_, 1) := by decide +kernel
theorem dX10_leg_0 : decode cX10_leg 0 = .ok (.aload_n 0, 1) := by decide +kernel
theorem dX10_leg_1 : decode cX10_leg 1 = .ok (.getfield 32, 3) := by decide +kernel
theorem dX10_leg_4 : decode cX10_leg 4 = .ok (.getfield 70, 3) := by decide +kernel
theorem dX10_leg_7 : decode cX10_leg 7 = .ok (.ifCond .le 9, 3) := by decide +kernel
theorem dX10_leg_10 : decode cX10_leg 10 = .ok (.aload_n 0, 1) := by decide +kernel
theorem dX10_leg_11 : decode cX10_leg 11 = .ok (.iconst 5, 1) := by decide +kernel
theorem dX10_leg_12 : decode cX10_leg 12 = .ok (.invokevirtual 73, 3) := by decide +kernel
theorem dX10_leg_15 : decode cX10_leg 15 = .ok (.ireturn, 1) := by decide +kernel
theorem dX10_leg_16 : decode cX10_leg 16 = .ok (.iload_n 1, 1) := by decide +kernel
theorem dX10_leg_17 : decode cX10_leg 17 = .ok (.bipush 10, 2) := by decide +kernel
theorem dX10_leg_19 : decode cX10_leg 19 = .ok (.sipush 2000, 3) := by decide +kernel
theorem dX10_leg_22 : decode cX10_leg 22 = .ok (.invokestatic 77, 3) := by decide +kernel
theorem dX10_leg_25 : decode cX10_leg 25 = .ok (.ifCond .eq 15, 3) := by decide +kernel
theorem dX10_leg_28 : decode cX10_leg 28 = .ok (.iload_n 2, 1) := by decide +kernel
theorem dX10_leg_29 : decode cX10_leg 29 = .ok (.bipush 50, 2) := by decide +kernel
theorem dX10_leg_31 : decode cX10_leg 31 = .ok (.sipush 200, 3) := by decide +kernel
theorem dX10_leg_34 : decode cX10_leg 34 = .ok (.invokestatic 77, 3) := by decide +kernel
theorem dX10_leg_37 : decode cX10_leg 37 = .ok (.ifCond .ne 9, 3) := by decide +kernel
theorem dX10_leg_40 : decode cX10_leg 40 = .ok (.aload_n 0, 1) := by decide +kernel
theorem dX10_leg_41 : decode cX10_leg 41 = .ok (.iconst 2, 1) := by decide +kernel
theorem dX10_leg_42 : decode cX10_leg 42 = .ok (.invokevirtual 73, 3) := by decide +kernel
theorem dX10_leg_45 : decode cX10_leg 45 = .ok (.ireturn, 1) := by decide +kernel
theorem dX10_leg_46 : decode cX10_leg 46 = .ok (.aload_n 0, 1) := by decide +kernel
theorem dX10_leg_47 : decode cX10_leg 47 = .ok (.getfield 32, 3) := by decide +kernel
theorem dX10_leg_50 : decode cX10_leg 50 = .ok (.getfield 81, 3) := by decide +kernel
theorem dX10_leg_53 : decode cX10_leg 53 = .ok (.getfield 85, 3) := by decide +kernel
theorem dX10_leg_56 : decode cX10_leg 56 = .ok (.bipush 12, 2) := by decide +kernel
theorem dX10_leg_58 : decode cX10_leg 58 = .ok (.if_icmp .lt 9, 3) := by decide +kernel
theorem dX10_leg_61 : decode cX10_leg 61 = .ok (.aload_n 0, 1) := by decide +kernel
theorem dX10_leg_62 : decode cX10_leg 62 = .ok (.iconst 3, 1) := by decide +kernel
theorem dX10_leg_63 : decode cX10_leg 63 = .ok (.invokevirtual 73, 3) := by decide +kernel
theorem dX10_leg_66 : decode cX10_leg 66 = .ok (.ireturn, 1) := by decide +kernel
theorem dX10_leg_67 : decode cX10_leg 67 = .ok (.aload_n 0, 1) := by decide +kernel
theorem dX10_leg_68 : decode cX10_leg 68 = .ok (.getfield 32, 3) := by decide +kernel
theorem dX10_leg_71 : decode cX10_leg 71 = .ok (.getfield 81, 3) := by decide +kernel
theorem dX10_leg_74 : decode cX10_leg 74 = .ok (.iload_n 1, 1) := by decide +kernel
theorem dX10_leg_75 : decode cX10_leg 75 = .ok (.iload_n 2, 1) := by decide +kernel
theorem dX10_leg_76 : decode cX10_leg 76 = .ok (.invokevirtual 90, 3) := by decide +kernel
theorem dX10_leg_79 : decode cX10_leg 79 = .ok (.aload_n 0, 1) := by decide +kernel
theorem dX10_leg_80 : decode cX10_leg 80 = .ok (.aload_n 0, 1) := by decide +kernel
theorem dX10_leg_81 : decode cX10_leg 81 = .ok (.getfield 32, 3) := by decide +kernel
theorem dX10_leg_84 : decode cX10_leg 84 = .ok (.getfield 81, 3) := by decide +kernel
theorem dX10_leg_87 : decode cX10_leg 87 = .ok (.getfield 85, 3) := by decide +kernel
theorem dX10_leg_90 : decode cX10_leg 90 = .ok (.invokevirtual 94, 3) := by decide +kernel
theorem dX10_leg_93 : decode cX10_leg 93 = .ok (.ireturn, 1) := by decide +kernel
theorem dX10_cold_0 : decode cX10_cold 0 = .ok (.iload_n 1, 1) := by decide +kernel
theorem dX10_cold_1 : decode cX10_cold 1 = .ok (.ifCond .lt 26, 3) := by decide +kernel
theorem dX10_cold_4 : decode cX10_cold 4 = .ok (.iload_n 2, 1) := by decide +kernel
theorem dX10_cold_5 : decode cX10_cold 5 = .ok (.sipush 334, 3) := by decide +kernel
theorem dX10_cold_8 : decode cX10_cold 8 = .ok (.if_icmp .ge 19, 3) := by decide +kernel
theorem dX10_cold_11 : decode cX10_cold 11 = .ok (.iload_n 1, 1) := by decide +kernel
theorem dX10_cold_12 : decode cX10_cold 12 = .ok (.iload_n 2, 1) := by decide +kernel
theorem dX10_cold_13 : decode cX10_cold 13 = .ok (.if_icmp .gt 14, 3) := by decide +kernel
theorem dX10_cold_16 : decode cX10_cold 16 = .ok (.iload_n 3, 1) := by decide +kernel
theorem dX10_cold_17 : decode cX10_cold 17 = .ok (.bipush (-50), 2) := by decide +kernel
theorem dX10_cold_19 : decode cX10_cold 19 = .ok (.bipush 20, 2) := by decide +kernel
theorem dX10_cold_21 : decode cX10_cold 21 = .ok (.invokestatic 77, 3) := by decide +kernel
theorem dX10_cold_24 : decode cX10_cold 24 = .ok (.ifCond .ne 9, 3) := by decide +kernel
theorem dX10_cold_27 : decode cX10_cold 27 = .ok (.aload_n 0, 1) := by decide +kernel
theorem dX10_cold_28 : decode cX10_cold 28 = .ok (.iconst 2, 1) := by decide +kernel
theorem dX10_cold_29 : decode cX10_cold 29 = .ok (.invokevirtual 97, 3) := by decide +kernel
theorem dX10_cold_32 : decode cX10_cold 32 = .ok (.ireturn, 1) := by decide +kernel
theorem dX10_cold_33 : decode cX10_cold 33 = .ok (.aload_n 0, 1) := by decide +kernel
theorem dX10_cold_34 : decode cX10_cold 34 = .ok (.getfield 32, 3) := by decide +kernel
theorem dX10_cold_37 : decode cX10_cold 37 = .ok (.getfield 70, 3) := by decide +kernel
theorem dX10_cold_40 : decode cX10_cold 40 = .ok (.bipush 6, 2) := by decide +kernel
theorem dX10_cold_42 : decode cX10_cold 42 = .ok (.iadd, 1) := by decide +kernel
theorem dX10_cold_43 : decode cX10_cold 43 = .ok (.iconst 1, 1) := by decide +kernel
theorem dX10_cold_44 : decode cX10_cold 44 = .ok (.isub, 1) := by decide +kernel
theorem dX10_cold_45 : decode cX10_cold 45 = .ok (.bipush 6, 2) := by decide +kernel
theorem dX10_cold_47 : decode cX10_cold 47 = .ok (.idiv, 1) := by decide +kernel
theorem dX10_cold_48 : decode cX10_cold 48 = .ok (.istore 4, 2) := by decide +kernel
theorem dX10_cold_50 : decode cX10_cold 50 = .ok (.iload_n 1, 1) := by decide +kernel
theorem dX10_cold_51 : decode cX10_cold 51 = .ok (.iload 4, 2) := by decide +kernel
theorem dX10_cold_53 : decode cX10_cold 53 = .ok (.invokestatic 101, 3) := by decide +kernel
theorem dX10_cold_56 : decode cX10_cold 56 = .ok (.istore 5, 2) := by decide +kernel
theorem dX10_cold_58 : decode cX10_cold 58 = .ok (.iload 5, 2) := by decide +kernel
theorem dX10_cold_60 : decode cX10_cold 60 = .ok (.iload_n 2, 1) := by decide +kernel
theorem dX10_cold_61 : decode cX10_cold 61 = .ok (.if_icmp .gt 23, 3) := by decide +kernel
theorem dX10_cold_64 : decode cX10_cold 64 = .ok (.aload_n 0, 1) := by decide +kernel
theorem dX10_cold_65 : decode cX10_cold 65 = .ok (.getfield 32, 3) := by decide +kernel
theorem dX10_cold_68 : decode cX10_cold 68 = .ok (.getfield 81, 3) := by decide +kernel
theorem dX10_cold_71 : decode cX10_cold 71 = .ok (.getfield 107, 3) := by decide +kernel
theorem dX10_cold_74 : decode cX10_cold 74 = .ok (.iload 5, 2) := by decide +kernel
theorem dX10_cold_76 : decode cX10_cold 76 = .ok (.iload_n 3, 1) := by decide +kernel
theorem dX10_cold_77 : decode cX10_cold 77 = .ok (.iastore, 1) := by decide +kernel
theorem dX10_cold_78 : decode cX10_cold 78 = .ok (.iinc 5 1, 3) := by decide +kernel
theorem dX10_cold_81 : decode cX10_cold 81 = .ok (.goto (-23), 3) := by decide +kernel
theorem dX10_cold_84 : decode cX10_cold 84 = .ok (.aload_n 0, 1) := by decide +kernel
theorem dX10_cold_85 : decode cX10_cold 85 = .ok (.invokevirtual 111, 3) := by decide +kernel
theorem dX10_cold_88 : decode cX10_cold 88 = .ok (.ireturn, 1) := by decide +kernel
theorem dX10_feed_0 : decode cX10_feed 0 = .ok (.aload_n 0, 1) := by decide +kernel
theorem dX10_feed_1 : decode cX10_feed 1 = .ok (.getfield 10, 3) := by decide +kernel
theorem dX10_feed_4 : decode cX10_feed 4 = .ok (.getfield 115, 3) := by decide +kernel
theorem dX10_feed_7 : decode cX10_feed 7 = .ok (.bipush 20, 2) := by decide +kernel
theorem dX10_feed_9 : decode cX10_feed 9 = .ok (.iadd, 1) := by decide +kernel
theorem dX10_feed_10 : decode cX10_feed 10 = .ok (.sipush 400, 3) := by decide +kernel
theorem dX10_feed_13 : decode cX10_feed 13 = .ok (.if_icmp .le 5, 3) := by decide +kernel
theorem dX10_feed_16 : decode cX10_feed 16 = .ok (.iconst (-1), 1) := by decide +kernel
theorem dX10_feed_17 : decode cX10_feed 17 = .ok (.ireturn, 1) := by decide +kernel
theorem dX10_feed_18 : decode cX10_feed 18 = .ok (.aload_n 0, 1) := by decide +kernel
theorem dX10_feed_19 : decode cX10_feed 19 = .ok (.getfield 10, 3) := by decide +kernel
theorem dX10_feed_22 : decode cX10_feed 22 = .ok (.iload_n 1, 1) := by decide +kernel
theorem dX10_feed_23 : decode cX10_feed 23 = .ok (.invokevirtual 118, 3) := by decide +kernel
theorem dX10_feed_26 : decode cX10_feed 26 = .ok (.aload_n 0, 1) := by decide +kernel
theorem dX10_feed_27 : decode cX10_feed 27 = .ok (.getfield 10, 3) := by decide +kernel
theorem dX10_feed_30 : decode cX10_feed 30 = .ok (.iload_n 2, 1) := by decide +kernel
theorem dX10_feed_31 : decode cX10_feed 31 = .ok (.invokevirtual 118, 3) := by decide +kernel
theorem dX10_feed_34 : decode cX10_feed 34 = .ok (.aload_n 0, 1) := by decide +kernel
theorem dX10_feed_35 : decode cX10_feed 35 = .ok (.getfield 10, 3) := by decide +kernel
theorem dX10_feed_38 : decode cX10_feed 38 = .ok (.iload_n 3, 1) := by decide +kernel
theorem dX10_feed_39 : decode cX10_feed 39 = .ok (.invokevirtual 118, 3) := by decide +kernel
theorem dX10_feed_42 : decode cX10_feed 42 = .ok (.aload_n 0, 1) := by decide +kernel
theorem dX10_feed_43 : decode cX10_feed 43 = .ok (.getfield 10, 3) := by decide +kernel
theorem dX10_feed_46 : decode cX10_feed 46 = .ok (.iload 4, 2) := by decide +kernel
theorem dX10_feed_48 : decode cX10_feed 48 = .ok (.invokevirtual 118, 3) := by decide +kernel
theorem dX10_feed_51 : decode cX10_feed 51 = .ok (.aload_n 0, 1) := by decide +kernel
theorem dX10_feed_52 : decode cX10_feed 52 = .ok (.getfield 10, 3) := by decide +kernel
theorem dX10_feed_55 : decode cX10_feed 55 = .ok (.iload 5, 2) := by decide +kernel
theorem dX10_feed_57 : decode cX10_feed 57 = .ok (.invokevirtual 118, 3) := by decide +kernel
theorem dX10_feed_60 : decode cX10_feed 60 = .ok (.aload_n 0, 1) := by decide +kernel
theorem dX10_feed_61 : decode cX10_feed 61 = .ok (.getfield 10, 3) := by decide +kernel
theorem dX10_feed_64 : decode cX10_feed 64 = .ok (.getfield 115, 3) := by decide +kernel
theorem dX10_feed_67 : decode cX10_feed 67 = .ok (.ireturn, 1) := by decide +kernel
theorem dX10_plan_0 : decode cX10_plan 0 = .ok (.iload_n 1, 1) := by decide +kernel
theorem dX10_plan_1 : decode cX10_plan 1 = .ok (.ifCond .lt 14, 3) := by decide +kernel
theorem dX10_plan_4 : decode cX10_plan 4 = .ok (.iload_n 1, 1) := by decide +kernel
theorem dX10_plan_5 : decode cX10_plan 5 = .ok (.aload_n 0, 1) := by decide +kernel
theorem dX10_plan_6 : decode cX10_plan 6 = .ok (.getfield 10, 3) := by decide +kernel
theorem dX10_plan_9 : decode cX10_plan 9 = .ok (.getfield 115, 3) := by decide +kernel
theorem dX10_plan_12 : decode cX10_plan 12 = .ok (.if_icmp .le 9, 3) := by decide +kernel
theorem dX10_plan_15 : decode cX10_plan 15 = .ok (.aload_n 0, 1) := by decide +kernel
theorem dX10_plan_16 : decode cX10_plan 16 = .ok (.iconst 2, 1) := by decide +kernel
theorem dX10_plan_17 : decode cX10_plan 17 = .ok (.invokevirtual 73, 3) := by decide +kernel
theorem dX10_plan_20 : decode cX10_plan 20 = .ok (.ireturn, 1) := by decide +kernel
theorem dX10_plan_21 : decode cX10_plan 21 = .ok (.aload_n 0, 1) := by decide +kernel
theorem dX10_plan_22 : decode cX10_plan 22 = .ok (.getfield 10, 3) := by decide +kernel
theorem dX10_plan_25 : decode cX10_plan 25 = .ok (.iload_n 1, 1) := by decide +kernel
theorem dX10_plan_26 : decode cX10_plan 26 = .ok (.invokevirtual 122, 3) := by decide +kernel
theorem dX10_plan_29 : decode cX10_plan 29 = .ok (.aload_n 0, 1) := by decide +kernel
theorem dX10_plan_30 : decode cX10_plan 30 = .ok (.getfield 18, 3) := by decide +kernel
theorem dX10_plan_33 : decode cX10_plan 33 = .ok (.aload_n 0, 1) := by decide +kernel
theorem dX10_plan_34 : decode cX10_plan 34 = .ok (.getfield 52, 3) := by decide +kernel
theorem dX10_plan_37 : decode cX10_plan 37 = .ok (.aaload, 1) := by decide +kernel
theorem dX10_plan_38 : decode cX10_plan 38 = .ok (.aload_n 0, 1) := by decide +kernel
theorem dX10_plan_39 : decode cX10_plan 39 = .ok (.getfield 10, 3) := by decide +kernel
theorem dX10_plan_42 : decode cX10_plan 42 = .ok (.invokevirtual 125, 3) := by decide +kernel
theorem dX10_plan_45 : decode cX10_plan 45 = .ok (.ifCond .ne 9, 3) := by decide +kernel
theorem dX10_plan_48 : decode cX10_plan 48 = .ok (.aload_n 0, 1) := by decide +kernel
theorem dX10_plan_49 : decode cX10_plan 49 = .ok (.iconst 4, 1) := by decide +kernel
theorem dX10_plan_50 : decode cX10_plan 50 = .ok (.invokevirtual 73, 3) := by decide +kernel
theorem dX10_plan_53 : decode cX10_plan 53 = .ok (.ireturn, 1) := by decide +kernel
theorem dX10_plan_54 : decode cX10_plan 54 = .ok (.aload_n 0, 1) := by decide +kernel
theorem dX10_plan_55 : decode cX10_plan 55 = .ok (.getfield 52, 3) := by decide +kernel
theorem dX10_plan_58 : decode cX10_plan 58 = .ok (.bipush 8, 2) := by decide +kernel
theorem dX10_plan_60 : decode cX10_plan 60 = .ok (.if_icmp .lt 9, 3) := by decide +kernel
theorem dX10_plan_63 : decode cX10_plan 63 = .ok (.aload_n 0, 1) := by decide +kernel
theorem dX10_plan_64 : decode cX10_plan 64 = .ok (.iconst 3, 1) := by decide +kernel
theorem dX10_plan_65 : decode cX10_plan 65 = .ok (.invokevirtual 73, 3) := by decide +kernel
theorem dX10_plan_68 : decode cX10_plan 68 = .ok (.ireturn, 1) := by decide +kernel
theorem dX10_plan_69 : decode cX10_plan 69 = .ok (.aload_n 0, 1) := by decide +kernel
theorem dX10_plan_70 : decode cX10_plan 70 = .ok (.dup, 1) := by decide +kernel
theorem dX10_plan_71 : decode cX10_plan 71 = .ok (.getfield 52, 3) := by decide +kernel
theorem dX10_plan_74 : decode cX10_plan 74 = .ok (.iconst 1, 1) := by decide +kernel
theorem dX10_plan_75 : decode cX10_plan 75 = .ok (.iadd, 1) := by decide +kernel
theorem dX10_plan_76 : decode cX10_plan 76 = .ok (.putfield 52, 3) := by decide +kernel
theorem dX10_plan_79 : decode cX10_plan 79 = .ok (.aload_n 0, 1) := by decide +kernel
theorem dX10_plan_80 : decode cX10_plan 80 = .ok (.aload_n 0, 1) := by decide +kernel
theorem dX10_plan_81 : decode cX10_plan 81 = .ok (.getfield 52, 3) := by decide +kernel
theorem dX10_plan_84 : decode cX10_plan 84 = .ok (.iconst 1, 1) := by decide +kernel
theorem dX10_plan_85 : decode cX10_plan 85 = .ok (.isub, 1) := by decide +kernel
theorem dX10_plan_86 : decode cX10_plan 86 = .ok (.invokevirtual 94, 3) := by decide +kernel
theorem dX10_plan_89 : decode cX10_plan 89 = .ok (.ireturn, 1) := by decide +kernel
theorem dX10_laws_0 : decode cX10_laws 0 = .ok (.iload_n 1, 1) := by decide +kernel
theorem dX10_laws_1 : decode cX10_laws 1 = .ok (.ifCond .lt 14, 3) := by decide +kernel
theorem dX10_laws_4 : decode cX10_laws 4 = .ok (.iload_n 1, 1) := by decide +kernel
theorem dX10_laws_5 : decode cX10_laws 5 = .ok (.aload_n 0, 1) := by decide +kernel
theorem dX10_laws_6 : decode cX10_laws 6 = .ok (.getfield 10, 3) := by decide +kernel
theorem dX10_laws_9 : decode cX10_laws 9 = .ok (.getfield 115, 3) := by decide +kernel
theorem dX10_laws_12 : decode cX10_laws 12 = .ok (.if_icmp .le 9, 3) := by decide +kernel
theorem dX10_laws_15 : decode cX10_laws 15 = .ok (.aload_n 0, 1) := by decide +kernel
theorem dX10_laws_16 : decode cX10_laws 16 = .ok (.iconst 2, 1) := by decide +kernel
theorem dX10_laws_17 : decode cX10_laws 17 = .ok (.invokevirtual 73, 3) := by decide +kernel
theorem dX10_laws_20 : decode cX10_laws 20 = .ok (.ireturn, 1) := by decide +kernel
theorem dX10_laws_21 : decode cX10_laws 21 = .ok (.aload_n 0, 1) := by decide +kernel
theorem dX10_laws_22 : decode cX10_laws 22 = .ok (.getfield 10, 3) := by decide +kernel
theorem dX10_laws_25 : decode cX10_laws 25 = .ok (.iload_n 1, 1) := by decide +kernel
theorem dX10_laws_26 : decode cX10_laws 26 = .ok (.invokevirtual 122, 3) := by decide +kernel
theorem dX10_laws_29 : decode cX10_laws 29 = .ok (.aload_n 0, 1) := by decide +kernel
theorem dX10_laws_30 : decode cX10_laws 30 = .ok (.getfield 25, 3) := by decide +kernel
theorem dX10_laws_33 : decode cX10_laws 33 = .ok (.aload_n 0, 1) := by decide +kernel
theorem dX10_laws_34 : decode cX10_laws 34 = .ok (.getfield 10, 3) := by decide +kernel
theorem dX10_laws_37 : decode cX10_laws 37 = .ok (.invokevirtual 129, 3) := by decide +kernel
theorem dX10_laws_40 : decode cX10_laws 40 = .ok (.ifCond .ne 9, 3) := by decide +kernel
theorem dX10_laws_43 : decode cX10_laws 43 = .ok (.aload_n 0, 1) := by decide +kernel
theorem dX10_laws_44 : decode cX10_laws 44 = .ok (.iconst 4, 1) := by decide +kernel
theorem dX10_laws_45 : decode cX10_laws 45 = .ok (.invokevirtual 73, 3) := by decide +kernel
theorem dX10_laws_48 : decode cX10_laws 48 = .ok (.ireturn, 1) := by decide +kernel
theorem dX10_laws_49 : decode cX10_laws 49 = .ok (.aload_n 0, 1) := by decide +kernel
theorem dX10_laws_50 : decode cX10_laws 50 = .ok (.aload_n 0, 1) := by decide +kernel
theorem dX10_laws_51 : decode cX10_laws 51 = .ok (.getfield 25, 3) := by decide +kernel
theorem dX10_laws_54 : decode cX10_laws 54 = .ok (.getfield 130, 3) := by decide +kernel
theorem dX10_laws_57 : decode cX10_laws 57 = .ok (.invokevirtual 94, 3) := by decide +kernel
theorem dX10_laws_60 : decode cX10_laws 60 = .ok (.ireturn, 1) := by decide +kernel
theorem dX10_fault_0 : decode cX10_fault 0 = .ok (.aload_n 0, 1) := by decide +kernel
theorem dX10_fault_1 : decode cX10_fault 1 = .ok (.getfield 10, 3) := by decide +kernel
theorem dX10_fault_4 : decode cX10_fault 4 = .ok (.getfield 133, 3) := by decide +kernel
theorem dX10_fault_7 : decode cX10_fault 7 = .ok (.ireturn, 1) := by decide +kernel
theorem dX10_where_0 : decode cX10_where 0 = .ok (.aload_n 0, 1) := by decide +kernel
theorem dX10_where_1 : decode cX10_where 1 = .ok (.getfield 56, 3) := by decide +kernel
theorem dX10_where_4 : decode cX10_where 4 = .ok (.iconst 4, 1) := by decide +kernel
theorem dX10_where_5 : decode cX10_where 5 = .ok (.if_icmp .ne 13, 3) := by decide +kernel
theorem dX10_where_8 : decode cX10_where 8 = .ok (.aload_n 0, 1) := by decide +kernel
theorem dX10_where_9 : decode cX10_where 9 = .ok (.getfield 10, 3) := by decide +kernel
theorem dX10_where_12 : decode cX10_where 12 = .ok (.getfield 136, 3) := by decide +kernel
theorem dX10_where_15 : decode cX10_where 15 = .ok (.goto 4, 3) := by decide +kernel
theorem dX10_where_18 : decode cX10_where 18 = .ok (.iconst (-1), 1) := by decide +kernel
theorem dX10_where_19 : decode cX10_where 19 = .ok (.ireturn, 1) := by decide +kernel
theorem dX10_team_0 : decode cX10_team 0 = .ok (.aload_n 0, 1) := by decide +kernel
theorem dX10_team_1 : decode cX10_team 1 = .ok (.getfield 32, 3) := by decide +kernel
theorem dX10_team_4 : decode cX10_team 4 = .ok (.getfield 70, 3) := by decide +kernel
theorem dX10_team_7 : decode cX10_team 7 = .ok (.ifCond .gt 16, 3) := by decide +kernel
theorem dX10_team_10 : decode cX10_team 10 = .ok (.aload_n 0, 1) := by decide +kernel
theorem dX10_team_11 : decode cX10_team 11 = .ok (.getfield 32, 3) := by decide +kernel
theorem dX10_team_14 : decode cX10_team 14 = .ok (.getfield 81, 3) := by decide +kernel
theorem dX10_team_17 : decode cX10_team 17 = .ok (.getfield 85, 3) := by decide +kernel
theorem dX10_team_20 : decode cX10_team 20 = .ok (.ifCond .ne 9, 3) := by decide +kernel
theorem dX10_team_23 : decode cX10_team 23 = .ok (.aload_n 0, 1) := by decide +kernel
theorem dX10_team_24 : decode cX10_team 24 = .ok (.iconst 5, 1) := by decide +kernel
theorem dX10_team_25 : decode cX10_team 25 = .ok (.invokevirtual 73, 3) := by decide +kernel
theorem dX10_team_28 : decode cX10_team 28 = .ok (.ireturn, 1) := by decide +kernel
theorem dX10_team_29 : decode cX10_team 29 = .ok (.aload_n 0, 1) := by decide +kernel
theorem dX10_team_30 : decode cX10_team 30 = .ok (.iload 5, 2) := by decide +kernel
theorem dX10_team_32 : decode cX10_team 32 = .ok (.invokevirtual 139, 3) := by decide +kernel
theorem dX10_team_35 : decode cX10_team 35 = .ok (.ifCond .ne 9, 3) := by decide +kernel
theorem dX10_team_38 : decode cX10_team 38 = .ok (.aload_n 0, 1) := by decide +kernel
theorem dX10_team_39 : decode cX10_team 39 = .ok (.iconst 1, 1) := by decide +kernel
theorem dX10_team_40 : decode cX10_team 40 = .ok (.invokevirtual 73, 3) := by decide +kernel
theorem dX10_team_43 : decode cX10_team 43 = .ok (.ireturn, 1) := by decide +kernel
theorem dX10_team_44 : decode cX10_team 44 = .ok (.iload_n 1, 1) := by decide +kernel
theorem dX10_team_45 : decode cX10_team 45 = .ok (.iconst 4, 1) := by decide +kernel
theorem dX10_team_46 : decode cX10_team 46 = .ok (.bipush 16, 2) := by decide +kernel
theorem dX10_team_48 : decode cX10_team 48 = .ok (.invokestatic 77, 3) := by decide +kernel
theorem dX10_team_51 : decode cX10_team 51 = .ok (.ifCond .eq 36, 3) := by decide +kernel
theorem dX10_team_54 : decode cX10_team 54 = .ok (.iload_n 2, 1) := by decide +kernel
theorem dX10_team_55 : decode cX10_team 55 = .ok (.bipush 20, 2) := by decide +kernel
theorem dX10_team_57 : decode cX10_team 57 = .ok (.sipush 300, 3) := by decide +kernel
theorem dX10_team_60 : decode cX10_team 60 = .ok (.invokestatic 77, 3) := by decide +kernel
theorem dX10_team_63 : decode cX10_team 63 = .ok (.ifCond .eq 24, 3) := by decide +kernel
theorem dX10_team_66 : decode cX10_team 66 = .ok (.iload_n 3, 1) := by decide +kernel
theorem dX10_team_67 : decode cX10_team 67 = .ok (.iconst 0, 1) := by decide +kernel
theorem dX10_team_68 : decode cX10_team 68 = .ok (.bipush 60, 2) := by decide +kernel
theorem dX10_team_70 : decode cX10_team 70 = .ok (.invokestatic 77, 3) := by decide +kernel
theorem dX10_team_73 : decode cX10_team 73 = .ok (.ifCond .eq 14, 3) := by decide +kernel
theorem dX10_team_76 : decode cX10_team 76 = .ok (.iload 4, 2) := by decide +kernel
theorem dX10_team_78 : decode cX10_team 78 = .ok (.iconst 0, 1) := by decide +kernel
theorem dX10_team_79 : decode cX10_team 79 = .ok (.bipush 100, 2) := by decide +kernel
theorem dX10_team_81 : decode cX10_team 81 = .ok (.invokestatic 77, 3) := by decide +kernel
theorem dX10_team_84 : decode cX10_team 84 = .ok (.ifCond .ne 9, 3) := by decide +kernel
theorem dX10_team_87 : decode cX10_team 87 = .ok (.aload_n 0, 1) := by decide +kernel
theorem dX10_team_88 : decode cX10_team 88 = .ok (.iconst 2, 1) := by decide +kernel
theorem dX10_team_89 : decode cX10_team 89 = .ok (.invokevirtual 73, 3) := by decide +kernel
theorem dX10_team_92 : decode cX10_team 92 = .ok (.ireturn, 1) := by decide +kernel
theorem dX10_team_93 : decode cX10_team 93 = .ok (.aload_n 0, 1) := by decide +kernel
theorem dX10_team_94 : decode cX10_team 94 = .ok (.getfield 32, 3) := by decide +kernel
theorem dX10_team_97 : decode cX10_team 97 = .ok (.getfield 142, 3) := by decide +kernel
theorem dX10_team_100 : decode cX10_team 100 = .ok (.bipush 6, 2) := by decide +kernel
theorem dX10_team_102 : decode cX10_team 102 = .ok (.if_icmp .lt 9, 3) := by decide +kernel
theorem dX10_team_105 : decode cX10_team 105 = .ok (.aload_n 0, 1) := by decide +kernel
theorem dX10_team_106 : decode cX10_team 106 = .ok (.iconst 3, 1) := by decide +kernel
theorem dX10_team_107 : decode cX10_team 107 = .ok (.invokevirtual 73, 3) := by decide +kernel
theorem dX10_team_110 : decode cX10_team 110 = .ok (.ireturn, 1) := by decide +kernel
theorem dX10_team_111 : decode cX10_team 111 = .ok (.aload_n 0, 1) := by decide +kernel
theorem dX10_team_112 : decode cX10_team 112 = .ok (.getfield 32, 3) := by decide +kernel
theorem dX10_team_115 : decode cX10_team 115 = .ok (.getfield 142, 3) := by decide +kernel
theorem dX10_team_118 : decode cX10_team 118 = .ok (.istore 6, 2) := by decide +kernel
theorem dX10_team_120 : decode cX10_team 120 = .ok (.aload_n 0, 1) := by decide +kernel
theorem dX10_team_121 : decode cX10_team 121 = .ok (.getfield 32, 3) := by decide +kernel
theorem dX10_team_124 : decode cX10_team 124 = .ok (.getfield 145, 3) := by decide +kernel
theorem dX10_team_127 : decode cX10_team 127 = .ok (.iload 6, 2) := by decide +kernel
theorem dX10_team_129 : decode cX10_team 129 = .ok (.aaload, 1) := by decide +kernel
theorem dX10_team_130 : decode cX10_team 130 = .ok (.iload_n 1, 1) := by decide +kernel
theorem dX10_team_131 : decode cX10_team 131 = .ok (.iload_n 2, 1) := by decide +kernel
theorem dX10_team_132 : decode cX10_team 132 = .ok (.iload_n 3, 1) := by decide +kernel
theorem dX10_team_133 : decode cX10_team 133 = .ok (.iload 4, 2) := by decide +kernel
theorem dX10_team_135 : decode cX10_team 135 = .ok (.iload 5, 2) := by decide +kernel
theorem dX10_team_137 : decode cX10_team 137 = .ok (.invokevirtual 149, 3) := by decide +kernel
theorem dX10_team_140 : decode cX10_team 140 = .ok (.aload_n 0, 1) := by decide +kernel
theorem dX10_team_141 : decode cX10_team 141 = .ok (.getfield 32, 3) := by decide +kernel
theorem dX10_team_144 : decode cX10_team 144 = .ok (.dup, 1) := by decide +kernel
theorem dX10_team_145 : decode cX10_team 145 = .ok (.getfield 142, 3) := by decide +kernel
theorem dX10_team_148 : decode cX10_team 148 = .ok (.iconst 1, 1) := by decide +kernel
theorem dX10_team_149 : decode cX10_team 149 = .ok (.iadd, 1) := by decide +kernel
theorem dX10_team_150 : decode cX10_team 150 = .ok (.putfield 142, 3) := by decide +kernel
theorem dX10_team_153 : decode cX10_team 153 = .ok (.aload_n 0, 1) := by decide +kernel
theorem dX10_team_154 : decode cX10_team 154 = .ok (.iload 6, 2) := by decide +kernel
theorem dX10_team_156 : decode cX10_team 156 = .ok (.invokevirtual 94, 3) := by decide +kernel
theorem dX10_team_159 : decode cX10_team 159 = .ok (.ireturn, 1) := by decide +kernel
theorem dX10_follow_0 : decode cX10_follow 0 = .ok (.aload_n 0, 1) := by decide +kernel
theorem dX10_follow_1 : decode cX10_follow 1 = .ok (.iload_n 1, 1) := by decide +kernel
theorem dX10_follow_2 : decode cX10_follow 2 = .ok (.invokevirtual 153, 3) := by decide +kernel
theorem dX10_follow_5 : decode cX10_follow 5 = .ok (.ifCond .eq 11, 3) := by decide +kernel
theorem dX10_follow_8 : decode cX10_follow 8 = .ok (.aload_n 0, 1) := by decide +kernel
theorem dX10_follow_9 : decode cX10_follow 9 = .ok (.iload_n 2, 1) := by decide +kernel
theorem dX10_follow_10 : decode cX10_follow 10 = .ok (.invokevirtual 139, 3) := by decide +kernel
theorem dX10_follow_13 : decode cX10_follow 13 = .ok (.ifCond .ne 9, 3) := by decide +kernel
theorem dX10_follow_16 : decode cX10_follow 16 = .ok (.aload_n 0, 1) := by decide +kernel
theorem dX10_follow_17 : decode cX10_follow 17 = .ok (.iconst 1, 1) := by decide +kernel
theorem dX10_follow_18 : decode cX10_follow 18 = .ok (.invokevirtual 97, 3) := by decide +kernel
theorem dX10_follow_21 : decode cX10_follow 21 = .ok (.ireturn, 1) := by decide +kernel
theorem dX10_follow_22 : decode cX10_follow 22 = .ok (.aload_n 0, 1) := by decide +kernel
theorem dX10_follow_23 : decode cX10_follow 23 = .ok (.getfield 32, 3) := by decide +kernel
theorem dX10_follow_26 : decode cX10_follow 26 = .ok (.getfield 145, 3) := by decide +kernel
theorem dX10_follow_29 : decode cX10_follow 29 = .ok (.iload_n 1, 1) := by decide +kernel
theorem dX10_follow_30 : decode cX10_follow 30 = .ok (.aaload, 1) := by decide +kernel
theorem dX10_follow_31 : decode cX10_follow 31 = .ok (.astore_n 3, 1) := by decide +kernel
theorem dX10_follow_32 : decode cX10_follow 32 = .ok (.aload_n 3, 1) := by decide +kernel
theorem dX10_follow_33 : decode cX10_follow 33 = .ok (.invokevirtual 156, 3) := by decide +kernel
theorem dX10_follow_36 : decode cX10_follow 36 = .ok (.ifCond .eq 9, 3) := by decide +kernel
theorem dX10_follow_39 : decode cX10_follow 39 = .ok (.aload_n 0, 1) := by decide +kernel
theorem dX10_follow_40 : decode cX10_follow 40 = .ok (.iconst 5, 1) := by decide +kernel
theorem dX10_follow_41 : decode cX10_follow 41 = .ok (.invokevirtual 97, 3) := by decide +kernel
theorem dX10_follow_44 : decode cX10_follow 44 = .ok (.ireturn, 1) := by decide +kernel
theorem dX10_follow_45 : decode cX10_follow 45 = .ok (.aload_n 3, 1) := by decide +kernel
theorem dX10_follow_46 : decode cX10_follow 46 = .ok (.iload_n 2, 1) := by decide +kernel
theorem dX10_follow_47 : decode cX10_follow 47 = .ok (.putfield 159, 3) := by decide +kernel
theorem dX10_follow_50 : decode cX10_follow 50 = .ok (.aload_n 0, 1) := by decide +kernel
theorem dX10_follow_51 : decode cX10_follow 51 = .ok (.invokevirtual 111, 3) := by decide +kernel
theorem dX10_follow_54 : decode cX10_follow 54 = .ok (.ireturn, 1) := by decide +kernel
theorem dX10_gap_0 : decode cX10_gap 0 = .ok (.aload_n 0, 1) := by decide +kernel
theorem dX10_gap_1 : decode cX10_gap 1 = .ok (.iload_n 1, 1) := by decide +kernel
theorem dX10_gap_2 : decode cX10_gap 2 = .ok (.invokevirtual 153, 3) := by decide +kernel
theorem dX10_gap_5 : decode cX10_gap 5 = .ok (.ifCond .ne 9, 3) := by decide +kernel
theorem dX10_gap_8 : decode cX10_gap 8 = .ok (.aload_n 0, 1) := by decide +kernel
theorem dX10_gap_9 : decode cX10_gap 9 = .ok (.iconst 1, 1) := by decide +kernel
theorem dX10_gap_10 : decode cX10_gap 10 = .ok (.invokevirtual 73, 3) := by decide +kernel
theorem dX10_gap_13 : decode cX10_gap 13 = .ok (.ireturn, 1) := by decide +kernel
theorem dX10_gap_14 : decode cX10_gap 14 = .ok (.iload_n 2, 1) := by decide +kernel
theorem dX10_gap_15 : decode cX10_gap 15 = .ok (.ifCond .lt 15, 3) := by decide +kernel
theorem dX10_gap_18 : decode cX10_gap 18 = .ok (.iload_n 3, 1) := by decide +kernel
theorem dX10_gap_19 : decode cX10_gap 19 = .ok (.sipush 2000, 3) := by decide +kernel
theorem dX10_gap_22 : decode cX10_gap 22 = .ok (.if_icmp .gt 8, 3) := by decide +kernel
theorem dX10_gap_25 : decode cX10_gap 25 = .ok (.iload_n 2, 1) := by decide +kernel
theorem dX10_gap_26 : decode cX10_gap 26 = .ok (.iload_n 3, 1) := by decide +kernel
theorem dX10_gap_27 : decode cX10_gap 27 = .ok (.if_icmp .le 9, 3) := by decide +kernel
theorem dX10_gap_30 : decode cX10_gap 30 = .ok (.aload_n 0, 1) := by decide +kernel
theorem dX10_gap_31 : decode cX10_gap 31 = .ok (.iconst 2, 1) := by decide +kernel
theorem dX10_gap_32 : decode cX10_gap 32 = .ok (.invokevirtual 73, 3) := by decide +kernel
theorem dX10_gap_35 : decode cX10_gap 35 = .ok (.ireturn, 1) := by decide +kernel
theorem dX10_gap_36 : decode cX10_gap 36 = .ok (.aload_n 0, 1) := by decide +kernel
theorem dX10_gap_37 : decode cX10_gap 37 = .ok (.getfield 32, 3) := by decide +kernel
theorem dX10_gap_40 : decode cX10_gap 40 = .ok (.getfield 145, 3) := by decide +kernel
theorem dX10_gap_43 : decode cX10_gap 43 = .ok (.iload_n 1, 1) := by decide +kernel
theorem dX10_gap_44 : decode cX10_gap 44 = .ok (.aaload, 1) := by decide +kernel
theorem dX10_gap_45 : decode cX10_gap 45 = .ok (.getfield 162, 3) := by decide +kernel
theorem dX10_gap_48 : decode cX10_gap 48 = .ok (.astore 4, 2) := by decide +kernel
theorem dX10_gap_50 : decode cX10_gap 50 = .ok (.aload 4, 2) := by decide +kernel
theorem dX10_gap_52 : decode cX10_gap 52 = .ok (.getfield 166, 3) := by decide +kernel
theorem dX10_gap_55 : decode cX10_gap 55 = .ok (.iconst 4, 1) := by decide +kernel
theorem dX10_gap_56 : decode cX10_gap 56 = .ok (.if_icmp .lt 9, 3) := by decide +kernel
theorem dX10_gap_59 : decode cX10_gap 59 = .ok (.aload_n 0, 1) := by decide +kernel
theorem dX10_gap_60 : decode cX10_gap 60 = .ok (.iconst 3, 1) := by decide +kernel
theorem dX10_gap_61 : decode cX10_gap 61 = .ok (.invokevirtual 73, 3) := by decide +kernel
theorem dX10_gap_64 : decode cX10_gap 64 = .ok (.ireturn, 1) := by decide +kernel
theorem dX10_gap_65 : decode cX10_gap 65 = .ok (.aload 4, 2) := by decide +kernel
theorem dX10_gap_67 : decode cX10_gap 67 = .ok (.iload_n 2, 1) := by decide +kernel
theorem dX10_gap_68 : decode cX10_gap 68 = .ok (.iload_n 3, 1) := by decide +kernel
theorem dX10_gap_69 : decode cX10_gap 69 = .ok (.invokevirtual 169, 3) := by decide +kernel
theorem dX10_gap_72 : decode cX10_gap 72 = .ok (.aload_n 0, 1) := by decide +kernel
theorem dX10_gap_73 : decode cX10_gap 73 = .ok (.aload 4, 2) := by decide +kernel
theorem dX10_gap_75 : decode cX10_gap 75 = .ok (.getfield 166, 3) := by decide +kernel
theorem dX10_gap_78 : decode cX10_gap 78 = .ok (.invokevirtual 94, 3) := by decide +kernel
theorem dX10_gap_81 : decode cX10_gap 81 = .ok (.ireturn, 1) := by decide +kernel
theorem dX10_each_0 : decode cX10_each 0 = .ok (.aload_n 0, 1) := by decide +kernel
theorem dX10_each_1 : decode cX10_each 1 = .ok (.getfield 32, 3) := by decide +kernel
theorem dX10_each_4 : decode cX10_each 4 = .ok (.getfield 70, 3) := by decide +kernel
theorem dX10_each_7 : decode cX10_each 7 = .ok (.ifCond .le 9, 3) := by decide +kernel
theorem dX10_each_10 : decode cX10_each 10 = .ok (.aload_n 0, 1) := by decide +kernel
theorem dX10_each_11 : decode cX10_each 11 = .ok (.iconst 5, 1) := by decide +kernel
theorem dX10_each_12 : decode cX10_each 12 = .ok (.invokevirtual 97, 3) := by decide +kernel
theorem dX10_each_15 : decode cX10_each 15 = .ok (.ireturn, 1) := by decide +kernel
theorem dX10_each_16 : decode cX10_each 16 = .ok (.iload_n 1, 1) := by decide +kernel
theorem dX10_each_17 : decode cX10_each 17 = .ok (.iconst 1, 1) := by decide +kernel
theorem dX10_each_18 : decode cX10_each 18 = .ok (.bipush 48, 2) := by decide +kernel
theorem dX10_each_20 : decode cX10_each 20 = .ok (.invokestatic 77, 3) := by decide +kernel
theorem dX10_each_23 : decode cX10_each 23 = .ok (.ifCond .ne 9, 3) := by decide +kernel
theorem dX10_each_26 : decode cX10_each 26 = .ok (.aload_n 0, 1) := by decide +kernel
theorem dX10_each_27 : decode cX10_each 27 = .ok (.iconst 2, 1) := by decide +kernel
theorem dX10_each_28 : decode cX10_each 28 = .ok (.invokevirtual 97, 3) := by decide +kernel
theorem dX10_each_31 : decode cX10_each 31 = .ok (.ireturn, 1) := by decide +kernel
theorem dX10_each_32 : decode cX10_each 32 = .ok (.aload_n 0, 1) := by decide +kernel
theorem dX10_each_33 : decode cX10_each 33 = .ok (.getfield 32, 3) := by decide +kernel
theorem dX10_each_36 : decode cX10_each 36 = .ok (.iload_n 1, 1) := by decide +kernel
theorem dX10_each_37 : decode cX10_each 37 = .ok (.putfield 170, 3) := by decide +kernel
theorem dX10_each_40 : decode cX10_each 40 = .ok (.aload_n 0, 1) := by decide +kernel
theorem dX10_each_41 : decode cX10_each 41 = .ok (.invokevirtual 111, 3) := by decide +kernel
theorem dX10_each_44 : decode cX10_each 44 = .ok (.ireturn, 1) := by decide +kernel
theorem dX10_run_0 : decode cX10_run 0 = .ok (.aload_n 0, 1) := by decide +kernel
theorem dX10_run_1 : decode cX10_run 1 = .ok (.getfield 32, 3) := by decide +kernel
theorem dX10_run_4 : decode cX10_run 4 = .ok (.invokevirtual 173, 3) := by decide +kernel
theorem dX10_run_7 : decode cX10_run 7 = .ok (.ifCond .ne 9, 3) := by decide +kernel
theorem dX10_run_10 : decode cX10_run 10 = .ok (.aload_n 0, 1) := by decide +kernel
theorem dX10_run_11 : decode cX10_run 11 = .ok (.iconst 5, 1) := by decide +kernel
theorem dX10_run_12 : decode cX10_run 12 = .ok (.invokevirtual 73, 3) := by decide +kernel
theorem dX10_run_15 : decode cX10_run 15 = .ok (.ireturn, 1) := by decide +kernel
theorem dX10_run_16 : decode cX10_run 16 = .ok (.iload_n 1, 1) := by decide +kernel
theorem dX10_run_17 : decode cX10_run 17 = .ok (.iconst 1, 1) := by decide +kernel
theorem dX10_run_18 : decode cX10_run 18 = .ok (.sipush 500, 3) := by decide +kernel
theorem dX10_run_21 : decode cX10_run 21 = .ok (.invokestatic 77, 3) := by decide +kernel
theorem dX10_run_24 : decode cX10_run 24 = .ok (.ifCond .ne 9, 3) := by decide +kernel
theorem dX10_run_27 : decode cX10_run 27 = .ok (.aload_n 0, 1) := by decide +kernel
theorem dX10_run_28 : decode cX10_run 28 = .ok (.iconst 2, 1) := by decide +kernel
theorem dX10_run_29 : decode cX10_run 29 = .ok (.invokevirtual 73, 3) := by decide +kernel
theorem dX10_run_32 : decode cX10_run 32 = .ok (.ireturn, 1) := by decide +kernel
theorem dX10_run_33 : decode cX10_run 33 = .ok (.iconst 0, 1) := by decide +kernel
theorem dX10_run_34 : decode cX10_run 34 = .ok (.istore_n 2, 1) := by decide +kernel
theorem dX10_run_35 : decode cX10_run 35 = .ok (.iload_n 2, 1) := by decide +kernel
theorem dX10_run_36 : decode cX10_run 36 = .ok (.iload_n 1, 1) := by decide +kernel
theorem dX10_run_37 : decode cX10_run 37 = .ok (.if_icmp .ge 23, 3) := by decide +kernel
theorem dX10_run_40 : decode cX10_run 40 = .ok (.aload_n 0, 1) := by decide +kernel
theorem dX10_run_41 : decode cX10_run 41 = .ok (.getfield 32, 3) := by decide +kernel
theorem dX10_run_44 : decode cX10_run 44 = .ok (.invokevirtual 173, 3) := by decide +kernel
theorem dX10_run_47 : decode cX10_run 47 = .ok (.ifCond .eq 13, 3) := by decide +kernel
theorem dX10_run_50 : decode cX10_run 50 = .ok (.aload_n 0, 1) := by decide +kernel
theorem dX10_run_51 : decode cX10_run 51 = .ok (.invokevirtual 176, 3) := by decide +kernel
theorem dX10_run_54 : decode cX10_run 54 = .ok (.iinc 2 1, 3) := by decide +kernel
theorem dX10_run_57 : decode cX10_run 57 = .ok (.goto (-22), 3) := by decide +kernel
theorem dX10_run_60 : decode cX10_run 60 = .ok (.aload_n 0, 1) := by decide +kernel
theorem dX10_run_61 : decode cX10_run 61 = .ok (.iload_n 2, 1) := by decide +kernel
theorem dX10_run_62 : decode cX10_run 62 = .ok (.invokevirtual 94, 3) := by decide +kernel
theorem dX10_run_65 : decode cX10_run 65 = .ok (.ireturn, 1) := by decide +kernel
theorem dX10_about_0 : decode cX10_about 0 = .ok (.aload_n 0, 1) := by decide +kernel
theorem dX10_about_1 : decode cX10_about 1 = .ok (.iload_n 1, 1) := by decide +kernel
theorem dX10_about_2 : decode cX10_about 2 = .ok (.invokevirtual 153, 3) := by decide +kernel
theorem dX10_about_5 : decode cX10_about 5 = .ok (.ifCond .ne 5, 3) := by decide +kernel
theorem dX10_about_8 : decode cX10_about 8 = .ok (.iconst (-1), 1) := by decide +kernel
theorem dX10_about_9 : decode cX10_about 9 = .ok (.ireturn, 1) := by decide +kernel
theorem dX10_about_10 : decode cX10_about 10 = .ok (.aload_n 0, 1) := by decide +kernel
theorem dX10_about_11 : decode cX10_about 11 = .ok (.getfield 32, 3) := by decide +kernel
theorem dX10_about_14 : decode cX10_about 14 = .ok (.getfield 145, 3) := by decide +kernel
theorem dX10_about_17 : decode cX10_about 17 = .ok (.iload_n 1, 1) := by decide +kernel
theorem dX10_about_18 : decode cX10_about 18 = .ok (.aaload, 1) := by decide +kernel
theorem dX10_about_19 : decode cX10_about 19 = .ok (.astore_n 3, 1) := by decide +kernel
theorem dX10_about_20 : decode cX10_about 20 = .ok (.iload_n 2, 1) := by decide +kernel
theorem dX10_about_21 : decode cX10_about 21 = .ok (.tableswitch 164 0 12 #[67, 72, 77, 82, 94, 102, 110, 134, 139, 144, 149, 154, 159], 67) := by decide +kernel
theorem dX10_about_88 : decode cX10_about 88 = .ok (.aload_n 3, 1) := by decide +kernel
theorem dX10_about_89 : decode cX10_about 89 = .ok (.getfield 179, 3) := by decide +kernel
theorem dX10_about_92 : decode cX10_about 92 = .ok (.ireturn, 1) := by decide +kernel
theorem dX10_about_93 : decode cX10_about 93 = .ok (.aload_n 3, 1) := by decide +kernel
theorem dX10_about_94 : decode cX10_about 94 = .ok (.getfield 182, 3) := by decide +kernel
theorem dX10_about_97 : decode cX10_about 97 = .ok (.ireturn, 1) := by decide +kernel
theorem dX10_about_98 : decode cX10_about 98 = .ok (.aload_n 3, 1) := by decide +kernel
theorem dX10_about_99 : decode cX10_about 99 = .ok (.getfield 185, 3) := by decide +kernel
theorem dX10_about_102 : decode cX10_about 102 = .ok (.ireturn, 1) := by decide +kernel
theorem dX10_about_103 : decode cX10_about 103 = .ok (.aload_n 3, 1) := by decide +kernel
theorem dX10_about_104 : decode cX10_about 104 = .ok (.aload_n 0, 1) := by decide +kernel
theorem dX10_about_105 : decode cX10_about 105 = .ok (.getfield 32, 3) := by decide +kernel
theorem dX10_about_108 : decode cX10_about 108 = .ok (.getfield 81, 3) := by decide +kernel
theorem dX10_about_111 : decode cX10_about 111 = .ok (.invokevirtual 188, 3) := by decide +kernel
theorem dX10_about_114 : decode cX10_about 114 = .ok (.ireturn, 1) := by decide +kernel
theorem dX10_about_115 : decode cX10_about 115 = .ok (.aload_n 3, 1) := by decide +kernel
theorem dX10_about_116 : decode cX10_about 116 = .ok (.getfield 192, 3) := by decide +kernel
theorem dX10_about_119 : decode cX10_about 119 = .ok (.getfield 196, 3) := by decide +kernel
theorem dX10_about_122 : decode cX10_about 122 = .ok (.ireturn, 1) := by decide +kernel
theorem dX10_about_123 : decode cX10_about 123 = .ok (.aload_n 3, 1) := by decide +kernel
theorem dX10_about_124 : decode cX10_about 124 = .ok (.getfield 192, 3) := by decide +kernel
theorem dX10_about_127 : decode cX10_about 127 = .ok (.getfield 201, 3) := by decide +kernel
theorem dX10_about_130 : decode cX10_about 130 = .ok (.ireturn, 1) := by decide +kernel
theorem dX10_about_131 : decode cX10_about 131 = .ok (.aload_n 3, 1) := by decide +kernel
theorem dX10_about_132 : decode cX10_about 132 = .ok (.getfield 192, 3) := by decide +kernel
theorem dX10_about_135 : decode cX10_about 135 = .ok (.getfield 204, 3) := by decide +kernel
theorem dX10_about_138 : decode cX10_about 138 = .ok (.aload_n 3, 1) := by decide +kernel
theorem dX10_about_139 : decode cX10_about 139 = .ok (.getfield 192, 3) := by decide +kernel
theorem dX10_about_142 : decode cX10_about 142 = .ok (.getfield 196, 3) := by decide +kernel
theorem dX10_about_145 : decode cX10_about 145 = .ok (.isub, 1) := by decide +kernel
theorem dX10_about_146 : decode cX10_about 146 = .ok (.aload_n 3, 1) := by decide +kernel
theorem dX10_about_147 : decode cX10_about 147 = .ok (.getfield 192, 3) := by decide +kernel
theorem dX10_about_150 : decode cX10_about 150 = .ok (.getfield 201, 3) := by decide +kernel
theorem dX10_about_153 : decode cX10_about 153 = .ok (.isub, 1) := by decide +kernel
theorem dX10_about_154 : decode cX10_about 154 = .ok (.ireturn, 1) := by decide +kernel
theorem dX10_about_155 : decode cX10_about 155 = .ok (.aload_n 3, 1) := by decide +kernel
theorem dX10_about_156 : decode cX10_about 156 = .ok (.invokevirtual 205, 3) := by decide +kernel
theorem dX10_about_159 : decode cX10_about 159 = .ok (.ireturn, 1) := by decide +kernel
theorem dX10_about_160 : decode cX10_about 160 = .ok (.aload_n 3, 1) := by decide +kernel
theorem dX10_about_161 : decode cX10_about 161 = .ok (.getfield 209, 3) := by decide +kernel
theorem dX10_about_164 : decode cX10_about 164 = .ok (.ireturn, 1) := by decide +kernel
theorem dX10_about_165 : decode cX10_about 165 = .ok (.aload_n 3, 1) := by decide +kernel
theorem dX10_about_166 : decode cX10_about 166 = .ok (.getfield 212, 3) := by decide +kernel
theorem dX10_about_169 : decode cX10_about 169 = .ok (.ireturn, 1) := by decide +kernel
theorem dX10_about_170 : decode cX10_about 170 = .ok (.aload_n 3, 1) := by decide +kernel
theorem dX10_about_171 : decode cX10_about 171 = .ok (.getfield 215, 3) := by decide +kernel
theorem dX10_about_174 : decode cX10_about 174 = .ok (.ireturn, 1) := by decide +kernel
theorem dX10_about_175 : decode cX10_about 175 = .ok (.aload_n 3, 1) := by decide +kernel
theorem dX10_about_176 : decode cX10_about 176 = .ok (.getfield 159, 3) := by decide +kernel
theorem dX10_about_179 : decode cX10_about 179 = .ok (.ireturn, 1) := by decide +kernel
theorem dX10_about_180 : decode cX10_about 180 = .ok (.aload_n 3, 1) := by decide +kernel
theorem dX10_about_181 : decode cX10_about 181 = .ok (.getfield 218, 3) := by decide +kernel
theorem dX10_about_184 : decode cX10_about 184 = .ok (.ireturn, 1) := by decide +kernel
theorem dX10_about_185 : decode cX10_about 185 = .ok (.iconst (-1), 1) := by decide +kernel
theorem dX10_about_186 : decode cX10_about 186 = .ok (.ireturn, 1) := by decide +kernel
theorem dX10_dog_0 : decode cX10_dog 0 = .ok (.aload_n 0, 1) := by decide +kernel
theorem dX10_dog_1 : decode cX10_dog 1 = .ok (.iload_n 1, 1) := by decide +kernel
theorem dX10_dog_2 : decode cX10_dog 2 = .ok (.invokevirtual 153, 3) := by decide +kernel
theorem dX10_dog_5 : decode cX10_dog 5 = .ok (.ifCond .ne 5, 3) := by decide +kernel
theorem dX10_dog_8 : decode cX10_dog 8 = .ok (.iconst (-1), 1) := by decide +kernel
theorem dX10_dog_9 : decode cX10_dog 9 = .ok (.ireturn, 1) := by decide +kernel
theorem dX10_dog_10 : decode cX10_dog 10 = .ok (.aload_n 0, 1) := by decide +kernel
theorem dX10_dog_11 : decode cX10_dog 11 = .ok (.getfield 32, 3) := by decide +kernel
theorem dX10_dog_14 : decode cX10_dog 14 = .ok (.getfield 145, 3) := by decide +kernel
theorem dX10_dog_17 : decode cX10_dog 17 = .ok (.iload_n 1, 1) := by decide +kernel
theorem dX10_dog_18 : decode cX10_dog 18 = .ok (.aaload, 1) := by decide +kernel
theorem dX10_dog_19 : decode cX10_dog 19 = .ok (.getfield 192, 3) := by decide +kernel
theorem dX10_dog_22 : decode cX10_dog 22 = .ok (.astore 4, 2) := by decide +kernel
theorem dX10_dog_24 : decode cX10_dog 24 = .ok (.iload_n 2, 1) := by decide +kernel
theorem dX10_dog_25 : decode cX10_dog 25 = .ok (.ifCond .lt 12, 3) := by decide +kernel
theorem dX10_dog_28 : decode cX10_dog 28 = .ok (.iload_n 2, 1) := by decide +kernel
theorem dX10_dog_29 : decode cX10_dog 29 = .ok (.aload 4, 2) := by decide +kernel
theorem dX10_dog_31 : decode cX10_dog 31 = .ok (.getfield 204, 3) := by decide +kernel
theorem dX10_dog_34 : decode cX10_dog 34 = .ok (.if_icmp .lt 5, 3) := by decide +kernel
theorem dX10_dog_37 : decode cX10_dog 37 = .ok (.iconst (-1), 1) := by decide +kernel
theorem dX10_dog_38 : decode cX10_dog 38 = .ok (.ireturn, 1) := by decide +kernel
theorem dX10_dog_39 : decode cX10_dog 39 = .ok (.iload_n 3, 1) := by decide +kernel
theorem dX10_dog_40 : decode cX10_dog 40 = .ok (.tableswitch 52 0 2 #[28, 36, 44], 28) := by decide +kernel
theorem dX10_dog_68 : decode cX10_dog 68 = .ok (.aload 4, 2) := by decide +kernel
theorem dX10_dog_70 : decode cX10_dog 70 = .ok (.getfield 221, 3) := by decide +kernel
theorem dX10_dog_73 : decode cX10_dog 73 = .ok (.iload_n 2, 1) := by decide +kernel
theorem dX10_dog_74 : decode cX10_dog 74 = .ok (.iaload, 1) := by decide +kernel
theorem dX10_dog_75 : decode cX10_dog 75 = .ok (.ireturn, 1) := by decide +kernel
theorem dX10_dog_76 : decode cX10_dog 76 = .ok (.aload 4, 2) := by decide +kernel
theorem dX10_dog_78 : decode cX10_dog 78 = .ok (.getfield 224, 3) := by decide +kernel
theorem dX10_dog_81 : decode cX10_dog 81 = .ok (.iload_n 2, 1) := by decide +kernel
theorem dX10_dog_82 : decode cX10_dog 82 = .ok (.iaload, 1) := by decide +kernel
theorem dX10_dog_83 : decode cX10_dog 83 = .ok (.ireturn, 1) := by decide +kernel
theorem dX10_dog_84 : decode cX10_dog 84 = .ok (.aload 4, 2) := by decide +kernel
theorem dX10_dog_86 : decode cX10_dog 86 = .ok (.getfield 227, 3) := by decide +kernel
theorem dX10_dog_89 : decode cX10_dog 89 = .ok (.iload_n 2, 1) := by decide +kernel
theorem dX10_dog_90 : decode cX10_dog 90 = .ok (.iaload, 1) := by decide +kernel
theorem dX10_dog_91 : decode cX10_dog 91 = .ok (.ireturn, 1) := by decide +kernel
theorem dX10_dog_92 : decode cX10_dog 92 = .ok (.iconst (-1), 1) := by decide +kernel
theorem dX10_dog_93 : decode cX10_dog 93 = .ok (.ireturn, 1) := by decide +kernel
theorem dX10_time_0 : decode cX10_time 0 = .ok (.aload_n 0, 1) := by decide +kernel
theorem dX10_time_1 : decode cX10_time 1 = .ok (.iload_n 1, 1) := by decide +kernel
theorem dX10_time_2 : decode cX10_time 2 = .ok (.invokevirtual 153, 3) := by decide +kernel
theorem dX10_time_5 : decode cX10_time 5 = .ok (.ifCond .eq 11, 3) := by decide +kernel
theorem dX10_time_8 : decode cX10_time 8 = .ok (.aload_n 0, 1) := by decide +kernel
theorem dX10_time_9 : decode cX10_time 9 = .ok (.iload_n 2, 1) := by decide +kernel
theorem dX10_time_10 : decode cX10_time 10 = .ok (.invokevirtual 230, 3) := by decide +kernel
theorem dX10_time_13 : decode cX10_time 13 = .ok (.ifCond .ne 5, 3) := by decide +kernel
theorem dX10_time_16 : decode cX10_time 16 = .ok (.iconst (-1), 1) := by decide +kernel
theorem dX10_time_17 : decode cX10_time 17 = .ok (.ireturn, 1) := by decide +kernel
theorem dX10_time_18 : decode cX10_time 18 = .ok (.aload_n 0, 1) := by decide +kernel
theorem dX10_time_19 : decode cX10_time 19 = .ok (.getfield 32, 3) := by decide +kernel
theorem dX10_time_22 : decode cX10_time 22 = .ok (.getfield 145, 3) := by decide +kernel
theorem dX10_time_25 : decode cX10_time 25 = .ok (.iload_n 1, 1) := by decide +kernel
theorem dX10_time_26 : decode cX10_time 26 = .ok (.aaload, 1) := by decide +kernel
theorem dX10_time_27 : decode cX10_time 27 = .ok (.astore 4, 2) := by decide +kernel
theorem dX10_time_29 : decode cX10_time 29 = .ok (.iload_n 3, 1) := by decide +kernel
theorem dX10_time_30 : decode cX10_time 30 = .ok (.ifCond .eq 13, 3) := by decide +kernel
theorem dX10_time_33 : decode cX10_time 33 = .ok (.aload 4, 2) := by decide +kernel
theorem dX10_time_35 : decode cX10_time 35 = .ok (.getfield 233, 3) := by decide +kernel
theorem dX10_time_38 : decode cX10_time 38 = .ok (.iload_n 2, 1) := by decide +kernel
theorem dX10_time_39 : decode cX10_time 39 = .ok (.iaload, 1) := by decide +kernel
theorem dX10_time_40 : decode cX10_time 40 = .ok (.goto 10, 3) := by decide +kernel
theorem dX10_time_43 : decode cX10_time 43 = .ok (.aload 4, 2) := by decide +kernel
theorem dX10_time_45 : decode cX10_time 45 = .ok (.getfield 236, 3) := by decide +kernel
theorem dX10_time_48 : decode cX10_time 48 = .ok (.iload_n 2, 1) := by decide +kernel
theorem dX10_time_49 : decode cX10_time 49 = .ok (.iaload, 1) := by decide +kernel
theorem dX10_time_50 : decode cX10_time 50 = .ok (.ireturn, 1) := by decide +kernel
theorem dX10_did_0 : decode cX10_did 0 = .ok (.aload_n 0, 1) := by decide +kernel
theorem dX10_did_1 : decode cX10_did 1 = .ok (.iload_n 1, 1) := by decide +kernel
theorem dX10_did_2 : decode cX10_did 2 = .ok (.invokevirtual 153, 3) := by decide +kernel
theorem dX10_did_5 : decode cX10_did 5 = .ok (.ifCond .eq 18, 3) := by decide +kernel
theorem dX10_did_8 : decode cX10_did 8 = .ok (.aload_n 0, 1) := by decide +kernel
theorem dX10_did_9 : decode cX10_did 9 = .ok (.getfield 32, 3) := by decide +kernel
theorem dX10_did_12 : decode cX10_did 12 = .ok (.getfield 145, 3) := by decide +kernel
theorem dX10_did_15 : decode cX10_did 15 = .ok (.iload_n 1, 1) := by decide +kernel
theorem dX10_did_16 : decode cX10_did 16 = .ok (.aaload, 1) := by decide +kernel
theorem dX10_did_17 : decode cX10_did 17 = .ok (.getfield 239, 3) := by decide +kernel
theorem dX10_did_20 : decode cX10_did 20 = .ok (.goto 4, 3) := by decide +kernel
theorem dX10_did_23 : decode cX10_did 23 = .ok (.iconst (-1), 1) := by decide +kernel
theorem dX10_did_24 : decode cX10_did 24 = .ok (.ireturn, 1) := by decide +kernel
theorem dX10_result_0 : decode cX10_result 0 = .ok (.aload_n 0, 1) := by decide +kernel
theorem dX10_result_1 : decode cX10_result 1 = .ok (.iload_n 1, 1) := by decide +kernel
theorem dX10_result_2 : decode cX10_result 2 = .ok (.invokevirtual 242, 3) := by decide +kernel
theorem dX10_result_5 : decode cX10_result 5 = .ok (.ifCond .eq 32, 3) := by decide +kernel
theorem dX10_result_8 : decode cX10_result 8 = .ok (.aload_n 0, 1) := by decide +kernel
theorem dX10_result_9 : decode cX10_result 9 = .ok (.getfield 25, 3) := by decide +kernel
theorem dX10_result_12 : decode cX10_result 12 = .ok (.aload_n 0, 1) := by decide +kernel
theorem dX10_result_13 : decode cX10_result 13 = .ok (.getfield 32, 3) := by decide +kernel
theorem dX10_result_16 : decode cX10_result 16 = .ok (.getfield 145, 3) := by decide +kernel
theorem dX10_result_19 : decode cX10_result 19 = .ok (.iload_n 1, 1) := by decide +kernel
theorem dX10_result_20 : decode cX10_result 20 = .ok (.aaload, 1) := by decide +kernel
theorem dX10_result_21 : decode cX10_result 21 = .ok (.aload_n 0, 1) := by decide +kernel
theorem dX10_result_22 : decode cX10_result 22 = .ok (.getfield 32, 3) := by decide +kernel
theorem dX10_result_25 : decode cX10_result 25 = .ok (.getfield 81, 3) := by decide +kernel
theorem dX10_result_28 : decode cX10_result 28 = .ok (.getfield 85, 3) := by decide +kernel
theorem dX10_result_31 : decode cX10_result 31 = .ok (.invokevirtual 245, 3) := by decide +kernel
theorem dX10_result_34 : decode cX10_result 34 = .ok (.goto 4, 3) := by decide +kernel
theorem dX10_result_37 : decode cX10_result 37 = .ok (.iconst (-1), 1) := by decide +kernel
theorem dX10_result_38 : decode cX10_result 38 = .ok (.ireturn, 1) := by decide +kernel
theorem dX10_lacks_0 : decode cX10_lacks 0 = .ok (.aload_n 0, 1) := by decide +kernel
theorem dX10_lacks_1 : decode cX10_lacks 1 = .ok (.iload_n 1, 1) := by decide +kernel
theorem dX10_lacks_2 : decode cX10_lacks 2 = .ok (.invokevirtual 242, 3) := by decide +kernel
theorem dX10_lacks_5 : decode cX10_lacks 5 = .ok (.ifCond .eq 11, 3) := by decide +kernel
theorem dX10_lacks_8 : decode cX10_lacks 8 = .ok (.aload_n 0, 1) := by decide +kernel
theorem dX10_lacks_9 : decode cX10_lacks 9 = .ok (.iload_n 2, 1) := by decide +kernel
theorem dX10_lacks_10 : decode cX10_lacks 10 = .ok (.invokevirtual 249, 3) := by decide +kernel
theorem dX10_lacks_13 : decode cX10_lacks 13 = .ok (.ifCond .ne 5, 3) := by decide +kernel
theorem dX10_lacks_16 : decode cX10_lacks 16 = .ok (.iconst (-1), 1) := by decide +kernel
theorem dX10_lacks_17 : decode cX10_lacks 17 = .ok (.ireturn, 1) := by decide +kernel
theorem dX10_lacks_18 : decode cX10_lacks 18 = .ok (.aload_n 0, 1) := by decide +kernel
theorem dX10_lacks_19 : decode cX10_lacks 19 = .ok (.getfield 25, 3) := by decide +kernel
theorem dX10_lacks_22 : decode cX10_lacks 22 = .ok (.iload_n 2, 1) := by decide +kernel
theorem dX10_lacks_23 : decode cX10_lacks 23 = .ok (.aload_n 0, 1) := by decide +kernel
theorem dX10_lacks_24 : decode cX10_lacks 24 = .ok (.getfield 32, 3) := by decide +kernel
theorem dX10_lacks_27 : decode cX10_lacks 27 = .ok (.getfield 145, 3) := by decide +kernel
theorem dX10_lacks_30 : decode cX10_lacks 30 = .ok (.iload_n 1, 1) := by decide +kernel
theorem dX10_lacks_31 : decode cX10_lacks 31 = .ok (.aaload, 1) := by decide +kernel
theorem dX10_lacks_32 : decode cX10_lacks 32 = .ok (.aload_n 0, 1) := by decide +kernel
theorem dX10_lacks_33 : decode cX10_lacks 33 = .ok (.getfield 32, 3) := by decide +kernel
theorem dX10_lacks_36 : decode cX10_lacks 36 = .ok (.getfield 81, 3) := by decide +kernel
theorem dX10_lacks_39 : decode cX10_lacks 39 = .ok (.getfield 85, 3) := by decide +kernel
theorem dX10_lacks_42 : decode cX10_lacks 42 = .ok (.invokevirtual 252, 3) := by decide +kernel
theorem dX10_lacks_45 : decode cX10_lacks 45 = .ok (.ireturn, 1) := by decide +kernel
theorem dX10_place_0 : decode cX10_place 0 = .ok (.iconst 0, 1) := by decide +kernel
theorem dX10_place_1 : decode cX10_place 1 = .ok (.istore_n 2, 1) := by decide +kernel
theorem dX10_place_2 : decode cX10_place 2 = .ok (.iload_n 2, 1) := by decide +kernel
theorem dX10_place_3 : decode cX10_place 3 = .ok (.aload_n 0, 1) := by decide +kernel
theorem dX10_place_4 : decode cX10_place 4 = .ok (.getfield 32, 3) := by decide +kernel
theorem dX10_place_7 : decode cX10_place 7 = .ok (.getfield 142, 3) := by decide +kernel
theorem dX10_place_10 : decode cX10_place 10 = .ok (.if_icmp .ge 57, 3) := by decide +kernel
theorem dX10_place_13 : decode cX10_place 13 = .ok (.iconst 0, 1) := by decide +kernel
theorem dX10_place_14 : decode cX10_place 14 = .ok (.istore_n 3, 1) := by decide +kernel
theorem dX10_place_15 : decode cX10_place 15 = .ok (.iconst 0, 1) := by decide +kernel
theorem dX10_place_16 : decode cX10_place 16 = .ok (.istore 4, 2) := by decide +kernel
theorem dX10_place_18 : decode cX10_place 18 = .ok (.iload 4, 2) := by decide +kernel
theorem dX10_place_20 : decode cX10_place 20 = .ok (.aload_n 0, 1) := by decide +kernel
theorem dX10_place_21 : decode cX10_place 21 = .ok (.getfield 32, 3) := by decide +kernel
theorem dX10_place_24 : decode cX10_place 24 = .ok (.getfield 142, 3) := by decide +kernel
theorem dX10_place_27 : decode cX10_place 27 = .ok (.if_icmp .ge 27, 3) := by decide +kernel
theorem dX10_place_30 : decode cX10_place 30 = .ok (.iload_n 3, 1) := by decide +kernel
theorem dX10_place_31 : decode cX10_place 31 = .ok (.aload_n 0, 1) := by decide +kernel
theorem dX10_place_32 : decode cX10_place 32 = .ok (.iload 4, 2) := by decide +kernel
theorem dX10_place_34 : decode cX10_place 34 = .ok (.iload_n 2, 1) := by decide +kernel
theorem dX10_place_35 : decode cX10_place 35 = .ok (.invokevirtual 256, 3) := by decide +kernel
theorem dX10_place_38 : decode cX10_place 38 = .ok (.ifCond .eq 7, 3) := by decide +kernel
theorem dX10_place_41 : decode cX10_place 41 = .ok (.iconst 1, 1) := by decide +kernel
theorem dX10_place_42 : decode cX10_place 42 = .ok (.goto 4, 3) := by decide +kernel
theorem dX10_place_45 : decode cX10_place 45 = .ok (.iconst 0, 1) := by decide +kernel
theorem dX10_place_46 : decode cX10_place 46 = .ok (.iadd, 1) := by decide +kernel
theorem dX10_place_47 : decode cX10_place 47 = .ok (.istore_n 3, 1) := by decide +kernel
theorem dX10_place_48 : decode cX10_place 48 = .ok (.iinc 4 1, 3) := by decide +kernel
theorem dX10_place_51 : decode cX10_place 51 = .ok (.goto (-33), 3) := by decide +kernel
theorem dX10_place_54 : decode cX10_place 54 = .ok (.iload_n 3, 1) := by decide +kernel
theorem dX10_place_55 : decode cX10_place 55 = .ok (.iload_n 1, 1) := by decide +kernel
theorem dX10_place_56 : decode cX10_place 56 = .ok (.if_icmp .ne 5, 3) := by decide +kernel
theorem dX10_place_59 : decode cX10_place 59 = .ok (.iload_n 2, 1) := by decide +kernel
theorem dX10_place_60 : decode cX10_place 60 = .ok (.ireturn, 1) := by decide +kernel
theorem dX10_place_61 : decode cX10_place 61 = .ok (.iinc 2 1, 3) := by decide +kernel
theorem dX10_place_64 : decode cX10_place 64 = .ok (.goto (-62), 3) := by decide +kernel
theorem dX10_place_67 : decode cX10_place 67 = .ok (.iconst (-1), 1) := by decide +kernel
theorem dX10_place_68 : decode cX10_place 68 = .ok (.ireturn, 1) := by decide +kernel
theorem dX10_came_0 : decode cX10_came 0 = .ok (.aload_n 0, 1) := by decide +kernel
theorem dX10_came_1 : decode cX10_came 1 = .ok (.iload_n 1, 1) := by decide +kernel
theorem dX10_came_2 : decode cX10_came 2 = .ok (.invokevirtual 230, 3) := by decide +kernel
theorem dX10_came_5 : decode cX10_came 5 = .ok (.ifCond .ne 5, 3) := by decide +kernel
theorem dX10_came_8 : decode cX10_came 8 = .ok (.iconst (-1), 1) := by decide +kernel
theorem dX10_came_9 : decode cX10_came 9 = .ok (.ireturn, 1) := by decide +kernel
theorem dX10_came_10 : decode cX10_came 10 = .ok (.iconst 0, 1) := by decide +kernel
theorem dX10_came_11 : decode cX10_came 11 = .ok (.istore_n 3, 1) := by decide +kernel
theorem dX10_came_12 : decode cX10_came 12 = .ok (.iconst 0, 1) := by decide +kernel
theorem dX10_came_13 : decode cX10_came 13 = .ok (.istore 4, 2) := by decide +kernel
theorem dX10_came_15 : decode cX10_came 15 = .ok (.iload 4, 2) := by decide +kernel
theorem dX10_came_17 : decode cX10_came 17 = .ok (.aload_n 0, 1) := by decide +kernel
theorem dX10_came_18 : decode cX10_came 18 = .ok (.getfield 32, 3) := by decide +kernel
theorem dX10_came_21 : decode cX10_came 21 = .ok (.getfield 142, 3) := by decide +kernel
theorem dX10_came_24 : decode cX10_came 24 = .ok (.if_icmp .ge 41, 3) := by decide +kernel
theorem dX10_came_27 : decode cX10_came 27 = .ok (.aload_n 0, 1) := by decide +kernel
theorem dX10_came_28 : decode cX10_came 28 = .ok (.getfield 32, 3) := by decide +kernel
theorem dX10_came_31 : decode cX10_came 31 = .ok (.getfield 145, 3) := by decide +kernel
theorem dX10_came_34 : decode cX10_came 34 = .ok (.iload 4, 2) := by decide +kernel
theorem dX10_came_36 : decode cX10_came 36 = .ok (.aaload, 1) := by decide +kernel
theorem dX10_came_37 : decode cX10_came 37 = .ok (.getfield 236, 3) := by decide +kernel
theorem dX10_came_40 : decode cX10_came 40 = .ok (.iload_n 1, 1) := by decide +kernel
theorem dX10_came_41 : decode cX10_came 41 = .ok (.iaload, 1) := by decide +kernel
theorem dX10_came_42 : decode cX10_came 42 = .ok (.istore 5, 2) := by decide +kernel
theorem dX10_came_44 : decode cX10_came 44 = .ok (.iload 5, 2) := by decide +kernel
theorem dX10_came_46 : decode cX10_came 46 = .ok (.iconst (-1), 1) := by decide +kernel
theorem dX10_came_47 : decode cX10_came 47 = .ok (.if_icmp .eq 12, 3) := by decide +kernel
theorem dX10_came_50 : decode cX10_came 50 = .ok (.iload 5, 2) := by decide +kernel
theorem dX10_came_52 : decode cX10_came 52 = .ok (.iload_n 2, 1) := by decide +kernel
theorem dX10_came_53 : decode cX10_came 53 = .ok (.if_icmp .gt 6, 3) := by decide +kernel
theorem dX10_came_56 : decode cX10_came 56 = .ok (.iinc 3 1, 3) := by decide +kernel
theorem dX10_came_59 : decode cX10_came 59 = .ok (.iinc 4 1, 3) := by decide +kernel
theorem dX10_came_62 : decode cX10_came 62 = .ok (.goto (-47), 3) := by decide +kernel
theorem dX10_came_65 : decode cX10_came 65 = .ok (.iload_n 3, 1) := by decide +kernel
theorem dX10_came_66 : decode cX10_came 66 = .ok (.ireturn, 1) := by decide +kernel
theorem dX10_spot_0 : decode cX10_spot 0 = .ok (.aload_n 0, 1) := by decide +kernel
theorem dX10_spot_1 : decode cX10_spot 1 = .ok (.iload_n 1, 1) := by decide +kernel
theorem dX10_spot_2 : decode cX10_spot 2 = .ok (.invokevirtual 153, 3) := by decide +kernel
theorem dX10_spot_5 : decode cX10_spot 5 = .ok (.ifCond .eq 18, 3) := by decide +kernel
theorem dX10_spot_8 : decode cX10_spot 8 = .ok (.iload_n 2, 1) := by decide +kernel
theorem dX10_spot_9 : decode cX10_spot 9 = .ok (.ifCond .lt 14, 3) := by decide +kernel
theorem dX10_spot_12 : decode cX10_spot 12 = .ok (.iload_n 2, 1) := by decide +kernel
theorem dX10_spot_13 : decode cX10_spot 13 = .ok (.aload_n 0, 1) := by decide +kernel
theorem dX10_spot_14 : decode cX10_spot 14 = .ok (.getfield 32, 3) := by decide +kernel
theorem dX10_spot_17 : decode cX10_spot 17 = .ok (.getfield 70, 3) := by decide +kernel
theorem dX10_spot_20 : decode cX10_spot 20 = .ok (.if_icmp .lt 5, 3) := by decide +kernel
theorem dX10_spot_23 : decode cX10_spot 23 = .ok (.iconst (-1), 1) := by decide +kernel
theorem dX10_spot_24 : decode cX10_spot 24 = .ok (.ireturn, 1) := by decide +kernel
theorem dX10_spot_25 : decode cX10_spot 25 = .ok (.iload_n 3, 1) := by decide +kernel
theorem dX10_spot_26 : decode cX10_spot 26 = .ok (.ifCond .eq 12, 3) := by decide +kernel
theorem dX10_spot_29 : decode cX10_spot 29 = .ok (.aload_n 0, 1) := by decide +kernel
theorem dX10_spot_30 : decode cX10_spot 30 = .ok (.iload_n 1, 1) := by decide +kernel
theorem dX10_spot_31 : decode cX10_spot 31 = .ok (.iload_n 2, 1) := by decide +kernel
theorem dX10_spot_32 : decode cX10_spot 32 = .ok (.invokevirtual 260, 3) := by decide +kernel
theorem dX10_spot_35 : decode cX10_spot 35 = .ok (.goto 9, 3) := by decide +kernel
theorem dX10_spot_38 : decode cX10_spot 38 = .ok (.aload_n 0, 1) := by decide +kernel
theorem dX10_spot_39 : decode cX10_spot 39 = .ok (.iload_n 1, 1) := by decide +kernel
theorem dX10_spot_40 : decode cX10_spot 40 = .ok (.iload_n 2, 1) := by decide +kernel
theorem dX10_spot_41 : decode cX10_spot 41 = .ok (.invokevirtual 263, 3) := by decide +kernel
theorem dX10_spot_44 : decode cX10_spot 44 = .ok (.ireturn, 1) := by decide +kernel
theorem dX10_signs_0 : decode cX10_signs 0 = .ok (.aload_n 0, 1) := by decide +kernel
theorem dX10_signs_1 : decode cX10_signs 1 = .ok (.iload_n 1, 1) := by decide +kernel
theorem dX10_signs_2 : decode cX10_signs 2 = .ok (.invokevirtual 153, 3) := by decide +kernel
theorem dX10_signs_5 : decode cX10_signs 5 = .ok (.ifCond .eq 29, 3) := by decide +kernel
theorem dX10_signs_8 : decode cX10_signs 8 = .ok (.aload_n 0, 1) := by decide +kernel
theorem dX10_signs_9 : decode cX10_signs 9 = .ok (.getfield 38, 3) := by decide +kernel
theorem dX10_signs_12 : decode cX10_signs 12 = .ok (.iload_n 1, 1) := by decide +kernel
theorem dX10_signs_13 : decode cX10_signs 13 = .ok (.aaload, 1) := by decide +kernel
theorem dX10_signs_14 : decode cX10_signs 14 = .ok (.aload_n 0, 1) := by decide +kernel
theorem dX10_signs_15 : decode cX10_signs 15 = .ok (.getfield 32, 3) := by decide +kernel
theorem dX10_signs_18 : decode cX10_signs 18 = .ok (.getfield 170, 3) := by decide +kernel
theorem dX10_signs_21 : decode cX10_signs 21 = .ok (.aload_n 0, 1) := by decide +kernel
theorem dX10_signs_22 : decode cX10_signs 22 = .ok (.getfield 32, 3) := by decide +kernel
theorem dX10_signs_25 : decode cX10_signs 25 = .ok (.getfield 70, 3) := by decide +kernel
theorem dX10_signs_28 : decode cX10_signs 28 = .ok (.invokevirtual 266, 3) := by decide +kernel
theorem dX10_signs_31 : decode cX10_signs 31 = .ok (.goto 4, 3) := by decide +kernel
theorem dX10_signs_34 : decode cX10_signs 34 = .ok (.iconst (-1), 1) := by decide +kernel
theorem dX10_signs_35 : decode cX10_signs 35 = .ok (.ireturn, 1) := by decide +kernel
theorem dX10_replay_0 : decode cX10_replay 0 = .ok (.aload_n 0, 1) := by decide +kernel
theorem dX10_replay_1 : decode cX10_replay 1 = .ok (.iload_n 1, 1) := by decide +kernel
theorem dX10_replay_2 : decode cX10_replay 2 = .ok (.invokevirtual 153, 3) := by decide +kernel
theorem dX10_replay_5 : decode cX10_replay 5 = .ok (.ifCond .eq 11, 3) := by decide +kernel
theorem dX10_replay_8 : decode cX10_replay 8 = .ok (.aload_n 0, 1) := by decide +kernel
theorem dX10_replay_9 : decode cX10_replay 9 = .ok (.iload_n 2, 1) := by decide +kernel
theorem dX10_replay_10 : decode cX10_replay 10 = .ok (.invokevirtual 139, 3) := by decide +kernel
theorem dX10_replay_13 : decode cX10_replay 13 = .ok (.ifCond .ne 9, 3) := by decide +kernel
theorem dX10_replay_16 : decode cX10_replay 16 = .ok (.aload_n 0, 1) := by decide +kernel
theorem dX10_replay_17 : decode cX10_replay 17 = .ok (.iconst 1, 1) := by decide +kernel
theorem dX10_replay_18 : decode cX10_replay 18 = .ok (.invokevirtual 73, 3) := by decide +kernel
theorem dX10_replay_21 : decode cX10_replay 21 = .ok (.ireturn, 1) := by decide +kernel
theorem dX10_replay_22 : decode cX10_replay 22 = .ok (.iload_n 3, 1) := by decide +kernel
theorem dX10_replay_23 : decode cX10_replay 23 = .ok (.iconst 0, 1) := by decide +kernel
theorem dX10_replay_24 : decode cX10_replay 24 = .ok (.iconst 3, 1) := by decide +kernel
theorem dX10_replay_25 : decode cX10_replay 25 = .ok (.invokestatic 77, 3) := by decide +kernel
theorem dX10_replay_28 : decode cX10_replay 28 = .ok (.ifCond .ne 9, 3) := by decide +kernel
theorem dX10_replay_31 : decode cX10_replay 31 = .ok (.aload_n 0, 1) := by decide +kernel
theorem dX10_replay_32 : decode cX10_replay 32 = .ok (.iconst 2, 1) := by decide +kernel
theorem dX10_replay_33 : decode cX10_replay 33 = .ok (.invokevirtual 73, 3) := by decide +kernel
theorem dX10_replay_36 : decode cX10_replay 36 = .ok (.ireturn, 1) := by decide +kernel
theorem dX10_replay_37 : decode cX10_replay 37 = .ok (.aload_n 0, 1) := by decide +kernel
theorem dX10_replay_38 : decode cX10_replay 38 = .ok (.iload_n 1, 1) := by decide +kernel
theorem dX10_replay_39 : decode cX10_replay 39 = .ok (.iload_n 2, 1) := by decide +kernel
theorem dX10_replay_40 : decode cX10_replay 40 = .ok (.invokevirtual 269, 3) := by decide +kernel
theorem dX10_replay_43 : decode cX10_replay 43 = .ok (.iload_n 3, 1) := by decide +kernel
theorem dX10_replay_44 : decode cX10_replay 44 = .ok (.tableswitch 74 0 2 #[28, 47, 62], 28) := by decide +kernel
theorem dX10_replay_72 : decode cX10_replay 72 = .ok (.aload_n 0, 1) := by decide +kernel
theorem dX10_replay_73 : decode cX10_replay 73 = .ok (.aload_n 0, 1) := by decide +kernel
theorem dX10_replay_74 : decode cX10_replay 74 = .ok (.getfield 45, 3) := by decide +kernel
theorem dX10_replay_77 : decode cX10_replay 77 = .ok (.aload_n 0, 1) := by decide +kernel
theorem dX10_replay_78 : decode cX10_replay 78 = .ok (.getfield 32, 3) := by decide +kernel
theorem dX10_replay_81 : decode cX10_replay 81 = .ok (.getfield 81, 3) := by decide +kernel
theorem dX10_replay_84 : decode cX10_replay 84 = .ok (.invokevirtual 188, 3) := by decide +kernel
theorem dX10_replay_87 : decode cX10_replay 87 = .ok (.invokevirtual 94, 3) := by decide +kernel
theorem dX10_replay_90 : decode cX10_replay 90 = .ok (.ireturn, 1) := by decide +kernel
theorem dX10_replay_91 : decode cX10_replay 91 = .ok (.aload_n 0, 1) := by decide +kernel
theorem dX10_replay_92 : decode cX10_replay 92 = .ok (.aload_n 0, 1) := by decide +kernel
theorem dX10_replay_93 : decode cX10_replay 93 = .ok (.getfield 45, 3) := by decide +kernel
theorem dX10_replay_96 : decode cX10_replay 96 = .ok (.getfield 192, 3) := by decide +kernel
theorem dX10_replay_99 : decode cX10_replay 99 = .ok (.getfield 196, 3) := by decide +kernel
theorem dX10_replay_102 : decode cX10_replay 102 = .ok (.invokevirtual 94, 3) := by decide +kernel
theorem dX10_replay_105 : decode cX10_replay 105 = .ok (.ireturn, 1) := by decide +kernel
theorem dX10_replay_106 : decode cX10_replay 106 = .ok (.aload_n 0, 1) := by decide +kernel
theorem dX10_replay_107 : decode cX10_replay 107 = .ok (.aload_n 0, 1) := by decide +kernel
theorem dX10_replay_108 : decode cX10_replay 108 = .ok (.getfield 45, 3) := by decide +kernel
theorem dX10_replay_111 : decode cX10_replay 111 = .ok (.getfield 179, 3) := by decide +kernel
theorem dX10_replay_114 : decode cX10_replay 114 = .ok (.invokevirtual 94, 3) := by decide +kernel
theorem dX10_replay_117 : decode cX10_replay 117 = .ok (.ireturn, 1) := by decide +kernel
theorem dX10_replay_118 : decode cX10_replay 118 = .ok (.aload_n 0, 1) := by decide +kernel
theorem dX10_replay_119 : decode cX10_replay 119 = .ok (.aload_n 0, 1) := by decide +kernel
theorem dX10_replay_120 : decode cX10_replay 120 = .ok (.getfield 45, 3) := by decide +kernel
theorem dX10_replay_123 : decode cX10_replay 123 = .ok (.getfield 236, 3) := by decide +kernel
theorem dX10_replay_126 : decode cX10_replay 126 = .ok (.aload_n 0, 1) := by decide +kernel
theorem dX10_replay_127 : decode cX10_replay 127 = .ok (.getfield 32, 3) := by decide +kernel
theorem dX10_replay_130 : decode cX10_replay 130 = .ok (.getfield 81, 3) := by decide +kernel
theorem dX10_replay_133 : decode cX10_replay 133 = .ok (.getfield 85, 3) := by decide +kernel
theorem dX10_replay_136 : decode cX10_replay 136 = .ok (.iaload, 1) := by decide +kernel
theorem dX10_replay_137 : decode cX10_replay 137 = .ok (.invokevirtual 94, 3) := by decide +kernel
theorem dX10_replay_140 : decode cX10_replay 140 = .ok (.ireturn, 1) := by decide +kernel
theorem dX10_keep_0 : decode cX10_keep 0 = .ok (.aload_n 0, 1) := by decide +kernel
theorem dX10_keep_1 : decode cX10_keep 1 = .ok (.getfield 49, 3) := by decide +kernel
theorem dX10_keep_4 : decode cX10_keep 4 = .ok (.ifnonnull 14, 3) := by decide +kernel
theorem dX10_keep_7 : decode cX10_keep 7 = .ok (.aload_n 0, 1) := by decide +kernel
theorem dX10_keep_8 : decode cX10_keep 8 = .ok (.new 29, 3) := by decide +kernel
theorem dX10_keep_11 : decode cX10_keep 11 = .ok (.dup, 1) := by decide +kernel
theorem dX10_keep_12 : decode cX10_keep 12 = .ok (.invokespecial 31, 3) := by decide +kernel
theorem dX10_keep_15 : decode cX10_keep 15 = .ok (.putfield 49, 3) := by decide +kernel
theorem dX10_keep_18 : decode cX10_keep 18 = .ok (.aload_n 0, 1) := by decide +kernel
theorem dX10_keep_19 : decode cX10_keep 19 = .ok (.getfield 49, 3) := by decide +kernel
theorem dX10_keep_22 : decode cX10_keep 22 = .ok (.aload_n 0, 1) := by decide +kernel
theorem dX10_keep_23 : decode cX10_keep 23 = .ok (.getfield 32, 3) := by decide +kernel
theorem dX10_keep_26 : decode cX10_keep 26 = .ok (.invokevirtual 272, 3) := by decide +kernel
theorem dX10_keep_29 : decode cX10_keep 29 = .ok (.iconst 1, 1) := by decide +kernel
theorem dX10_keep_30 : decode cX10_keep 30 = .ok (.ireturn, 1) := by decide +kernel
theorem dX10_back_0 : decode cX10_back 0 = .ok (.aload_n 0, 1) := by decide +kernel
theorem dX10_back_1 : decode cX10_back 1 = .ok (.getfield 49, 3) := by decide +kernel
theorem dX10_back_4 : decode cX10_back 4 = .ok (.ifnonnull 9, 3) := by decide +kernel
theorem dX10_back_7 : decode cX10_back 7 = .ok (.aload_n 0, 1) := by decide +kernel
theorem dX10_back_8 : decode cX10_back 8 = .ok (.iconst 1, 1) := by decide +kernel
theorem dX10_back_9 : decode cX10_back 9 = .ok (.invokevirtual 97, 3) := by decide +kernel
theorem dX10_back_12 : decode cX10_back 12 = .ok (.ireturn, 1) := by decide +kernel
theorem dX10_back_13 : decode cX10_back 13 = .ok (.aload_n 0, 1) := by decide +kernel
theorem dX10_back_14 : decode cX10_back 14 = .ok (.getfield 32, 3) := by decide +kernel
theorem dX10_back_17 : decode cX10_back 17 = .ok (.aload_n 0, 1) := by decide +kernel
theorem dX10_back_18 : decode cX10_back 18 = .ok (.getfield 49, 3) := by decide +kernel
theorem dX10_back_21 : decode cX10_back 21 = .ok (.invokevirtual 272, 3) := by decide +kernel
theorem dX10_back_24 : decode cX10_back 24 = .ok (.aload_n 0, 1) := by decide +kernel
theorem dX10_back_25 : decode cX10_back 25 = .ok (.iconst (-1), 1) := by decide +kernel
theorem dX10_back_26 : decode cX10_back 26 = .ok (.putfield 59, 3) := by decide +kernel
theorem dX10_back_29 : decode cX10_back 29 = .ok (.aload_n 0, 1) := by decide +kernel
theorem dX10_back_30 : decode cX10_back 30 = .ok (.invokevirtual 111, 3) := by decide +kernel
theorem dX10_back_33 : decode cX10_back 33 = .ok (.ireturn, 1) := by decide +kernel
theorem dX10_law_0 : decode cX10_law 0 = .ok (.aload_n 0, 1) := by decide +kernel
theorem dX10_law_1 : decode cX10_law 1 = .ok (.iload_n 1, 1) := by decide +kernel
theorem dX10_law_2 : decode cX10_law 2 = .ok (.invokevirtual 249, 3) := by decide +kernel
theorem dX10_law_5 : decode cX10_law 5 = .ok (.ifCond .eq 15, 3) := by decide +kernel
theorem dX10_law_8 : decode cX10_law 8 = .ok (.aload_n 0, 1) := by decide +kernel
theorem dX10_law_9 : decode cX10_law 9 = .ok (.getfield 25, 3) := by decide +kernel
theorem dX10_law_12 : decode cX10_law 12 = .ok (.iload_n 1, 1) := by decide +kernel
theorem dX10_law_13 : decode cX10_law 13 = .ok (.iload_n 2, 1) := by decide +kernel
theorem dX10_law_14 : decode cX10_law 14 = .ok (.invokevirtual 276, 3) := by decide +kernel
theorem dX10_law_17 : decode cX10_law 17 = .ok (.goto 4, 3) := by decide +kernel
theorem dX10_law_20 : decode cX10_law 20 = .ok (.iconst (-1), 1) := by decide +kernel
theorem dX10_law_21 : decode cX10_law 21 = .ok (.ireturn, 1) := by decide +kernel
theorem dX10_planned_0 : decode cX10_planned 0 = .ok (.aload_n 0, 1) := by decide +kernel
theorem dX10_planned_1 : decode cX10_planned 1 = .ok (.iload_n 1, 1) := by decide +kernel
theorem dX10_planned_2 : decode cX10_planned 2 = .ok (.invokevirtual 139, 3) := by decide +kernel
theorem dX10_planned_5 : decode cX10_planned 5 = .ok (.ifCond .ne 5, 3) := by decide +kernel
theorem dX10_planned_8 : decode cX10_planned 8 = .ok (.iconst (-1), 1) := by decide +kernel
theorem dX10_planned_9 : decode cX10_planned 9 = .ok (.ireturn, 1) := by decide +kernel
theorem dX10_planned_10 : decode cX10_planned 10 = .ok (.iload_n 2, 1) := by decide +kernel
theorem dX10_planned_11 : decode cX10_planned 11 = .ok (.lookupswitch 45 #[(0, 25), (1, 35)], 25) := by decide +kernel
theorem dX10_planned_36 : decode cX10_planned 36 = .ok (.aload_n 0, 1) := by decide +kernel
theorem dX10_planned_37 : decode cX10_planned 37 = .ok (.getfield 18, 3) := by decide +kernel
theorem dX10_planned_40 : decode cX10_planned 40 = .ok (.iload_n 1, 1) := by decide +kernel
theorem dX10_planned_41 : decode cX10_planned 41 = .ok (.aaload, 1) := by decide +kernel
theorem dX10_planned_42 : decode cX10_planned 42 = .ok (.getfield 279, 3) := by decide +kernel
theorem dX10_planned_45 : decode cX10_planned 45 = .ok (.ireturn, 1) := by decide +kernel
theorem dX10_planned_46 : decode cX10_planned 46 = .ok (.aload_n 0, 1) := by decide +kernel
theorem dX10_planned_47 : decode cX10_planned 47 = .ok (.getfield 18, 3) := by decide +kernel
theorem dX10_planned_50 : decode cX10_planned 50 = .ok (.iload_n 1, 1) := by decide +kernel
theorem dX10_planned_51 : decode cX10_planned 51 = .ok (.aaload, 1) := by decide +kernel
theorem dX10_planned_52 : decode cX10_planned 52 = .ok (.getfield 282, 3) := by decide +kernel
theorem dX10_planned_55 : decode cX10_planned 55 = .ok (.ireturn, 1) := by decide +kernel
theorem dX10_planned_56 : decode cX10_planned 56 = .ok (.iconst (-1), 1) := by decide +kernel
theorem dX10_planned_57 : decode cX10_planned 57 = .ok (.ireturn, 1) := by decide +kernel
theorem dX10_count_0 : decode cX10_count 0 = .ok (.iload_n 1, 1) := by decide +kernel
theorem dX10_count_1 : decode cX10_count 1 = .ok (.tableswitch 102 0 6 #[43, 54, 62, 67, 75, 83, 94], 43) := by decide +kernel
theorem dX10_count_44 : decode cX10_count 44 = .ok (.aload_n 0, 1) := by decide +kernel
theorem dX10_count_45 : decode cX10_count 45 = .ok (.getfield 32, 3) := by decide +kernel
theorem dX10_count_48 : decode cX10_count 48 = .ok (.getfield 81, 3) := by decide +kernel
theorem dX10_count_51 : decode cX10_count 51 = .ok (.getfield 85, 3) := by decide +kernel
theorem dX10_count_54 : decode cX10_count 54 = .ok (.ireturn, 1) := by decide +kernel
theorem dX10_count_55 : decode cX10_count 55 = .ok (.aload_n 0, 1) := by decide +kernel
theorem dX10_count_56 : decode cX10_count 56 = .ok (.getfield 32, 3) := by decide +kernel
theorem dX10_count_59 : decode cX10_count 59 = .ok (.getfield 142, 3) := by decide +kernel
theorem dX10_count_62 : decode cX10_count 62 = .ok (.ireturn, 1) := by decide +kernel
theorem dX10_count_63 : decode cX10_count 63 = .ok (.aload_n 0, 1) := by decide +kernel
theorem dX10_count_64 : decode cX10_count 64 = .ok (.getfield 52, 3) := by decide +kernel
theorem dX10_count_67 : decode cX10_count 67 = .ok (.ireturn, 1) := by decide +kernel
theorem dX10_count_68 : decode cX10_count 68 = .ok (.aload_n 0, 1) := by decide +kernel
theorem dX10_count_69 : decode cX10_count 69 = .ok (.getfield 25, 3) := by decide +kernel
theorem dX10_count_72 : decode cX10_count 72 = .ok (.getfield 130, 3) := by decide +kernel
theorem dX10_count_75 : decode cX10_count 75 = .ok (.ireturn, 1) := by decide +kernel
theorem dX10_count_76 : decode cX10_count 76 = .ok (.aload_n 0, 1) := by decide +kernel
theorem dX10_count_77 : decode cX10_count 77 = .ok (.getfield 32, 3) := by decide +kernel
theorem dX10_count_80 : decode cX10_count 80 = .ok (.getfield 70, 3) := by decide +kernel
theorem dX10_count_83 : decode cX10_count 83 = .ok (.ireturn, 1) := by decide +kernel
theorem dX10_count_84 : decode cX10_count 84 = .ok (.aload_n 0, 1) := by decide +kernel
theorem dX10_count_85 : decode cX10_count 85 = .ok (.getfield 32, 3) := by decide +kernel
theorem dX10_count_88 : decode cX10_count 88 = .ok (.getfield 81, 3) := by decide +kernel
theorem dX10_count_91 : decode cX10_count 91 = .ok (.invokevirtual 285, 3) := by decide +kernel
theorem dX10_count_94 : decode cX10_count 94 = .ok (.ireturn, 1) := by decide +kernel
theorem dX10_count_95 : decode cX10_count 95 = .ok (.aload_n 0, 1) := by decide +kernel
theorem dX10_count_96 : decode cX10_count 96 = .ok (.getfield 10, 3) := by decide +kernel
theorem dX10_count_99 : decode cX10_count 99 = .ok (.getfield 115, 3) := by decide +kernel
theorem dX10_count_102 : decode cX10_count 102 = .ok (.ireturn, 1) := by decide +kernel
theorem dX10_count_103 : decode cX10_count 103 = .ok (.iconst (-1), 1) := by decide +kernel
theorem dX10_count_104 : decode cX10_count 104 = .ok (.ireturn, 1) := by decide +kernel
theorem dX10_trouble_0 : decode cX10_trouble 0 = .ok (.aload_n 0, 1) := by decide +kernel
theorem dX10_trouble_1 : decode cX10_trouble 1 = .ok (.getfield 56, 3) := by decide +kernel
theorem dX10_trouble_4 : decode cX10_trouble 4 = .ok (.ireturn, 1) := by decide +kernel
theorem dX10_refuse_0 : decode cX10_refuse 0 = .ok (.aload_n 0, 1) := by decide +kernel
theorem dX10_refuse_1 : decode cX10_refuse 1 = .ok (.iload_n 1, 1) := by decide +kernel
theorem dX10_refuse_2 : decode cX10_refuse 2 = .ok (.putfield 56, 3) := by decide +kernel
theorem dX10_refuse_5 : decode cX10_refuse 5 = .ok (.iconst (-1), 1) := by decide +kernel
theorem dX10_refuse_6 : decode cX10_refuse 6 = .ok (.ireturn, 1) := by decide +kernel
theorem dX10_deny_0 : decode cX10_deny 0 = .ok (.aload_n 0, 1) := by decide +kernel
theorem dX10_deny_1 : decode cX10_deny 1 = .ok (.iload_n 1, 1) := by decide +kernel
theorem dX10_deny_2 : decode cX10_deny 2 = .ok (.putfield 56, 3) := by decide +kernel
theorem dX10_deny_5 : decode cX10_deny 5 = .ok (.iconst 0, 1) := by decide +kernel
theorem dX10_deny_6 : decode cX10_deny 6 = .ok (.ireturn, 1) := by decide +kernel
theorem dX10_grant_0 : decode cX10_grant 0 = .ok (.aload_n 0, 1) := by decide +kernel
theorem dX10_grant_1 : decode cX10_grant 1 = .ok (.iconst 0, 1) := by decide +kernel
theorem dX10_grant_2 : decode cX10_grant 2 = .ok (.putfield 56, 3) := by decide +kernel
theorem dX10_grant_5 : decode cX10_grant 5 = .ok (.iload_n 1, 1) := by decide +kernel
theorem dX10_grant_6 : decode cX10_grant 6 = .ok (.ireturn, 1) := by decide +kernel
theorem dX10_allow_0 : decode cX10_allow 0 = .ok (.aload_n 0, 1) := by decide +kernel
theorem dX10_allow_1 : decode cX10_allow 1 = .ok (.iconst 0, 1) := by decide +kernel
theorem dX10_allow_2 : decode cX10_allow 2 = .ok (.putfield 56, 3) := by decide +kernel
theorem dX10_allow_5 : decode cX10_allow 5 = .ok (.iconst 1, 1) := by decide +kernel
theorem dX10_allow_6 : decode cX10_allow 6 = .ok (.ireturn, 1) := by decide +kernel
theorem dX10_isTeam_0 : decode cX10_isTeam 0 = .ok (.iload_n 1, 1) := by decide +kernel
theorem dX10_isTeam_1 : decode cX10_isTeam 1 = .ok (.ifCond .lt 18, 3) := by decide +kernel
theorem dX10_isTeam_4 : decode cX10_isTeam 4 = .ok (.iload_n 1, 1) := by decide +kernel
theorem dX10_isTeam_5 : decode cX10_isTeam 5 = .ok (.aload_n 0, 1) := by decide +kernel
theorem dX10_isTeam_6 : decode cX10_isTeam 6 = .ok (.getfield 32, 3) := by decide +kernel
theorem dX10_isTeam_9 : decode cX10_isTeam 9 = .ok (.getfield 142, 3) := by decide +kernel
theorem dX10_isTeam_12 : decode cX10_isTeam 12 = .ok (.if_icmp .ge 7, 3) := by decide +kernel
theorem dX10_isTeam_15 : decode cX10_isTeam 15 = .ok (.iconst 1, 1) := by decide +kernel
theorem dX10_isTeam_16 : decode cX10_isTeam 16 = .ok (.goto 4, 3) := by decide +kernel
theorem dX10_isTeam_19 : decode cX10_isTeam 19 = .ok (.iconst 0, 1) := by decide +kernel
theorem dX10_isTeam_20 : decode cX10_isTeam 20 = .ok (.ireturn, 1) := by decide +kernel
theorem dX10_isHome_0 : decode cX10_isHome 0 = .ok (.aload_n 0, 1) := by decide +kernel
theorem dX10_isHome_1 : decode cX10_isHome 1 = .ok (.iload_n 1, 1) := by decide +kernel
theorem dX10_isHome_2 : decode cX10_isHome 2 = .ok (.invokevirtual 153, 3) := by decide +kernel
theorem dX10_isHome_5 : decode cX10_isHome 5 = .ok (.ifCond .eq 23, 3) := by decide +kernel
theorem dX10_isHome_8 : decode cX10_isHome 8 = .ok (.aload_n 0, 1) := by decide +kernel
theorem dX10_isHome_9 : decode cX10_isHome 9 = .ok (.getfield 32, 3) := by decide +kernel
theorem dX10_isHome_12 : decode cX10_isHome 12 = .ok (.getfield 145, 3) := by decide +kernel
theorem dX10_isHome_15 : decode cX10_isHome 15 = .ok (.iload_n 1, 1) := by decide +kernel
theorem dX10_isHome_16 : decode cX10_isHome 16 = .ok (.aaload, 1) := by decide +kernel
theorem dX10_isHome_17 : decode cX10_isHome 17 = .ok (.getfield 179, 3) := by decide +kernel
theorem dX10_isHome_20 : decode cX10_isHome 20 = .ok (.iconst 2, 1) := by decide +kernel
theorem dX10_isHome_21 : decode cX10_isHome 21 = .ok (.if_icmp .ne 7, 3) := by decide +kernel
theorem dX10_isHome_24 : decode cX10_isHome 24 = .ok (.iconst 1, 1) := by decide +kernel
theorem dX10_isHome_25 : decode cX10_isHome 25 = .ok (.goto 4, 3) := by decide +kernel
theorem dX10_isHome_28 : decode cX10_isHome 28 = .ok (.iconst 0, 1) := by decide +kernel
theorem dX10_isHome_29 : decode cX10_isHome 29 = .ok (.ireturn, 1) := by decide +kernel
theorem dX10_isPlan_0 : decode cX10_isPlan 0 = .ok (.iload_n 1, 1) := by decide +kernel
theorem dX10_isPlan_1 : decode cX10_isPlan 1 = .ok (.ifCond .lt 15, 3) := by decide +kernel
theorem dX10_isPlan_4 : decode cX10_isPlan 4 = .ok (.iload_n 1, 1) := by decide +kernel
theorem dX10_isPlan_5 : decode cX10_isPlan 5 = .ok (.aload_n 0, 1) := by decide +kernel
theorem dX10_isPlan_6 : decode cX10_isPlan 6 = .ok (.getfield 52, 3) := by decide +kernel
theorem dX10_isPlan_9 : decode cX10_isPlan 9 = .ok (.if_icmp .ge 7, 3) := by decide +kernel
theorem dX10_isPlan_12 : decode cX10_isPlan 12 = .ok (.iconst 1, 1) := by decide +kernel
theorem dX10_isPlan_13 : decode cX10_isPlan 13 = .ok (.goto 4, 3) := by decide +kernel
theorem dX10_isPlan_16 : decode cX10_isPlan 16 = .ok (.iconst 0, 1) := by decide +kernel
theorem dX10_isPlan_17 : decode cX10_isPlan 17 = .ok (.ireturn, 1) := by decide +kernel
theorem dX10_isLaw_0 : decode cX10_isLaw 0 = .ok (.iload_n 1, 1) := by decide +kernel
theorem dX10_isLaw_1 : decode cX10_isLaw 1 = .ok (.ifCond .lt 18, 3) := by decide +kernel
theorem dX10_isLaw_4 : decode cX10_isLaw 4 = .ok (.iload_n 1, 1) := by decide +kernel
theorem dX10_isLaw_5 : decode cX10_isLaw 5 = .ok (.aload_n 0, 1) := by decide +kernel
theorem dX10_isLaw_6 : decode cX10_isLaw 6 = .ok (.getfield 25, 3) := by decide +kernel
theorem dX10_isLaw_9 : decode cX10_isLaw 9 = .ok (.getfield 130, 3) := by decide +kernel
theorem dX10_isLaw_12 : decode cX10_isLaw 12 = .ok (.if_icmp .ge 7, 3) := by decide +kernel
theorem dX10_isLaw_15 : decode cX10_isLaw 15 = .ok (.iconst 1, 1) := by decide +kernel
theorem dX10_isLaw_16 : decode cX10_isLaw 16 = .ok (.goto 4, 3) := by decide +kernel
theorem dX10_isLaw_19 : decode cX10_isLaw 19 = .ok (.iconst 0, 1) := by decide +kernel
theorem dX10_isLaw_20 : decode cX10_isLaw 20 = .ok (.ireturn, 1) := by decide +kernel
theorem dX10_isPost_0 : decode cX10_isPost 0 = .ok (.iload_n 1, 1) := by decide +kernel
theorem dX10_isPost_1 : decode cX10_isPost 1 = .ok (.ifCond .lt 21, 3) := by decide +kernel
theorem dX10_isPost_4 : decode cX10_isPost 4 = .ok (.iload_n 1, 1) := by decide +kernel
theorem dX10_isPost_5 : decode cX10_isPost 5 = .ok (.aload_n 0, 1) := by decide +kernel
theorem dX10_isPost_6 : decode cX10_isPost 6 = .ok (.getfield 32, 3) := by decide +kernel
theorem dX10_isPost_9 : decode cX10_isPost 9 = .ok (.getfield 81, 3) := by decide +kernel
theorem dX10_isPost_12 : decode cX10_isPost 12 = .ok (.getfield 85, 3) := by decide +kernel
theorem dX10_isPost_15 : decode cX10_isPost 15 = .ok (.if_icmp .gt 7, 3) := by decide +kernel
theorem dX10_isPost_18 : decode cX10_isPost 18 = .ok (.iconst 1, 1) := by decide +kernel
theorem dX10_isPost_19 : decode cX10_isPost 19 = .ok (.goto 4, 3) := by decide +kernel
theorem dX10_isPost_22 : decode cX10_isPost 22 = .ok (.iconst 0, 1) := by decide +kernel
theorem dX10_isPost_23 : decode cX10_isPost 23 = .ok (.ireturn, 1) := by decide +kernel
theorem dX10_within_0 : decode cX10_within 0 = .ok (.iload_n 0, 1) := by decide +kernel
theorem dX10_within_1 : decode cX10_within 1 = .ok (.iload_n 1, 1) := by decide +kernel
theorem dX10_within_2 : decode cX10_within 2 = .ok (.if_icmp .lt 12, 3) := by decide +kernel
theorem dX10_within_5 : decode cX10_within 5 = .ok (.iload_n 0, 1) := by decide +kernel
theorem dX10_within_6 : decode cX10_within 6 = .ok (.iload_n 2, 1) := by decide +kernel
theorem dX10_within_7 : decode cX10_within 7 = .ok (.if_icmp .gt 7, 3) := by decide +kernel
theorem dX10_within_10 : decode cX10_within 10 = .ok (.iconst 1, 1) := by decide +kernel
theorem dX10_within_11 : decode cX10_within 11 = .ok (.goto 4, 3) := by decide +kernel
theorem dX10_within_14 : decode cX10_within 14 = .ok (.iconst 0, 1) := by decide +kernel
theorem dX10_within_15 : decode cX10_within 15 = .ok (.ireturn, 1) := by decide +kernel
theorem dX10_share_0 : decode cX10_share 0 = .ok (.iload_n 1, 1) := by decide +kernel
theorem dX10_share_1 : decode cX10_share 1 = .ok (.ifCond .le 9, 3) := by decide +kernel
theorem dX10_share_4 : decode cX10_share 4 = .ok (.iload_n 0, 1) := by decide +kernel
theorem dX10_share_5 : decode cX10_share 5 = .ok (.iload_n 1, 1) := by decide +kernel
theorem dX10_share_6 : decode cX10_share 6 = .ok (.idiv, 1) := by decide +kernel
theorem dX10_share_7 : decode cX10_share 7 = .ok (.goto 4, 3) := by decide +kernel
theorem dX10_share_10 : decode cX10_share 10 = .ok (.iconst 0, 1) := by decide +kernel
theorem dX10_share_11 : decode cX10_share 11 = .ok (.ireturn, 1) := by decide +kernel
theorem dX10_oneStep_0 : decode cX10_oneStep 0 = .ok (.aload_n 0, 1) := by decide +kernel
theorem dX10_oneStep_1 : decode cX10_oneStep 1 = .ok (.getfield 32, 3) := by decide +kernel
theorem dX10_oneStep_4 : decode cX10_oneStep 4 = .ok (.getfield 70, 3) := by decide +kernel
theorem dX10_oneStep_7 : decode cX10_oneStep 7 = .ok (.istore_n 1, 1) := by decide +kernel
theorem dX10_oneStep_8 : decode cX10_oneStep 8 = .ok (.iconst 0, 1) := by decide +kernel
theorem dX10_oneStep_9 : decode cX10_oneStep 9 = .ok (.istore_n 2, 1) := by decide +kernel
theorem dX10_oneStep_10 : decode cX10_oneStep 10 = .ok (.iload_n 2, 1) := by decide +kernel
theorem dX10_oneStep_11 : decode cX10_oneStep 11 = .ok (.aload_n 0, 1) := by decide +kernel
theorem dX10_oneStep_12 : decode cX10_oneStep 12 = .ok (.getfield 32, 3) := by decide +kernel
theorem dX10_oneStep_15 : decode cX10_oneStep 15 = .ok (.getfield 142, 3) := by decide +kernel
theorem dX10_oneStep_18 : decode cX10_oneStep 18 = .ok (.if_icmp .ge 65, 3) := by decide +kernel
theorem dX10_oneStep_21 : decode cX10_oneStep 21 = .ok (.aload_n 0, 1) := by decide +kernel
theorem dX10_oneStep_22 : decode cX10_oneStep 22 = .ok (.getfield 32, 3) := by decide +kernel
theorem dX10_oneStep_25 : decode cX10_oneStep 25 = .ok (.getfield 145, 3) := by decide +kernel
theorem dX10_oneStep_28 : decode cX10_oneStep 28 = .ok (.iload_n 2, 1) := by decide +kernel
theorem dX10_oneStep_29 : decode cX10_oneStep 29 = .ok (.aaload, 1) := by decide +kernel
theorem dX10_oneStep_30 : decode cX10_oneStep 30 = .ok (.astore_n 3, 1) := by decide +kernel
theorem dX10_oneStep_31 : decode cX10_oneStep 31 = .ok (.aload_n 3, 1) := by decide +kernel
theorem dX10_oneStep_32 : decode cX10_oneStep 32 = .ok (.aload_n 0, 1) := by decide +kernel
theorem dX10_oneStep_33 : decode cX10_oneStep 33 = .ok (.getfield 32, 3) := by decide +kernel
theorem dX10_oneStep_36 : decode cX10_oneStep 36 = .ok (.getfield 81, 3) := by decide +kernel
theorem dX10_oneStep_39 : decode cX10_oneStep 39 = .ok (.aload_n 0, 1) := by decide +kernel
theorem dX10_oneStep_40 : decode cX10_oneStep 40 = .ok (.getfield 18, 3) := by decide +kernel
theorem dX10_oneStep_43 : decode cX10_oneStep 43 = .ok (.aload_n 3, 1) := by decide +kernel
theorem dX10_oneStep_44 : decode cX10_oneStep 44 = .ok (.getfield 159, 3) := by decide +kernel
theorem dX10_oneStep_47 : decode cX10_oneStep 47 = .ok (.aaload, 1) := by decide +kernel
theorem dX10_oneStep_48 : decode cX10_oneStep 48 = .ok (.iload_n 1, 1) := by decide +kernel
theorem dX10_oneStep_49 : decode cX10_oneStep 49 = .ok (.invokevirtual 288, 3) := by decide +kernel
theorem dX10_oneStep_52 : decode cX10_oneStep 52 = .ok (.aload_n 0, 1) := by decide +kernel
theorem dX10_oneStep_53 : decode cX10_oneStep 53 = .ok (.getfield 38, 3) := by decide +kernel
theorem dX10_oneStep_56 : decode cX10_oneStep 56 = .ok (.iload_n 2, 1) := by decide +kernel
theorem dX10_oneStep_57 : decode cX10_oneStep 57 = .ok (.aaload, 1) := by decide +kernel
theorem dX10_oneStep_58 : decode cX10_oneStep 58 = .ok (.aload_n 3, 1) := by decide +kernel
theorem dX10_oneStep_59 : decode cX10_oneStep 59 = .ok (.aload_n 0, 1) := by decide +kernel
theorem dX10_oneStep_60 : decode cX10_oneStep 60 = .ok (.getfield 32, 3) := by decide +kernel
theorem dX10_oneStep_63 : decode cX10_oneStep 63 = .ok (.getfield 81, 3) := by decide +kernel
theorem dX10_oneStep_66 : decode cX10_oneStep 66 = .ok (.iload_n 1, 1) := by decide +kernel
theorem dX10_oneStep_67 : decode cX10_oneStep 67 = .ok (.aload_n 0, 1) := by decide +kernel
theorem dX10_oneStep_68 : decode cX10_oneStep 68 = .ok (.getfield 32, 3) := by decide +kernel
theorem dX10_oneStep_71 : decode cX10_oneStep 71 = .ok (.getfield 170, 3) := by decide +kernel
theorem dX10_oneStep_74 : decode cX10_oneStep 74 = .ok (.invokevirtual 292, 3) := by decide +kernel
theorem dX10_oneStep_77 : decode cX10_oneStep 77 = .ok (.iinc 2 1, 3) := by decide +kernel
theorem dX10_oneStep_80 : decode cX10_oneStep 80 = .ok (.goto (-70), 3) := by decide +kernel
theorem dX10_oneStep_83 : decode cX10_oneStep 83 = .ok (.aload_n 0, 1) := by decide +kernel
theorem dX10_oneStep_84 : decode cX10_oneStep 84 = .ok (.getfield 32, 3) := by decide +kernel
theorem dX10_oneStep_87 : decode cX10_oneStep 87 = .ok (.iload_n 1, 1) := by decide +kernel
theorem dX10_oneStep_88 : decode cX10_oneStep 88 = .ok (.iconst 1, 1) := by decide +kernel
theorem dX10_oneStep_89 : decode cX10_oneStep 89 = .ok (.iadd, 1) := by decide +kernel
theorem dX10_oneStep_90 : decode cX10_oneStep 90 = .ok (.putfield 70, 3) := by decide +kernel
theorem dX10_oneStep_93 : decode cX10_oneStep 93 = .ok (.return_, 1) := by decide +kernel
theorem dX10_isAhead_0 : decode cX10_isAhead 0 = .ok (.aload_n 0, 1) := by decide +kernel
theorem dX10_isAhead_1 : decode cX10_isAhead 1 = .ok (.iload_n 1, 1) := by decide +kernel
theorem dX10_isAhead_2 : decode cX10_isAhead 2 = .ok (.invokevirtual 296, 3) := by decide +kernel
theorem dX10_isAhead_5 : decode cX10_isAhead 5 = .ok (.aload_n 0, 1) := by decide +kernel
theorem dX10_isAhead_6 : decode cX10_isAhead 6 = .ok (.iload_n 2, 1) := by decide +kernel
theorem dX10_isAhead_7 : decode cX10_isAhead 7 = .ok (.invokevirtual 296, 3) := by decide +kernel
theorem dX10_isAhead_10 : decode cX10_isAhead 10 = .ok (.invokestatic 299, 3) := by decide +kernel
theorem dX10_isAhead_13 : decode cX10_isAhead 13 = .ok (.istore_n 3, 1) := by decide +kernel
theorem dX10_isAhead_14 : decode cX10_isAhead 14 = .ok (.iload_n 3, 1) := by decide +kernel
theorem dX10_isAhead_15 : decode cX10_isAhead 15 = .ok (.ifCond .eq 13, 3) := by decide +kernel
theorem dX10_isAhead_18 : decode cX10_isAhead 18 = .ok (.iload_n 3, 1) := by decide +kernel
theorem dX10_isAhead_19 : decode cX10_isAhead 19 = .ok (.ifCond .ge 7, 3) := by decide +kernel
theorem dX10_isAhead_22 : decode cX10_isAhead 22 = .ok (.iconst 1, 1) := by decide +kernel
theorem dX10_isAhead_23 : decode cX10_isAhead 23 = .ok (.goto 4, 3) := by decide +kernel
theorem dX10_isAhead_26 : decode cX10_isAhead 26 = .ok (.iconst 0, 1) := by decide +kernel
theorem dX10_isAhead_27 : decode cX10_isAhead 27 = .ok (.ireturn, 1) := by decide +kernel
theorem dX10_isAhead_28 : decode cX10_isAhead 28 = .ok (.aload_n 0, 1) := by decide +kernel
theorem dX10_isAhead_29 : decode cX10_isAhead 29 = .ok (.iload_n 1, 1) := by decide +kernel
theorem dX10_isAhead_30 : decode cX10_isAhead 30 = .ok (.invokevirtual 304, 3) := by decide +kernel
theorem dX10_isAhead_33 : decode cX10_isAhead 33 = .ok (.aload_n 0, 1) := by decide +kernel
theorem dX10_isAhead_34 : decode cX10_isAhead 34 = .ok (.iload_n 2, 1) := by decide +kernel
theorem dX10_isAhead_35 : decode cX10_isAhead 35 = .ok (.invokevirtual 304, 3) := by decide +kernel
theorem dX10_isAhead_38 : decode cX10_isAhead 38 = .ok (.invokestatic 299, 3) := by decide +kernel
theorem dX10_isAhead_41 : decode cX10_isAhead 41 = .ok (.istore 4, 2) := by decide +kernel
theorem dX10_isAhead_43 : decode cX10_isAhead 43 = .ok (.iload 4, 2) := by decide +kernel
theorem dX10_isAhead_45 : decode cX10_isAhead 45 = .ok (.ifCond .eq 16, 3) := by decide +kernel
theorem dX10_isAhead_48 : decode cX10_isAhead 48 = .ok (.iload 4, 2) := by decide +kernel
theorem dX10_isAhead_50 : decode cX10_isAhead 50 = .ok (.ifCond .ge 7, 3) := by decide +kernel
theorem dX10_isAhead_53 : decode cX10_isAhead 53 = .ok (.iconst 1, 1) := by decide +kernel
theorem dX10_isAhead_54 : decode cX10_isAhead 54 = .ok (.goto 17, 3) := by decide +kernel
theorem dX10_isAhead_57 : decode cX10_isAhead 57 = .ok (.iconst 0, 1) := by decide +kernel
theorem dX10_isAhead_58 : decode cX10_isAhead 58 = .ok (.goto 13, 3) := by decide +kernel
theorem dX10_isAhead_61 : decode cX10_isAhead 61 = .ok (.iload_n 1, 1) := by decide +kernel
theorem dX10_isAhead_62 : decode cX10_isAhead 62 = .ok (.iload_n 2, 1) := by decide +kernel
theorem dX10_isAhead_63 : decode cX10_isAhead 63 = .ok (.if_icmp .ge 7, 3) := by decide +kernel
theorem dX10_isAhead_66 : decode cX10_isAhead 66 = .ok (.iconst 1, 1) := by decide +kernel
theorem dX10_isAhead_67 : decode cX10_isAhead 67 = .ok (.goto 4, 3) := by decide +kernel
theorem dX10_isAhead_70 : decode cX10_isAhead 70 = .ok (.iconst 0, 1) := by decide +kernel
theorem dX10_isAhead_71 : decode cX10_isAhead 71 = .ok (.ireturn, 1) := by decide +kernel
theorem dX10_groupOf_0 : decode cX10_groupOf 0 = .ok (.aload_n 0, 1) := by decide +kernel
theorem dX10_groupOf_1 : decode cX10_groupOf 1 = .ok (.getfield 32, 3) := by decide +kernel
theorem dX10_groupOf_4 : decode cX10_groupOf 4 = .ok (.getfield 145, 3) := by decide +kernel
theorem dX10_groupOf_7 : decode cX10_groupOf 7 = .ok (.iload_n 1, 1) := by decide +kernel
theorem dX10_groupOf_8 : decode cX10_groupOf 8 = .ok (.aaload, 1) := by decide +kernel
theorem dX10_groupOf_9 : decode cX10_groupOf 9 = .ok (.getfield 179, 3) := by decide +kernel
theorem dX10_groupOf_12 : decode cX10_groupOf 12 = .ok (.tableswitch 34 0 2 #[32, 30, 28], 28) := by decide +kernel
theorem dX10_groupOf_40 : decode cX10_groupOf 40 = .ok (.iconst 0, 1) := by decide +kernel
theorem dX10_groupOf_41 : decode cX10_groupOf 41 = .ok (.ireturn, 1) := by decide +kernel
theorem dX10_groupOf_42 : decode cX10_groupOf 42 = .ok (.iconst 1, 1) := by decide +kernel
theorem dX10_groupOf_43 : decode cX10_groupOf 43 = .ok (.ireturn, 1) := by decide +kernel
theorem dX10_groupOf_44 : decode cX10_groupOf 44 = .ok (.iconst 2, 1) := by decide +kernel
theorem dX10_groupOf_45 : decode cX10_groupOf 45 = .ok (.ireturn, 1) := by decide +kernel
theorem dX10_groupOf_46 : decode cX10_groupOf 46 = .ok (.iconst 3, 1) := by decide +kernel
theorem dX10_groupOf_47 : decode cX10_groupOf 47 = .ok (.ireturn, 1) := by decide +kernel
theorem dX10_valueInGroup_0 : decode cX10_valueInGroup 0 = .ok (.aload_n 0, 1) := by decide +kernel
theorem dX10_valueInGroup_1 : decode cX10_valueInGroup 1 = .ok (.getfield 32, 3) := by decide +kernel
theorem dX10_valueInGroup_4 : decode cX10_valueInGroup 4 = .ok (.getfield 145, 3) := by decide +kernel
theorem dX10_valueInGroup_7 : decode cX10_valueInGroup 7 = .ok (.iload_n 1, 1) := by decide +kernel
theorem dX10_valueInGroup_8 : decode cX10_valueInGroup 8 = .ok (.aaload, 1) := by decide +kernel
theorem dX10_valueInGroup_9 : decode cX10_valueInGroup 9 = .ok (.astore_n 2, 1) := by decide +kernel
theorem dX10_valueInGroup_10 : decode cX10_valueInGroup 10 = .ok (.aload_n 2, 1) := by decide +kernel
theorem dX10_valueInGroup_11 : decode cX10_valueInGroup 11 = .ok (.getfield 179, 3) := by decide +kernel
theorem dX10_valueInGroup_14 : decode cX10_valueInGroup 14 = .ok (.lookupswitch 58 #[(1, 45), (2, 26)], 26) := by decide +kernel
theorem dX10_valueInGroup_40 : decode cX10_valueInGroup 40 = .ok (.aload_n 0, 1) := by decide +kernel
theorem dX10_valueInGroup_41 : decode cX10_valueInGroup 41 = .ok (.getfield 25, 3) := by decide +kernel
theorem dX10_valueInGroup_44 : decode cX10_valueInGroup 44 = .ok (.aload_n 2, 1) := by decide +kernel
theorem dX10_valueInGroup_45 : decode cX10_valueInGroup 45 = .ok (.aload_n 0, 1) := by decide +kernel
theorem dX10_valueInGroup_46 : decode cX10_valueInGroup 46 = .ok (.getfield 32, 3) := by decide +kernel
theorem dX10_valueInGroup_49 : decode cX10_valueInGroup 49 = .ok (.getfield 81, 3) := by decide +kernel
theorem dX10_valueInGroup_52 : decode cX10_valueInGroup 52 = .ok (.getfield 85, 3) := by decide +kernel
theorem dX10_valueInGroup_55 : decode cX10_valueInGroup 55 = .ok (.invokevirtual 245, 3) := by decide +kernel
theorem dX10_valueInGroup_58 : decode cX10_valueInGroup 58 = .ok (.ireturn, 1) := by decide +kernel
theorem dX10_valueInGroup_59 : decode cX10_valueInGroup 59 = .ok (.aload_n 2, 1) := by decide +kernel
theorem dX10_valueInGroup_60 : decode cX10_valueInGroup 60 = .ok (.aload_n 0, 1) := by decide +kernel
theorem dX10_valueInGroup_61 : decode cX10_valueInGroup 61 = .ok (.getfield 32, 3) := by decide +kernel
theorem dX10_valueInGroup_64 : decode cX10_valueInGroup 64 = .ok (.getfield 81, 3) := by decide +kernel
theorem dX10_valueInGroup_67 : decode cX10_valueInGroup 67 = .ok (.invokevirtual 188, 3) := by decide +kernel
theorem dX10_valueInGroup_70 : decode cX10_valueInGroup 70 = .ok (.ineg, 1) := by decide +kernel
theorem dX10_valueInGroup_71 : decode cX10_valueInGroup 71 = .ok (.ireturn, 1) := by decide +kernel
theorem dX10_valueInGroup_72 : decode cX10_valueInGroup 72 = .ok (.iconst 0, 1) := by decide +kernel
theorem dX10_valueInGroup_73 : decode cX10_valueInGroup 73 = .ok (.ireturn, 1) := by decide +kernel
theorem dX10_leastWay_0 : decode cX10_leastWay 0 = .ok (.aload_n 0, 1) := by decide +kernel
theorem dX10_leastWay_1 : decode cX10_leastWay 1 = .ok (.getfield 38, 3) := by decide +kernel
theorem dX10_leastWay_4 : decode cX10_leastWay 4 = .ok (.iload_n 1, 1) := by decide +kernel
theorem dX10_leastWay_5 : decode cX10_leastWay 5 = .ok (.aaload, 1) := by decide +kernel
theorem dX10_leastWay_6 : decode cX10_leastWay 6 = .ok (.astore_n 3, 1) := by decide +kernel
theorem dX10_leastWay_7 : decode cX10_leastWay 7 = .ok (.aload_n 0, 1) := by decide +kernel
theorem dX10_leastWay_8 : decode cX10_leastWay 8 = .ok (.getfield 32, 3) := by decide +kernel
theorem dX10_leastWay_11 : decode cX10_leastWay 11 = .ok (.getfield 170, 3) := by decide +kernel
theorem dX10_leastWay_14 : decode cX10_leastWay 14 = .ok (.istore 4, 2) := by decide +kernel
theorem dX10_leastWay_16 : decode cX10_leastWay 16 = .ok (.aload_n 3, 1) := by decide +kernel
theorem dX10_leastWay_17 : decode cX10_leastWay 17 = .ok (.iload 4, 2) := by decide +kernel
theorem dX10_leastWay_19 : decode cX10_leastWay 19 = .ok (.iload_n 2, 1) := by decide +kernel
theorem dX10_leastWay_20 : decode cX10_leastWay 20 = .ok (.invokevirtual 307, 3) := by decide +kernel
theorem dX10_leastWay_23 : decode cX10_leastWay 23 = .ok (.istore 5, 2) := by decide +kernel
theorem dX10_leastWay_25 : decode cX10_leastWay 25 = .ok (.aload_n 3, 1) := by decide +kernel
theorem dX10_leastWay_26 : decode cX10_leastWay 26 = .ok (.iload 4, 2) := by decide +kernel
theorem dX10_leastWay_28 : decode cX10_leastWay 28 = .ok (.iload_n 2, 1) := by decide +kernel
theorem dX10_leastWay_29 : decode cX10_leastWay 29 = .ok (.aload_n 0, 1) := by decide +kernel
theorem dX10_leastWay_30 : decode cX10_leastWay 30 = .ok (.getfield 32, 3) := by decide +kernel
theorem dX10_leastWay_33 : decode cX10_leastWay 33 = .ok (.getfield 70, 3) := by decide +kernel
theorem dX10_leastWay_36 : decode cX10_leastWay 36 = .ok (.invokevirtual 310, 3) := by decide +kernel
theorem dX10_leastWay_39 : decode cX10_leastWay 39 = .ok (.istore 6, 2) := by decide +kernel
theorem dX10_leastWay_41 : decode cX10_leastWay 41 = .ok (.iload 5, 2) := by decide +kernel
theorem dX10_leastWay_43 : decode cX10_leastWay 43 = .ok (.iconst (-1), 1) := by decide +kernel
theorem dX10_leastWay_44 : decode cX10_leastWay 44 = .ok (.if_icmp .ne 7, 3) := by decide +kernel
theorem dX10_leastWay_47 : decode cX10_leastWay 47 = .ok (.iconst 0, 1) := by decide +kernel
theorem dX10_leastWay_48 : decode cX10_leastWay 48 = .ok (.goto 10, 3) := by decide +kernel
theorem dX10_leastWay_51 : decode cX10_leastWay 51 = .ok (.aload_n 3, 1) := by decide +kernel
theorem dX10_leastWay_52 : decode cX10_leastWay 52 = .ok (.getfield 314, 3) := by decide +kernel
theorem dX10_leastWay_55 : decode cX10_leastWay 55 = .ok (.iload 5, 2) := by decide +kernel
theorem dX10_leastWay_57 : decode cX10_leastWay 57 = .ok (.iaload, 1) := by decide +kernel
theorem dX10_leastWay_58 : decode cX10_leastWay 58 = .ok (.istore 7, 2) := by decide +kernel
theorem dX10_leastWay_60 : decode cX10_leastWay 60 = .ok (.iload 6, 2) := by decide +kernel
theorem dX10_leastWay_62 : decode cX10_leastWay 62 = .ok (.iconst (-1), 1) := by decide +kernel
theorem dX10_leastWay_63 : decode cX10_leastWay 63 = .ok (.if_icmp .ne 6, 3) := by decide +kernel
theorem dX10_leastWay_66 : decode cX10_leastWay 66 = .ok (.iload 7, 2) := by decide +kernel
theorem dX10_leastWay_68 : decode cX10_leastWay 68 = .ok (.ireturn, 1) := by decide +kernel
theorem dX10_leastWay_69 : decode cX10_leastWay 69 = .ok (.iload 7, 2) := by decide +kernel
theorem dX10_leastWay_71 : decode cX10_leastWay 71 = .ok (.aload_n 3, 1) := by decide +kernel
theorem dX10_leastWay_72 : decode cX10_leastWay 72 = .ok (.getfield 314, 3) := by decide +kernel
theorem dX10_leastWay_75 : decode cX10_leastWay 75 = .ok (.iload 6, 2) := by decide +kernel
theorem dX10_leastWay_77 : decode cX10_leastWay 77 = .ok (.iaload, 1) := by decide +kernel
theorem dX10_leastWay_78 : decode cX10_leastWay 78 = .ok (.bipush 60, 2) := by decide +kernel
theorem dX10_leastWay_80 : decode cX10_leastWay 80 = .ok (.iload 6, 2) := by decide +kernel
theorem dX10_leastWay_82 : decode cX10_leastWay 82 = .ok (.iload 4, 2) := by decide +kernel
theorem dX10_leastWay_84 : decode cX10_leastWay 84 = .ok (.imul, 1) := by decide +kernel
theorem dX10_leastWay_85 : decode cX10_leastWay 85 = .ok (.iload_n 2, 1) := by decide +kernel
theorem dX10_leastWay_86 : decode cX10_leastWay 86 = .ok (.isub, 1) := by decide +kernel
theorem dX10_leastWay_87 : decode cX10_leastWay 87 = .ok (.imul, 1) := by decide +kernel
theorem dX10_leastWay_88 : decode cX10_leastWay 88 = .ok (.isub, 1) := by decide +kernel
theorem dX10_leastWay_89 : decode cX10_leastWay 89 = .ok (.invokestatic 101, 3) := by decide +kernel
theorem dX10_leastWay_92 : decode cX10_leastWay 92 = .ok (.ireturn, 1) := by decide +kernel
theorem dX10_greatestWay_0 : decode cX10_greatestWay 0 = .ok (.aload_n 0, 1) := by decide +kernel
theorem dX10_greatestWay_1 : decode cX10_greatestWay 1 = .ok (.getfield 38, 3) := by decide +kernel
theorem dX10_greatestWay_4 : decode cX10_greatestWay 4 = .ok (.iload_n 1, 1) := by decide +kernel
theorem dX10_greatestWay_5 : decode cX10_greatestWay 5 = .ok (.aaload, 1) := by decide +kernel
theorem dX10_greatestWay_6 : decode cX10_greatestWay 6 = .ok (.astore_n 3, 1) := by decide +kernel
theorem dX10_greatestWay_7 : decode cX10_greatestWay 7 = .ok (.aload_n 0, 1) := by decide +kernel
theorem dX10_greatestWay_8 : decode cX10_greatestWay 8 = .ok (.getfield 32, 3) := by decide +kernel
theorem dX10_greatestWay_11 : decode cX10_greatestWay 11 = .ok (.getfield 170, 3) := by decide +kernel
theorem dX10_greatestWay_14 : decode cX10_greatestWay 14 = .ok (.istore 4, 2) := by decide +kernel
theorem dX10_greatestWay_16 : decode cX10_greatestWay 16 = .ok (.aload_n 3, 1) := by decide +kernel
theorem dX10_greatestWay_17 : decode cX10_greatestWay 17 = .ok (.iload 4, 2) := by decide +kernel
theorem dX10_greatestWay_19 : decode cX10_greatestWay 19 = .ok (.iload_n 2, 1) := by decide +kernel
theorem dX10_greatestWay_20 : decode cX10_greatestWay 20 = .ok (.invokevirtual 307, 3) := by decide +kernel
theorem dX10_greatestWay_23 : decode cX10_greatestWay 23 = .ok (.istore 5, 2) := by decide +kernel
theorem dX10_greatestWay_25 : decode cX10_greatestWay 25 = .ok (.aload_n 3, 1) := by decide +kernel
theorem dX10_greatestWay_26 : decode cX10_greatestWay 26 = .ok (.iload 4, 2) := by decide +kernel
theorem dX10_greatestWay_28 : decode cX10_greatestWay 28 = .ok (.iload_n 2, 1) := by decide +kernel
theorem dX10_greatestWay_29 : decode cX10_greatestWay 29 = .ok (.aload_n 0, 1) := by decide +kernel
theorem dX10_greatestWay_30 : decode cX10_greatestWay 30 = .ok (.getfield 32, 3) := by decide +kernel
theorem dX10_greatestWay_33 : decode cX10_greatestWay 33 = .ok (.getfield 70, 3) := by decide +kernel
theorem dX10_greatestWay_36 : decode cX10_greatestWay 36 = .ok (.invokevirtual 310, 3) := by decide +kernel
theorem dX10_greatestWay_39 : decode cX10_greatestWay 39 = .ok (.istore 6, 2) := by decide +kernel
theorem dX10_greatestWay_41 : decode cX10_greatestWay 41 = .ok (.iload 6, 2) := by decide +kernel
theorem dX10_greatestWay_43 : decode cX10_greatestWay 43 = .ok (.iconst (-1), 1) := by decide +kernel
theorem dX10_greatestWay_44 : decode cX10_greatestWay 44 = .ok (.if_icmp .ne 16, 3) := by decide +kernel
theorem dX10_greatestWay_47 : decode cX10_greatestWay 47 = .ok (.aload_n 0, 1) := by decide +kernel
theorem dX10_greatestWay_48 : decode cX10_greatestWay 48 = .ok (.getfield 32, 3) := by decide +kernel
theorem dX10_greatestWay_51 : decode cX10_greatestWay 51 = .ok (.getfield 81, 3) := by decide +kernel
theorem dX10_greatestWay_54 : decode cX10_greatestWay 54 = .ok (.invokevirtual 285, 3) := by decide +kernel
theorem dX10_greatestWay_57 : decode cX10_greatestWay 57 = .ok (.goto 10, 3) := by decide +kernel
theorem dX10_greatestWay_60 : decode cX10_greatestWay 60 = .ok (.aload_n 3, 1) := by decide +kernel
theorem dX10_greatestWay_61 : decode cX10_greatestWay 61 = .ok (.getfield 314, 3) := by decide +kernel
theorem dX10_greatestWay_64 : decode cX10_greatestWay 64 = .ok (.iload 6, 2) := by decide +kernel
theorem dX10_greatestWay_66 : decode cX10_greatestWay 66 = .ok (.iaload, 1) := by decide +kernel
theorem dX10_greatestWay_67 : decode cX10_greatestWay 67 = .ok (.istore 7, 2) := by decide +kernel
theorem dX10_greatestWay_69 : decode cX10_greatestWay 69 = .ok (.iload 5, 2) := by decide +kernel
theorem dX10_greatestWay_71 : decode cX10_greatestWay 71 = .ok (.iconst (-1), 1) := by decide +kernel
theorem dX10_greatestWay_72 : decode cX10_greatestWay 72 = .ok (.if_icmp .ne 36, 3) := by decide +kernel
theorem dX10_greatestWay_75 : decode cX10_greatestWay 75 = .ok (.iconst 0, 1) := by decide +kernel
theorem dX10_greatestWay_76 : decode cX10_greatestWay 76 = .ok (.iload_n 2, 1) := by decide +kernel
theorem dX10_greatestWay_77 : decode cX10_greatestWay 77 = .ok (.aload_n 0, 1) := by decide +kernel
theorem dX10_greatestWay_78 : decode cX10_greatestWay 78 = .ok (.getfield 32, 3) := by decide +kernel
theorem dX10_greatestWay_81 : decode cX10_greatestWay 81 = .ok (.getfield 145, 3) := by decide +kernel
theorem dX10_greatestWay_84 : decode cX10_greatestWay 84 = .ok (.iload_n 1, 1) := by decide +kernel
theorem dX10_greatestWay_85 : decode cX10_greatestWay 85 = .ok (.aaload, 1) := by decide +kernel
theorem dX10_greatestWay_86 : decode cX10_greatestWay 86 = .ok (.getfield 218, 3) := by decide +kernel
theorem dX10_greatestWay_89 : decode cX10_greatestWay 89 = .ok (.isub, 1) := by decide +kernel
theorem dX10_greatestWay_90 : decode cX10_greatestWay 90 = .ok (.iconst 1, 1) := by decide +kernel
theorem dX10_greatestWay_91 : decode cX10_greatestWay 91 = .ok (.iadd, 1) := by decide +kernel
theorem dX10_greatestWay_92 : decode cX10_greatestWay 92 = .ok (.invokestatic 101, 3) := by decide +kernel
theorem dX10_greatestWay_95 : decode cX10_greatestWay 95 = .ok (.istore 8, 2) := by decide +kernel
theorem dX10_greatestWay_97 : decode cX10_greatestWay 97 = .ok (.iload 7, 2) := by decide +kernel
theorem dX10_greatestWay_99 : decode cX10_greatestWay 99 = .ok (.bipush 60, 2) := by decide +kernel
theorem dX10_greatestWay_101 : decode cX10_greatestWay 101 = .ok (.iload 8, 2) := by decide +kernel
theorem dX10_greatestWay_103 : decode cX10_greatestWay 103 = .ok (.imul, 1) := by decide +kernel
theorem dX10_greatestWay_104 : decode cX10_greatestWay 104 = .ok (.invokestatic 317, 3) := by decide +kernel
theorem dX10_greatestWay_107 : decode cX10_greatestWay 107 = .ok (.ireturn, 1) := by decide +kernel
theorem dX10_greatestWay_108 : decode cX10_greatestWay 108 = .ok (.iload 7, 2) := by decide +kernel
theorem dX10_greatestWay_110 : decode cX10_greatestWay 110 = .ok (.aload_n 3, 1) := by decide +kernel
theorem dX10_greatestWay_111 : decode cX10_greatestWay 111 = .ok (.getfield 314, 3) := by decide +kernel
theorem dX10_greatestWay_114 : decode cX10_greatestWay 114 = .ok (.iload 5, 2) := by decide +kernel
theorem dX10_greatestWay_116 : decode cX10_greatestWay 116 = .ok (.iaload, 1) := by decide +kernel
theorem dX10_greatestWay_117 : decode cX10_greatestWay 117 = .ok (.bipush 60, 2) := by decide +kernel
theorem dX10_greatestWay_119 : decode cX10_greatestWay 119 = .ok (.iload_n 2, 1) := by decide +kernel
theorem dX10_greatestWay_120 : decode cX10_greatestWay 120 = .ok (.iload 5, 2) := by decide +kernel
theorem dX10_greatestWay_122 : decode cX10_greatestWay 122 = .ok (.iload 4, 2) := by decide +kernel
theorem dX10_greatestWay_124 : decode cX10_greatestWay 124 = .ok (.imul, 1) := by decide +kernel
theorem dX10_greatestWay_125 : decode cX10_greatestWay 125 = .ok (.isub, 1) := by decide +kernel
theorem dX10_greatestWay_126 : decode cX10_greatestWay 126 = .ok (.imul, 1) := by decide +kernel
theorem dX10_greatestWay_127 : decode cX10_greatestWay 127 = .ok (.iadd, 1) := by decide +kernel
theorem dX10_greatestWay_128 : decode cX10_greatestWay 128 = .ok (.invokestatic 317, 3) := by decide +kernel
theorem dX10_greatestWay_131 : decode cX10_greatestWay 131 = .ok (.ireturn, 1) := by decide +kernel
theorem dX10_bringGhost_0 : decode cX10_bringGhost 0 = .ok (.iload_n 1, 1) := by decide +kernel
theorem dX10_bringGhost_1 : decode cX10_bringGhost 1 = .ok (.aload_n 0, 1) := by decide +kernel
theorem dX10_bringGhost_2 : decode cX10_bringGhost 2 = .ok (.getfield 59, 3) := by decide +kernel
theorem dX10_bringGhost_5 : decode cX10_bringGhost 5 = .ok (.if_icmp .ne 11, 3) := by decide +kernel
theorem dX10_bringGhost_8 : decode cX10_bringGhost 8 = .ok (.iload_n 2, 1) := by decide +kernel
theorem dX10_bringGhost_9 : decode cX10_bringGhost 9 = .ok (.aload_n 0, 1) := by decide +kernel
theorem dX10_bringGhost_10 : decode cX10_bringGhost 10 = .ok (.getfield 62, 3) := by decide +kernel
theorem dX10_bringGhost_13 : decode cX10_bringGhost 13 = .ok (.if_icmp .eq 35, 3) := by decide +kernel
theorem dX10_bringGhost_16 : decode cX10_bringGhost 16 = .ok (.aload_n 0, 1) := by decide +kernel
theorem dX10_bringGhost_17 : decode cX10_bringGhost 17 = .ok (.getfield 32, 3) := by decide +kernel
theorem dX10_bringGhost_20 : decode cX10_bringGhost 20 = .ok (.getfield 145, 3) := by decide +kernel
theorem dX10_bringGhost_23 : decode cX10_bringGhost 23 = .ok (.iload_n 1, 1) := by decide +kernel
theorem dX10_bringGhost_24 : decode cX10_bringGhost 24 = .ok (.aaload, 1) := by decide +kernel
theorem dX10_bringGhost_25 : decode cX10_bringGhost 25 = .ok (.aload_n 0, 1) := by decide +kernel
theorem dX10_bringGhost_26 : decode cX10_bringGhost 26 = .ok (.getfield 45, 3) := by decide +kernel
theorem dX10_bringGhost_29 : decode cX10_bringGhost 29 = .ok (.iload_n 2, 1) := by decide +kernel
theorem dX10_bringGhost_30 : decode cX10_bringGhost 30 = .ok (.invokevirtual 320, 3) := by decide +kernel
theorem dX10_bringGhost_33 : decode cX10_bringGhost 33 = .ok (.aload_n 0, 1) := by decide +kernel
theorem dX10_bringGhost_34 : decode cX10_bringGhost 34 = .ok (.iload_n 1, 1) := by decide +kernel
theorem dX10_bringGhost_35 : decode cX10_bringGhost 35 = .ok (.putfield 59, 3) := by decide +kernel
theorem dX10_bringGhost_38 : decode cX10_bringGhost 38 = .ok (.aload_n 0, 1) := by decide +kernel
theorem dX10_bringGhost_39 : decode cX10_bringGhost 39 = .ok (.iload_n 2, 1) := by decide +kernel
theorem dX10_bringGhost_40 : decode cX10_bringGhost 40 = .ok (.putfield 62, 3) := by decide +kernel
theorem dX10_bringGhost_43 : decode cX10_bringGhost 43 = .ok (.aload_n 0, 1) := by decide +kernel
theorem dX10_bringGhost_44 : decode cX10_bringGhost 44 = .ok (.iconst 0, 1) := by decide +kernel
theorem dX10_bringGhost_45 : decode cX10_bringGhost 45 = .ok (.putfield 65, 3) := by decide +kernel
theorem dX10_bringGhost_48 : decode cX10_bringGhost 48 = .ok (.aload_n 0, 1) := by decide +kernel
theorem dX10_bringGhost_49 : decode cX10_bringGhost 49 = .ok (.getfield 65, 3) := by decide +kernel
theorem dX10_bringGhost_52 : decode cX10_bringGhost 52 = .ok (.aload_n 0, 1) := by decide +kernel
theorem dX10_bringGhost_53 : decode cX10_bringGhost 53 = .ok (.getfield 32, 3) := by decide +kernel
theorem dX10_bringGhost_56 : decode cX10_bringGhost 56 = .ok (.getfield 70, 3) := by decide +kernel
theorem dX10_bringGhost_59 : decode cX10_bringGhost 59 = .ok (.if_icmp .ge 40, 3) := by decide +kernel
theorem dX10_bringGhost_62 : decode cX10_bringGhost 62 = .ok (.aload_n 0, 1) := by decide +kernel
theorem dX10_bringGhost_63 : decode cX10_bringGhost 63 = .ok (.getfield 45, 3) := by decide +kernel
theorem dX10_bringGhost_66 : decode cX10_bringGhost 66 = .ok (.aload_n 0, 1) := by decide +kernel
theorem dX10_bringGhost_67 : decode cX10_bringGhost 67 = .ok (.getfield 32, 3) := by decide +kernel
theorem dX10_bringGhost_70 : decode cX10_bringGhost 70 = .ok (.getfield 81, 3) := by decide +kernel
theorem dX10_bringGhost_73 : decode cX10_bringGhost 73 = .ok (.aload_n 0, 1) := by decide +kernel
theorem dX10_bringGhost_74 : decode cX10_bringGhost 74 = .ok (.getfield 18, 3) := by decide +kernel
theorem dX10_bringGhost_77 : decode cX10_bringGhost 77 = .ok (.iload_n 2, 1) := by decide +kernel
theorem dX10_bringGhost_78 : decode cX10_bringGhost 78 = .ok (.aaload, 1) := by decide +kernel
theorem dX10_bringGhost_79 : decode cX10_bringGhost 79 = .ok (.aload_n 0, 1) := by decide +kernel
theorem dX10_bringGhost_80 : decode cX10_bringGhost 80 = .ok (.getfield 65, 3) := by decide +kernel
theorem dX10_bringGhost_83 : decode cX10_bringGhost 83 = .ok (.invokevirtual 288, 3) := by decide +kernel
theorem dX10_bringGhost_86 : decode cX10_bringGhost 86 = .ok (.aload_n 0, 1) := by decide +kernel
theorem dX10_bringGhost_87 : decode cX10_bringGhost 87 = .ok (.dup, 1) := by decide +kernel
theorem dX10_bringGhost_88 : decode cX10_bringGhost 88 = .ok (.getfield 65, 3) := by decide +kernel
theorem dX10_bringGhost_91 : decode cX10_bringGhost 91 = .ok (.iconst 1, 1) := by decide +kernel
theorem dX10_bringGhost_92 : decode cX10_bringGhost 92 = .ok (.iadd, 1) := by decide +kernel
theorem dX10_bringGhost_93 : decode cX10_bringGhost 93 = .ok (.putfield 65, 3) := by decide +kernel
theorem dX10_bringGhost_96 : decode cX10_bringGhost 96 = .ok (.goto (-48), 3) := by decide +kernel
theorem dX10_bringGhost_99 : decode cX10_bringGhost 99 = .ok (.return_, 1) := by decide +kernel
end
section
theorem dX13_refused_0 : decode cX13_refused 0 = .ok (.aload_n 0, 1) := by decide +kernel
theorem dX13_refused_1 : decode cX13_refused 1 = .ok (.iload_n 1, 1) := by decide +kernel
theorem dX13_refused_2 : decode cX13_refused 2 = .ok (.putfield 7, 3) := by decide +kernel
theorem dX13_refused_5 : decode cX13_refused 5 = .ok (.aload_n 0, 1) := by decide +kernel
theorem dX13_refused_6 : decode cX13_refused 6 = .ok (.iconst (-1), 1) := by decide +kernel
theorem dX13_refused_7 : decode cX13_refused 7 = .ok (.putfield 10, 3) := by decide +kernel
theorem dX13_refused_10 : decode cX13_refused 10 = .ok (.iconst (-1), 1) := by decide +kernel
theorem dX13_refused_11 : decode cX13_refused 11 = .ok (.ireturn, 1) := by decide +kernel
theorem dX13_done_0 : decode cX13_done 0 = .ok (.aload_n 0, 1) := by decide +kernel
theorem dX13_done_1 : decode cX13_done 1 = .ok (.iconst 0, 1) := by decide +kernel
theorem dX13_done_2 : decode cX13_done 2 = .ok (.putfield 7, 3) := by decide +kernel
theorem dX13_done_5 : decode cX13_done 5 = .ok (.aload_n 0, 1) := by decide +kernel
theorem dX13_done_6 : decode cX13_done 6 = .ok (.iconst (-1), 1) := by decide +kernel
theorem dX13_done_7 : decode cX13_done 7 = .ok (.putfield 10, 3) := by decide +kernel
theorem dX13_done_10 : decode cX13_done 10 = .ok (.iload_n 1, 1) := by decide +kernel
theorem dX13_done_11 : decode cX13_done 11 = .ok (.ireturn, 1) := by decide +kernel
theorem dX13_denied_0 : decode cX13_denied 0 = .ok (.aload_n 0, 1) := by decide +kernel
theorem dX13_denied_1 : decode cX13_denied 1 = .ok (.iload_n 1, 1) := by decide +kernel
theorem dX13_denied_2 : decode cX13_denied 2 = .ok (.putfield 7, 3) := by decide +kernel
theorem dX13_denied_5 : decode cX13_denied 5 = .ok (.aload_n 0, 1) := by decide +kernel
theorem dX13_denied_6 : decode cX13_denied 6 = .ok (.iconst (-1), 1) := by decide +kernel
theorem dX13_denied_7 : decode cX13_denied 7 = .ok (.putfield 10, 3) := by decide +kernel
theorem dX13_denied_10 : decode cX13_denied 10 = .ok (.iconst 0, 1) := by decide +kernel
theorem dX13_denied_11 : decode cX13_denied 11 = .ok (.ireturn, 1) := by decide +kernel
theorem dX13_granted_0 : decode cX13_granted 0 = .ok (.aload_n 0, 1) := by decide +kernel
theorem dX13_granted_1 : decode cX13_granted 1 = .ok (.iconst 0, 1) := by decide +kernel
theorem dX13_granted_2 : decode cX13_granted 2 = .ok (.putfield 7, 3) := by decide +kernel
theorem dX13_granted_5 : decode cX13_granted 5 = .ok (.aload_n 0, 1) := by decide +kernel
theorem dX13_granted_6 : decode cX13_granted 6 = .ok (.iconst (-1), 1) := by decide +kernel
theorem dX13_granted_7 : decode cX13_granted 7 = .ok (.putfield 10, 3) := by decide +kernel
theorem dX13_granted_10 : decode cX13_granted 10 = .ok (.iconst 1, 1) := by decide +kernel
theorem dX13_granted_11 : decode cX13_granted 11 = .ok (.ireturn, 1) := by decide +kernel
theorem dX13_in_0 : decode cX13_in 0 = .ok (.iload_n 0, 1) := by decide +kernel
theorem dX13_in_1 : decode cX13_in 1 = .ok (.iload_n 1, 1) := by decide +kernel
theorem dX13_in_2 : decode cX13_in 2 = .ok (.if_icmp .lt 12, 3) := by decide +kernel
theorem dX13_in_5 : decode cX13_in 5 = .ok (.iload_n 0, 1) := by decide +kernel
theorem dX13_in_6 : decode cX13_in 6 = .ok (.iload_n 2, 1) := by decide +kernel
theorem dX13_in_7 : decode cX13_in 7 = .ok (.if_icmp .gt 7, 3) := by decide +kernel
theorem dX13_in_10 : decode cX13_in 10 = .ok (.iconst 1, 1) := by decide +kernel
theorem dX13_in_11 : decode cX13_in 11 = .ok (.goto 4, 3) := by decide +kernel
theorem dX13_in_14 : decode cX13_in 14 = .ok (.iconst 0, 1) := by decide +kernel
theorem dX13_in_15 : decode cX13_in 15 = .ok (.ireturn, 1) := by decide +kernel
theorem dX13_init_0 : decode cX13_init 0 = .ok (.aload_n 0, 1) := by decide +kernel
theorem dX13_init_1 : decode cX13_init 1 = .ok (.invokespecial 13, 3) := by decide +kernel
theorem dX13_init_4 : decode cX13_init 4 = .ok (.aload_n 0, 1) := by decide +kernel
theorem dX13_init_5 : decode cX13_init 5 = .ok (.iconst (-1), 1) := by decide +kernel
theorem dX13_init_6 : decode cX13_init 6 = .ok (.putfield 10, 3) := by decide +kernel
theorem dX13_init_9 : decode cX13_init 9 = .ok (.aload_n 0, 1) := by decide +kernel
theorem dX13_init_10 : decode cX13_init 10 = .ok (.bipush 6, 2) := by decide +kernel
theorem dX13_init_12 : decode cX13_init 12 = .ok (.putfield 19, 3) := by decide +kernel
theorem dX13_init_15 : decode cX13_init 15 = .ok (.aload_n 0, 1) := by decide +kernel
theorem dX13_init_16 : decode cX13_init 16 = .ok (.bipush 12, 2) := by decide +kernel
theorem dX13_init_18 : decode cX13_init 18 = .ok (.newarray .int, 2) := by decide +kernel
theorem dX13_init_20 : decode cX13_init 20 = .ok (.putfield 22, 3) := by decide +kernel
theorem dX13_init_23 : decode cX13_init 23 = .ok (.aload_n 0, 1) := by decide +kernel
theorem dX13_init_24 : decode cX13_init 24 = .ok (.bipush 12, 2) := by decide +kernel
theorem dX13_init_26 : decode cX13_init 26 = .ok (.newarray .int, 2) := by decide +kernel
theorem dX13_init_28 : decode cX13_init 28 = .ok (.putfield 26, 3) := by decide +kernel
theorem dX13_init_31 : decode cX13_init 31 = .ok (.aload_n 0, 1) := by decide +kernel
theorem dX13_init_32 : decode cX13_init 32 = .ok (.sipush 334, 3) := by decide +kernel
theorem dX13_init_35 : decode cX13_init 35 = .ok (.newarray .int, 2) := by decide +kernel
theorem dX13_init_37 : decode cX13_init 37 = .ok (.putfield 29, 3) := by decide +kernel
theorem dX13_init_40 : decode cX13_init 40 = .ok (.aload_n 0, 1) := by decide +kernel
theorem dX13_init_41 : decode cX13_init 41 = .ok (.bipush 6, 2) := by decide +kernel
theorem dX13_init_43 : decode cX13_init 43 = .ok (.anewarray 32, 3) := by decide +kernel
theorem dX13_init_46 : decode cX13_init 46 = .ok (.putfield 34, 3) := by decide +kernel
theorem dX13_init_49 : decode cX13_init 49 = .ok (.aload_n 0, 1) := by decide +kernel
theorem dX13_init_50 : decode cX13_init 50 = .ok (.iconst (-1), 1) := by decide +kernel
theorem dX13_init_51 : decode cX13_init 51 = .ok (.putfield 38, 3) := by decide +kernel
theorem dX13_init_54 : decode cX13_init 54 = .ok (.aload_n 0, 1) := by decide +kernel
theorem dX13_init_55 : decode cX13_init 55 = .ok (.bipush 12, 2) := by decide +kernel
theorem dX13_init_57 : decode cX13_init 57 = .ok (.newarray .int, 2) := by decide +kernel
theorem dX13_init_59 : decode cX13_init 59 = .ok (.putfield 41, 3) := by decide +kernel
theorem dX13_init_62 : decode cX13_init 62 = .ok (.aload_n 0, 1) := by decide +kernel
theorem dX13_init_63 : decode cX13_init 63 = .ok (.bipush 12, 2) := by decide +kernel
theorem dX13_init_65 : decode cX13_init 65 = .ok (.newarray .int, 2) := by decide +kernel
theorem dX13_init_67 : decode cX13_init 67 = .ok (.putfield 44, 3) := by decide +kernel
theorem dX13_init_70 : decode cX13_init 70 = .ok (.aload_n 0, 1) := by decide +kernel
theorem dX13_init_71 : decode cX13_init 71 = .ok (.sipush 334, 3) := by decide +kernel
theorem dX13_init_74 : decode cX13_init 74 = .ok (.newarray .int, 2) := by decide +kernel
theorem dX13_init_76 : decode cX13_init 76 = .ok (.putfield 47, 3) := by decide +kernel
theorem dX13_init_79 : decode cX13_init 79 = .ok (.aload_n 0, 1) := by decide +kernel
theorem dX13_init_80 : decode cX13_init 80 = .ok (.bipush 6, 2) := by decide +kernel
theorem dX13_init_82 : decode cX13_init 82 = .ok (.anewarray 32, 3) := by decide +kernel
theorem dX13_init_85 : decode cX13_init 85 = .ok (.putfield 50, 3) := by decide +kernel
theorem dX13_init_88 : decode cX13_init 88 = .ok (.aload_n 0, 1) := by decide +kernel
theorem dX13_init_89 : decode cX13_init 89 = .ok (.new 32, 3) := by decide +kernel
theorem dX13_init_92 : decode cX13_init 92 = .ok (.dup, 1) := by decide +kernel
theorem dX13_init_93 : decode cX13_init 93 = .ok (.invokespecial 53, 3) := by decide +kernel
theorem dX13_init_96 : decode cX13_init 96 = .ok (.putfield 54, 3) := by decide +kernel
theorem dX13_init_99 : decode cX13_init 99 = .ok (.aload_n 0, 1) := by decide +kernel
theorem dX13_init_100 : decode cX13_init 100 = .ok (.new 58, 3) := by decide +kernel
theorem dX13_init_103 : decode cX13_init 103 = .ok (.dup, 1) := by decide +kernel
theorem dX13_init_104 : decode cX13_init 104 = .ok (.invokespecial 60, 3) := by decide +kernel
theorem dX13_init_107 : decode cX13_init 107 = .ok (.putfield 61, 3) := by decide +kernel
theorem dX13_init_110 : decode cX13_init 110 = .ok (.aload_n 0, 1) := by decide +kernel
theorem dX13_init_111 : decode cX13_init 111 = .ok (.sipush 400, 3) := by decide +kernel
theorem dX13_init_114 : decode cX13_init 114 = .ok (.newarray .byte, 2) := by decide +kernel
theorem dX13_init_116 : decode cX13_init 116 = .ok (.putfield 65, 3) := by decide +kernel
theorem dX13_init_119 : decode cX13_init 119 = .ok (.aload_n 0, 1) := by decide +kernel
theorem dX13_init_120 : decode cX13_init 120 = .ok (.bipush 9, 2) := by decide +kernel
theorem dX13_init_122 : decode cX13_init 122 = .ok (.newarray .int, 2) := by decide +kernel
theorem dX13_init_124 : decode cX13_init 124 = .ok (.putfield 69, 3) := by decide +kernel
theorem dX13_init_127 : decode cX13_init 127 = .ok (.aload_n 0, 1) := by decide +kernel
theorem dX13_init_128 : decode cX13_init 128 = .ok (.bipush 108, 2) := by decide +kernel
theorem dX13_init_130 : decode cX13_init 130 = .ok (.newarray .int, 2) := by decide +kernel
theorem dX13_init_132 : decode cX13_init 132 = .ok (.putfield 72, 3) := by decide +kernel
theorem dX13_init_135 : decode cX13_init 135 = .ok (.aload_n 0, 1) := by decide +kernel
theorem dX13_init_136 : decode cX13_init 136 = .ok (.bipush 108, 2) := by decide +kernel
theorem dX13_init_138 : decode cX13_init 138 = .ok (.newarray .int, 2) := by decide +kernel
theorem dX13_init_140 : decode cX13_init 140 = .ok (.putfield 75, 3) := by decide +kernel
theorem dX13_init_143 : decode cX13_init 143 = .ok (.aload_n 0, 1) := by decide +kernel
theorem dX13_init_144 : decode cX13_init 144 = .ok (.sipush 432, 3) := by decide +kernel
theorem dX13_init_147 : decode cX13_init 147 = .ok (.newarray .int, 2) := by decide +kernel
theorem dX13_init_149 : decode cX13_init 149 = .ok (.putfield 78, 3) := by decide +kernel
theorem dX13_init_152 : decode cX13_init 152 = .ok (.aload_n 0, 1) := by decide +kernel
theorem dX13_init_153 : decode cX13_init 153 = .ok (.sipush 432, 3) := by decide +kernel
theorem dX13_init_156 : decode cX13_init 156 = .ok (.newarray .int, 2) := by decide +kernel
theorem dX13_init_158 : decode cX13_init 158 = .ok (.putfield 81, 3) := by decide +kernel
theorem dX13_init_161 : decode cX13_init 161 = .ok (.aload_n 0, 1) := by decide +kernel
theorem dX13_init_162 : decode cX13_init 162 = .ok (.sipush 432, 3) := by decide +kernel
theorem dX13_init_165 : decode cX13_init 165 = .ok (.newarray .boolean, 2) := by decide +kernel
theorem dX13_init_167 : decode cX13_init 167 = .ok (.putfield 84, 3) := by decide +kernel
theorem dX13_init_170 : decode cX13_init 170 = .ok (.aload_n 0, 1) := by decide +kernel
theorem dX13_init_171 : decode cX13_init 171 = .ok (.bipush 44, 2) := by decide +kernel
theorem dX13_init_173 : decode cX13_init 173 = .ok (.newarray .int, 2) := by decide +kernel
theorem dX13_init_175 : decode cX13_init 175 = .ok (.putfield 88, 3) := by decide +kernel
theorem dX13_init_178 : decode cX13_init 178 = .ok (.iconst 0, 1) := by decide +kernel
theorem dX13_init_179 : decode cX13_init 179 = .ok (.istore_n 1, 1) := by decide +kernel
theorem dX13_init_180 : decode cX13_init 180 = .ok (.iload_n 1, 1) := by decide +kernel
theorem dX13_init_181 : decode cX13_init 181 = .ok (.sipush 334, 3) := by decide +kernel
theorem dX13_init_184 : decode cX13_init 184 = .ok (.if_icmp .ge 17, 3) := by decide +kernel
theorem dX13_init_187 : decode cX13_init 187 = .ok (.aload_n 0, 1) := by decide +kernel
theorem dX13_init_188 : decode cX13_init 188 = .ok (.getfield 29, 3) := by decide +kernel
theorem dX13_init_191 : decode cX13_init 191 = .ok (.iload_n 1, 1) := by decide +kernel
theorem dX13_init_192 : decode cX13_init 192 = .ok (.bipush (-20), 2) := by decide +kernel
theorem dX13_init_194 : decode cX13_init 194 = .ok (.iastore, 1) := by decide +kernel
theorem dX13_init_195 : decode cX13_init 195 = .ok (.iinc 1 1, 3) := by decide +kernel
theorem dX13_init_198 : decode cX13_init 198 = .ok (.goto (-18), 3) := by decide +kernel
theorem dX13_init_201 : decode cX13_init 201 = .ok (.iconst 0, 1) := by decide +kernel
theorem dX13_init_202 : decode cX13_init 202 = .ok (.istore_n 1, 1) := by decide +kernel
theorem dX13_init_203 : decode cX13_init 203 = .ok (.iload_n 1, 1) := by decide +kernel
theorem dX13_init_204 : decode cX13_init 204 = .ok (.bipush 6, 2) := by decide +kernel
theorem dX13_init_206 : decode cX13_init 206 = .ok (.if_icmp .ge 35, 3) := by decide +kernel
theorem dX13_init_209 : decode cX13_init 209 = .ok (.aload_n 0, 1) := by decide +kernel
theorem dX13_init_210 : decode cX13_init 210 = .ok (.getfield 34, 3) := by decide +kernel
theorem dX13_init_213 : decode cX13_init 213 = .ok (.iload_n 1, 1) := by decide +kernel
theorem dX13_init_214 : decode cX13_init 214 = .ok (.new 32, 3) := by decide +kernel
theorem dX13_init_217 : decode cX13_init 217 = .ok (.dup, 1) := by decide +kernel
theorem dX13_init_218 : decode cX13_init 218 = .ok (.invokespecial 53, 3) := by decide +kernel
theorem dX13_init_221 : decode cX13_init 221 = .ok (.aastore, 1) := by decide +kernel
theorem dX13_init_222 : decode cX13_init 222 = .ok (.aload_n 0, 1) := by decide +kernel
theorem dX13_init_223 : decode cX13_init 223 = .ok (.getfield 50, 3) := by decide +kernel
theorem dX13_init_226 : decode cX13_init 226 = .ok (.iload_n 1, 1) := by decide +kernel
theorem dX13_init_227 : decode cX13_init 227 = .ok (.new 32, 3) := by decide +kernel
theorem dX13_init_230 : decode cX13_init 230 = .ok (.dup, 1) := by decide +kernel
theorem dX13_init_231 : decode cX13_init 231 = .ok (.invokespecial 53, 3) := by decide +kernel
theorem dX13_init_234 : decode cX13_init 234 = .ok (.aastore, 1) := by decide +kernel
theorem dX13_init_235 : decode cX13_init 235 = .ok (.iinc 1 1, 3) := by decide +kernel
theorem dX13_init_238 : decode cX13_init 238 = .ok (.goto (-35), 3) := by decide +kernel
theorem dX13_init_241 : decode cX13_init 241 = .ok (.return_, 1) := by decide +kernel
theorem dX13_keep_0 : decode cX13_keep 0 = .ok (.aload_n 0, 1) := by decide +kernel
theorem dX13_keep_1 : decode cX13_keep 1 = .ok (.iconst 0, 1) := by decide +kernel
theorem dX13_keep_2 : decode cX13_keep 2 = .ok (.putfield 1, 3) := by decide +kernel
theorem dX13_keep_5 : decode cX13_keep 5 = .ok (.aload_n 0, 1) := by decide +kernel
theorem dX13_keep_6 : decode cX13_keep 6 = .ok (.aload_n 0, 1) := by decide +kernel
theorem dX13_keep_7 : decode cX13_keep 7 = .ok (.getfield 91, 3) := by decide +kernel
theorem dX13_keep_10 : decode cX13_keep 10 = .ok (.putfield 38, 3) := by decide +kernel
theorem dX13_keep_13 : decode cX13_keep 13 = .ok (.aload_n 0, 1) := by decide +kernel
theorem dX13_keep_14 : decode cX13_keep 14 = .ok (.aload_n 0, 1) := by decide +kernel
theorem dX13_keep_15 : decode cX13_keep 15 = .ok (.getfield 94, 3) := by decide +kernel
theorem dX13_keep_18 : decode cX13_keep 18 = .ok (.putfield 97, 3) := by decide +kernel
theorem dX13_keep_21 : decode cX13_keep 21 = .ok (.aload_n 0, 1) := by decide +kernel
theorem dX13_keep_22 : decode cX13_keep 22 = .ok (.aload_n 0, 1) := by decide +kernel
theorem dX13_keep_23 : decode cX13_keep 23 = .ok (.getfield 100, 3) := by decide +kernel
theorem dX13_keep_26 : decode cX13_keep 26 = .ok (.putfield 103, 3) := by decide +kernel
theorem dX13_keep_29 : decode cX13_keep 29 = .ok (.aload_n 0, 1) := by decide +kernel
theorem dX13_keep_30 : decode cX13_keep 30 = .ok (.aload_n 0, 1) := by decide +kernel
theorem dX13_keep_31 : decode cX13_keep 31 = .ok (.getfield 19, 3) := by decide +kernel
theorem dX13_keep_34 : decode cX13_keep 34 = .ok (.putfield 106, 3) := by decide +kernel
theorem dX13_keep_37 : decode cX13_keep 37 = .ok (.iconst 0, 1) := by decide +kernel
theorem dX13_keep_38 : decode cX13_keep 38 = .ok (.istore_n 1, 1) := by decide +kernel
theorem dX13_keep_39 : decode cX13_keep 39 = .ok (.iload_n 1, 1) := by decide +kernel
theorem dX13_keep_40 : decode cX13_keep 40 = .ok (.bipush 12, 2) := by decide +kernel
theorem dX13_keep_42 : decode cX13_keep 42 = .ok (.if_icmp .ge 33, 3) := by decide +kernel
theorem dX13_keep_45 : decode cX13_keep 45 = .ok (.aload_n 0, 1) := by decide +kernel
theorem dX13_keep_46 : decode cX13_keep 46 = .ok (.getfield 41, 3) := by decide +kernel
theorem dX13_keep_49 : decode cX13_keep 49 = .ok (.iload_n 1, 1) := by decide +kernel
theorem dX13_keep_50 : decode cX13_keep 50 = .ok (.aload_n 0, 1) := by decide +kernel
theorem dX13_keep_51 : decode cX13_keep 51 = .ok (.getfield 22, 3) := by decide +kernel
theorem dX13_keep_54 : decode cX13_keep 54 = .ok (.iload_n 1, 1) := by decide +kernel
theorem dX13_keep_55 : decode cX13_keep 55 = .ok (.iaload, 1) := by decide +kernel
theorem dX13_keep_56 : decode cX13_keep 56 = .ok (.iastore, 1) := by decide +kernel
theorem dX13_keep_57 : decode cX13_keep 57 = .ok (.aload_n 0, 1) := by decide +kernel
theorem dX13_keep_58 : decode cX13_keep 58 = .ok (.getfield 44, 3) := by decide +kernel
theorem dX13_keep_61 : decode cX13_keep 61 = .ok (.iload_n 1, 1) := by decide +kernel
theorem dX13_keep_62 : decode cX13_keep 62 = .ok (.aload_n 0, 1) := by decide +kernel
theorem dX13_keep_63 : decode cX13_keep 63 = .ok (.getfield 26, 3) := by decide +kernel
theorem dX13_keep_66 : decode cX13_keep 66 = .ok (.iload_n 1, 1) := by decide +kernel
theorem dX13_keep_67 : decode cX13_keep 67 = .ok (.iaload, 1) := by decide +kernel
theorem dX13_keep_68 : decode cX13_keep 68 = .ok (.iastore, 1) := by decide +kernel
theorem dX13_keep_69 : decode cX13_keep 69 = .ok (.iinc 1 1, 3) := by decide +kernel
theorem dX13_keep_72 : decode cX13_keep 72 = .ok (.goto (-33), 3) := by decide +kernel
theorem dX13_keep_75 : decode cX13_keep 75 = .ok (.iconst 0, 1) := by decide +kernel
theorem dX13_keep_76 : decode cX13_keep 76 = .ok (.istore_n 1, 1) := by decide +kernel
theorem dX13_keep_77 : decode cX13_keep 77 = .ok (.iload_n 1, 1) := by decide +kernel
theorem dX13_keep_78 : decode cX13_keep 78 = .ok (.sipush 334, 3) := by decide +kernel
theorem dX13_keep_81 : decode cX13_keep 81 = .ok (.if_icmp .ge 21, 3) := by decide +kernel
theorem dX13_keep_84 : decode cX13_keep 84 = .ok (.aload_n 0, 1) := by decide +kernel
theorem dX13_keep_85 : decode cX13_keep 85 = .ok (.getfield 47, 3) := by decide +kernel
theorem dX13_keep_88 : decode cX13_keep 88 = .ok (.iload_n 1, 1) := by decide +kernel
theorem dX13_keep_89 : decode cX13_keep 89 = .ok (.aload_n 0, 1) := by decide +kernel
theorem dX13_keep_90 : decode cX13_keep 90 = .ok (.getfield 29, 3) := by decide +kernel
theorem dX13_keep_93 : decode cX13_keep 93 = .ok (.iload_n 1, 1) := by decide +kernel
theorem dX13_keep_94 : decode cX13_keep 94 = .ok (.iaload, 1) := by decide +kernel
theorem dX13_keep_95 : decode cX13_keep 95 = .ok (.iastore, 1) := by decide +kernel
theorem dX13_keep_96 : decode cX13_keep 96 = .ok (.iinc 1 1, 3) := by decide +kernel
theorem dX13_keep_99 : decode cX13_keep 99 = .ok (.goto (-22), 3) := by decide +kernel
theorem dX13_keep_102 : decode cX13_keep 102 = .ok (.iconst 0, 1) := by decide +kernel
theorem dX13_keep_103 : decode cX13_keep 103 = .ok (.istore_n 1, 1) := by decide +kernel
theorem dX13_keep_104 : decode cX13_keep 104 = .ok (.iload_n 1, 1) := by decide +kernel
theorem dX13_keep_105 : decode cX13_keep 105 = .ok (.aload_n 0, 1) := by decide +kernel
theorem dX13_keep_106 : decode cX13_keep 106 = .ok (.getfield 94, 3) := by decide +kernel
theorem dX13_keep_109 : decode cX13_keep 109 = .ok (.if_icmp .ge 24, 3) := by decide +kernel
theorem dX13_keep_112 : decode cX13_keep 112 = .ok (.aload_n 0, 1) := by decide +kernel
theorem dX13_keep_113 : decode cX13_keep 113 = .ok (.getfield 50, 3) := by decide +kernel
theorem dX13_keep_116 : decode cX13_keep 116 = .ok (.iload_n 1, 1) := by decide +kernel
theorem dX13_keep_117 : decode cX13_keep 117 = .ok (.aaload, 1) := by decide +kernel
theorem dX13_keep_118 : decode cX13_keep 118 = .ok (.aload_n 0, 1) := by decide +kernel
theorem dX13_keep_119 : decode cX13_keep 119 = .ok (.getfield 34, 3) := by decide +kernel
theorem dX13_keep_122 : decode cX13_keep 122 = .ok (.iload_n 1, 1) := by decide +kernel
theorem dX13_keep_123 : decode cX13_keep 123 = .ok (.aaload, 1) := by decide +kernel
theorem dX13_keep_124 : decode cX13_keep 124 = .ok (.invokevirtual 109, 3) := by decide +kernel
theorem dX13_keep_127 : decode cX13_keep 127 = .ok (.iinc 1 1, 3) := by decide +kernel
theorem dX13_keep_130 : decode cX13_keep 130 = .ok (.goto (-26), 3) := by decide +kernel
theorem dX13_keep_133 : decode cX13_keep 133 = .ok (.iconst 1, 1) := by decide +kernel
theorem dX13_keep_134 : decode cX13_keep 134 = .ok (.ireturn, 1) := by decide +kernel
theorem dX13_back_0 : decode cX13_back 0 = .ok (.aload_n 0, 1) := by decide +kernel
theorem dX13_back_1 : decode cX13_back 1 = .ok (.iconst 0, 1) := by decide +kernel
theorem dX13_back_2 : decode cX13_back 2 = .ok (.putfield 1, 3) := by decide +kernel
theorem dX13_back_5 : decode cX13_back 5 = .ok (.aload_n 0, 1) := by decide +kernel
theorem dX13_back_6 : decode cX13_back 6 = .ok (.getfield 38, 3) := by decide +kernel
theorem dX13_back_9 : decode cX13_back 9 = .ok (.iconst (-1), 1) := by decide +kernel
theorem dX13_back_10 : decode cX13_back 10 = .ok (.if_icmp .ne 9, 3) := by decide +kernel
theorem dX13_back_13 : decode cX13_back 13 = .ok (.aload_n 0, 1) := by decide +kernel
theorem dX13_back_14 : decode cX13_back 14 = .ok (.iconst 1, 1) := by decide +kernel
theorem dX13_back_15 : decode cX13_back 15 = .ok (.invokevirtual 113, 3) := by decide +kernel
theorem dX13_back_18 : decode cX13_back 18 = .ok (.ireturn, 1) := by decide +kernel
theorem dX13_back_19 : decode cX13_back 19 = .ok (.aload_n 0, 1) := by decide +kernel
theorem dX13_back_20 : decode cX13_back 20 = .ok (.aload_n 0, 1) := by decide +kernel
theorem dX13_back_21 : decode cX13_back 21 = .ok (.getfield 38, 3) := by decide +kernel
theorem dX13_back_24 : decode cX13_back 24 = .ok (.putfield 91, 3) := by decide +kernel
theorem dX13_back_27 : decode cX13_back 27 = .ok (.aload_n 0, 1) := by decide +kernel
theorem dX13_back_28 : decode cX13_back 28 = .ok (.aload_n 0, 1) := by decide +kernel
theorem dX13_back_29 : decode cX13_back 29 = .ok (.getfield 97, 3) := by decide +kernel
theorem dX13_back_32 : decode cX13_back 32 = .ok (.putfield 94, 3) := by decide +kernel
theorem dX13_back_35 : decode cX13_back 35 = .ok (.aload_n 0, 1) := by decide +kernel
theorem dX13_back_36 : decode cX13_back 36 = .ok (.aload_n 0, 1) := by decide +kernel
theorem dX13_back_37 : decode cX13_back 37 = .ok (.getfield 103, 3) := by decide +kernel
theorem dX13_back_40 : decode cX13_back 40 = .ok (.putfield 100, 3) := by decide +kernel
theorem dX13_back_43 : decode cX13_back 43 = .ok (.aload_n 0, 1) := by decide +kernel
theorem dX13_back_44 : decode cX13_back 44 = .ok (.aload_n 0, 1) := by decide +kernel
theorem dX13_back_45 : decode cX13_back 45 = .ok (.getfield 106, 3) := by decide +kernel
theorem dX13_back_48 : decode cX13_back 48 = .ok (.putfield 19, 3) := by decide +kernel
theorem dX13_back_51 : decode cX13_back 51 = .ok (.iconst 0, 1) := by decide +kernel
theorem dX13_back_52 : decode cX13_back 52 = .ok (.istore_n 1, 1) := by decide +kernel
theorem dX13_back_53 : decode cX13_back 53 = .ok (.iload_n 1, 1) := by decide +kernel
theorem dX13_back_54 : decode cX13_back 54 = .ok (.bipush 12, 2) := by decide +kernel
theorem dX13_back_56 : decode cX13_back 56 = .ok (.if_icmp .ge 33, 3) := by decide +kernel
theorem dX13_back_59 : decode cX13_back 59 = .ok (.aload_n 0, 1) := by decide +kernel
theorem dX13_back_60 : decode cX13_back 60 = .ok (.getfield 22, 3) := by decide +kernel
theorem dX13_back_63 : decode cX13_back 63 = .ok (.iload_n 1, 1) := by decide +kernel
theorem dX13_back_64 : decode cX13_back 64 = .ok (.aload_n 0, 1) := by decide +kernel
theorem dX13_back_65 : decode cX13_back 65 = .ok (.getfield 41, 3) := by decide +kernel
theorem dX13_back_68 : decode cX13_back 68 = .ok (.iload_n 1, 1) := by decide +kernel
theorem dX13_back_69 : decode cX13_back 69 = .ok (.iaload, 1) := by decide +kernel
theorem dX13_back_70 : decode cX13_back 70 = .ok (.iastore, 1) := by decide +kernel
theorem dX13_back_71 : decode cX13_back 71 = .ok (.aload_n 0, 1) := by decide +kernel
theorem dX13_back_72 : decode cX13_back 72 = .ok (.getfield 26, 3) := by decide +kernel
theorem dX13_back_75 : decode cX13_back 75 = .ok (.iload_n 1, 1) := by decide +kernel
theorem dX13_back_76 : decode cX13_back 76 = .ok (.aload_n 0, 1) := by decide +kernel
theorem dX13_back_77 : decode cX13_back 77 = .ok (.getfield 44, 3) := by decide +kernel
theorem dX13_back_80 : decode cX13_back 80 = .ok (.iload_n 1, 1) := by decide +kernel
theorem dX13_back_81 : decode cX13_back 81 = .ok (.iaload, 1) := by decide +kernel
theorem dX13_back_82 : decode cX13_back 82 = .ok (.iastore, 1) := by decide +kernel
theorem dX13_back_83 : decode cX13_back 83 = .ok (.iinc 1 1, 3) := by decide +kernel
theorem dX13_back_86 : decode cX13_back 86 = .ok (.goto (-33), 3) := by decide +kernel
theorem dX13_back_89 : decode cX13_back 89 = .ok (.iconst 0, 1) := by decide +kernel
theorem dX13_back_90 : decode cX13_back 90 = .ok (.istore_n 1, 1) := by decide +kernel
theorem dX13_back_91 : decode cX13_back 91 = .ok (.iload_n 1, 1) := by decide +kernel
theorem dX13_back_92 : decode cX13_back 92 = .ok (.sipush 334, 3) := by decide +kernel
theorem dX13_back_95 : decode cX13_back 95 = .ok (.if_icmp .ge 21, 3) := by decide +kernel
theorem dX13_back_98 : decode cX13_back 98 = .ok (.aload_n 0, 1) := by decide +kernel
theorem dX13_back_99 : decode cX13_back 99 = .ok (.getfield 29, 3) := by decide +kernel
theorem dX13_back_102 : decode cX13_back 102 = .ok (.iload_n 1, 1) := by decide +kernel
theorem dX13_back_103 : decode cX13_back 103 = .ok (.aload_n 0, 1) := by decide +kernel
theorem dX13_back_104 : decode cX13_back 104 = .ok (.getfield 47, 3) := by decide +kernel
theorem dX13_back_107 : decode cX13_back 107 = .ok (.iload_n 1, 1) := by decide +kernel
theorem dX13_back_108 : decode cX13_back 108 = .ok (.iaload, 1) := by decide +kernel
theorem dX13_back_109 : decode cX13_back 109 = .ok (.iastore, 1) := by decide +kernel
theorem dX13_back_110 : decode cX13_back 110 = .ok (.iinc 1 1, 3) := by decide +kernel
theorem dX13_back_113 : decode cX13_back 113 = .ok (.goto (-22), 3) := by decide +kernel
theorem dX13_back_116 : decode cX13_back 116 = .ok (.iconst 0, 1) := by decide +kernel
theorem dX13_back_117 : decode cX13_back 117 = .ok (.istore_n 1, 1) := by decide +kernel
theorem dX13_back_118 : decode cX13_back 118 = .ok (.iload_n 1, 1) := by decide +kernel
theorem dX13_back_119 : decode cX13_back 119 = .ok (.aload_n 0, 1) := by decide +kernel
theorem dX13_back_120 : decode cX13_back 120 = .ok (.getfield 94, 3) := by decide +kernel
theorem dX13_back_123 : decode cX13_back 123 = .ok (.if_icmp .ge 24, 3) := by decide +kernel
theorem dX13_back_126 : decode cX13_back 126 = .ok (.aload_n 0, 1) := by decide +kernel
theorem dX13_back_127 : decode cX13_back 127 = .ok (.getfield 34, 3) := by decide +kernel
theorem dX13_back_130 : decode cX13_back 130 = .ok (.iload_n 1, 1) := by decide +kernel
theorem dX13_back_131 : decode cX13_back 131 = .ok (.aaload, 1) := by decide +kernel
theorem dX13_back_132 : decode cX13_back 132 = .ok (.aload_n 0, 1) := by decide +kernel
theorem dX13_back_133 : decode cX13_back 133 = .ok (.getfield 50, 3) := by decide +kernel
theorem dX13_back_136 : decode cX13_back 136 = .ok (.iload_n 1, 1) := by decide +kernel
theorem dX13_back_137 : decode cX13_back 137 = .ok (.aaload, 1) := by decide +kernel
theorem dX13_back_138 : decode cX13_back 138 = .ok (.invokevirtual 109, 3) := by decide +kernel
theorem dX13_back_141 : decode cX13_back 141 = .ok (.iinc 1 1, 3) := by decide +kernel
theorem dX13_back_144 : decode cX13_back 144 = .ok (.goto (-26), 3) := by decide +kernel
theorem dX13_back_147 : decode cX13_back 147 = .ok (.aload_n 0, 1) := by decide +kernel
theorem dX13_back_148 : decode cX13_back 148 = .ok (.invokevirtual 117, 3) := by decide +kernel
theorem dX13_back_151 : decode cX13_back 151 = .ok (.ireturn, 1) := by decide +kernel
theorem dX13_leg_0 : decode cX13_leg 0 = .ok (.aload_n 0, 1) := by decide +kernel
theorem dX13_leg_1 : decode cX13_leg 1 = .ok (.iconst 0, 1) := by decide +kernel
theorem dX13_leg_2 : decode cX13_leg 2 = .ok (.putfield 1, 3) := by decide +kernel
theorem dX13_leg_5 : decode cX13_leg 5 = .ok (.aload_n 0, 1) := by decide +kernel
theorem dX13_leg_6 : decode cX13_leg 6 = .ok (.getfield 100, 3) := by decide +kernel
theorem dX13_leg_9 : decode cX13_leg 9 = .ok (.ifCond .le 9, 3) := by decide +kernel
theorem dX13_leg_12 : decode cX13_leg 12 = .ok (.aload_n 0, 1) := by decide +kernel
theorem dX13_leg_13 : decode cX13_leg 13 = .ok (.iconst 5, 1) := by decide +kernel
theorem dX13_leg_14 : decode cX13_leg 14 = .ok (.invokevirtual 121, 3) := by decide +kernel
theorem dX13_leg_17 : decode cX13_leg 17 = .ok (.ireturn, 1) := by decide +kernel
theorem dX13_leg_18 : decode cX13_leg 18 = .ok (.iload_n 1, 1) := by decide +kernel
theorem dX13_leg_19 : decode cX13_leg 19 = .ok (.bipush 10, 2) := by decide +kernel
theorem dX13_leg_21 : decode cX13_leg 21 = .ok (.sipush 2000, 3) := by decide +kernel
theorem dX13_leg_24 : decode cX13_leg 24 = .ok (.invokestatic 125, 3) := by decide +kernel
theorem dX13_leg_27 : decode cX13_leg 27 = .ok (.ifCond .eq 15, 3) := by decide +kernel
theorem dX13_leg_30 : decode cX13_leg 30 = .ok (.iload_n 2, 1) := by decide +kernel
theorem dX13_leg_31 : decode cX13_leg 31 = .ok (.bipush 50, 2) := by decide +kernel
theorem dX13_leg_33 : decode cX13_leg 33 = .ok (.sipush 200, 3) := by decide +kernel
theorem dX13_leg_36 : decode cX13_leg 36 = .ok (.invokestatic 125, 3) := by decide +kernel
theorem dX13_leg_39 : decode cX13_leg 39 = .ok (.ifCond .ne 9, 3) := by decide +kernel
theorem dX13_leg_42 : decode cX13_leg 42 = .ok (.aload_n 0, 1) := by decide +kernel
theorem dX13_leg_43 : decode cX13_leg 43 = .ok (.iconst 2, 1) := by decide +kernel
theorem dX13_leg_44 : decode cX13_leg 44 = .ok (.invokevirtual 121, 3) := by decide +kernel
theorem dX13_leg_47 : decode cX13_leg 47 = .ok (.ireturn, 1) := by decide +kernel
theorem dX13_leg_48 : decode cX13_leg 48 = .ok (.aload_n 0, 1) := by decide +kernel
theorem dX13_leg_49 : decode cX13_leg 49 = .ok (.getfield 91, 3) := by decide +kernel
theorem dX13_leg_52 : decode cX13_leg 52 = .ok (.bipush 12, 2) := by decide +kernel
theorem dX13_leg_54 : decode cX13_leg 54 = .ok (.if_icmp .ne 9, 3) := by decide +kernel
theorem dX13_leg_57 : decode cX13_leg 57 = .ok (.aload_n 0, 1) := by decide +kernel
theorem dX13_leg_58 : decode cX13_leg 58 = .ok (.iconst 3, 1) := by decide +kernel
theorem dX13_leg_59 : decode cX13_leg 59 = .ok (.invokevirtual 121, 3) := by decide +kernel
theorem dX13_leg_62 : decode cX13_leg 62 = .ok (.ireturn, 1) := by decide +kernel
theorem dX13_leg_63 : decode cX13_leg 63 = .ok (.aload_n 0, 1) := by decide +kernel
theorem dX13_leg_64 : decode cX13_leg 64 = .ok (.getfield 22, 3) := by decide +kernel
theorem dX13_leg_67 : decode cX13_leg 67 = .ok (.aload_n 0, 1) := by decide +kernel
theorem dX13_leg_68 : decode cX13_leg 68 = .ok (.getfield 91, 3) := by decide +kernel
theorem dX13_leg_71 : decode cX13_leg 71 = .ok (.iload_n 1, 1) := by decide +kernel
theorem dX13_leg_72 : decode cX13_leg 72 = .ok (.iastore, 1) := by decide +kernel
theorem dX13_leg_73 : decode cX13_leg 73 = .ok (.aload_n 0, 1) := by decide +kernel
theorem dX13_leg_74 : decode cX13_leg 74 = .ok (.getfield 26, 3) := by decide +kernel
theorem dX13_leg_77 : decode cX13_leg 77 = .ok (.aload_n 0, 1) := by decide +kernel
theorem dX13_leg_78 : decode cX13_leg 78 = .ok (.getfield 91, 3) := by decide +kernel
theorem dX13_leg_81 : decode cX13_leg 81 = .ok (.iload_n 2, 1) := by decide +kernel
theorem dX13_leg_82 : decode cX13_leg 82 = .ok (.iastore, 1) := by decide +kernel
theorem dX13_leg_83 : decode cX13_leg 83 = .ok (.aload_n 0, 1) := by decide +kernel
theorem dX13_leg_84 : decode cX13_leg 84 = .ok (.dup, 1) := by decide +kernel
theorem dX13_leg_85 : decode cX13_leg 85 = .ok (.getfield 91, 3) := by decide +kernel
theorem dX13_leg_88 : decode cX13_leg 88 = .ok (.iconst 1, 1) := by decide +kernel
theorem dX13_leg_89 : decode cX13_leg 89 = .ok (.iadd, 1) := by decide +kernel
theorem dX13_leg_90 : decode cX13_leg 90 = .ok (.putfield 91, 3) := by decide +kernel
theorem dX13_leg_93 : decode cX13_leg 93 = .ok (.aload_n 0, 1) := by decide +kernel
theorem dX13_leg_94 : decode cX13_leg 94 = .ok (.aload_n 0, 1) := by decide +kernel
theorem dX13_leg_95 : decode cX13_leg 95 = .ok (.getfield 91, 3) := by decide +kernel
theorem dX13_leg_98 : decode cX13_leg 98 = .ok (.invokevirtual 129, 3) := by decide +kernel
theorem dX13_leg_101 : decode cX13_leg 101 = .ok (.ireturn, 1) := by decide +kernel
theorem dX13_cold_0 : decode cX13_cold 0 = .ok (.aload_n 0, 1) := by decide +kernel
theorem dX13_cold_1 : decode cX13_cold 1 = .ok (.iconst 0, 1) := by decide +kernel
theorem dX13_cold_2 : decode cX13_cold 2 = .ok (.putfield 1, 3) := by decide +kernel
theorem dX13_cold_5 : decode cX13_cold 5 = .ok (.iload_n 1, 1) := by decide +kernel
theorem dX13_cold_6 : decode cX13_cold 6 = .ok (.ifCond .lt 26, 3) := by decide +kernel
theorem dX13_cold_9 : decode cX13_cold 9 = .ok (.iload_n 1, 1) := by decide +kernel
theorem dX13_cold_10 : decode cX13_cold 10 = .ok (.iload_n 2, 1) := by decide +kernel
theorem dX13_cold_11 : decode cX13_cold 11 = .ok (.if_icmp .gt 21, 3) := by decide +kernel
theorem dX13_cold_14 : decode cX13_cold 14 = .ok (.iload_n 2, 1) := by decide +kernel
theorem dX13_cold_15 : decode cX13_cold 15 = .ok (.sipush 334, 3) := by decide +kernel
theorem dX13_cold_18 : decode cX13_cold 18 = .ok (.if_icmp .ge 14, 3) := by decide +kernel
theorem dX13_cold_21 : decode cX13_cold 21 = .ok (.iload_n 3, 1) := by decide +kernel
theorem dX13_cold_22 : decode cX13_cold 22 = .ok (.bipush (-50), 2) := by decide +kernel
theorem dX13_cold_24 : decode cX13_cold 24 = .ok (.bipush 20, 2) := by decide +kernel
theorem dX13_cold_26 : decode cX13_cold 26 = .ok (.invokestatic 125, 3) := by decide +kernel
theorem dX13_cold_29 : decode cX13_cold 29 = .ok (.ifCond .ne 9, 3) := by decide +kernel
theorem dX13_cold_32 : decode cX13_cold 32 = .ok (.aload_n 0, 1) := by decide +kernel
theorem dX13_cold_33 : decode cX13_cold 33 = .ok (.iconst 2, 1) := by decide +kernel
theorem dX13_cold_34 : decode cX13_cold 34 = .ok (.invokevirtual 113, 3) := by decide +kernel
theorem dX13_cold_37 : decode cX13_cold 37 = .ok (.ireturn, 1) := by decide +kernel
theorem dX13_cold_38 : decode cX13_cold 38 = .ok (.iload_n 1, 1) := by decide +kernel
theorem dX13_cold_39 : decode cX13_cold 39 = .ok (.istore 4, 2) := by decide +kernel
theorem dX13_cold_41 : decode cX13_cold 41 = .ok (.iload 4, 2) := by decide +kernel
theorem dX13_cold_43 : decode cX13_cold 43 = .ok (.iload_n 2, 1) := by decide +kernel
theorem dX13_cold_44 : decode cX13_cold 44 = .ok (.if_icmp .gt 29, 3) := by decide +kernel
theorem dX13_cold_47 : decode cX13_cold 47 = .ok (.bipush 6, 2) := by decide +kernel
theorem dX13_cold_49 : decode cX13_cold 49 = .ok (.iload 4, 2) := by decide +kernel
theorem dX13_cold_51 : decode cX13_cold 51 = .ok (.imul, 1) := by decide +kernel
theorem dX13_cold_52 : decode cX13_cold 52 = .ok (.aload_n 0, 1) := by decide +kernel
theorem dX13_cold_53 : decode cX13_cold 53 = .ok (.getfield 100, 3) := by decide +kernel
theorem dX13_cold_56 : decode cX13_cold 56 = .ok (.if_icmp .lt 11, 3) := by decide +kernel
theorem dX13_cold_59 : decode cX13_cold 59 = .ok (.aload_n 0, 1) := by decide +kernel
theorem dX13_cold_60 : decode cX13_cold 60 = .ok (.getfield 29, 3) := by decide +kernel
theorem dX13_cold_63 : decode cX13_cold 63 = .ok (.iload 4, 2) := by decide +kernel
theorem dX13_cold_65 : decode cX13_cold 65 = .ok (.iload_n 3, 1) := by decide +kernel
theorem dX13_cold_66 : decode cX13_cold 66 = .ok (.iastore, 1) := by decide +kernel
theorem dX13_cold_67 : decode cX13_cold 67 = .ok (.iinc 4 1, 3) := by decide +kernel
theorem dX13_cold_70 : decode cX13_cold 70 = .ok (.goto (-29), 3) := by decide +kernel
theorem dX13_cold_73 : decode cX13_cold 73 = .ok (.aload_n 0, 1) := by decide +kernel
theorem dX13_cold_74 : decode cX13_cold 74 = .ok (.invokevirtual 117, 3) := by decide +kernel
theorem dX13_cold_77 : decode cX13_cold 77 = .ok (.ireturn, 1) := by decide +kernel
theorem dX13_stop_0 : decode cX13_stop 0 = .ok (.aload_n 0, 1) := by decide +kernel
theorem dX13_stop_1 : decode cX13_stop 1 = .ok (.getfield 61, 3) := by decide +kernel
theorem dX13_stop_4 : decode cX13_stop 4 = .ok (.iload_n 1, 1) := by decide +kernel
theorem dX13_stop_5 : decode cX13_stop 5 = .ok (.putfield 132, 3) := by decide +kernel
theorem dX13_stop_8 : decode cX13_stop 8 = .ok (.aload_n 0, 1) := by decide +kernel
theorem dX13_stop_9 : decode cX13_stop 9 = .ok (.getfield 61, 3) := by decide +kernel
theorem dX13_stop_12 : decode cX13_stop 12 = .ok (.aload_n 0, 1) := by decide +kernel
theorem dX13_stop_13 : decode cX13_stop 13 = .ok (.getfield 135, 3) := by decide +kernel
theorem dX13_stop_16 : decode cX13_stop 16 = .ok (.putfield 138, 3) := by decide +kernel
theorem dX13_stop_19 : decode cX13_stop 19 = .ok (.aload_n 0, 1) := by decide +kernel
theorem dX13_stop_20 : decode cX13_stop 20 = .ok (.getfield 61, 3) := by decide +kernel
theorem dX13_stop_23 : decode cX13_stop 23 = .ok (.areturn, 1) := by decide +kernel
theorem dX13_byteAt_0 : decode cX13_byteAt 0 = .ok (.iload_n 1, 1) := by decide +kernel
theorem dX13_byteAt_1 : decode cX13_byteAt 1 = .ok (.aload_n 0, 1) := by decide +kernel
theorem dX13_byteAt_2 : decode cX13_byteAt 2 = .ok (.getfield 139, 3) := by decide +kernel
theorem dX13_byteAt_5 : decode cX13_byteAt 5 = .ok (.if_icmp .ge 16, 3) := by decide +kernel
theorem dX13_byteAt_8 : decode cX13_byteAt 8 = .ok (.aload_n 0, 1) := by decide +kernel
theorem dX13_byteAt_9 : decode cX13_byteAt 9 = .ok (.getfield 65, 3) := by decide +kernel
theorem dX13_byteAt_12 : decode cX13_byteAt 12 = .ok (.iload_n 1, 1) := by decide +kernel
theorem dX13_byteAt_13 : decode cX13_byteAt 13 = .ok (.baload, 1) := by decide +kernel
theorem dX13_byteAt_14 : decode cX13_byteAt 14 = .ok (.sipush 255, 3) := by decide +kernel
theorem dX13_byteAt_17 : decode cX13_byteAt 17 = .ok (.iand, 1) := by decide +kernel
theorem dX13_byteAt_18 : decode cX13_byteAt 18 = .ok (.goto 4, 3) := by decide +kernel
theorem dX13_byteAt_21 : decode cX13_byteAt 21 = .ok (.iconst (-1), 1) := by decide +kernel
theorem dX13_byteAt_22 : decode cX13_byteAt 22 = .ok (.ireturn, 1) := by decide +kernel
theorem dX13_isLetter_0 : decode cX13_isLetter 0 = .ok (.iload_n 0, 1) := by decide +kernel
theorem dX13_isLetter_1 : decode cX13_isLetter 1 = .ok (.bipush 97, 2) := by decide +kernel
theorem dX13_isLetter_3 : decode cX13_isLetter 3 = .ok (.if_icmp .lt 13, 3) := by decide +kernel
theorem dX13_isLetter_6 : decode cX13_isLetter 6 = .ok (.iload_n 0, 1) := by decide +kernel
theorem dX13_isLetter_7 : decode cX13_isLetter 7 = .ok (.bipush 122, 2) := by decide +kernel
theorem dX13_isLetter_9 : decode cX13_isLetter 9 = .ok (.if_icmp .gt 7, 3) := by decide +kernel
theorem dX13_isLetter_12 : decode cX13_isLetter 12 = .ok (.iconst 1, 1) := by decide +kernel
theorem dX13_isLetter_13 : decode cX13_isLetter 13 = .ok (.goto 4, 3) := by decide +kernel
theorem dX13_isLetter_16 : decode cX13_isLetter 16 = .ok (.iconst 0, 1) := by decide +kernel
theorem dX13_isLetter_17 : decode cX13_isLetter 17 = .ok (.ireturn, 1) := by decide +kernel
theorem dX13_isDigit_0 : decode cX13_isDigit 0 = .ok (.iload_n 0, 1) := by decide +kernel
theorem dX13_isDigit_1 : decode cX13_isDigit 1 = .ok (.bipush 48, 2) := by decide +kernel
theorem dX13_isDigit_3 : decode cX13_isDigit 3 = .ok (.if_icmp .lt 13, 3) := by decide +kernel
theorem dX13_isDigit_6 : decode cX13_isDigit 6 = .ok (.iload_n 0, 1) := by decide +kernel
theorem dX13_isDigit_7 : decode cX13_isDigit 7 = .ok (.bipush 57, 2) := by decide +kernel
theorem dX13_isDigit_9 : decode cX13_isDigit 9 = .ok (.if_icmp .gt 7, 3) := by decide +kernel
theorem dX13_isDigit_12 : decode cX13_isDigit 12 = .ok (.iconst 1, 1) := by decide +kernel
theorem dX13_isDigit_13 : decode cX13_isDigit 13 = .ok (.goto 4, 3) := by decide +kernel
theorem dX13_isDigit_16 : decode cX13_isDigit 16 = .ok (.iconst 0, 1) := by decide +kernel
theorem dX13_isDigit_17 : decode cX13_isDigit 17 = .ok (.ireturn, 1) := by decide +kernel
theorem dX13_wordOf_0 : decode cX13_wordOf 0 = .ok (.lconst 0, 1) := by decide +kernel
theorem dX13_wordOf_1 : decode cX13_wordOf 1 = .ok (.lstore_n 1, 1) := by decide +kernel
theorem dX13_wordOf_2 : decode cX13_wordOf 2 = .ok (.iconst 0, 1) := by decide +kernel
theorem dX13_wordOf_3 : decode cX13_wordOf 3 = .ok (.istore_n 3, 1) := by decide +kernel
theorem dX13_wordOf_4 : decode cX13_wordOf 4 = .ok (.iload_n 3, 1) := by decide +kernel
theorem dX13_wordOf_5 : decode cX13_wordOf 5 = .ok (.aload_n 0, 1) := by decide +kernel
theorem dX13_wordOf_6 : decode cX13_wordOf 6 = .ok (.invokevirtual 142, 3) := by decide +kernel
theorem dX13_wordOf_9 : decode cX13_wordOf 9 = .ok (.if_icmp .ge 27, 3) := by decide +kernel
theorem dX13_wordOf_12 : decode cX13_wordOf 12 = .ok (.ldc2_w 147, 3) := by decide +kernel
theorem dX13_wordOf_15 : decode cX13_wordOf 15 = .ok (.lload_n 1, 1) := by decide +kernel
theorem dX13_wordOf_16 : decode cX13_wordOf 16 = .ok (.lmul, 1) := by decide +kernel
theorem dX13_wordOf_17 : decode cX13_wordOf 17 = .ok (.aload_n 0, 1) := by decide +kernel
theorem dX13_wordOf_18 : decode cX13_wordOf 18 = .ok (.iload_n 3, 1) := by decide +kernel
theorem dX13_wordOf_19 : decode cX13_wordOf 19 = .ok (.invokevirtual 149, 3) := by decide +kernel
theorem dX13_wordOf_22 : decode cX13_wordOf 22 = .ok (.bipush 97, 2) := by decide +kernel
theorem dX13_wordOf_24 : decode cX13_wordOf 24 = .ok (.isub, 1) := by decide +kernel
theorem dX13_wordOf_25 : decode cX13_wordOf 25 = .ok (.iconst 1, 1) := by decide +kernel
theorem dX13_wordOf_26 : decode cX13_wordOf 26 = .ok (.iadd, 1) := by decide +kernel
theorem dX13_wordOf_27 : decode cX13_wordOf 27 = .ok (.i2l, 1) := by decide +kernel
theorem dX13_wordOf_28 : decode cX13_wordOf 28 = .ok (.ladd, 1) := by decide +kernel
theorem dX13_wordOf_29 : decode cX13_wordOf 29 = .ok (.lstore_n 1, 1) := by decide +kernel
theorem dX13_wordOf_30 : decode cX13_wordOf 30 = .ok (.iinc 3 1, 3) := by decide +kernel
theorem dX13_wordOf_33 : decode cX13_wordOf 33 = .ok (.goto (-29), 3) := by decide +kernel
theorem dX13_wordOf_36 : decode cX13_wordOf 36 = .ok (.lload_n 1, 1) := by decide +kernel
theorem dX13_wordOf_37 : decode cX13_wordOf 37 = .ok (.lreturn, 1) := by decide +kernel
theorem dX13_next_0 : decode cX13_next 0 = .ok (.aload_n 0, 1) := by decide +kernel
theorem dX13_next_1 : decode cX13_next 1 = .ok (.aload_n 0, 1) := by decide +kernel
theorem dX13_next_2 : decode cX13_next 2 = .ok (.getfield 153, 3) := by decide +kernel
theorem dX13_next_5 : decode cX13_next 5 = .ok (.invokevirtual 156, 3) := by decide +kernel
theorem dX13_next_8 : decode cX13_next 8 = .ok (.bipush 32, 2) := by decide +kernel
theorem dX13_next_10 : decode cX13_next 10 = .ok (.if_icmp .eq 16, 3) := by decide +kernel
theorem dX13_next_13 : decode cX13_next 13 = .ok (.aload_n 0, 1) := by decide +kernel
theorem dX13_next_14 : decode cX13_next 14 = .ok (.aload_n 0, 1) := by decide +kernel
theorem dX13_next_15 : decode cX13_next 15 = .ok (.getfield 153, 3) := by decide +kernel
theorem dX13_next_18 : decode cX13_next 18 = .ok (.invokevirtual 156, 3) := by decide +kernel
theorem dX13_next_21 : decode cX13_next 21 = .ok (.bipush 10, 2) := by decide +kernel
theorem dX13_next_23 : decode cX13_next 23 = .ok (.if_icmp .ne 16, 3) := by decide +kernel
theorem dX13_next_26 : decode cX13_next 26 = .ok (.aload_n 0, 1) := by decide +kernel
theorem dX13_next_27 : decode cX13_next 27 = .ok (.dup, 1) := by decide +kernel
theorem dX13_next_28 : decode cX13_next 28 = .ok (.getfield 153, 3) := by decide +kernel
theorem dX13_next_31 : decode cX13_next 31 = .ok (.iconst 1, 1) := by decide +kernel
theorem dX13_next_32 : decode cX13_next 32 = .ok (.iadd, 1) := by decide +kernel
theorem dX13_next_33 : decode cX13_next 33 = .ok (.putfield 153, 3) := by decide +kernel
theorem dX13_next_36 : decode cX13_next 36 = .ok (.goto (-36), 3) := by decide +kernel
theorem dX13_next_39 : decode cX13_next 39 = .ok (.aload_n 0, 1) := by decide +kernel
theorem dX13_next_40 : decode cX13_next 40 = .ok (.aload_n 0, 1) := by decide +kernel
theorem dX13_next_41 : decode cX13_next 41 = .ok (.getfield 153, 3) := by decide +kernel
theorem dX13_next_44 : decode cX13_next 44 = .ok (.putfield 135, 3) := by decide +kernel
theorem dX13_next_47 : decode cX13_next 47 = .ok (.aload_n 0, 1) := by decide +kernel
theorem dX13_next_48 : decode cX13_next 48 = .ok (.iconst 0, 1) := by decide +kernel
theorem dX13_next_49 : decode cX13_next 49 = .ok (.putfield 159, 3) := by decide +kernel
theorem dX13_next_52 : decode cX13_next 52 = .ok (.aload_n 0, 1) := by decide +kernel
theorem dX13_next_53 : decode cX13_next 53 = .ok (.iconst 0, 1) := by decide +kernel
theorem dX13_next_54 : decode cX13_next 54 = .ok (.putfield 162, 3) := by decide +kernel
theorem dX13_next_57 : decode cX13_next 57 = .ok (.aload_n 0, 1) := by decide +kernel
theorem dX13_next_58 : decode cX13_next 58 = .ok (.aload_n 0, 1) := by decide +kernel
theorem dX13_next_59 : decode cX13_next 59 = .ok (.getfield 153, 3) := by decide +kernel
theorem dX13_next_62 : decode cX13_next 62 = .ok (.invokevirtual 156, 3) := by decide +kernel
theorem dX13_next_65 : decode cX13_next 65 = .ok (.istore_n 1, 1) := by decide +kernel
theorem dX13_next_66 : decode cX13_next 66 = .ok (.iconst 0, 1) := by decide +kernel
theorem dX13_next_67 : decode cX13_next 67 = .ok (.istore_n 2, 1) := by decide +kernel
theorem dX13_next_68 : decode cX13_next 68 = .ok (.iload_n 1, 1) := by decide +kernel
theorem dX13_next_69 : decode cX13_next 69 = .ok (.iconst (-1), 1) := by decide +kernel
theorem dX13_next_70 : decode cX13_next 70 = .ok (.if_icmp .ne 11, 3) := by decide +kernel
theorem dX13_next_73 : decode cX13_next 73 = .ok (.aload_n 0, 1) := by decide +kernel
theorem dX13_next_74 : decode cX13_next 74 = .ok (.iconst 1, 1) := by decide +kernel
theorem dX13_next_75 : decode cX13_next 75 = .ok (.putfield 159, 3) := by decide +kernel
theorem dX13_next_78 : decode cX13_next 78 = .ok (.goto 213, 3) := by decide +kernel
theorem dX13_next_81 : decode cX13_next 81 = .ok (.iload_n 1, 1) := by decide +kernel
theorem dX13_next_82 : decode cX13_next 82 = .ok (.invokestatic 165, 3) := by decide +kernel
theorem dX13_next_85 : decode cX13_next 85 = .ok (.ifCond .eq 85, 3) := by decide +kernel
theorem dX13_next_88 : decode cX13_next 88 = .ok (.aload_n 0, 1) := by decide +kernel
theorem dX13_next_89 : decode cX13_next 89 = .ok (.lconst 0, 1) := by decide +kernel
theorem dX13_next_90 : decode cX13_next 90 = .ok (.putfield 168, 3) := by decide +kernel
theorem dX13_next_93 : decode cX13_next 93 = .ok (.aload_n 0, 1) := by decide +kernel
theorem dX13_next_94 : decode cX13_next 94 = .ok (.aload_n 0, 1) := by decide +kernel
theorem dX13_next_95 : decode cX13_next 95 = .ok (.getfield 153, 3) := by decide +kernel
theorem dX13_next_98 : decode cX13_next 98 = .ok (.invokevirtual 156, 3) := by decide +kernel
theorem dX13_next_101 : decode cX13_next 101 = .ok (.invokestatic 165, 3) := by decide +kernel
theorem dX13_next_104 : decode cX13_next 104 = .ok (.ifCond .eq 52, 3) := by decide +kernel
theorem dX13_next_107 : decode cX13_next 107 = .ok (.iload_n 2, 1) := by decide +kernel
theorem dX13_next_108 : decode cX13_next 108 = .ok (.bipush 8, 2) := by decide +kernel
theorem dX13_next_110 : decode cX13_next 110 = .ok (.if_icmp .ge 30, 3) := by decide +kernel
theorem dX13_next_113 : decode cX13_next 113 = .ok (.aload_n 0, 1) := by decide +kernel
theorem dX13_next_114 : decode cX13_next 114 = .ok (.ldc2_w 147, 3) := by decide +kernel
theorem dX13_next_117 : decode cX13_next 117 = .ok (.aload_n 0, 1) := by decide +kernel
theorem dX13_next_118 : decode cX13_next 118 = .ok (.getfield 168, 3) := by decide +kernel
theorem dX13_next_121 : decode cX13_next 121 = .ok (.lmul, 1) := by decide +kernel
theorem dX13_next_122 : decode cX13_next 122 = .ok (.aload_n 0, 1) := by decide +kernel
theorem dX13_next_123 : decode cX13_next 123 = .ok (.aload_n 0, 1) := by decide +kernel
theorem dX13_next_124 : decode cX13_next 124 = .ok (.getfield 153, 3) := by decide +kernel
theorem dX13_next_127 : decode cX13_next 127 = .ok (.invokevirtual 156, 3) := by decide +kernel
theorem dX13_next_130 : decode cX13_next 130 = .ok (.bipush 97, 2) := by decide +kernel
theorem dX13_next_132 : decode cX13_next 132 = .ok (.isub, 1) := by decide +kernel
theorem dX13_next_133 : decode cX13_next 133 = .ok (.iconst 1, 1) := by decide +kernel
theorem dX13_next_134 : decode cX13_next 134 = .ok (.iadd, 1) := by decide +kernel
theorem dX13_next_135 : decode cX13_next 135 = .ok (.i2l, 1) := by decide +kernel
theorem dX13_next_136 : decode cX13_next 136 = .ok (.ladd, 1) := by decide +kernel
theorem dX13_next_137 : decode cX13_next 137 = .ok (.putfield 168, 3) := by decide +kernel
theorem dX13_next_140 : decode cX13_next 140 = .ok (.iinc 2 1, 3) := by decide +kernel
theorem dX13_next_143 : decode cX13_next 143 = .ok (.aload_n 0, 1) := by decide +kernel
theorem dX13_next_144 : decode cX13_next 144 = .ok (.dup, 1) := by decide +kernel
theorem dX13_next_145 : decode cX13_next 145 = .ok (.getfield 153, 3) := by decide +kernel
theorem dX13_next_148 : decode cX13_next 148 = .ok (.iconst 1, 1) := by decide +kernel
theorem dX13_next_149 : decode cX13_next 149 = .ok (.iadd, 1) := by decide +kernel
theorem dX13_next_150 : decode cX13_next 150 = .ok (.putfield 153, 3) := by decide +kernel
theorem dX13_next_153 : decode cX13_next 153 = .ok (.goto (-60), 3) := by decide +kernel
theorem dX13_next_156 : decode cX13_next 156 = .ok (.iload_n 2, 1) := by decide +kernel
theorem dX13_next_157 : decode cX13_next 157 = .ok (.bipush 9, 2) := by decide +kernel
theorem dX13_next_159 : decode cX13_next 159 = .ok (.if_icmp .ge 132, 3) := by decide +kernel
theorem dX13_next_162 : decode cX13_next 162 = .ok (.aload_n 0, 1) := by decide +kernel
theorem dX13_next_163 : decode cX13_next 163 = .ok (.iconst 2, 1) := by decide +kernel
theorem dX13_next_164 : decode cX13_next 164 = .ok (.putfield 159, 3) := by decide +kernel
theorem dX13_next_167 : decode cX13_next 167 = .ok (.goto 124, 3) := by decide +kernel
theorem dX13_next_170 : decode cX13_next 170 = .ok (.iload_n 1, 1) := by decide +kernel
theorem dX13_next_171 : decode cX13_next 171 = .ok (.invokestatic 172, 3) := by decide +kernel
theorem dX13_next_174 : decode cX13_next 174 = .ok (.ifCond .eq 79, 3) := by decide +kernel
theorem dX13_next_177 : decode cX13_next 177 = .ok (.aload_n 0, 1) := by decide +kernel
theorem dX13_next_178 : decode cX13_next 178 = .ok (.iconst 0, 1) := by decide +kernel
theorem dX13_next_179 : decode cX13_next 179 = .ok (.putfield 175, 3) := by decide +kernel
theorem dX13_next_182 : decode cX13_next 182 = .ok (.aload_n 0, 1) := by decide +kernel
theorem dX13_next_183 : decode cX13_next 183 = .ok (.aload_n 0, 1) := by decide +kernel
theorem dX13_next_184 : decode cX13_next 184 = .ok (.getfield 153, 3) := by decide +kernel
theorem dX13_next_187 : decode cX13_next 187 = .ok (.invokevirtual 156, 3) := by decide +kernel
theorem dX13_next_190 : decode cX13_next 190 = .ok (.invokestatic 172, 3) := by decide +kernel
theorem dX13_next_193 : decode cX13_next 193 = .ok (.ifCond .eq 47, 3) := by decide +kernel
theorem dX13_next_196 : decode cX13_next 196 = .ok (.iload_n 2, 1) := by decide +kernel
theorem dX13_next_197 : decode cX13_next 197 = .ok (.iconst 4, 1) := by decide +kernel
theorem dX13_next_198 : decode cX13_next 198 = .ok (.if_icmp .ge 26, 3) := by decide +kernel
theorem dX13_next_201 : decode cX13_next 201 = .ok (.aload_n 0, 1) := by decide +kernel
theorem dX13_next_202 : decode cX13_next 202 = .ok (.bipush 10, 2) := by decide +kernel
theorem dX13_next_204 : decode cX13_next 204 = .ok (.aload_n 0, 1) := by decide +kernel
theorem dX13_next_205 : decode cX13_next 205 = .ok (.getfield 175, 3) := by decide +kernel
theorem dX13_next_208 : decode cX13_next 208 = .ok (.imul, 1) := by decide +kernel
theorem dX13_next_209 : decode cX13_next 209 = .ok (.aload_n 0, 1) := by decide +kernel
theorem dX13_next_210 : decode cX13_next 210 = .ok (.aload_n 0, 1) := by decide +kernel
theorem dX13_next_211 : decode cX13_next 211 = .ok (.getfield 153, 3) := by decide +kernel
theorem dX13_next_214 : decode cX13_next 214 = .ok (.invokevirtual 156, 3) := by decide +kernel
theorem dX13_next_217 : decode cX13_next 217 = .ok (.iadd, 1) := by decide +kernel
theorem dX13_next_218 : decode cX13_next 218 = .ok (.bipush 48, 2) := by decide +kernel
theorem dX13_next_220 : decode cX13_next 220 = .ok (.isub, 1) := by decide +kernel
theorem dX13_next_221 : decode cX13_next 221 = .ok (.putfield 175, 3) := by decide +kernel
theorem dX13_next_224 : decode cX13_next 224 = .ok (.iinc 2 1, 3) := by decide +kernel
theorem dX13_next_227 : decode cX13_next 227 = .ok (.aload_n 0, 1) := by decide +kernel
theorem dX13_next_228 : decode cX13_next 228 = .ok (.dup, 1) := by decide +kernel
theorem dX13_next_229 : decode cX13_next 229 = .ok (.getfield 153, 3) := by decide +kernel
theorem dX13_next_232 : decode cX13_next 232 = .ok (.iconst 1, 1) := by decide +kernel
theorem dX13_next_233 : decode cX13_next 233 = .ok (.iadd, 1) := by decide +kernel
theorem dX13_next_234 : decode cX13_next 234 = .ok (.putfield 153, 3) := by decide +kernel
theorem dX13_next_237 : decode cX13_next 237 = .ok (.goto (-55), 3) := by decide +kernel
theorem dX13_next_240 : decode cX13_next 240 = .ok (.iload_n 2, 1) := by decide +kernel
theorem dX13_next_241 : decode cX13_next 241 = .ok (.iconst 5, 1) := by decide +kernel
theorem dX13_next_242 : decode cX13_next 242 = .ok (.if_icmp .ge 49, 3) := by decide +kernel
theorem dX13_next_245 : decode cX13_next 245 = .ok (.aload_n 0, 1) := by decide +kernel
theorem dX13_next_246 : decode cX13_next 246 = .ok (.iconst 3, 1) := by decide +kernel
theorem dX13_next_247 : decode cX13_next 247 = .ok (.putfield 159, 3) := by decide +kernel
theorem dX13_next_250 : decode cX13_next 250 = .ok (.goto 41, 3) := by decide +kernel
theorem dX13_next_253 : decode cX13_next 253 = .ok (.iload_n 1, 1) := by decide +kernel
theorem dX13_next_254 : decode cX13_next 254 = .ok (.bipush 60, 2) := by decide +kernel
theorem dX13_next_256 : decode cX13_next 256 = .ok (.if_icmp .eq 15, 3) := by decide +kernel
theorem dX13_next_259 : decode cX13_next 259 = .ok (.iload_n 1, 1) := by decide +kernel
theorem dX13_next_260 : decode cX13_next 260 = .ok (.bipush 62, 2) := by decide +kernel
theorem dX13_next_262 : decode cX13_next 262 = .ok (.if_icmp .eq 9, 3) := by decide +kernel
theorem dX13_next_265 : decode cX13_next 265 = .ok (.iload_n 1, 1) := by decide +kernel
theorem dX13_next_266 : decode cX13_next 266 = .ok (.bipush 59, 2) := by decide +kernel
theorem dX13_next_268 : decode cX13_next 268 = .ok (.if_icmp .ne 23, 3) := by decide +kernel
theorem dX13_next_271 : decode cX13_next 271 = .ok (.aload_n 0, 1) := by decide +kernel
theorem dX13_next_272 : decode cX13_next 272 = .ok (.iconst 4, 1) := by decide +kernel
theorem dX13_next_273 : decode cX13_next 273 = .ok (.putfield 159, 3) := by decide +kernel
theorem dX13_next_276 : decode cX13_next 276 = .ok (.aload_n 0, 1) := by decide +kernel
theorem dX13_next_277 : decode cX13_next 277 = .ok (.iload_n 1, 1) := by decide +kernel
theorem dX13_next_278 : decode cX13_next 278 = .ok (.putfield 162, 3) := by decide +kernel
theorem dX13_next_281 : decode cX13_next 281 = .ok (.aload_n 0, 1) := by decide +kernel
theorem dX13_next_282 : decode cX13_next 282 = .ok (.dup, 1) := by decide +kernel
theorem dX13_next_283 : decode cX13_next 283 = .ok (.getfield 153, 3) := by decide +kernel
theorem dX13_next_286 : decode cX13_next 286 = .ok (.iconst 1, 1) := by decide +kernel
theorem dX13_next_287 : decode cX13_next 287 = .ok (.iadd, 1) := by decide +kernel
theorem dX13_next_288 : decode cX13_next 288 = .ok (.putfield 153, 3) := by decide +kernel
theorem dX13_next_291 : decode cX13_next 291 = .ok (.return_, 1) := by decide +kernel
theorem dX13_isWord_0 : decode cX13_isWord 0 = .ok (.aload_n 0, 1) := by decide +kernel
theorem dX13_isWord_1 : decode cX13_isWord 1 = .ok (.getfield 159, 3) := by decide +kernel
theorem dX13_isWord_4 : decode cX13_isWord 4 = .ok (.iconst 2, 1) := by decide +kernel
theorem dX13_isWord_5 : decode cX13_isWord 5 = .ok (.if_icmp .ne 19, 3) := by decide +kernel
theorem dX13_isWord_8 : decode cX13_isWord 8 = .ok (.aload_n 0, 1) := by decide +kernel
theorem dX13_isWord_9 : decode cX13_isWord 9 = .ok (.getfield 168, 3) := by decide +kernel
theorem dX13_isWord_12 : decode cX13_isWord 12 = .ok (.aload_n 1, 1) := by decide +kernel
theorem dX13_isWord_13 : decode cX13_isWord 13 = .ok (.invokestatic 178, 3) := by decide +kernel
theorem dX13_isWord_16 : decode cX13_isWord 16 = .ok (.lcmp, 1) := by decide +kernel
theorem dX13_isWord_17 : decode cX13_isWord 17 = .ok (.ifCond .ne 7, 3) := by decide +kernel
theorem dX13_isWord_20 : decode cX13_isWord 20 = .ok (.iconst 1, 1) := by decide +kernel
theorem dX13_isWord_21 : decode cX13_isWord 21 = .ok (.goto 4, 3) := by decide +kernel
theorem dX13_isWord_24 : decode cX13_isWord 24 = .ok (.iconst 0, 1) := by decide +kernel
theorem dX13_isWord_25 : decode cX13_isWord 25 = .ok (.ireturn, 1) := by decide +kernel
theorem dX13_is_0 : decode cX13_is 0 = .ok (.aload_n 0, 1) := by decide +kernel
theorem dX13_is_1 : decode cX13_is 1 = .ok (.getfield 159, 3) := by decide +kernel
theorem dX13_is_4 : decode cX13_is 4 = .ok (.iconst 4, 1) := by decide +kernel
theorem dX13_is_5 : decode cX13_is 5 = .ok (.if_icmp .ne 15, 3) := by decide +kernel
theorem dX13_is_8 : decode cX13_is 8 = .ok (.aload_n 0, 1) := by decide +kernel
theorem dX13_is_9 : decode cX13_is 9 = .ok (.getfield 162, 3) := by decide +kernel
theorem dX13_is_12 : decode cX13_is 12 = .ok (.iload_n 1, 1) := by decide +kernel
theorem dX13_is_13 : decode cX13_is 13 = .ok (.if_icmp .ne 7, 3) := by decide +kernel
theorem dX13_is_16 : decode cX13_is 16 = .ok (.iconst 1, 1) := by decide +kernel
theorem dX13_is_17 : decode cX13_is 17 = .ok (.goto 4, 3) := by decide +kernel
theorem dX13_is_20 : decode cX13_is 20 = .ok (.iconst 0, 1) := by decide +kernel
theorem dX13_is_21 : decode cX13_is 21 = .ok (.ireturn, 1) := by decide +kernel
theorem dX13_needWord_0 : decode cX13_needWord 0 = .ok (.aload_n 0, 1) := by decide +kernel
theorem dX13_needWord_1 : decode cX13_needWord 1 = .ok (.aload_n 1, 1) := by decide +kernel
theorem dX13_needWord_2 : decode cX13_needWord 2 = .ok (.invokevirtual 182, 3) := by decide +kernel
theorem dX13_needWord_5 : decode cX13_needWord 5 = .ok (.ifCond .ne 9, 3) := by decide +kernel
theorem dX13_needWord_8 : decode cX13_needWord 8 = .ok (.aload_n 0, 1) := by decide +kernel
theorem dX13_needWord_9 : decode cX13_needWord 9 = .ok (.iconst 1, 1) := by decide +kernel
theorem dX13_needWord_10 : decode cX13_needWord 10 = .ok (.invokevirtual 186, 3) := by decide +kernel
theorem dX13_needWord_13 : decode cX13_needWord 13 = .ok (.athrow, 1) := by decide +kernel
theorem dX13_needWord_14 : decode cX13_needWord 14 = .ok (.aload_n 0, 1) := by decide +kernel
theorem dX13_needWord_15 : decode cX13_needWord 15 = .ok (.invokevirtual 189, 3) := by decide +kernel
theorem dX13_needWord_18 : decode cX13_needWord 18 = .ok (.return_, 1) := by decide +kernel
theorem dX13_needNumber_0 : decode cX13_needNumber 0 = .ok (.aload_n 0, 1) := by decide +kernel
theorem dX13_needNumber_1 : decode cX13_needNumber 1 = .ok (.getfield 159, 3) := by decide +kernel
theorem dX13_needNumber_4 : decode cX13_needNumber 4 = .ok (.iconst 3, 1) := by decide +kernel
theorem dX13_needNumber_5 : decode cX13_needNumber 5 = .ok (.if_icmp .eq 9, 3) := by decide +kernel
theorem dX13_needNumber_8 : decode cX13_needNumber 8 = .ok (.aload_n 0, 1) := by decide +kernel
theorem dX13_needNumber_9 : decode cX13_needNumber 9 = .ok (.iconst 1, 1) := by decide +kernel
theorem dX13_needNumber_10 : decode cX13_needNumber 10 = .ok (.invokevirtual 186, 3) := by decide +kernel
theorem dX13_needNumber_13 : decode cX13_needNumber 13 = .ok (.athrow, 1) := by decide +kernel
theorem dX13_needNumber_14 : decode cX13_needNumber 14 = .ok (.aload_n 0, 1) := by decide +kernel
theorem dX13_needNumber_15 : decode cX13_needNumber 15 = .ok (.getfield 175, 3) := by decide +kernel
theorem dX13_needNumber_18 : decode cX13_needNumber 18 = .ok (.istore_n 1, 1) := by decide +kernel
theorem dX13_needNumber_19 : decode cX13_needNumber 19 = .ok (.aload_n 0, 1) := by decide +kernel
theorem dX13_needNumber_20 : decode cX13_needNumber 20 = .ok (.invokevirtual 189, 3) := by decide +kernel
theorem dX13_needNumber_23 : decode cX13_needNumber 23 = .ok (.iload_n 1, 1) := by decide +kernel
theorem dX13_needNumber_24 : decode cX13_needNumber 24 = .ok (.ireturn, 1) := by decide +kernel
theorem dX13_actHere_0 : decode cX13_actHere 0 = .ok (.aload_n 0, 1) := by decide +kernel
theorem dX13_actHere_1 : decode cX13_actHere 1 = .ok (.ldc 192, 2) := by decide +kernel
theorem dX13_actHere_3 : decode cX13_actHere 3 = .ok (.invokevirtual 182, 3) := by decide +kernel
theorem dX13_actHere_6 : decode cX13_actHere 6 = .ok (.ifCond .eq 7, 3) := by decide +kernel
theorem dX13_actHere_9 : decode cX13_actHere 9 = .ok (.iconst 0, 1) := by decide +kernel
theorem dX13_actHere_10 : decode cX13_actHere 10 = .ok (.goto 43, 3) := by decide +kernel
theorem dX13_actHere_13 : decode cX13_actHere 13 = .ok (.aload_n 0, 1) := by decide +kernel
theorem dX13_actHere_14 : decode cX13_actHere 14 = .ok (.ldc 194, 2) := by decide +kernel
theorem dX13_actHere_16 : decode cX13_actHere 16 = .ok (.invokevirtual 182, 3) := by decide +kernel
theorem dX13_actHere_19 : decode cX13_actHere 19 = .ok (.ifCond .eq 7, 3) := by decide +kernel
theorem dX13_actHere_22 : decode cX13_actHere 22 = .ok (.iconst 1, 1) := by decide +kernel
theorem dX13_actHere_23 : decode cX13_actHere 23 = .ok (.goto 30, 3) := by decide +kernel
theorem dX13_actHere_26 : decode cX13_actHere 26 = .ok (.aload_n 0, 1) := by decide +kernel
theorem dX13_actHere_27 : decode cX13_actHere 27 = .ok (.ldc 196, 2) := by decide +kernel
theorem dX13_actHere_29 : decode cX13_actHere 29 = .ok (.invokevirtual 182, 3) := by decide +kernel
theorem dX13_actHere_32 : decode cX13_actHere 32 = .ok (.ifCond .eq 7, 3) := by decide +kernel
theorem dX13_actHere_35 : decode cX13_actHere 35 = .ok (.iconst 2, 1) := by decide +kernel
theorem dX13_actHere_36 : decode cX13_actHere 36 = .ok (.goto 17, 3) := by decide +kernel
theorem dX13_actHere_39 : decode cX13_actHere 39 = .ok (.aload_n 0, 1) := by decide +kernel
theorem dX13_actHere_40 : decode cX13_actHere 40 = .ok (.ldc 198, 2) := by decide +kernel
theorem dX13_actHere_42 : decode cX13_actHere 42 = .ok (.invokevirtual 182, 3) := by decide +kernel
theorem dX13_actHere_45 : decode cX13_actHere 45 = .ok (.ifCond .eq 7, 3) := by decide +kernel
theorem dX13_actHere_48 : decode cX13_actHere 48 = .ok (.iconst 3, 1) := by decide +kernel
theorem dX13_actHere_49 : decode cX13_actHere 49 = .ok (.goto 4, 3) := by decide +kernel
theorem dX13_actHere_52 : decode cX13_actHere 52 = .ok (.iconst (-1), 1) := by decide +kernel
theorem dX13_actHere_53 : decode cX13_actHere 53 = .ok (.ireturn, 1) := by decide +kernel
theorem dX13_nameHere_0 : decode cX13_nameHere 0 = .ok (.aload_n 0, 1) := by decide +kernel
theorem dX13_nameHere_1 : decode cX13_nameHere 1 = .ok (.ldc 200, 2) := by decide +kernel
theorem dX13_nameHere_3 : decode cX13_nameHere 3 = .ok (.invokevirtual 182, 3) := by decide +kernel
theorem dX13_nameHere_6 : decode cX13_nameHere 6 = .ok (.ifCond .eq 7, 3) := by decide +kernel
theorem dX13_nameHere_9 : decode cX13_nameHere 9 = .ok (.iconst 0, 1) := by decide +kernel
theorem dX13_nameHere_10 : decode cX13_nameHere 10 = .ok (.goto 56, 3) := by decide +kernel
theorem dX13_nameHere_13 : decode cX13_nameHere 13 = .ok (.aload_n 0, 1) := by decide +kernel
theorem dX13_nameHere_14 : decode cX13_nameHere 14 = .ok (.ldc 202, 2) := by decide +kernel
theorem dX13_nameHere_16 : decode cX13_nameHere 16 = .ok (.invokevirtual 182, 3) := by decide +kernel
theorem dX13_nameHere_19 : decode cX13_nameHere 19 = .ok (.ifCond .eq 7, 3) := by decide +kernel
theorem dX13_nameHere_22 : decode cX13_nameHere 22 = .ok (.iconst 1, 1) := by decide +kernel
theorem dX13_nameHere_23 : decode cX13_nameHere 23 = .ok (.goto 43, 3) := by decide +kernel
theorem dX13_nameHere_26 : decode cX13_nameHere 26 = .ok (.aload_n 0, 1) := by decide +kernel
theorem dX13_nameHere_27 : decode cX13_nameHere 27 = .ok (.ldc 204, 2) := by decide +kernel
theorem dX13_nameHere_29 : decode cX13_nameHere 29 = .ok (.invokevirtual 182, 3) := by decide +kernel
theorem dX13_nameHere_32 : decode cX13_nameHere 32 = .ok (.ifCond .eq 7, 3) := by decide +kernel
theorem dX13_nameHere_35 : decode cX13_nameHere 35 = .ok (.iconst 2, 1) := by decide +kernel
theorem dX13_nameHere_36 : decode cX13_nameHere 36 = .ok (.goto 30, 3) := by decide +kernel
theorem dX13_nameHere_39 : decode cX13_nameHere 39 = .ok (.aload_n 0, 1) := by decide +kernel
theorem dX13_nameHere_40 : decode cX13_nameHere 40 = .ok (.ldc 206, 2) := by decide +kernel
theorem dX13_nameHere_42 : decode cX13_nameHere 42 = .ok (.invokevirtual 182, 3) := by decide +kernel
theorem dX13_nameHere_45 : decode cX13_nameHere 45 = .ok (.ifCond .eq 7, 3) := by decide +kernel
theorem dX13_nameHere_48 : decode cX13_nameHere 48 = .ok (.iconst 3, 1) := by decide +kernel
theorem dX13_nameHere_49 : decode cX13_nameHere 49 = .ok (.goto 17, 3) := by decide +kernel
theorem dX13_nameHere_52 : decode cX13_nameHere 52 = .ok (.aload_n 0, 1) := by decide +kernel
theorem dX13_nameHere_53 : decode cX13_nameHere 53 = .ok (.ldc 208, 2) := by decide +kernel
theorem dX13_nameHere_55 : decode cX13_nameHere 55 = .ok (.invokevirtual 182, 3) := by decide +kernel
theorem dX13_nameHere_58 : decode cX13_nameHere 58 = .ok (.ifCond .eq 7, 3) := by decide +kernel
theorem dX13_nameHere_61 : decode cX13_nameHere 61 = .ok (.iconst 4, 1) := by decide +kernel
theorem dX13_nameHere_62 : decode cX13_nameHere 62 = .ok (.goto 4, 3) := by decide +kernel
theorem dX13_nameHere_65 : decode cX13_nameHere 65 = .ok (.iconst (-1), 1) := by decide +kernel
theorem dX13_nameHere_66 : decode cX13_nameHere 66 = .ok (.istore_n 1, 1) := by decide +kernel
theorem dX13_nameHere_67 : decode cX13_nameHere 67 = .ok (.iload_n 1, 1) := by decide +kernel
theorem dX13_nameHere_68 : decode cX13_nameHere 68 = .ok (.iconst (-1), 1) := by decide +kernel
theorem dX13_nameHere_69 : decode cX13_nameHere 69 = .ok (.if_icmp .eq 5, 3) := by decide +kernel
theorem dX13_nameHere_72 : decode cX13_nameHere 72 = .ok (.iload_n 1, 1) := by decide +kernel
theorem dX13_nameHere_73 : decode cX13_nameHere 73 = .ok (.ireturn, 1) := by decide +kernel
theorem dX13_nameHere_74 : decode cX13_nameHere 74 = .ok (.aload_n 0, 1) := by decide +kernel
theorem dX13_nameHere_75 : decode cX13_nameHere 75 = .ok (.ldc 209, 2) := by decide +kernel
theorem dX13_nameHere_77 : decode cX13_nameHere 77 = .ok (.invokevirtual 182, 3) := by decide +kernel
theorem dX13_nameHere_80 : decode cX13_nameHere 80 = .ok (.ifCond .eq 7, 3) := by decide +kernel
theorem dX13_nameHere_83 : decode cX13_nameHere 83 = .ok (.iconst 5, 1) := by decide +kernel
theorem dX13_nameHere_84 : decode cX13_nameHere 84 = .ok (.goto 74, 3) := by decide +kernel
theorem dX13_nameHere_87 : decode cX13_nameHere 87 = .ok (.aload_n 0, 1) := by decide +kernel
theorem dX13_nameHere_88 : decode cX13_nameHere 88 = .ok (.ldc 211, 2) := by decide +kernel
theorem dX13_nameHere_90 : decode cX13_nameHere 90 = .ok (.invokevirtual 182, 3) := by decide +kernel
theorem dX13_nameHere_93 : decode cX13_nameHere 93 = .ok (.ifCond .eq 8, 3) := by decide +kernel
theorem dX13_nameHere_96 : decode cX13_nameHere 96 = .ok (.bipush 6, 2) := by decide +kernel
theorem dX13_nameHere_98 : decode cX13_nameHere 98 = .ok (.goto 60, 3) := by decide +kernel
theorem dX13_nameHere_101 : decode cX13_nameHere 101 = .ok (.aload_n 0, 1) := by decide +kernel
theorem dX13_nameHere_102 : decode cX13_nameHere 102 = .ok (.ldc 213, 2) := by decide +kernel
theorem dX13_nameHere_104 : decode cX13_nameHere 104 = .ok (.invokevirtual 182, 3) := by decide +kernel
theorem dX13_nameHere_107 : decode cX13_nameHere 107 = .ok (.ifCond .eq 8, 3) := by decide +kernel
theorem dX13_nameHere_110 : decode cX13_nameHere 110 = .ok (.bipush 7, 2) := by decide +kernel
theorem dX13_nameHere_112 : decode cX13_nameHere 112 = .ok (.goto 46, 3) := by decide +kernel
theorem dX13_nameHere_115 : decode cX13_nameHere 115 = .ok (.aload_n 0, 1) := by decide +kernel
theorem dX13_nameHere_116 : decode cX13_nameHere 116 = .ok (.ldc 215, 2) := by decide +kernel
theorem dX13_nameHere_118 : decode cX13_nameHere 118 = .ok (.invokevirtual 182, 3) := by decide +kernel
theorem dX13_nameHere_121 : decode cX13_nameHere 121 = .ok (.ifCond .eq 8, 3) := by decide +kernel
theorem dX13_nameHere_124 : decode cX13_nameHere 124 = .ok (.bipush 8, 2) := by decide +kernel
theorem dX13_nameHere_126 : decode cX13_nameHere 126 = .ok (.goto 32, 3) := by decide +kernel
theorem dX13_nameHere_129 : decode cX13_nameHere 129 = .ok (.aload_n 0, 1) := by decide +kernel
theorem dX13_nameHere_130 : decode cX13_nameHere 130 = .ok (.ldc 217, 2) := by decide +kernel
theorem dX13_nameHere_132 : decode cX13_nameHere 132 = .ok (.invokevirtual 182, 3) := by decide +kernel
theorem dX13_nameHere_135 : decode cX13_nameHere 135 = .ok (.ifCond .eq 8, 3) := by decide +kernel
theorem dX13_nameHere_138 : decode cX13_nameHere 138 = .ok (.bipush 9, 2) := by decide +kernel
theorem dX13_nameHere_140 : decode cX13_nameHere 140 = .ok (.goto 18, 3) := by decide +kernel
theorem dX13_nameHere_143 : decode cX13_nameHere 143 = .ok (.aload_n 0, 1) := by decide +kernel
theorem dX13_nameHere_144 : decode cX13_nameHere 144 = .ok (.ldc 219, 2) := by decide +kernel
theorem dX13_nameHere_146 : decode cX13_nameHere 146 = .ok (.invokevirtual 182, 3) := by decide +kernel
theorem dX13_nameHere_149 : decode cX13_nameHere 149 = .ok (.ifCond .eq 8, 3) := by decide +kernel
theorem dX13_nameHere_152 : decode cX13_nameHere 152 = .ok (.bipush 10, 2) := by decide +kernel
theorem dX13_nameHere_154 : decode cX13_nameHere 154 = .ok (.goto 4, 3) := by decide +kernel
theorem dX13_nameHere_157 : decode cX13_nameHere 157 = .ok (.iconst (-1), 1) := by decide +kernel
theorem dX13_nameHere_158 : decode cX13_nameHere 158 = .ok (.ireturn, 1) := by decide +kernel
theorem dX13_start_0 : decode cX13_start 0 = .ok (.aload_n 0, 1) := by decide +kernel
theorem dX13_start_1 : decode cX13_start 1 = .ok (.iload_n 1, 1) := by decide +kernel
theorem dX13_start_2 : decode cX13_start 2 = .ok (.putfield 139, 3) := by decide +kernel
theorem dX13_start_5 : decode cX13_start 5 = .ok (.aload_n 0, 1) := by decide +kernel
theorem dX13_start_6 : decode cX13_start 6 = .ok (.iconst 0, 1) := by decide +kernel
theorem dX13_start_7 : decode cX13_start 7 = .ok (.putfield 221, 3) := by decide +kernel
theorem dX13_start_10 : decode cX13_start 10 = .ok (.aload_n 0, 1) := by decide +kernel
theorem dX13_start_11 : decode cX13_start 11 = .ok (.iconst 0, 1) := by decide +kernel
theorem dX13_start_12 : decode cX13_start 12 = .ok (.putfield 153, 3) := by decide +kernel
theorem dX13_start_15 : decode cX13_start 15 = .ok (.aload_n 0, 1) := by decide +kernel
theorem dX13_start_16 : decode cX13_start 16 = .ok (.iconst 0, 1) := by decide +kernel
theorem dX13_start_17 : decode cX13_start 17 = .ok (.putfield 224, 3) := by decide +kernel
theorem dX13_start_20 : decode cX13_start 20 = .ok (.aload_n 0, 1) := by decide +kernel
theorem dX13_start_21 : decode cX13_start 21 = .ok (.invokevirtual 189, 3) := by decide +kernel
theorem dX13_start_24 : decode cX13_start 24 = .ok (.return_, 1) := by decide +kernel
theorem dX13_readPlan_0 : decode cX13_readPlan 0 = .ok (.aload_n 0, 1) := by decide +kernel
theorem dX13_readPlan_1 : decode cX13_readPlan 1 = .ok (.getfield 227, 3) := by decide +kernel
theorem dX13_readPlan_4 : decode cX13_readPlan 4 = .ok (.istore_n 1, 1) := by decide +kernel
theorem dX13_readPlan_5 : decode cX13_readPlan 5 = .ok (.aload_n 0, 1) := by decide +kernel
theorem dX13_readPlan_6 : decode cX13_readPlan 6 = .ok (.getfield 69, 3) := by decide +kernel
theorem dX13_readPlan_9 : decode cX13_readPlan 9 = .ok (.iload_n 1, 1) := by decide +kernel
theorem dX13_readPlan_10 : decode cX13_readPlan 10 = .ok (.iconst 0, 1) := by decide +kernel
theorem dX13_readPlan_11 : decode cX13_readPlan 11 = .ok (.iastore, 1) := by decide +kernel
theorem dX13_readPlan_12 : decode cX13_readPlan 12 = .ok (.iconst 1, 1) := by decide +kernel
theorem dX13_readPlan_13 : decode cX13_readPlan 13 = .ok (.istore_n 2, 1) := by decide +kernel
theorem dX13_readPlan_14 : decode cX13_readPlan 14 = .ok (.iload_n 2, 1) := by decide +kernel
theorem dX13_readPlan_15 : decode cX13_readPlan 15 = .ok (.ifCond .eq 155, 3) := by decide +kernel
theorem dX13_readPlan_18 : decode cX13_readPlan 18 = .ok (.aload_n 0, 1) := by decide +kernel
theorem dX13_readPlan_19 : decode cX13_readPlan 19 = .ok (.ldc 230, 2) := by decide +kernel
theorem dX13_readPlan_21 : decode cX13_readPlan 21 = .ok (.invokevirtual 182, 3) := by decide +kernel
theorem dX13_readPlan_24 : decode cX13_readPlan 24 = .ok (.istore_n 3, 1) := by decide +kernel
theorem dX13_readPlan_25 : decode cX13_readPlan 25 = .ok (.iload_n 3, 1) := by decide +kernel
theorem dX13_readPlan_26 : decode cX13_readPlan 26 = .ok (.ifCond .ne 17, 3) := by decide +kernel
theorem dX13_readPlan_29 : decode cX13_readPlan 29 = .ok (.aload_n 0, 1) := by decide +kernel
theorem dX13_readPlan_30 : decode cX13_readPlan 30 = .ok (.invokevirtual 232, 3) := by decide +kernel
theorem dX13_readPlan_33 : decode cX13_readPlan 33 = .ok (.iconst (-1), 1) := by decide +kernel
theorem dX13_readPlan_34 : decode cX13_readPlan 34 = .ok (.if_icmp .ne 9, 3) := by decide +kernel
theorem dX13_readPlan_37 : decode cX13_readPlan 37 = .ok (.aload_n 0, 1) := by decide +kernel
theorem dX13_readPlan_38 : decode cX13_readPlan 38 = .ok (.iconst 1, 1) := by decide +kernel
theorem dX13_readPlan_39 : decode cX13_readPlan 39 = .ok (.invokevirtual 186, 3) := by decide +kernel
theorem dX13_readPlan_42 : decode cX13_readPlan 42 = .ok (.athrow, 1) := by decide +kernel
theorem dX13_readPlan_43 : decode cX13_readPlan 43 = .ok (.aload_n 0, 1) := by decide +kernel
theorem dX13_readPlan_44 : decode cX13_readPlan 44 = .ok (.getfield 69, 3) := by decide +kernel
theorem dX13_readPlan_47 : decode cX13_readPlan 47 = .ok (.iload_n 1, 1) := by decide +kernel
theorem dX13_readPlan_48 : decode cX13_readPlan 48 = .ok (.iaload, 1) := by decide +kernel
theorem dX13_readPlan_49 : decode cX13_readPlan 49 = .ok (.bipush 12, 2) := by decide +kernel
theorem dX13_readPlan_51 : decode cX13_readPlan 51 = .ok (.if_icmp .ne 9, 3) := by decide +kernel
theorem dX13_readPlan_54 : decode cX13_readPlan 54 = .ok (.aload_n 0, 1) := by decide +kernel
theorem dX13_readPlan_55 : decode cX13_readPlan 55 = .ok (.iconst 3, 1) := by decide +kernel
theorem dX13_readPlan_56 : decode cX13_readPlan 56 = .ok (.invokevirtual 186, 3) := by decide +kernel
theorem dX13_readPlan_59 : decode cX13_readPlan 59 = .ok (.athrow, 1) := by decide +kernel
theorem dX13_readPlan_60 : decode cX13_readPlan 60 = .ok (.bipush 12, 2) := by decide +kernel
theorem dX13_readPlan_62 : decode cX13_readPlan 62 = .ok (.iload_n 1, 1) := by decide +kernel
theorem dX13_readPlan_63 : decode cX13_readPlan 63 = .ok (.imul, 1) := by decide +kernel
theorem dX13_readPlan_64 : decode cX13_readPlan 64 = .ok (.aload_n 0, 1) := by decide +kernel
theorem dX13_readPlan_65 : decode cX13_readPlan 65 = .ok (.getfield 69, 3) := by decide +kernel
theorem dX13_readPlan_68 : decode cX13_readPlan 68 = .ok (.iload_n 1, 1) := by decide +kernel
theorem dX13_readPlan_69 : decode cX13_readPlan 69 = .ok (.iaload, 1) := by decide +kernel
theorem dX13_readPlan_70 : decode cX13_readPlan 70 = .ok (.iadd, 1) := by decide +kernel
theorem dX13_readPlan_71 : decode cX13_readPlan 71 = .ok (.istore 4, 2) := by decide +kernel
theorem dX13_readPlan_73 : decode cX13_readPlan 73 = .ok (.aload_n 0, 1) := by decide +kernel
theorem dX13_readPlan_74 : decode cX13_readPlan 74 = .ok (.getfield 75, 3) := by decide +kernel
theorem dX13_readPlan_77 : decode cX13_readPlan 77 = .ok (.iload 4, 2) := by decide +kernel
theorem dX13_readPlan_79 : decode cX13_readPlan 79 = .ok (.iconst 0, 1) := by decide +kernel
theorem dX13_readPlan_80 : decode cX13_readPlan 80 = .ok (.iastore, 1) := by decide +kernel
theorem dX13_readPlan_81 : decode cX13_readPlan 81 = .ok (.iload_n 3, 1) := by decide +kernel
theorem dX13_readPlan_82 : decode cX13_readPlan 82 = .ok (.istore 5, 2) := by decide +kernel
theorem dX13_readPlan_84 : decode cX13_readPlan 84 = .ok (.iload 5, 2) := by decide +kernel
theorem dX13_readPlan_86 : decode cX13_readPlan 86 = .ok (.ifCond .eq 24, 3) := by decide +kernel
theorem dX13_readPlan_89 : decode cX13_readPlan 89 = .ok (.aload_n 0, 1) := by decide +kernel
theorem dX13_readPlan_90 : decode cX13_readPlan 90 = .ok (.invokevirtual 189, 3) := by decide +kernel
theorem dX13_readPlan_93 : decode cX13_readPlan 93 = .ok (.aload_n 0, 1) := by decide +kernel
theorem dX13_readPlan_94 : decode cX13_readPlan 94 = .ok (.iload 4, 2) := by decide +kernel
theorem dX13_readPlan_96 : decode cX13_readPlan 96 = .ok (.invokevirtual 235, 3) := by decide +kernel
theorem dX13_readPlan_99 : decode cX13_readPlan 99 = .ok (.aload_n 0, 1) := by decide +kernel
theorem dX13_readPlan_100 : decode cX13_readPlan 100 = .ok (.ldc 239, 2) := by decide +kernel
theorem dX13_readPlan_102 : decode cX13_readPlan 102 = .ok (.invokevirtual 182, 3) := by decide +kernel
theorem dX13_readPlan_105 : decode cX13_readPlan 105 = .ok (.istore 5, 2) := by decide +kernel
theorem dX13_readPlan_107 : decode cX13_readPlan 107 = .ok (.goto (-23), 3) := by decide +kernel
theorem dX13_readPlan_110 : decode cX13_readPlan 110 = .ok (.aload_n 0, 1) := by decide +kernel
theorem dX13_readPlan_111 : decode cX13_readPlan 111 = .ok (.getfield 72, 3) := by decide +kernel
theorem dX13_readPlan_114 : decode cX13_readPlan 114 = .ok (.iload 4, 2) := by decide +kernel
theorem dX13_readPlan_116 : decode cX13_readPlan 116 = .ok (.aload_n 0, 1) := by decide +kernel
theorem dX13_readPlan_117 : decode cX13_readPlan 117 = .ok (.invokevirtual 232, 3) := by decide +kernel
theorem dX13_readPlan_120 : decode cX13_readPlan 120 = .ok (.iastore, 1) := by decide +kernel
theorem dX13_readPlan_121 : decode cX13_readPlan 121 = .ok (.aload_n 0, 1) := by decide +kernel
theorem dX13_readPlan_122 : decode cX13_readPlan 122 = .ok (.getfield 72, 3) := by decide +kernel
theorem dX13_readPlan_125 : decode cX13_readPlan 125 = .ok (.iload 4, 2) := by decide +kernel
theorem dX13_readPlan_127 : decode cX13_readPlan 127 = .ok (.iaload, 1) := by decide +kernel
theorem dX13_readPlan_128 : decode cX13_readPlan 128 = .ok (.iconst (-1), 1) := by decide +kernel
theorem dX13_readPlan_129 : decode cX13_readPlan 129 = .ok (.if_icmp .ne 9, 3) := by decide +kernel
theorem dX13_readPlan_132 : decode cX13_readPlan 132 = .ok (.aload_n 0, 1) := by decide +kernel
theorem dX13_readPlan_133 : decode cX13_readPlan 133 = .ok (.iconst 1, 1) := by decide +kernel
theorem dX13_readPlan_134 : decode cX13_readPlan 134 = .ok (.invokevirtual 186, 3) := by decide +kernel
theorem dX13_readPlan_137 : decode cX13_readPlan 137 = .ok (.athrow, 1) := by decide +kernel
theorem dX13_readPlan_138 : decode cX13_readPlan 138 = .ok (.aload_n 0, 1) := by decide +kernel
theorem dX13_readPlan_139 : decode cX13_readPlan 139 = .ok (.invokevirtual 189, 3) := by decide +kernel
theorem dX13_readPlan_142 : decode cX13_readPlan 142 = .ok (.aload_n 0, 1) := by decide +kernel
theorem dX13_readPlan_143 : decode cX13_readPlan 143 = .ok (.getfield 69, 3) := by decide +kernel
theorem dX13_readPlan_146 : decode cX13_readPlan 146 = .ok (.iload_n 1, 1) := by decide +kernel
theorem dX13_readPlan_147 : decode cX13_readPlan 147 = .ok (.dup2, 1) := by decide +kernel
theorem dX13_readPlan_148 : decode cX13_readPlan 148 = .ok (.iaload, 1) := by decide +kernel
theorem dX13_readPlan_149 : decode cX13_readPlan 149 = .ok (.iconst 1, 1) := by decide +kernel
theorem dX13_readPlan_150 : decode cX13_readPlan 150 = .ok (.iadd, 1) := by decide +kernel
theorem dX13_readPlan_151 : decode cX13_readPlan 151 = .ok (.iastore, 1) := by decide +kernel
theorem dX13_readPlan_152 : decode cX13_readPlan 152 = .ok (.aload_n 0, 1) := by decide +kernel
theorem dX13_readPlan_153 : decode cX13_readPlan 153 = .ok (.bipush 59, 2) := by decide +kernel
theorem dX13_readPlan_155 : decode cX13_readPlan 155 = .ok (.invokevirtual 241, 3) := by decide +kernel
theorem dX13_readPlan_158 : decode cX13_readPlan 158 = .ok (.istore_n 2, 1) := by decide +kernel
theorem dX13_readPlan_159 : decode cX13_readPlan 159 = .ok (.iload_n 2, 1) := by decide +kernel
theorem dX13_readPlan_160 : decode cX13_readPlan 160 = .ok (.ifCond .eq 7, 3) := by decide +kernel
theorem dX13_readPlan_163 : decode cX13_readPlan 163 = .ok (.aload_n 0, 1) := by decide +kernel
theorem dX13_readPlan_164 : decode cX13_readPlan 164 = .ok (.invokevirtual 189, 3) := by decide +kernel
theorem dX13_readPlan_167 : decode cX13_readPlan 167 = .ok (.goto (-153), 3) := by decide +kernel
theorem dX13_readPlan_170 : decode cX13_readPlan 170 = .ok (.aload_n 0, 1) := by decide +kernel
theorem dX13_readPlan_171 : decode cX13_readPlan 171 = .ok (.getfield 159, 3) := by decide +kernel
theorem dX13_readPlan_174 : decode cX13_readPlan 174 = .ok (.iconst 1, 1) := by decide +kernel
theorem dX13_readPlan_175 : decode cX13_readPlan 175 = .ok (.if_icmp .eq 9, 3) := by decide +kernel
theorem dX13_readPlan_178 : decode cX13_readPlan 178 = .ok (.aload_n 0, 1) := by decide +kernel
theorem dX13_readPlan_179 : decode cX13_readPlan 179 = .ok (.iconst 1, 1) := by decide +kernel
theorem dX13_readPlan_180 : decode cX13_readPlan 180 = .ok (.invokevirtual 186, 3) := by decide +kernel
theorem dX13_readPlan_183 : decode cX13_readPlan 183 = .ok (.athrow, 1) := by decide +kernel
theorem dX13_readPlan_184 : decode cX13_readPlan 184 = .ok (.return_, 1) := by decide +kernel
theorem dX13_readTest_0 : decode cX13_readTest 0 = .ok (.aload_n 0, 1) := by decide +kernel
theorem dX13_readTest_1 : decode cX13_readTest 1 = .ok (.getfield 159, 3) := by decide +kernel
theorem dX13_readTest_4 : decode cX13_readTest 4 = .ok (.iconst 2, 1) := by decide +kernel
theorem dX13_readTest_5 : decode cX13_readTest 5 = .ok (.if_icmp .ne 29, 3) := by decide +kernel
theorem dX13_readTest_8 : decode cX13_readTest 8 = .ok (.aload_n 0, 1) := by decide +kernel
theorem dX13_readTest_9 : decode cX13_readTest 9 = .ok (.ldc 230, 2) := by decide +kernel
theorem dX13_readTest_11 : decode cX13_readTest 11 = .ok (.invokevirtual 182, 3) := by decide +kernel
theorem dX13_readTest_14 : decode cX13_readTest 14 = .ok (.ifCond .ne 20, 3) := by decide +kernel
theorem dX13_readTest_17 : decode cX13_readTest 17 = .ok (.aload_n 0, 1) := by decide +kernel
theorem dX13_readTest_18 : decode cX13_readTest 18 = .ok (.ldc 239, 2) := by decide +kernel
theorem dX13_readTest_20 : decode cX13_readTest 20 = .ok (.invokevirtual 182, 3) := by decide +kernel
theorem dX13_readTest_23 : decode cX13_readTest 23 = .ok (.ifCond .ne 11, 3) := by decide +kernel
theorem dX13_readTest_26 : decode cX13_readTest 26 = .ok (.aload_n 0, 1) := by decide +kernel
theorem dX13_readTest_27 : decode cX13_readTest 27 = .ok (.invokevirtual 232, 3) := by decide +kernel
theorem dX13_readTest_30 : decode cX13_readTest 30 = .ok (.iconst (-1), 1) := by decide +kernel
theorem dX13_readTest_31 : decode cX13_readTest 31 = .ok (.if_icmp .eq 9, 3) := by decide +kernel
theorem dX13_readTest_34 : decode cX13_readTest 34 = .ok (.aload_n 0, 1) := by decide +kernel
theorem dX13_readTest_35 : decode cX13_readTest 35 = .ok (.iconst 1, 1) := by decide +kernel
theorem dX13_readTest_36 : decode cX13_readTest 36 = .ok (.invokevirtual 186, 3) := by decide +kernel
theorem dX13_readTest_39 : decode cX13_readTest 39 = .ok (.athrow, 1) := by decide +kernel
theorem dX13_readTest_40 : decode cX13_readTest 40 = .ok (.aload_n 0, 1) := by decide +kernel
theorem dX13_readTest_41 : decode cX13_readTest 41 = .ok (.invokevirtual 244, 3) := by decide +kernel
theorem dX13_readTest_44 : decode cX13_readTest 44 = .ok (.istore_n 2, 1) := by decide +kernel
theorem dX13_readTest_45 : decode cX13_readTest 45 = .ok (.iload_n 2, 1) := by decide +kernel
theorem dX13_readTest_46 : decode cX13_readTest 46 = .ok (.iconst (-1), 1) := by decide +kernel
theorem dX13_readTest_47 : decode cX13_readTest 47 = .ok (.if_icmp .ne 9, 3) := by decide +kernel
theorem dX13_readTest_50 : decode cX13_readTest 50 = .ok (.aload_n 0, 1) := by decide +kernel
theorem dX13_readTest_51 : decode cX13_readTest 51 = .ok (.iconst 2, 1) := by decide +kernel
theorem dX13_readTest_52 : decode cX13_readTest 52 = .ok (.invokevirtual 186, 3) := by decide +kernel
theorem dX13_readTest_55 : decode cX13_readTest 55 = .ok (.athrow, 1) := by decide +kernel
theorem dX13_readTest_56 : decode cX13_readTest 56 = .ok (.aload_n 0, 1) := by decide +kernel
theorem dX13_readTest_57 : decode cX13_readTest 57 = .ok (.getfield 75, 3) := by decide +kernel
theorem dX13_readTest_60 : decode cX13_readTest 60 = .ok (.iload_n 1, 1) := by decide +kernel
theorem dX13_readTest_61 : decode cX13_readTest 61 = .ok (.iaload, 1) := by decide +kernel
theorem dX13_readTest_62 : decode cX13_readTest 62 = .ok (.iconst 4, 1) := by decide +kernel
theorem dX13_readTest_63 : decode cX13_readTest 63 = .ok (.if_icmp .ne 9, 3) := by decide +kernel
theorem dX13_readTest_66 : decode cX13_readTest 66 = .ok (.aload_n 0, 1) := by decide +kernel
theorem dX13_readTest_67 : decode cX13_readTest 67 = .ok (.iconst 3, 1) := by decide +kernel
theorem dX13_readTest_68 : decode cX13_readTest 68 = .ok (.invokevirtual 186, 3) := by decide +kernel
theorem dX13_readTest_71 : decode cX13_readTest 71 = .ok (.athrow, 1) := by decide +kernel
theorem dX13_readTest_72 : decode cX13_readTest 72 = .ok (.iconst 4, 1) := by decide +kernel
theorem dX13_readTest_73 : decode cX13_readTest 73 = .ok (.iload_n 1, 1) := by decide +kernel
theorem dX13_readTest_74 : decode cX13_readTest 74 = .ok (.imul, 1) := by decide +kernel
theorem dX13_readTest_75 : decode cX13_readTest 75 = .ok (.aload_n 0, 1) := by decide +kernel
theorem dX13_readTest_76 : decode cX13_readTest 76 = .ok (.getfield 75, 3) := by decide +kernel
theorem dX13_readTest_79 : decode cX13_readTest 79 = .ok (.iload_n 1, 1) := by decide +kernel
theorem dX13_readTest_80 : decode cX13_readTest 80 = .ok (.iaload, 1) := by decide +kernel
theorem dX13_readTest_81 : decode cX13_readTest 81 = .ok (.iadd, 1) := by decide +kernel
theorem dX13_readTest_82 : decode cX13_readTest 82 = .ok (.istore_n 3, 1) := by decide +kernel
theorem dX13_readTest_83 : decode cX13_readTest 83 = .ok (.aload_n 0, 1) := by decide +kernel
theorem dX13_readTest_84 : decode cX13_readTest 84 = .ok (.getfield 78, 3) := by decide +kernel
theorem dX13_readTest_87 : decode cX13_readTest 87 = .ok (.iload_n 3, 1) := by decide +kernel
theorem dX13_readTest_88 : decode cX13_readTest 88 = .ok (.iload_n 2, 1) := by decide +kernel
theorem dX13_readTest_89 : decode cX13_readTest 89 = .ok (.iastore, 1) := by decide +kernel
theorem dX13_readTest_90 : decode cX13_readTest 90 = .ok (.aload_n 0, 1) := by decide +kernel
theorem dX13_readTest_91 : decode cX13_readTest 91 = .ok (.invokevirtual 189, 3) := by decide +kernel
theorem dX13_readTest_94 : decode cX13_readTest 94 = .ok (.aload_n 0, 1) := by decide +kernel
theorem dX13_readTest_95 : decode cX13_readTest 95 = .ok (.bipush 60, 2) := by decide +kernel
theorem dX13_readTest_97 : decode cX13_readTest 97 = .ok (.invokevirtual 241, 3) := by decide +kernel
theorem dX13_readTest_100 : decode cX13_readTest 100 = .ok (.ifCond .ne 18, 3) := by decide +kernel
theorem dX13_readTest_103 : decode cX13_readTest 103 = .ok (.aload_n 0, 1) := by decide +kernel
theorem dX13_readTest_104 : decode cX13_readTest 104 = .ok (.bipush 62, 2) := by decide +kernel
theorem dX13_readTest_106 : decode cX13_readTest 106 = .ok (.invokevirtual 241, 3) := by decide +kernel
theorem dX13_readTest_109 : decode cX13_readTest 109 = .ok (.ifCond .ne 9, 3) := by decide +kernel
theorem dX13_readTest_112 : decode cX13_readTest 112 = .ok (.aload_n 0, 1) := by decide +kernel
theorem dX13_readTest_113 : decode cX13_readTest 113 = .ok (.iconst 1, 1) := by decide +kernel
theorem dX13_readTest_114 : decode cX13_readTest 114 = .ok (.invokevirtual 186, 3) := by decide +kernel
theorem dX13_readTest_117 : decode cX13_readTest 117 = .ok (.athrow, 1) := by decide +kernel
theorem dX13_readTest_118 : decode cX13_readTest 118 = .ok (.aload_n 0, 1) := by decide +kernel
theorem dX13_readTest_119 : decode cX13_readTest 119 = .ok (.getfield 84, 3) := by decide +kernel
theorem dX13_readTest_122 : decode cX13_readTest 122 = .ok (.iload_n 3, 1) := by decide +kernel
theorem dX13_readTest_123 : decode cX13_readTest 123 = .ok (.aload_n 0, 1) := by decide +kernel
theorem dX13_readTest_124 : decode cX13_readTest 124 = .ok (.bipush 60, 2) := by decide +kernel
theorem dX13_readTest_126 : decode cX13_readTest 126 = .ok (.invokevirtual 241, 3) := by decide +kernel
theorem dX13_readTest_129 : decode cX13_readTest 129 = .ok (.bastore, 1) := by decide +kernel
theorem dX13_readTest_130 : decode cX13_readTest 130 = .ok (.aload_n 0, 1) := by decide +kernel
theorem dX13_readTest_131 : decode cX13_readTest 131 = .ok (.invokevirtual 189, 3) := by decide +kernel
theorem dX13_readTest_134 : decode cX13_readTest 134 = .ok (.aload_n 0, 1) := by decide +kernel
theorem dX13_readTest_135 : decode cX13_readTest 135 = .ok (.getfield 81, 3) := by decide +kernel
theorem dX13_readTest_138 : decode cX13_readTest 138 = .ok (.iload_n 3, 1) := by decide +kernel
theorem dX13_readTest_139 : decode cX13_readTest 139 = .ok (.aload_n 0, 1) := by decide +kernel
theorem dX13_readTest_140 : decode cX13_readTest 140 = .ok (.invokevirtual 247, 3) := by decide +kernel
theorem dX13_readTest_143 : decode cX13_readTest 143 = .ok (.iastore, 1) := by decide +kernel
theorem dX13_readTest_144 : decode cX13_readTest 144 = .ok (.aload_n 0, 1) := by decide +kernel
theorem dX13_readTest_145 : decode cX13_readTest 145 = .ok (.getfield 75, 3) := by decide +kernel
theorem dX13_readTest_148 : decode cX13_readTest 148 = .ok (.iload_n 1, 1) := by decide +kernel
theorem dX13_readTest_149 : decode cX13_readTest 149 = .ok (.dup2, 1) := by decide +kernel
theorem dX13_readTest_150 : decode cX13_readTest 150 = .ok (.iaload, 1) := by decide +kernel
theorem dX13_readTest_151 : decode cX13_readTest 151 = .ok (.iconst 1, 1) := by decide +kernel
theorem dX13_readTest_152 : decode cX13_readTest 152 = .ok (.iadd, 1) := by decide +kernel
theorem dX13_readTest_153 : decode cX13_readTest 153 = .ok (.iastore, 1) := by decide +kernel
theorem dX13_readTest_154 : decode cX13_readTest 154 = .ok (.return_, 1) := by decide +kernel
theorem dX13_readLaws_0 : decode cX13_readLaws 0 = .ok (.aload_n 0, 1) := by decide +kernel
theorem dX13_readLaws_1 : decode cX13_readLaws 1 = .ok (.getfield 250, 3) := by decide +kernel
theorem dX13_readLaws_4 : decode cX13_readLaws 4 = .ok (.istore_n 1, 1) := by decide +kernel
theorem dX13_readLaws_5 : decode cX13_readLaws 5 = .ok (.iconst 1, 1) := by decide +kernel
theorem dX13_readLaws_6 : decode cX13_readLaws 6 = .ok (.istore_n 2, 1) := by decide +kernel
theorem dX13_readLaws_7 : decode cX13_readLaws 7 = .ok (.iload_n 2, 1) := by decide +kernel
theorem dX13_readLaws_8 : decode cX13_readLaws 8 = .ok (.ifCond .eq 252, 3) := by decide +kernel
theorem dX13_readLaws_11 : decode cX13_readLaws 11 = .ok (.aload_n 0, 1) := by decide +kernel
theorem dX13_readLaws_12 : decode cX13_readLaws 12 = .ok (.ldc 202, 2) := by decide +kernel
theorem dX13_readLaws_14 : decode cX13_readLaws 14 = .ok (.invokevirtual 182, 3) := by decide +kernel
theorem dX13_readLaws_17 : decode cX13_readLaws 17 = .ok (.ifCond .ne 27, 3) := by decide +kernel
theorem dX13_readLaws_20 : decode cX13_readLaws 20 = .ok (.aload_n 0, 1) := by decide +kernel
theorem dX13_readLaws_21 : decode cX13_readLaws 21 = .ok (.ldc 211, 2) := by decide +kernel
theorem dX13_readLaws_23 : decode cX13_readLaws 23 = .ok (.invokevirtual 182, 3) := by decide +kernel
theorem dX13_readLaws_26 : decode cX13_readLaws 26 = .ok (.ifCond .ne 18, 3) := by decide +kernel
theorem dX13_readLaws_29 : decode cX13_readLaws 29 = .ok (.aload_n 0, 1) := by decide +kernel
theorem dX13_readLaws_30 : decode cX13_readLaws 30 = .ok (.ldc 253, 2) := by decide +kernel
theorem dX13_readLaws_32 : decode cX13_readLaws 32 = .ok (.invokevirtual 182, 3) := by decide +kernel
theorem dX13_readLaws_35 : decode cX13_readLaws 35 = .ok (.ifCond .ne 9, 3) := by decide +kernel
theorem dX13_readLaws_38 : decode cX13_readLaws 38 = .ok (.aload_n 0, 1) := by decide +kernel
theorem dX13_readLaws_39 : decode cX13_readLaws 39 = .ok (.iconst 1, 1) := by decide +kernel
theorem dX13_readLaws_40 : decode cX13_readLaws 40 = .ok (.invokevirtual 186, 3) := by decide +kernel
theorem dX13_readLaws_43 : decode cX13_readLaws 43 = .ok (.athrow, 1) := by decide +kernel
theorem dX13_readLaws_44 : decode cX13_readLaws 44 = .ok (.iload_n 1, 1) := by decide +kernel
theorem dX13_readLaws_45 : decode cX13_readLaws 45 = .ok (.bipush 10, 2) := by decide +kernel
theorem dX13_readLaws_47 : decode cX13_readLaws 47 = .ok (.if_icmp .ne 9, 3) := by decide +kernel
theorem dX13_readLaws_50 : decode cX13_readLaws 50 = .ok (.aload_n 0, 1) := by decide +kernel
theorem dX13_readLaws_51 : decode cX13_readLaws 51 = .ok (.iconst 3, 1) := by decide +kernel
theorem dX13_readLaws_52 : decode cX13_readLaws 52 = .ok (.invokevirtual 186, 3) := by decide +kernel
theorem dX13_readLaws_55 : decode cX13_readLaws 55 = .ok (.athrow, 1) := by decide +kernel
theorem dX13_readLaws_56 : decode cX13_readLaws 56 = .ok (.aload_n 0, 1) := by decide +kernel
theorem dX13_readLaws_57 : decode cX13_readLaws 57 = .ok (.ldc 211, 2) := by decide +kernel
theorem dX13_readLaws_59 : decode cX13_readLaws 59 = .ok (.invokevirtual 182, 3) := by decide +kernel
theorem dX13_readLaws_62 : decode cX13_readLaws 62 = .ok (.ifCond .eq 7, 3) := by decide +kernel
theorem dX13_readLaws_65 : decode cX13_readLaws 65 = .ok (.iconst 2, 1) := by decide +kernel
theorem dX13_readLaws_66 : decode cX13_readLaws 66 = .ok (.goto 17, 3) := by decide +kernel
theorem dX13_readLaws_69 : decode cX13_readLaws 69 = .ok (.aload_n 0, 1) := by decide +kernel
theorem dX13_readLaws_70 : decode cX13_readLaws 70 = .ok (.ldc 253, 2) := by decide +kernel
theorem dX13_readLaws_72 : decode cX13_readLaws 72 = .ok (.invokevirtual 182, 3) := by decide +kernel
theorem dX13_readLaws_75 : decode cX13_readLaws 75 = .ok (.ifCond .eq 7, 3) := by decide +kernel
theorem dX13_readLaws_78 : decode cX13_readLaws 78 = .ok (.iconst 3, 1) := by decide +kernel
theorem dX13_readLaws_79 : decode cX13_readLaws 79 = .ok (.goto 4, 3) := by decide +kernel
theorem dX13_readLaws_82 : decode cX13_readLaws 82 = .ok (.iconst 0, 1) := by decide +kernel
theorem dX13_readLaws_83 : decode cX13_readLaws 83 = .ok (.istore_n 3, 1) := by decide +kernel
theorem dX13_readLaws_84 : decode cX13_readLaws 84 = .ok (.aload_n 0, 1) := by decide +kernel
theorem dX13_readLaws_85 : decode cX13_readLaws 85 = .ok (.invokevirtual 189, 3) := by decide +kernel
theorem dX13_readLaws_88 : decode cX13_readLaws 88 = .ok (.aload_n 0, 1) := by decide +kernel
theorem dX13_readLaws_89 : decode cX13_readLaws 89 = .ok (.invokevirtual 247, 3) := by decide +kernel
theorem dX13_readLaws_92 : decode cX13_readLaws 92 = .ok (.istore 4, 2) := by decide +kernel
theorem dX13_readLaws_94 : decode cX13_readLaws 94 = .ok (.iconst 0, 1) := by decide +kernel
theorem dX13_readLaws_95 : decode cX13_readLaws 95 = .ok (.istore 5, 2) := by decide +kernel
theorem dX13_readLaws_97 : decode cX13_readLaws 97 = .ok (.iconst 0, 1) := by decide +kernel
theorem dX13_readLaws_98 : decode cX13_readLaws 98 = .ok (.istore 6, 2) := by decide +kernel
theorem dX13_readLaws_100 : decode cX13_readLaws 100 = .ok (.iload_n 3, 1) := by decide +kernel
theorem dX13_readLaws_101 : decode cX13_readLaws 101 = .ok (.iconst 3, 1) := by decide +kernel
theorem dX13_readLaws_102 : decode cX13_readLaws 102 = .ok (.if_icmp .ne 18, 3) := by decide +kernel
theorem dX13_readLaws_105 : decode cX13_readLaws 105 = .ok (.aload_n 0, 1) := by decide +kernel
theorem dX13_readLaws_106 : decode cX13_readLaws 106 = .ok (.ldc 255, 2) := by decide +kernel
theorem dX13_readLaws_108 : decode cX13_readLaws 108 = .ok (.invokevirtual 257, 3) := by decide +kernel
theorem dX13_readLaws_111 : decode cX13_readLaws 111 = .ok (.aload_n 0, 1) := by decide +kernel
theorem dX13_readLaws_112 : decode cX13_readLaws 112 = .ok (.invokevirtual 247, 3) := by decide +kernel
theorem dX13_readLaws_115 : decode cX13_readLaws 115 = .ok (.istore 5, 2) := by decide +kernel
theorem dX13_readLaws_117 : decode cX13_readLaws 117 = .ok (.goto 77, 3) := by decide +kernel
theorem dX13_readLaws_120 : decode cX13_readLaws 120 = .ok (.iload_n 3, 1) := by decide +kernel
theorem dX13_readLaws_121 : decode cX13_readLaws 121 = .ok (.ifCond .ne 73, 3) := by decide +kernel
theorem dX13_readLaws_124 : decode cX13_readLaws 124 = .ok (.aload_n 0, 1) := by decide +kernel
theorem dX13_readLaws_125 : decode cX13_readLaws 125 = .ok (.ldc_w 261, 3) := by decide +kernel
theorem dX13_readLaws_128 : decode cX13_readLaws 128 = .ok (.invokevirtual 182, 3) := by decide +kernel
theorem dX13_readLaws_131 : decode cX13_readLaws 131 = .ok (.ifCond .ne 19, 3) := by decide +kernel
theorem dX13_readLaws_134 : decode cX13_readLaws 134 = .ok (.aload_n 0, 1) := by decide +kernel
theorem dX13_readLaws_135 : decode cX13_readLaws 135 = .ok (.ldc_w 262, 3) := by decide +kernel
theorem dX13_readLaws_138 : decode cX13_readLaws 138 = .ok (.invokevirtual 182, 3) := by decide +kernel
theorem dX13_readLaws_141 : decode cX13_readLaws 141 = .ok (.ifCond .ne 9, 3) := by decide +kernel
theorem dX13_readLaws_144 : decode cX13_readLaws 144 = .ok (.aload_n 0, 1) := by decide +kernel
theorem dX13_readLaws_145 : decode cX13_readLaws 145 = .ok (.iconst 1, 1) := by decide +kernel
theorem dX13_readLaws_146 : decode cX13_readLaws 146 = .ok (.invokevirtual 186, 3) := by decide +kernel
theorem dX13_readLaws_149 : decode cX13_readLaws 149 = .ok (.athrow, 1) := by decide +kernel
theorem dX13_readLaws_150 : decode cX13_readLaws 150 = .ok (.aload_n 0, 1) := by decide +kernel
theorem dX13_readLaws_151 : decode cX13_readLaws 151 = .ok (.ldc_w 261, 3) := by decide +kernel
theorem dX13_readLaws_154 : decode cX13_readLaws 154 = .ok (.invokevirtual 182, 3) := by decide +kernel
theorem dX13_readLaws_157 : decode cX13_readLaws 157 = .ok (.ifCond .eq 7, 3) := by decide +kernel
theorem dX13_readLaws_160 : decode cX13_readLaws 160 = .ok (.iconst 0, 1) := by decide +kernel
theorem dX13_readLaws_161 : decode cX13_readLaws 161 = .ok (.goto 4, 3) := by decide +kernel
theorem dX13_readLaws_164 : decode cX13_readLaws 164 = .ok (.iconst 1, 1) := by decide +kernel
theorem dX13_readLaws_165 : decode cX13_readLaws 165 = .ok (.istore_n 3, 1) := by decide +kernel
theorem dX13_readLaws_166 : decode cX13_readLaws 166 = .ok (.aload_n 0, 1) := by decide +kernel
theorem dX13_readLaws_167 : decode cX13_readLaws 167 = .ok (.invokevirtual 189, 3) := by decide +kernel
theorem dX13_readLaws_170 : decode cX13_readLaws 170 = .ok (.aload_n 0, 1) := by decide +kernel
theorem dX13_readLaws_171 : decode cX13_readLaws 171 = .ok (.invokevirtual 247, 3) := by decide +kernel
theorem dX13_readLaws_174 : decode cX13_readLaws 174 = .ok (.istore 5, 2) := by decide +kernel
theorem dX13_readLaws_176 : decode cX13_readLaws 176 = .ok (.iload_n 3, 1) := by decide +kernel
theorem dX13_readLaws_177 : decode cX13_readLaws 177 = .ok (.iconst 1, 1) := by decide +kernel
theorem dX13_readLaws_178 : decode cX13_readLaws 178 = .ok (.if_icmp .ne 16, 3) := by decide +kernel
theorem dX13_readLaws_181 : decode cX13_readLaws 181 = .ok (.aload_n 0, 1) := by decide +kernel
theorem dX13_readLaws_182 : decode cX13_readLaws 182 = .ok (.ldc_w 264, 3) := by decide +kernel
theorem dX13_readLaws_185 : decode cX13_readLaws 185 = .ok (.invokevirtual 257, 3) := by decide +kernel
theorem dX13_readLaws_188 : decode cX13_readLaws 188 = .ok (.aload_n 0, 1) := by decide +kernel
theorem dX13_readLaws_189 : decode cX13_readLaws 189 = .ok (.invokevirtual 247, 3) := by decide +kernel
theorem dX13_readLaws_192 : decode cX13_readLaws 192 = .ok (.istore 6, 2) := by decide +kernel
theorem dX13_readLaws_194 : decode cX13_readLaws 194 = .ok (.aload_n 0, 1) := by decide +kernel
theorem dX13_readLaws_195 : decode cX13_readLaws 195 = .ok (.getfield 88, 3) := by decide +kernel
theorem dX13_readLaws_198 : decode cX13_readLaws 198 = .ok (.iconst 4, 1) := by decide +kernel
theorem dX13_readLaws_199 : decode cX13_readLaws 199 = .ok (.iload_n 1, 1) := by decide +kernel
theorem dX13_readLaws_200 : decode cX13_readLaws 200 = .ok (.imul, 1) := by decide +kernel
theorem dX13_readLaws_201 : decode cX13_readLaws 201 = .ok (.iload_n 3, 1) := by decide +kernel
theorem dX13_readLaws_202 : decode cX13_readLaws 202 = .ok (.iastore, 1) := by decide +kernel
theorem dX13_readLaws_203 : decode cX13_readLaws 203 = .ok (.aload_n 0, 1) := by decide +kernel
theorem dX13_readLaws_204 : decode cX13_readLaws 204 = .ok (.getfield 88, 3) := by decide +kernel
theorem dX13_readLaws_207 : decode cX13_readLaws 207 = .ok (.iconst 4, 1) := by decide +kernel
theorem dX13_readLaws_208 : decode cX13_readLaws 208 = .ok (.iload_n 1, 1) := by decide +kernel
theorem dX13_readLaws_209 : decode cX13_readLaws 209 = .ok (.imul, 1) := by decide +kernel
theorem dX13_readLaws_210 : decode cX13_readLaws 210 = .ok (.iconst 1, 1) := by decide +kernel
theorem dX13_readLaws_211 : decode cX13_readLaws 211 = .ok (.iadd, 1) := by decide +kernel
theorem dX13_readLaws_212 : decode cX13_readLaws 212 = .ok (.iload 4, 2) := by decide +kernel
theorem dX13_readLaws_214 : decode cX13_readLaws 214 = .ok (.iastore, 1) := by decide +kernel
theorem dX13_readLaws_215 : decode cX13_readLaws 215 = .ok (.aload_n 0, 1) := by decide +kernel
theorem dX13_readLaws_216 : decode cX13_readLaws 216 = .ok (.getfield 88, 3) := by decide +kernel
theorem dX13_readLaws_219 : decode cX13_readLaws 219 = .ok (.iconst 4, 1) := by decide +kernel
theorem dX13_readLaws_220 : decode cX13_readLaws 220 = .ok (.iload_n 1, 1) := by decide +kernel
theorem dX13_readLaws_221 : decode cX13_readLaws 221 = .ok (.imul, 1) := by decide +kernel
theorem dX13_readLaws_222 : decode cX13_readLaws 222 = .ok (.iconst 2, 1) := by decide +kernel
theorem dX13_readLaws_223 : decode cX13_readLaws 223 = .ok (.iadd, 1) := by decide +kernel
theorem dX13_readLaws_224 : decode cX13_readLaws 224 = .ok (.iload 5, 2) := by decide +kernel
theorem dX13_readLaws_226 : decode cX13_readLaws 226 = .ok (.iastore, 1) := by decide +kernel
theorem dX13_readLaws_227 : decode cX13_readLaws 227 = .ok (.aload_n 0, 1) := by decide +kernel
theorem dX13_readLaws_228 : decode cX13_readLaws 228 = .ok (.getfield 88, 3) := by decide +kernel
theorem dX13_readLaws_231 : decode cX13_readLaws 231 = .ok (.iconst 4, 1) := by decide +kernel
theorem dX13_readLaws_232 : decode cX13_readLaws 232 = .ok (.iload_n 1, 1) := by decide +kernel
theorem dX13_readLaws_233 : decode cX13_readLaws 233 = .ok (.imul, 1) := by decide +kernel
theorem dX13_readLaws_234 : decode cX13_readLaws 234 = .ok (.iconst 3, 1) := by decide +kernel
theorem dX13_readLaws_235 : decode cX13_readLaws 235 = .ok (.iadd, 1) := by decide +kernel
theorem dX13_readLaws_236 : decode cX13_readLaws 236 = .ok (.iload 6, 2) := by decide +kernel
theorem dX13_readLaws_238 : decode cX13_readLaws 238 = .ok (.iastore, 1) := by decide +kernel
theorem dX13_readLaws_239 : decode cX13_readLaws 239 = .ok (.iinc 1 1, 3) := by decide +kernel
theorem dX13_readLaws_242 : decode cX13_readLaws 242 = .ok (.aload_n 0, 1) := by decide +kernel
theorem dX13_readLaws_243 : decode cX13_readLaws 243 = .ok (.bipush 59, 2) := by decide +kernel
theorem dX13_readLaws_245 : decode cX13_readLaws 245 = .ok (.invokevirtual 241, 3) := by decide +kernel
theorem dX13_readLaws_248 : decode cX13_readLaws 248 = .ok (.istore_n 2, 1) := by decide +kernel
theorem dX13_readLaws_249 : decode cX13_readLaws 249 = .ok (.iload_n 2, 1) := by decide +kernel
theorem dX13_readLaws_250 : decode cX13_readLaws 250 = .ok (.ifCond .eq 7, 3) := by decide +kernel
theorem dX13_readLaws_253 : decode cX13_readLaws 253 = .ok (.aload_n 0, 1) := by decide +kernel
theorem dX13_readLaws_254 : decode cX13_readLaws 254 = .ok (.invokevirtual 189, 3) := by decide +kernel
theorem dX13_readLaws_257 : decode cX13_readLaws 257 = .ok (.goto (-250), 3) := by decide +kernel
theorem dX13_readLaws_260 : decode cX13_readLaws 260 = .ok (.aload_n 0, 1) := by decide +kernel
theorem dX13_readLaws_261 : decode cX13_readLaws 261 = .ok (.getfield 159, 3) := by decide +kernel
theorem dX13_readLaws_264 : decode cX13_readLaws 264 = .ok (.iconst 1, 1) := by decide +kernel
theorem dX13_readLaws_265 : decode cX13_readLaws 265 = .ok (.if_icmp .eq 9, 3) := by decide +kernel
theorem dX13_readLaws_268 : decode cX13_readLaws 268 = .ok (.aload_n 0, 1) := by decide +kernel
theorem dX13_readLaws_269 : decode cX13_readLaws 269 = .ok (.iconst 1, 1) := by decide +kernel
theorem dX13_readLaws_270 : decode cX13_readLaws 270 = .ok (.invokevirtual 186, 3) := by decide +kernel
theorem dX13_readLaws_273 : decode cX13_readLaws 273 = .ok (.athrow, 1) := by decide +kernel
theorem dX13_readLaws_274 : decode cX13_readLaws 274 = .ok (.iload_n 1, 1) := by decide +kernel
theorem dX13_readLaws_275 : decode cX13_readLaws 275 = .ok (.ireturn, 1) := by decide +kernel
theorem dX13_feed_0 : decode cX13_feed 0 = .ok (.aload_n 0, 1) := by decide +kernel
theorem dX13_feed_1 : decode cX13_feed 1 = .ok (.iconst 0, 1) := by decide +kernel
theorem dX13_feed_2 : decode cX13_feed 2 = .ok (.putfield 1, 3) := by decide +kernel
theorem dX13_feed_5 : decode cX13_feed 5 = .ok (.aload_n 0, 1) := by decide +kernel
theorem dX13_feed_6 : decode cX13_feed 6 = .ok (.getfield 221, 3) := by decide +kernel
theorem dX13_feed_9 : decode cX13_feed 9 = .ok (.bipush 20, 2) := by decide +kernel
theorem dX13_feed_11 : decode cX13_feed 11 = .ok (.iadd, 1) := by decide +kernel
theorem dX13_feed_12 : decode cX13_feed 12 = .ok (.sipush 400, 3) := by decide +kernel
theorem dX13_feed_15 : decode cX13_feed 15 = .ok (.if_icmp .le 5, 3) := by decide +kernel
theorem dX13_feed_18 : decode cX13_feed 18 = .ok (.iconst (-1), 1) := by decide +kernel
theorem dX13_feed_19 : decode cX13_feed 19 = .ok (.ireturn, 1) := by decide +kernel
theorem dX13_feed_20 : decode cX13_feed 20 = .ok (.iconst 0, 1) := by decide +kernel
theorem dX13_feed_21 : decode cX13_feed 21 = .ok (.istore 6, 2) := by decide +kernel
theorem dX13_feed_23 : decode cX13_feed 23 = .ok (.iload 6, 2) := by decide +kernel
theorem dX13_feed_25 : decode cX13_feed 25 = .ok (.bipush 20, 2) := by decide +kernel
theorem dX13_feed_27 : decode cX13_feed 27 = .ok (.if_icmp .ge 90, 3) := by decide +kernel
theorem dX13_feed_30 : decode cX13_feed 30 = .ok (.iload 6, 2) := by decide +kernel
theorem dX13_feed_32 : decode cX13_feed 32 = .ok (.iconst 4, 1) := by decide +kernel
theorem dX13_feed_33 : decode cX13_feed 33 = .ok (.if_icmp .ge 7, 3) := by decide +kernel
theorem dX13_feed_36 : decode cX13_feed 36 = .ok (.iload_n 1, 1) := by decide +kernel
theorem dX13_feed_37 : decode cX13_feed 37 = .ok (.goto 39, 3) := by decide +kernel
theorem dX13_feed_40 : decode cX13_feed 40 = .ok (.iload 6, 2) := by decide +kernel
theorem dX13_feed_42 : decode cX13_feed 42 = .ok (.bipush 8, 2) := by decide +kernel
theorem dX13_feed_44 : decode cX13_feed 44 = .ok (.if_icmp .ge 7, 3) := by decide +kernel
theorem dX13_feed_47 : decode cX13_feed 47 = .ok (.iload_n 2, 1) := by decide +kernel
theorem dX13_feed_48 : decode cX13_feed 48 = .ok (.goto 28, 3) := by decide +kernel
theorem dX13_feed_51 : decode cX13_feed 51 = .ok (.iload 6, 2) := by decide +kernel
theorem dX13_feed_53 : decode cX13_feed 53 = .ok (.bipush 12, 2) := by decide +kernel
theorem dX13_feed_55 : decode cX13_feed 55 = .ok (.if_icmp .ge 7, 3) := by decide +kernel
theorem dX13_feed_58 : decode cX13_feed 58 = .ok (.iload_n 3, 1) := by decide +kernel
theorem dX13_feed_59 : decode cX13_feed 59 = .ok (.goto 17, 3) := by decide +kernel
theorem dX13_feed_62 : decode cX13_feed 62 = .ok (.iload 6, 2) := by decide +kernel
theorem dX13_feed_64 : decode cX13_feed 64 = .ok (.bipush 16, 2) := by decide +kernel
theorem dX13_feed_66 : decode cX13_feed 66 = .ok (.if_icmp .ge 8, 3) := by decide +kernel
theorem dX13_feed_69 : decode cX13_feed 69 = .ok (.iload 4, 2) := by decide +kernel
theorem dX13_feed_71 : decode cX13_feed 71 = .ok (.goto 5, 3) := by decide +kernel
theorem dX13_feed_74 : decode cX13_feed 74 = .ok (.iload 5, 2) := by decide +kernel
theorem dX13_feed_76 : decode cX13_feed 76 = .ok (.istore 7, 2) := by decide +kernel
theorem dX13_feed_78 : decode cX13_feed 78 = .ok (.aload_n 0, 1) := by decide +kernel
theorem dX13_feed_79 : decode cX13_feed 79 = .ok (.getfield 65, 3) := by decide +kernel
theorem dX13_feed_82 : decode cX13_feed 82 = .ok (.aload_n 0, 1) := by decide +kernel
theorem dX13_feed_83 : decode cX13_feed 83 = .ok (.getfield 221, 3) := by decide +kernel
theorem dX13_feed_86 : decode cX13_feed 86 = .ok (.iload 7, 2) := by decide +kernel
theorem dX13_feed_88 : decode cX13_feed 88 = .ok (.bipush 24, 2) := by decide +kernel
theorem dX13_feed_90 : decode cX13_feed 90 = .ok (.bipush 8, 2) := by decide +kernel
theorem dX13_feed_92 : decode cX13_feed 92 = .ok (.iload 6, 2) := by decide +kernel
theorem dX13_feed_94 : decode cX13_feed 94 = .ok (.iconst 4, 1) := by decide +kernel
theorem dX13_feed_95 : decode cX13_feed 95 = .ok (.irem, 1) := by decide +kernel
theorem dX13_feed_96 : decode cX13_feed 96 = .ok (.imul, 1) := by decide +kernel
theorem dX13_feed_97 : decode cX13_feed 97 = .ok (.isub, 1) := by decide +kernel
theorem dX13_feed_98 : decode cX13_feed 98 = .ok (.ishr, 1) := by decide +kernel
theorem dX13_feed_99 : decode cX13_feed 99 = .ok (.i2b, 1) := by decide +kernel
theorem dX13_feed_100 : decode cX13_feed 100 = .ok (.bastore, 1) := by decide +kernel
theorem dX13_feed_101 : decode cX13_feed 101 = .ok (.aload_n 0, 1) := by decide +kernel
theorem dX13_feed_102 : decode cX13_feed 102 = .ok (.dup, 1) := by decide +kernel
theorem dX13_feed_103 : decode cX13_feed 103 = .ok (.getfield 221, 3) := by decide +kernel
theorem dX13_feed_106 : decode cX13_feed 106 = .ok (.iconst 1, 1) := by decide +kernel
theorem dX13_feed_107 : decode cX13_feed 107 = .ok (.iadd, 1) := by decide +kernel
theorem dX13_feed_108 : decode cX13_feed 108 = .ok (.putfield 221, 3) := by decide +kernel
theorem dX13_feed_111 : decode cX13_feed 111 = .ok (.iinc 6 1, 3) := by decide +kernel
theorem dX13_feed_114 : decode cX13_feed 114 = .ok (.goto (-91), 3) := by decide +kernel
theorem dX13_feed_117 : decode cX13_feed 117 = .ok (.aload_n 0, 1) := by decide +kernel
theorem dX13_feed_118 : decode cX13_feed 118 = .ok (.getfield 221, 3) := by decide +kernel
theorem dX13_feed_121 : decode cX13_feed 121 = .ok (.ireturn, 1) := by decide +kernel
theorem dX13_wrong_0 : decode cX13_wrong 0 = .ok (.aload_n 0, 1) := by decide +kernel
theorem dX13_wrong_1 : decode cX13_wrong 1 = .ok (.aload_n 1, 1) := by decide +kernel
theorem dX13_wrong_2 : decode cX13_wrong 2 = .ok (.getfield 132, 3) := by decide +kernel
theorem dX13_wrong_5 : decode cX13_wrong 5 = .ok (.putfield 224, 3) := by decide +kernel
theorem dX13_wrong_8 : decode cX13_wrong 8 = .ok (.aload_n 0, 1) := by decide +kernel
theorem dX13_wrong_9 : decode cX13_wrong 9 = .ok (.iconst 4, 1) := by decide +kernel
theorem dX13_wrong_10 : decode cX13_wrong 10 = .ok (.putfield 7, 3) := by decide +kernel
theorem dX13_wrong_13 : decode cX13_wrong 13 = .ok (.aload_n 0, 1) := by decide +kernel
theorem dX13_wrong_14 : decode cX13_wrong 14 = .ok (.aload_n 1, 1) := by decide +kernel
theorem dX13_wrong_15 : decode cX13_wrong 15 = .ok (.getfield 138, 3) := by decide +kernel
theorem dX13_wrong_18 : decode cX13_wrong 18 = .ok (.putfield 10, 3) := by decide +kernel
theorem dX13_wrong_21 : decode cX13_wrong 21 = .ok (.iconst (-1), 1) := by decide +kernel
theorem dX13_wrong_22 : decode cX13_wrong 22 = .ok (.ireturn, 1) := by decide +kernel
theorem dX13_plan_0 : decode cX13_plan 0 = .ok (.aload_n 0, 1) := by decide +kernel
theorem dX13_plan_1 : decode cX13_plan 1 = .ok (.iconst 0, 1) := by decide +kernel
theorem dX13_plan_2 : decode cX13_plan 2 = .ok (.putfield 1, 3) := by decide +kernel
theorem dX13_plan_5 : decode cX13_plan 5 = .ok (.iload_n 1, 1) := by decide +kernel
theorem dX13_plan_6 : decode cX13_plan 6 = .ok (.ifCond .lt 11, 3) := by decide +kernel
theorem dX13_plan_9 : decode cX13_plan 9 = .ok (.iload_n 1, 1) := by decide +kernel
theorem dX13_plan_10 : decode cX13_plan 10 = .ok (.aload_n 0, 1) := by decide +kernel
theorem dX13_plan_11 : decode cX13_plan 11 = .ok (.getfield 221, 3) := by decide +kernel
theorem dX13_plan_14 : decode cX13_plan 14 = .ok (.if_icmp .le 9, 3) := by decide +kernel
theorem dX13_plan_17 : decode cX13_plan 17 = .ok (.aload_n 0, 1) := by decide +kernel
theorem dX13_plan_18 : decode cX13_plan 18 = .ok (.iconst 2, 1) := by decide +kernel
theorem dX13_plan_19 : decode cX13_plan 19 = .ok (.invokevirtual 121, 3) := by decide +kernel
theorem dX13_plan_22 : decode cX13_plan 22 = .ok (.ireturn, 1) := by decide +kernel
theorem dX13_plan_23 : decode cX13_plan 23 = .ok (.aload_n 0, 1) := by decide +kernel
theorem dX13_plan_24 : decode cX13_plan 24 = .ok (.iload_n 1, 1) := by decide +kernel
theorem dX13_plan_25 : decode cX13_plan 25 = .ok (.invokevirtual 266, 3) := by decide +kernel
theorem dX13_plan_28 : decode cX13_plan 28 = .ok (.aload_n 0, 1) := by decide +kernel
theorem dX13_plan_29 : decode cX13_plan 29 = .ok (.invokevirtual 269, 3) := by decide +kernel
theorem dX13_plan_32 : decode cX13_plan 32 = .ok (.goto 10, 3) := by decide +kernel
theorem dX13_plan_35 : decode cX13_plan 35 = .ok (.astore_n 2, 1) := by decide +kernel
theorem dX13_plan_36 : decode cX13_plan 36 = .ok (.aload_n 0, 1) := by decide +kernel
theorem dX13_plan_37 : decode cX13_plan 37 = .ok (.aload_n 2, 1) := by decide +kernel
theorem dX13_plan_38 : decode cX13_plan 38 = .ok (.invokevirtual 272, 3) := by decide +kernel
theorem dX13_plan_41 : decode cX13_plan 41 = .ok (.ireturn, 1) := by decide +kernel
theorem dX13_plan_42 : decode cX13_plan 42 = .ok (.aload_n 0, 1) := by decide +kernel
theorem dX13_plan_43 : decode cX13_plan 43 = .ok (.getfield 227, 3) := by decide +kernel
theorem dX13_plan_46 : decode cX13_plan 46 = .ok (.bipush 8, 2) := by decide +kernel
theorem dX13_plan_48 : decode cX13_plan 48 = .ok (.if_icmp .ne 9, 3) := by decide +kernel
theorem dX13_plan_51 : decode cX13_plan 51 = .ok (.aload_n 0, 1) := by decide +kernel
theorem dX13_plan_52 : decode cX13_plan 52 = .ok (.iconst 3, 1) := by decide +kernel
theorem dX13_plan_53 : decode cX13_plan 53 = .ok (.invokevirtual 121, 3) := by decide +kernel
theorem dX13_plan_56 : decode cX13_plan 56 = .ok (.ireturn, 1) := by decide +kernel
theorem dX13_plan_57 : decode cX13_plan 57 = .ok (.aload_n 0, 1) := by decide +kernel
theorem dX13_plan_58 : decode cX13_plan 58 = .ok (.dup, 1) := by decide +kernel
theorem dX13_plan_59 : decode cX13_plan 59 = .ok (.getfield 227, 3) := by decide +kernel
theorem dX13_plan_62 : decode cX13_plan 62 = .ok (.iconst 1, 1) := by decide +kernel
theorem dX13_plan_63 : decode cX13_plan 63 = .ok (.iadd, 1) := by decide +kernel
theorem dX13_plan_64 : decode cX13_plan 64 = .ok (.putfield 227, 3) := by decide +kernel
theorem dX13_plan_67 : decode cX13_plan 67 = .ok (.aload_n 0, 1) := by decide +kernel
theorem dX13_plan_68 : decode cX13_plan 68 = .ok (.aload_n 0, 1) := by decide +kernel
theorem dX13_plan_69 : decode cX13_plan 69 = .ok (.getfield 227, 3) := by decide +kernel
theorem dX13_plan_72 : decode cX13_plan 72 = .ok (.iconst 1, 1) := by decide +kernel
theorem dX13_plan_73 : decode cX13_plan 73 = .ok (.isub, 1) := by decide +kernel
theorem dX13_plan_74 : decode cX13_plan 74 = .ok (.invokevirtual 129, 3) := by decide +kernel
theorem dX13_plan_77 : decode cX13_plan 77 = .ok (.ireturn, 1) := by decide +kernel
theorem dX13_laws_0 : decode cX13_laws 0 = .ok (.aload_n 0, 1) := by decide +kernel
theorem dX13_laws_1 : decode cX13_laws 1 = .ok (.iconst 0, 1) := by decide +kernel
theorem dX13_laws_2 : decode cX13_laws 2 = .ok (.putfield 1, 3) := by decide +kernel
theorem dX13_laws_5 : decode cX13_laws 5 = .ok (.iload_n 1, 1) := by decide +kernel
theorem dX13_laws_6 : decode cX13_laws 6 = .ok (.ifCond .lt 11, 3) := by decide +kernel
theorem dX13_laws_9 : decode cX13_laws 9 = .ok (.iload_n 1, 1) := by decide +kernel
theorem dX13_laws_10 : decode cX13_laws 10 = .ok (.aload_n 0, 1) := by decide +kernel
theorem dX13_laws_11 : decode cX13_laws 11 = .ok (.getfield 221, 3) := by decide +kernel
theorem dX13_laws_14 : decode cX13_laws 14 = .ok (.if_icmp .le 9, 3) := by decide +kernel
theorem dX13_laws_17 : decode cX13_laws 17 = .ok (.aload_n 0, 1) := by decide +kernel
theorem dX13_laws_18 : decode cX13_laws 18 = .ok (.iconst 2, 1) := by decide +kernel
theorem dX13_laws_19 : decode cX13_laws 19 = .ok (.invokevirtual 121, 3) := by decide +kernel
theorem dX13_laws_22 : decode cX13_laws 22 = .ok (.ireturn, 1) := by decide +kernel
theorem dX13_laws_23 : decode cX13_laws 23 = .ok (.aload_n 0, 1) := by decide +kernel
theorem dX13_laws_24 : decode cX13_laws 24 = .ok (.iload_n 1, 1) := by decide +kernel
theorem dX13_laws_25 : decode cX13_laws 25 = .ok (.invokevirtual 266, 3) := by decide +kernel
theorem dX13_laws_28 : decode cX13_laws 28 = .ok (.aload_n 0, 1) := by decide +kernel
theorem dX13_laws_29 : decode cX13_laws 29 = .ok (.invokevirtual 276, 3) := by decide +kernel
theorem dX13_laws_32 : decode cX13_laws 32 = .ok (.istore_n 2, 1) := by decide +kernel
theorem dX13_laws_33 : decode cX13_laws 33 = .ok (.goto 10, 3) := by decide +kernel
theorem dX13_laws_36 : decode cX13_laws 36 = .ok (.astore_n 3, 1) := by decide +kernel
theorem dX13_laws_37 : decode cX13_laws 37 = .ok (.aload_n 0, 1) := by decide +kernel
theorem dX13_laws_38 : decode cX13_laws 38 = .ok (.aload_n 3, 1) := by decide +kernel
theorem dX13_laws_39 : decode cX13_laws 39 = .ok (.invokevirtual 272, 3) := by decide +kernel
theorem dX13_laws_42 : decode cX13_laws 42 = .ok (.ireturn, 1) := by decide +kernel
theorem dX13_laws_43 : decode cX13_laws 43 = .ok (.aload_n 0, 1) := by decide +kernel
theorem dX13_laws_44 : decode cX13_laws 44 = .ok (.iload_n 2, 1) := by decide +kernel
theorem dX13_laws_45 : decode cX13_laws 45 = .ok (.putfield 250, 3) := by decide +kernel
theorem dX13_laws_48 : decode cX13_laws 48 = .ok (.aload_n 0, 1) := by decide +kernel
theorem dX13_laws_49 : decode cX13_laws 49 = .ok (.aload_n 0, 1) := by decide +kernel
theorem dX13_laws_50 : decode cX13_laws 50 = .ok (.getfield 250, 3) := by decide +kernel
theorem dX13_laws_53 : decode cX13_laws 53 = .ok (.invokevirtual 129, 3) := by decide +kernel
theorem dX13_laws_56 : decode cX13_laws 56 = .ok (.ireturn, 1) := by decide +kernel
theorem dX13_fault_0 : decode cX13_fault 0 = .ok (.aload_n 0, 1) := by decide +kernel
theorem dX13_fault_1 : decode cX13_fault 1 = .ok (.iconst 0, 1) := by decide +kernel
theorem dX13_fault_2 : decode cX13_fault 2 = .ok (.putfield 1, 3) := by decide +kernel
theorem dX13_fault_5 : decode cX13_fault 5 = .ok (.aload_n 0, 1) := by decide +kernel
theorem dX13_fault_6 : decode cX13_fault 6 = .ok (.getfield 224, 3) := by decide +kernel
theorem dX13_fault_9 : decode cX13_fault 9 = .ok (.ireturn, 1) := by decide +kernel
theorem dX13_where_0 : decode cX13_where 0 = .ok (.aload_n 0, 1) := by decide +kernel
theorem dX13_where_1 : decode cX13_where 1 = .ok (.iconst 0, 1) := by decide +kernel
theorem dX13_where_2 : decode cX13_where 2 = .ok (.putfield 1, 3) := by decide +kernel
theorem dX13_where_5 : decode cX13_where 5 = .ok (.aload_n 0, 1) := by decide +kernel
theorem dX13_where_6 : decode cX13_where 6 = .ok (.getfield 10, 3) := by decide +kernel
theorem dX13_where_9 : decode cX13_where 9 = .ok (.ireturn, 1) := by decide +kernel
theorem dX13_law_0 : decode cX13_law 0 = .ok (.aload_n 0, 1) := by decide +kernel
theorem dX13_law_1 : decode cX13_law 1 = .ok (.iconst 0, 1) := by decide +kernel
theorem dX13_law_2 : decode cX13_law 2 = .ok (.putfield 1, 3) := by decide +kernel
theorem dX13_law_5 : decode cX13_law 5 = .ok (.iload_n 1, 1) := by decide +kernel
theorem dX13_law_6 : decode cX13_law 6 = .ok (.ifCond .lt 33, 3) := by decide +kernel
theorem dX13_law_9 : decode cX13_law 9 = .ok (.iload_n 1, 1) := by decide +kernel
theorem dX13_law_10 : decode cX13_law 10 = .ok (.aload_n 0, 1) := by decide +kernel
theorem dX13_law_11 : decode cX13_law 11 = .ok (.getfield 250, 3) := by decide +kernel
theorem dX13_law_14 : decode cX13_law 14 = .ok (.if_icmp .ge 25, 3) := by decide +kernel
theorem dX13_law_17 : decode cX13_law 17 = .ok (.iload_n 2, 1) := by decide +kernel
theorem dX13_law_18 : decode cX13_law 18 = .ok (.iconst 0, 1) := by decide +kernel
theorem dX13_law_19 : decode cX13_law 19 = .ok (.iconst 3, 1) := by decide +kernel
theorem dX13_law_20 : decode cX13_law 20 = .ok (.invokestatic 125, 3) := by decide +kernel
theorem dX13_law_23 : decode cX13_law 23 = .ok (.ifCond .eq 16, 3) := by decide +kernel
theorem dX13_law_26 : decode cX13_law 26 = .ok (.aload_n 0, 1) := by decide +kernel
theorem dX13_law_27 : decode cX13_law 27 = .ok (.getfield 88, 3) := by decide +kernel
theorem dX13_law_30 : decode cX13_law 30 = .ok (.iconst 4, 1) := by decide +kernel
theorem dX13_law_31 : decode cX13_law 31 = .ok (.iload_n 1, 1) := by decide +kernel
theorem dX13_law_32 : decode cX13_law 32 = .ok (.imul, 1) := by decide +kernel
theorem dX13_law_33 : decode cX13_law 33 = .ok (.iload_n 2, 1) := by decide +kernel
theorem dX13_law_34 : decode cX13_law 34 = .ok (.iadd, 1) := by decide +kernel
theorem dX13_law_35 : decode cX13_law 35 = .ok (.iaload, 1) := by decide +kernel
theorem dX13_law_36 : decode cX13_law 36 = .ok (.goto 4, 3) := by decide +kernel
theorem dX13_law_39 : decode cX13_law 39 = .ok (.iconst (-1), 1) := by decide +kernel
theorem dX13_law_40 : decode cX13_law 40 = .ok (.ireturn, 1) := by decide +kernel
theorem dX13_planned_0 : decode cX13_planned 0 = .ok (.aload_n 0, 1) := by decide +kernel
theorem dX13_planned_1 : decode cX13_planned 1 = .ok (.iconst 0, 1) := by decide +kernel
theorem dX13_planned_2 : decode cX13_planned 2 = .ok (.putfield 1, 3) := by decide +kernel
theorem dX13_planned_5 : decode cX13_planned 5 = .ok (.iload_n 1, 1) := by decide +kernel
theorem dX13_planned_6 : decode cX13_planned 6 = .ok (.ifCond .lt 11, 3) := by decide +kernel
theorem dX13_planned_9 : decode cX13_planned 9 = .ok (.iload_n 1, 1) := by decide +kernel
theorem dX13_planned_10 : decode cX13_planned 10 = .ok (.aload_n 0, 1) := by decide +kernel
theorem dX13_planned_11 : decode cX13_planned 11 = .ok (.getfield 227, 3) := by decide +kernel
theorem dX13_planned_14 : decode cX13_planned 14 = .ok (.if_icmp .lt 5, 3) := by decide +kernel
theorem dX13_planned_17 : decode cX13_planned 17 = .ok (.iconst (-1), 1) := by decide +kernel
theorem dX13_planned_18 : decode cX13_planned 18 = .ok (.ireturn, 1) := by decide +kernel
theorem dX13_planned_19 : decode cX13_planned 19 = .ok (.iload_n 2, 1) := by decide +kernel
theorem dX13_planned_20 : decode cX13_planned 20 = .ok (.ifCond .ne 10, 3) := by decide +kernel
theorem dX13_planned_23 : decode cX13_planned 23 = .ok (.aload_n 0, 1) := by decide +kernel
theorem dX13_planned_24 : decode cX13_planned 24 = .ok (.getfield 69, 3) := by decide +kernel
theorem dX13_planned_27 : decode cX13_planned 27 = .ok (.iload_n 1, 1) := by decide +kernel
theorem dX13_planned_28 : decode cX13_planned 28 = .ok (.iaload, 1) := by decide +kernel
theorem dX13_planned_29 : decode cX13_planned 29 = .ok (.ireturn, 1) := by decide +kernel
theorem dX13_planned_30 : decode cX13_planned 30 = .ok (.iload_n 2, 1) := by decide +kernel
theorem dX13_planned_31 : decode cX13_planned 31 = .ok (.iconst 1, 1) := by decide +kernel
theorem dX13_planned_32 : decode cX13_planned 32 = .ok (.if_icmp .eq 5, 3) := by decide +kernel
theorem dX13_planned_35 : decode cX13_planned 35 = .ok (.iconst (-1), 1) := by decide +kernel
theorem dX13_planned_36 : decode cX13_planned 36 = .ok (.ireturn, 1) := by decide +kernel
theorem dX13_planned_37 : decode cX13_planned 37 = .ok (.iconst 0, 1) := by decide +kernel
theorem dX13_planned_38 : decode cX13_planned 38 = .ok (.istore_n 3, 1) := by decide +kernel
theorem dX13_planned_39 : decode cX13_planned 39 = .ok (.iconst 0, 1) := by decide +kernel
theorem dX13_planned_40 : decode cX13_planned 40 = .ok (.istore 4, 2) := by decide +kernel
theorem dX13_planned_42 : decode cX13_planned 42 = .ok (.iload 4, 2) := by decide +kernel
theorem dX13_planned_44 : decode cX13_planned 44 = .ok (.aload_n 0, 1) := by decide +kernel
theorem dX13_planned_45 : decode cX13_planned 45 = .ok (.getfield 69, 3) := by decide +kernel
theorem dX13_planned_48 : decode cX13_planned 48 = .ok (.iload_n 1, 1) := by decide +kernel
theorem dX13_planned_49 : decode cX13_planned 49 = .ok (.iaload, 1) := by decide +kernel
theorem dX13_planned_50 : decode cX13_planned 50 = .ok (.if_icmp .ge 24, 3) := by decide +kernel
theorem dX13_planned_53 : decode cX13_planned 53 = .ok (.iload_n 3, 1) := by decide +kernel
theorem dX13_planned_54 : decode cX13_planned 54 = .ok (.aload_n 0, 1) := by decide +kernel
theorem dX13_planned_55 : decode cX13_planned 55 = .ok (.getfield 75, 3) := by decide +kernel
theorem dX13_planned_58 : decode cX13_planned 58 = .ok (.bipush 12, 2) := by decide +kernel
theorem dX13_planned_60 : decode cX13_planned 60 = .ok (.iload_n 1, 1) := by decide +kernel
theorem dX13_planned_61 : decode cX13_planned 61 = .ok (.imul, 1) := by decide +kernel
theorem dX13_planned_62 : decode cX13_planned 62 = .ok (.iload 4, 2) := by decide +kernel
theorem dX13_planned_64 : decode cX13_planned 64 = .ok (.iadd, 1) := by decide +kernel
theorem dX13_planned_65 : decode cX13_planned 65 = .ok (.iaload, 1) := by decide +kernel
theorem dX13_planned_66 : decode cX13_planned 66 = .ok (.iadd, 1) := by decide +kernel
theorem dX13_planned_67 : decode cX13_planned 67 = .ok (.istore_n 3, 1) := by decide +kernel
theorem dX13_planned_68 : decode cX13_planned 68 = .ok (.iinc 4 1, 3) := by decide +kernel
theorem dX13_planned_71 : decode cX13_planned 71 = .ok (.goto (-29), 3) := by decide +kernel
theorem dX13_planned_74 : decode cX13_planned 74 = .ok (.iload_n 3, 1) := by decide +kernel
theorem dX13_planned_75 : decode cX13_planned 75 = .ok (.ireturn, 1) := by decide +kernel
theorem dX13_isTeam_0 : decode cX13_isTeam 0 = .ok (.iload_n 1, 1) := by decide +kernel
theorem dX13_isTeam_1 : decode cX13_isTeam 1 = .ok (.ifCond .lt 15, 3) := by decide +kernel
theorem dX13_isTeam_4 : decode cX13_isTeam 4 = .ok (.iload_n 1, 1) := by decide +kernel
theorem dX13_isTeam_5 : decode cX13_isTeam 5 = .ok (.aload_n 0, 1) := by decide +kernel
theorem dX13_isTeam_6 : decode cX13_isTeam 6 = .ok (.getfield 94, 3) := by decide +kernel
theorem dX13_isTeam_9 : decode cX13_isTeam 9 = .ok (.if_icmp .ge 7, 3) := by decide +kernel
theorem dX13_isTeam_12 : decode cX13_isTeam 12 = .ok (.iconst 1, 1) := by decide +kernel
theorem dX13_isTeam_13 : decode cX13_isTeam 13 = .ok (.goto 4, 3) := by decide +kernel
theorem dX13_isTeam_16 : decode cX13_isTeam 16 = .ok (.iconst 0, 1) := by decide +kernel
theorem dX13_isTeam_17 : decode cX13_isTeam 17 = .ok (.ireturn, 1) := by decide +kernel
theorem dX13_isPlan_0 : decode cX13_isPlan 0 = .ok (.iload_n 1, 1) := by decide +kernel
theorem dX13_isPlan_1 : decode cX13_isPlan 1 = .ok (.ifCond .lt 15, 3) := by decide +kernel
theorem dX13_isPlan_4 : decode cX13_isPlan 4 = .ok (.iload_n 1, 1) := by decide +kernel
theorem dX13_isPlan_5 : decode cX13_isPlan 5 = .ok (.aload_n 0, 1) := by decide +kernel
theorem dX13_isPlan_6 : decode cX13_isPlan 6 = .ok (.getfield 227, 3) := by decide +kernel
theorem dX13_isPlan_9 : decode cX13_isPlan 9 = .ok (.if_icmp .ge 7, 3) := by decide +kernel
theorem dX13_isPlan_12 : decode cX13_isPlan 12 = .ok (.iconst 1, 1) := by decide +kernel
theorem dX13_isPlan_13 : decode cX13_isPlan 13 = .ok (.goto 4, 3) := by decide +kernel
theorem dX13_isPlan_16 : decode cX13_isPlan 16 = .ok (.iconst 0, 1) := by decide +kernel
theorem dX13_isPlan_17 : decode cX13_isPlan 17 = .ok (.ireturn, 1) := by decide +kernel
theorem dX13_team_0 : decode cX13_team 0 = .ok (.aload_n 0, 1) := by decide +kernel
theorem dX13_team_1 : decode cX13_team 1 = .ok (.iconst 0, 1) := by decide +kernel
theorem dX13_team_2 : decode cX13_team 2 = .ok (.putfield 1, 3) := by decide +kernel
theorem dX13_team_5 : decode cX13_team 5 = .ok (.aload_n 0, 1) := by decide +kernel
theorem dX13_team_6 : decode cX13_team 6 = .ok (.getfield 100, 3) := by decide +kernel
theorem dX13_team_9 : decode cX13_team 9 = .ok (.ifCond .gt 10, 3) := by decide +kernel
theorem dX13_team_12 : decode cX13_team 12 = .ok (.aload_n 0, 1) := by decide +kernel
theorem dX13_team_13 : decode cX13_team 13 = .ok (.getfield 91, 3) := by decide +kernel
theorem dX13_team_16 : decode cX13_team 16 = .ok (.ifCond .ne 9, 3) := by decide +kernel
theorem dX13_team_19 : decode cX13_team 19 = .ok (.aload_n 0, 1) := by decide +kernel
theorem dX13_team_20 : decode cX13_team 20 = .ok (.iconst 5, 1) := by decide +kernel
theorem dX13_team_21 : decode cX13_team 21 = .ok (.invokevirtual 121, 3) := by decide +kernel
theorem dX13_team_24 : decode cX13_team 24 = .ok (.ireturn, 1) := by decide +kernel
theorem dX13_team_25 : decode cX13_team 25 = .ok (.aload_n 0, 1) := by decide +kernel
theorem dX13_team_26 : decode cX13_team 26 = .ok (.iload 5, 2) := by decide +kernel
theorem dX13_team_28 : decode cX13_team 28 = .ok (.invokevirtual 279, 3) := by decide +kernel
theorem dX13_team_31 : decode cX13_team 31 = .ok (.ifCond .ne 9, 3) := by decide +kernel
theorem dX13_team_34 : decode cX13_team 34 = .ok (.aload_n 0, 1) := by decide +kernel
theorem dX13_team_35 : decode cX13_team 35 = .ok (.iconst 1, 1) := by decide +kernel
theorem dX13_team_36 : decode cX13_team 36 = .ok (.invokevirtual 121, 3) := by decide +kernel
theorem dX13_team_39 : decode cX13_team 39 = .ok (.ireturn, 1) := by decide +kernel
theorem dX13_team_40 : decode cX13_team 40 = .ok (.iload_n 1, 1) := by decide +kernel
theorem dX13_team_41 : decode cX13_team 41 = .ok (.iconst 4, 1) := by decide +kernel
theorem dX13_team_42 : decode cX13_team 42 = .ok (.bipush 16, 2) := by decide +kernel
theorem dX13_team_44 : decode cX13_team 44 = .ok (.invokestatic 125, 3) := by decide +kernel
theorem dX13_team_47 : decode cX13_team 47 = .ok (.ifCond .eq 36, 3) := by decide +kernel
theorem dX13_team_50 : decode cX13_team 50 = .ok (.iload_n 2, 1) := by decide +kernel
theorem dX13_team_51 : decode cX13_team 51 = .ok (.bipush 20, 2) := by decide +kernel
theorem dX13_team_53 : decode cX13_team 53 = .ok (.sipush 300, 3) := by decide +kernel
theorem dX13_team_56 : decode cX13_team 56 = .ok (.invokestatic 125, 3) := by decide +kernel
theorem dX13_team_59 : decode cX13_team 59 = .ok (.ifCond .eq 24, 3) := by decide +kernel
theorem dX13_team_62 : decode cX13_team 62 = .ok (.iload_n 3, 1) := by decide +kernel
theorem dX13_team_63 : decode cX13_team 63 = .ok (.iconst 0, 1) := by decide +kernel
theorem dX13_team_64 : decode cX13_team 64 = .ok (.bipush 60, 2) := by decide +kernel
theorem dX13_team_66 : decode cX13_team 66 = .ok (.invokestatic 125, 3) := by decide +kernel
theorem dX13_team_69 : decode cX13_team 69 = .ok (.ifCond .eq 14, 3) := by decide +kernel
theorem dX13_team_72 : decode cX13_team 72 = .ok (.iload 4, 2) := by decide +kernel
theorem dX13_team_74 : decode cX13_team 74 = .ok (.iconst 0, 1) := by decide +kernel
theorem dX13_team_75 : decode cX13_team 75 = .ok (.bipush 100, 2) := by decide +kernel
theorem dX13_team_77 : decode cX13_team 77 = .ok (.invokestatic 125, 3) := by decide +kernel
theorem dX13_team_80 : decode cX13_team 80 = .ok (.ifCond .ne 9, 3) := by decide +kernel
theorem dX13_team_83 : decode cX13_team 83 = .ok (.aload_n 0, 1) := by decide +kernel
theorem dX13_team_84 : decode cX13_team 84 = .ok (.iconst 2, 1) := by decide +kernel
theorem dX13_team_85 : decode cX13_team 85 = .ok (.invokevirtual 121, 3) := by decide +kernel
theorem dX13_team_88 : decode cX13_team 88 = .ok (.ireturn, 1) := by decide +kernel
theorem dX13_team_89 : decode cX13_team 89 = .ok (.aload_n 0, 1) := by decide +kernel
theorem dX13_team_90 : decode cX13_team 90 = .ok (.getfield 94, 3) := by decide +kernel
theorem dX13_team_93 : decode cX13_team 93 = .ok (.bipush 6, 2) := by decide +kernel
theorem dX13_team_95 : decode cX13_team 95 = .ok (.if_icmp .ne 9, 3) := by decide +kernel
theorem dX13_team_98 : decode cX13_team 98 = .ok (.aload_n 0, 1) := by decide +kernel
theorem dX13_team_99 : decode cX13_team 99 = .ok (.iconst 3, 1) := by decide +kernel
theorem dX13_team_100 : decode cX13_team 100 = .ok (.invokevirtual 121, 3) := by decide +kernel
theorem dX13_team_103 : decode cX13_team 103 = .ok (.ireturn, 1) := by decide +kernel
theorem dX13_team_104 : decode cX13_team 104 = .ok (.aload_n 0, 1) := by decide +kernel
theorem dX13_team_105 : decode cX13_team 105 = .ok (.getfield 34, 3) := by decide +kernel
theorem dX13_team_108 : decode cX13_team 108 = .ok (.aload_n 0, 1) := by decide +kernel
theorem dX13_team_109 : decode cX13_team 109 = .ok (.getfield 94, 3) := by decide +kernel
theorem dX13_team_112 : decode cX13_team 112 = .ok (.aaload, 1) := by decide +kernel
theorem dX13_team_113 : decode cX13_team 113 = .ok (.iload_n 1, 1) := by decide +kernel
theorem dX13_team_114 : decode cX13_team 114 = .ok (.iload_n 2, 1) := by decide +kernel
theorem dX13_team_115 : decode cX13_team 115 = .ok (.iload_n 3, 1) := by decide +kernel
theorem dX13_team_116 : decode cX13_team 116 = .ok (.iload 4, 2) := by decide +kernel
theorem dX13_team_118 : decode cX13_team 118 = .ok (.iload 5, 2) := by decide +kernel
theorem dX13_team_120 : decode cX13_team 120 = .ok (.invokevirtual 282, 3) := by decide +kernel
theorem dX13_team_123 : decode cX13_team 123 = .ok (.aload_n 0, 1) := by decide +kernel
theorem dX13_team_124 : decode cX13_team 124 = .ok (.dup, 1) := by decide +kernel
theorem dX13_team_125 : decode cX13_team 125 = .ok (.getfield 94, 3) := by decide +kernel
theorem dX13_team_128 : decode cX13_team 128 = .ok (.iconst 1, 1) := by decide +kernel
theorem dX13_team_129 : decode cX13_team 129 = .ok (.iadd, 1) := by decide +kernel
theorem dX13_team_130 : decode cX13_team 130 = .ok (.putfield 94, 3) := by decide +kernel
theorem dX13_team_133 : decode cX13_team 133 = .ok (.aload_n 0, 1) := by decide +kernel
theorem dX13_team_134 : decode cX13_team 134 = .ok (.aload_n 0, 1) := by decide +kernel
theorem dX13_team_135 : decode cX13_team 135 = .ok (.getfield 94, 3) := by decide +kernel
theorem dX13_team_138 : decode cX13_team 138 = .ok (.iconst 1, 1) := by decide +kernel
theorem dX13_team_139 : decode cX13_team 139 = .ok (.isub, 1) := by decide +kernel
theorem dX13_team_140 : decode cX13_team 140 = .ok (.invokevirtual 129, 3) := by decide +kernel
theorem dX13_team_143 : decode cX13_team 143 = .ok (.ireturn, 1) := by decide +kernel
theorem dX13_follow_0 : decode cX13_follow 0 = .ok (.aload_n 0, 1) := by decide +kernel
theorem dX13_follow_1 : decode cX13_follow 1 = .ok (.iconst 0, 1) := by decide +kernel
theorem dX13_follow_2 : decode cX13_follow 2 = .ok (.putfield 1, 3) := by decide +kernel
theorem dX13_follow_5 : decode cX13_follow 5 = .ok (.aload_n 0, 1) := by decide +kernel
theorem dX13_follow_6 : decode cX13_follow 6 = .ok (.iload_n 1, 1) := by decide +kernel
theorem dX13_follow_7 : decode cX13_follow 7 = .ok (.invokevirtual 286, 3) := by decide +kernel
theorem dX13_follow_10 : decode cX13_follow 10 = .ok (.ifCond .eq 11, 3) := by decide +kernel
theorem dX13_follow_13 : decode cX13_follow 13 = .ok (.aload_n 0, 1) := by decide +kernel
theorem dX13_follow_14 : decode cX13_follow 14 = .ok (.iload_n 2, 1) := by decide +kernel
theorem dX13_follow_15 : decode cX13_follow 15 = .ok (.invokevirtual 279, 3) := by decide +kernel
theorem dX13_follow_18 : decode cX13_follow 18 = .ok (.ifCond .ne 9, 3) := by decide +kernel
theorem dX13_follow_21 : decode cX13_follow 21 = .ok (.aload_n 0, 1) := by decide +kernel
theorem dX13_follow_22 : decode cX13_follow 22 = .ok (.iconst 1, 1) := by decide +kernel
theorem dX13_follow_23 : decode cX13_follow 23 = .ok (.invokevirtual 113, 3) := by decide +kernel
theorem dX13_follow_26 : decode cX13_follow 26 = .ok (.ireturn, 1) := by decide +kernel
theorem dX13_follow_27 : decode cX13_follow 27 = .ok (.aload_n 0, 1) := by decide +kernel
theorem dX13_follow_28 : decode cX13_follow 28 = .ok (.getfield 34, 3) := by decide +kernel
theorem dX13_follow_31 : decode cX13_follow 31 = .ok (.iload_n 1, 1) := by decide +kernel
theorem dX13_follow_32 : decode cX13_follow 32 = .ok (.aaload, 1) := by decide +kernel
theorem dX13_follow_33 : decode cX13_follow 33 = .ok (.astore_n 3, 1) := by decide +kernel
theorem dX13_follow_34 : decode cX13_follow 34 = .ok (.aload_n 3, 1) := by decide +kernel
theorem dX13_follow_35 : decode cX13_follow 35 = .ok (.getfield 289, 3) := by decide +kernel
theorem dX13_follow_38 : decode cX13_follow 38 = .ok (.iconst 1, 1) := by decide +kernel
theorem dX13_follow_39 : decode cX13_follow 39 = .ok (.if_icmp .le 9, 3) := by decide +kernel
theorem dX13_follow_42 : decode cX13_follow 42 = .ok (.aload_n 0, 1) := by decide +kernel
theorem dX13_follow_43 : decode cX13_follow 43 = .ok (.iconst 5, 1) := by decide +kernel
theorem dX13_follow_44 : decode cX13_follow 44 = .ok (.invokevirtual 113, 3) := by decide +kernel
theorem dX13_follow_47 : decode cX13_follow 47 = .ok (.ireturn, 1) := by decide +kernel
theorem dX13_follow_48 : decode cX13_follow 48 = .ok (.aload_n 3, 1) := by decide +kernel
theorem dX13_follow_49 : decode cX13_follow 49 = .ok (.iload_n 2, 1) := by decide +kernel
theorem dX13_follow_50 : decode cX13_follow 50 = .ok (.putfield 292, 3) := by decide +kernel
theorem dX13_follow_53 : decode cX13_follow 53 = .ok (.aload_n 0, 1) := by decide +kernel
theorem dX13_follow_54 : decode cX13_follow 54 = .ok (.invokevirtual 117, 3) := by decide +kernel
theorem dX13_follow_57 : decode cX13_follow 57 = .ok (.ireturn, 1) := by decide +kernel
theorem dX13_gap_0 : decode cX13_gap 0 = .ok (.aload_n 0, 1) := by decide +kernel
theorem dX13_gap_1 : decode cX13_gap 1 = .ok (.iconst 0, 1) := by decide +kernel
theorem dX13_gap_2 : decode cX13_gap 2 = .ok (.putfield 1, 3) := by decide +kernel
theorem dX13_gap_5 : decode cX13_gap 5 = .ok (.aload_n 0, 1) := by decide +kernel
theorem dX13_gap_6 : decode cX13_gap 6 = .ok (.iload_n 1, 1) := by decide +kernel
theorem dX13_gap_7 : decode cX13_gap 7 = .ok (.invokevirtual 286, 3) := by decide +kernel
theorem dX13_gap_10 : decode cX13_gap 10 = .ok (.ifCond .ne 9, 3) := by decide +kernel
theorem dX13_gap_13 : decode cX13_gap 13 = .ok (.aload_n 0, 1) := by decide +kernel
theorem dX13_gap_14 : decode cX13_gap 14 = .ok (.iconst 1, 1) := by decide +kernel
theorem dX13_gap_15 : decode cX13_gap 15 = .ok (.invokevirtual 121, 3) := by decide +kernel
theorem dX13_gap_18 : decode cX13_gap 18 = .ok (.ireturn, 1) := by decide +kernel
theorem dX13_gap_19 : decode cX13_gap 19 = .ok (.iload_n 2, 1) := by decide +kernel
theorem dX13_gap_20 : decode cX13_gap 20 = .ok (.iconst 0, 1) := by decide +kernel
theorem dX13_gap_21 : decode cX13_gap 21 = .ok (.sipush 2000, 3) := by decide +kernel
theorem dX13_gap_24 : decode cX13_gap 24 = .ok (.invokestatic 125, 3) := by decide +kernel
theorem dX13_gap_27 : decode cX13_gap 27 = .ok (.ifCond .eq 14, 3) := by decide +kernel
theorem dX13_gap_30 : decode cX13_gap 30 = .ok (.iload_n 3, 1) := by decide +kernel
theorem dX13_gap_31 : decode cX13_gap 31 = .ok (.iload_n 2, 1) := by decide +kernel
theorem dX13_gap_32 : decode cX13_gap 32 = .ok (.sipush 2000, 3) := by decide +kernel
theorem dX13_gap_35 : decode cX13_gap 35 = .ok (.invokestatic 125, 3) := by decide +kernel
theorem dX13_gap_38 : decode cX13_gap 38 = .ok (.ifCond .ne 9, 3) := by decide +kernel
theorem dX13_gap_41 : decode cX13_gap 41 = .ok (.aload_n 0, 1) := by decide +kernel
theorem dX13_gap_42 : decode cX13_gap 42 = .ok (.iconst 2, 1) := by decide +kernel
theorem dX13_gap_43 : decode cX13_gap 43 = .ok (.invokevirtual 121, 3) := by decide +kernel
theorem dX13_gap_46 : decode cX13_gap 46 = .ok (.ireturn, 1) := by decide +kernel
theorem dX13_gap_47 : decode cX13_gap 47 = .ok (.aload_n 0, 1) := by decide +kernel
theorem dX13_gap_48 : decode cX13_gap 48 = .ok (.getfield 34, 3) := by decide +kernel
theorem dX13_gap_51 : decode cX13_gap 51 = .ok (.iload_n 1, 1) := by decide +kernel
theorem dX13_gap_52 : decode cX13_gap 52 = .ok (.aaload, 1) := by decide +kernel
theorem dX13_gap_53 : decode cX13_gap 53 = .ok (.astore 4, 2) := by decide +kernel
theorem dX13_gap_55 : decode cX13_gap 55 = .ok (.aload 4, 2) := by decide +kernel
theorem dX13_gap_57 : decode cX13_gap 57 = .ok (.getfield 295, 3) := by decide +kernel
theorem dX13_gap_60 : decode cX13_gap 60 = .ok (.iconst 4, 1) := by decide +kernel
theorem dX13_gap_61 : decode cX13_gap 61 = .ok (.if_icmp .ne 9, 3) := by decide +kernel
theorem dX13_gap_64 : decode cX13_gap 64 = .ok (.aload_n 0, 1) := by decide +kernel
theorem dX13_gap_65 : decode cX13_gap 65 = .ok (.iconst 3, 1) := by decide +kernel
theorem dX13_gap_66 : decode cX13_gap 66 = .ok (.invokevirtual 121, 3) := by decide +kernel
theorem dX13_gap_69 : decode cX13_gap 69 = .ok (.ireturn, 1) := by decide +kernel
theorem dX13_gap_70 : decode cX13_gap 70 = .ok (.aload 4, 2) := by decide +kernel
theorem dX13_gap_72 : decode cX13_gap 72 = .ok (.getfield 298, 3) := by decide +kernel
theorem dX13_gap_75 : decode cX13_gap 75 = .ok (.aload 4, 2) := by decide +kernel
theorem dX13_gap_77 : decode cX13_gap 77 = .ok (.getfield 295, 3) := by decide +kernel
theorem dX13_gap_80 : decode cX13_gap 80 = .ok (.iload_n 2, 1) := by decide +kernel
theorem dX13_gap_81 : decode cX13_gap 81 = .ok (.iastore, 1) := by decide +kernel
theorem dX13_gap_82 : decode cX13_gap 82 = .ok (.aload 4, 2) := by decide +kernel
theorem dX13_gap_84 : decode cX13_gap 84 = .ok (.getfield 301, 3) := by decide +kernel
theorem dX13_gap_87 : decode cX13_gap 87 = .ok (.aload 4, 2) := by decide +kernel
theorem dX13_gap_89 : decode cX13_gap 89 = .ok (.getfield 295, 3) := by decide +kernel
theorem dX13_gap_92 : decode cX13_gap 92 = .ok (.iload_n 3, 1) := by decide +kernel
theorem dX13_gap_93 : decode cX13_gap 93 = .ok (.iastore, 1) := by decide +kernel
theorem dX13_gap_94 : decode cX13_gap 94 = .ok (.aload 4, 2) := by decide +kernel
theorem dX13_gap_96 : decode cX13_gap 96 = .ok (.dup, 1) := by decide +kernel
theorem dX13_gap_97 : decode cX13_gap 97 = .ok (.getfield 295, 3) := by decide +kernel
theorem dX13_gap_100 : decode cX13_gap 100 = .ok (.iconst 1, 1) := by decide +kernel
theorem dX13_gap_101 : decode cX13_gap 101 = .ok (.iadd, 1) := by decide +kernel
theorem dX13_gap_102 : decode cX13_gap 102 = .ok (.putfield 295, 3) := by decide +kernel
theorem dX13_gap_105 : decode cX13_gap 105 = .ok (.aload_n 0, 1) := by decide +kernel
theorem dX13_gap_106 : decode cX13_gap 106 = .ok (.aload 4, 2) := by decide +kernel
theorem dX13_gap_108 : decode cX13_gap 108 = .ok (.getfield 295, 3) := by decide +kernel
theorem dX13_gap_111 : decode cX13_gap 111 = .ok (.invokevirtual 129, 3) := by decide +kernel
theorem dX13_gap_114 : decode cX13_gap 114 = .ok (.ireturn, 1) := by decide +kernel
theorem dX13_each_0 : decode cX13_each 0 = .ok (.aload_n 0, 1) := by decide +kernel
theorem dX13_each_1 : decode cX13_each 1 = .ok (.iconst 0, 1) := by decide +kernel
theorem dX13_each_2 : decode cX13_each 2 = .ok (.putfield 1, 3) := by decide +kernel
theorem dX13_each_5 : decode cX13_each 5 = .ok (.aload_n 0, 1) := by decide +kernel
theorem dX13_each_6 : decode cX13_each 6 = .ok (.getfield 100, 3) := by decide +kernel
theorem dX13_each_9 : decode cX13_each 9 = .ok (.ifCond .le 9, 3) := by decide +kernel
theorem dX13_each_12 : decode cX13_each 12 = .ok (.aload_n 0, 1) := by decide +kernel
theorem dX13_each_13 : decode cX13_each 13 = .ok (.iconst 5, 1) := by decide +kernel
theorem dX13_each_14 : decode cX13_each 14 = .ok (.invokevirtual 113, 3) := by decide +kernel
theorem dX13_each_17 : decode cX13_each 17 = .ok (.ireturn, 1) := by decide +kernel
theorem dX13_each_18 : decode cX13_each 18 = .ok (.iload_n 1, 1) := by decide +kernel
theorem dX13_each_19 : decode cX13_each 19 = .ok (.iconst 1, 1) := by decide +kernel
theorem dX13_each_20 : decode cX13_each 20 = .ok (.bipush 48, 2) := by decide +kernel
theorem dX13_each_22 : decode cX13_each 22 = .ok (.invokestatic 125, 3) := by decide +kernel
theorem dX13_each_25 : decode cX13_each 25 = .ok (.ifCond .ne 9, 3) := by decide +kernel
theorem dX13_each_28 : decode cX13_each 28 = .ok (.aload_n 0, 1) := by decide +kernel
theorem dX13_each_29 : decode cX13_each 29 = .ok (.iconst 2, 1) := by decide +kernel
theorem dX13_each_30 : decode cX13_each 30 = .ok (.invokevirtual 113, 3) := by decide +kernel
theorem dX13_each_33 : decode cX13_each 33 = .ok (.ireturn, 1) := by decide +kernel
theorem dX13_each_34 : decode cX13_each 34 = .ok (.aload_n 0, 1) := by decide +kernel
theorem dX13_each_35 : decode cX13_each 35 = .ok (.iload_n 1, 1) := by decide +kernel
theorem dX13_each_36 : decode cX13_each 36 = .ok (.putfield 19, 3) := by decide +kernel
theorem dX13_each_39 : decode cX13_each 39 = .ok (.aload_n 0, 1) := by decide +kernel
theorem dX13_each_40 : decode cX13_each 40 = .ok (.invokevirtual 117, 3) := by decide +kernel
theorem dX13_each_43 : decode cX13_each 43 = .ok (.ireturn, 1) := by decide +kernel
theorem dX13_way_0 : decode cX13_way 0 = .ok (.aload_n 1, 1) := by decide +kernel
theorem dX13_way_1 : decode cX13_way 1 = .ok (.getfield 304, 3) := by decide +kernel
theorem dX13_way_4 : decode cX13_way 4 = .ok (.istore_n 2, 1) := by decide +kernel
theorem dX13_way_5 : decode cX13_way 5 = .ok (.iconst 0, 1) := by decide +kernel
theorem dX13_way_6 : decode cX13_way 6 = .ok (.istore_n 3, 1) := by decide +kernel
theorem dX13_way_7 : decode cX13_way 7 = .ok (.iload_n 3, 1) := by decide +kernel
theorem dX13_way_8 : decode cX13_way 8 = .ok (.aload_n 1, 1) := by decide +kernel
theorem dX13_way_9 : decode cX13_way 9 = .ok (.getfield 307, 3) := by decide +kernel
theorem dX13_way_12 : decode cX13_way 12 = .ok (.if_icmp .ge 18, 3) := by decide +kernel
theorem dX13_way_15 : decode cX13_way 15 = .ok (.iload_n 2, 1) := by decide +kernel
theorem dX13_way_16 : decode cX13_way 16 = .ok (.aload_n 0, 1) := by decide +kernel
theorem dX13_way_17 : decode cX13_way 17 = .ok (.getfield 22, 3) := by decide +kernel
theorem dX13_way_20 : decode cX13_way 20 = .ok (.iload_n 3, 1) := by decide +kernel
theorem dX13_way_21 : decode cX13_way 21 = .ok (.iaload, 1) := by decide +kernel
theorem dX13_way_22 : decode cX13_way 22 = .ok (.iadd, 1) := by decide +kernel
theorem dX13_way_23 : decode cX13_way 23 = .ok (.istore_n 2, 1) := by decide +kernel
theorem dX13_way_24 : decode cX13_way 24 = .ok (.iinc 3 1, 3) := by decide +kernel
theorem dX13_way_27 : decode cX13_way 27 = .ok (.goto (-20), 3) := by decide +kernel
theorem dX13_way_30 : decode cX13_way 30 = .ok (.iload_n 2, 1) := by decide +kernel
theorem dX13_way_31 : decode cX13_way 31 = .ok (.ireturn, 1) := by decide +kernel
theorem dX13_trail_0 : decode cX13_trail 0 = .ok (.iconst 0, 1) := by decide +kernel
theorem dX13_trail_1 : decode cX13_trail 1 = .ok (.istore_n 1, 1) := by decide +kernel
theorem dX13_trail_2 : decode cX13_trail 2 = .ok (.iconst 0, 1) := by decide +kernel
theorem dX13_trail_3 : decode cX13_trail 3 = .ok (.istore_n 2, 1) := by decide +kernel
theorem dX13_trail_4 : decode cX13_trail 4 = .ok (.iload_n 2, 1) := by decide +kernel
theorem dX13_trail_5 : decode cX13_trail 5 = .ok (.aload_n 0, 1) := by decide +kernel
theorem dX13_trail_6 : decode cX13_trail 6 = .ok (.getfield 91, 3) := by decide +kernel
theorem dX13_trail_9 : decode cX13_trail 9 = .ok (.if_icmp .ge 18, 3) := by decide +kernel
theorem dX13_trail_12 : decode cX13_trail 12 = .ok (.iload_n 1, 1) := by decide +kernel
theorem dX13_trail_13 : decode cX13_trail 13 = .ok (.aload_n 0, 1) := by decide +kernel
theorem dX13_trail_14 : decode cX13_trail 14 = .ok (.getfield 22, 3) := by decide +kernel
theorem dX13_trail_17 : decode cX13_trail 17 = .ok (.iload_n 2, 1) := by decide +kernel
theorem dX13_trail_18 : decode cX13_trail 18 = .ok (.iaload, 1) := by decide +kernel
theorem dX13_trail_19 : decode cX13_trail 19 = .ok (.iadd, 1) := by decide +kernel
theorem dX13_trail_20 : decode cX13_trail 20 = .ok (.istore_n 1, 1) := by decide +kernel
theorem dX13_trail_21 : decode cX13_trail 21 = .ok (.iinc 2 1, 3) := by decide +kernel
theorem dX13_trail_24 : decode cX13_trail 24 = .ok (.goto (-20), 3) := by decide +kernel
theorem dX13_trail_27 : decode cX13_trail 27 = .ok (.iload_n 1, 1) := by decide +kernel
theorem dX13_trail_28 : decode cX13_trail 28 = .ok (.ireturn, 1) := by decide +kernel
theorem dX13_valueOf_0 : decode cX13_valueOf 0 = .ok (.iload_n 2, 1) := by decide +kernel
theorem dX13_valueOf_1 : decode cX13_valueOf 1 = .ok (.tableswitch 144 0 9 #[55, 60, 65, 75, 80, 93, 98, 104, 119, 127], 55) := by decide +kernel
theorem dX13_valueOf_56 : decode cX13_valueOf 56 = .ok (.aload_n 1, 1) := by decide +kernel
theorem dX13_valueOf_57 : decode cX13_valueOf 57 = .ok (.getfield 310, 3) := by decide +kernel
theorem dX13_valueOf_60 : decode cX13_valueOf 60 = .ok (.ireturn, 1) := by decide +kernel
theorem dX13_valueOf_61 : decode cX13_valueOf 61 = .ok (.aload_n 1, 1) := by decide +kernel
theorem dX13_valueOf_62 : decode cX13_valueOf 62 = .ok (.getfield 312, 3) := by decide +kernel
theorem dX13_valueOf_65 : decode cX13_valueOf 65 = .ok (.ireturn, 1) := by decide +kernel
theorem dX13_valueOf_66 : decode cX13_valueOf 66 = .ok (.aload_n 1, 1) := by decide +kernel
theorem dX13_valueOf_67 : decode cX13_valueOf 67 = .ok (.getfield 314, 3) := by decide +kernel
theorem dX13_valueOf_70 : decode cX13_valueOf 70 = .ok (.aload_n 1, 1) := by decide +kernel
theorem dX13_valueOf_71 : decode cX13_valueOf 71 = .ok (.invokevirtual 317, 3) := by decide +kernel
theorem dX13_valueOf_74 : decode cX13_valueOf 74 = .ok (.iaload, 1) := by decide +kernel
theorem dX13_valueOf_75 : decode cX13_valueOf 75 = .ok (.ireturn, 1) := by decide +kernel
theorem dX13_valueOf_76 : decode cX13_valueOf 76 = .ok (.aload_n 1, 1) := by decide +kernel
theorem dX13_valueOf_77 : decode cX13_valueOf 77 = .ok (.invokevirtual 320, 3) := by decide +kernel
theorem dX13_valueOf_80 : decode cX13_valueOf 80 = .ok (.ireturn, 1) := by decide +kernel
theorem dX13_valueOf_81 : decode cX13_valueOf 81 = .ok (.aload_n 0, 1) := by decide +kernel
theorem dX13_valueOf_82 : decode cX13_valueOf 82 = .ok (.getfield 29, 3) := by decide +kernel
theorem dX13_valueOf_85 : decode cX13_valueOf 85 = .ok (.iload_n 3, 1) := by decide +kernel
theorem dX13_valueOf_86 : decode cX13_valueOf 86 = .ok (.bipush 6, 2) := by decide +kernel
theorem dX13_valueOf_88 : decode cX13_valueOf 88 = .ok (.idiv, 1) := by decide +kernel
theorem dX13_valueOf_89 : decode cX13_valueOf 89 = .ok (.iaload, 1) := by decide +kernel
theorem dX13_valueOf_90 : decode cX13_valueOf 90 = .ok (.bipush 100, 2) := by decide +kernel
theorem dX13_valueOf_92 : decode cX13_valueOf 92 = .ok (.iadd, 1) := by decide +kernel
theorem dX13_valueOf_93 : decode cX13_valueOf 93 = .ok (.ireturn, 1) := by decide +kernel
theorem dX13_valueOf_94 : decode cX13_valueOf 94 = .ok (.aload_n 1, 1) := by decide +kernel
theorem dX13_valueOf_95 : decode cX13_valueOf 95 = .ok (.getfield 322, 3) := by decide +kernel
theorem dX13_valueOf_98 : decode cX13_valueOf 98 = .ok (.ireturn, 1) := by decide +kernel
theorem dX13_valueOf_99 : decode cX13_valueOf 99 = .ok (.aload_n 1, 1) := by decide +kernel
theorem dX13_valueOf_100 : decode cX13_valueOf 100 = .ok (.iconst 0, 1) := by decide +kernel
theorem dX13_valueOf_101 : decode cX13_valueOf 101 = .ok (.invokevirtual 324, 3) := by decide +kernel
theorem dX13_valueOf_104 : decode cX13_valueOf 104 = .ok (.ireturn, 1) := by decide +kernel
theorem dX13_valueOf_105 : decode cX13_valueOf 105 = .ok (.aload_n 0, 1) := by decide +kernel
theorem dX13_valueOf_106 : decode cX13_valueOf 106 = .ok (.getfield 22, 3) := by decide +kernel
theorem dX13_valueOf_109 : decode cX13_valueOf 109 = .ok (.aload_n 1, 1) := by decide +kernel
theorem dX13_valueOf_110 : decode cX13_valueOf 110 = .ok (.getfield 307, 3) := by decide +kernel
theorem dX13_valueOf_113 : decode cX13_valueOf 113 = .ok (.iaload, 1) := by decide +kernel
theorem dX13_valueOf_114 : decode cX13_valueOf 114 = .ok (.aload_n 1, 1) := by decide +kernel
theorem dX13_valueOf_115 : decode cX13_valueOf 115 = .ok (.getfield 304, 3) := by decide +kernel
theorem dX13_valueOf_118 : decode cX13_valueOf 118 = .ok (.isub, 1) := by decide +kernel
theorem dX13_valueOf_119 : decode cX13_valueOf 119 = .ok (.ireturn, 1) := by decide +kernel
theorem dX13_valueOf_120 : decode cX13_valueOf 120 = .ok (.iload_n 3, 1) := by decide +kernel
theorem dX13_valueOf_121 : decode cX13_valueOf 121 = .ok (.bipush 6, 2) := by decide +kernel
theorem dX13_valueOf_123 : decode cX13_valueOf 123 = .ok (.idiv, 1) := by decide +kernel
theorem dX13_valueOf_124 : decode cX13_valueOf 124 = .ok (.bipush 24, 2) := by decide +kernel
theorem dX13_valueOf_126 : decode cX13_valueOf 126 = .ok (.irem, 1) := by decide +kernel
theorem dX13_valueOf_127 : decode cX13_valueOf 127 = .ok (.ireturn, 1) := by decide +kernel
theorem dX13_valueOf_128 : decode cX13_valueOf 128 = .ok (.aload_n 1, 1) := by decide +kernel
theorem dX13_valueOf_129 : decode cX13_valueOf 129 = .ok (.getfield 304, 3) := by decide +kernel
theorem dX13_valueOf_132 : decode cX13_valueOf 132 = .ok (.ifCond .ne 10, 3) := by decide +kernel
theorem dX13_valueOf_135 : decode cX13_valueOf 135 = .ok (.aload_n 1, 1) := by decide +kernel
theorem dX13_valueOf_136 : decode cX13_valueOf 136 = .ok (.getfield 307, 3) := by decide +kernel
theorem dX13_valueOf_139 : decode cX13_valueOf 139 = .ok (.goto 5, 3) := by decide +kernel
theorem dX13_valueOf_142 : decode cX13_valueOf 142 = .ok (.bipush 99, 2) := by decide +kernel
theorem dX13_valueOf_144 : decode cX13_valueOf 144 = .ok (.ireturn, 1) := by decide +kernel
theorem dX13_valueOf_145 : decode cX13_valueOf 145 = .ok (.aload_n 1, 1) := by decide +kernel
theorem dX13_valueOf_146 : decode cX13_valueOf 146 = .ok (.getfield 327, 3) := by decide +kernel
theorem dX13_valueOf_149 : decode cX13_valueOf 149 = .ok (.ireturn, 1) := by decide +kernel
theorem dX13_holds_0 : decode cX13_holds 0 = .ok (.iconst 1, 1) := by decide +kernel
theorem dX13_holds_1 : decode cX13_holds 1 = .ok (.istore 4, 2) := by decide +kernel
theorem dX13_holds_3 : decode cX13_holds 3 = .ok (.iconst 4, 1) := by decide +kernel
theorem dX13_holds_4 : decode cX13_holds 4 = .ok (.iload_n 2, 1) := by decide +kernel
theorem dX13_holds_5 : decode cX13_holds 5 = .ok (.imul, 1) := by decide +kernel
theorem dX13_holds_6 : decode cX13_holds 6 = .ok (.istore 5, 2) := by decide +kernel
theorem dX13_holds_8 : decode cX13_holds 8 = .ok (.iload 5, 2) := by decide +kernel
theorem dX13_holds_10 : decode cX13_holds 10 = .ok (.iconst 4, 1) := by decide +kernel
theorem dX13_holds_11 : decode cX13_holds 11 = .ok (.iload_n 2, 1) := by decide +kernel
theorem dX13_holds_12 : decode cX13_holds 12 = .ok (.imul, 1) := by decide +kernel
theorem dX13_holds_13 : decode cX13_holds 13 = .ok (.aload_n 0, 1) := by decide +kernel
theorem dX13_holds_14 : decode cX13_holds 14 = .ok (.getfield 75, 3) := by decide +kernel
theorem dX13_holds_17 : decode cX13_holds 17 = .ok (.iload_n 2, 1) := by decide +kernel
theorem dX13_holds_18 : decode cX13_holds 18 = .ok (.iaload, 1) := by decide +kernel
theorem dX13_holds_19 : decode cX13_holds 19 = .ok (.iadd, 1) := by decide +kernel
theorem dX13_holds_20 : decode cX13_holds 20 = .ok (.if_icmp .ge 73, 3) := by decide +kernel
theorem dX13_holds_23 : decode cX13_holds 23 = .ok (.aload_n 0, 1) := by decide +kernel
theorem dX13_holds_24 : decode cX13_holds 24 = .ok (.aload_n 1, 1) := by decide +kernel
theorem dX13_holds_25 : decode cX13_holds 25 = .ok (.aload_n 0, 1) := by decide +kernel
theorem dX13_holds_26 : decode cX13_holds 26 = .ok (.getfield 78, 3) := by decide +kernel
theorem dX13_holds_29 : decode cX13_holds 29 = .ok (.iload 5, 2) := by decide +kernel
theorem dX13_holds_31 : decode cX13_holds 31 = .ok (.iaload, 1) := by decide +kernel
theorem dX13_holds_32 : decode cX13_holds 32 = .ok (.iload_n 3, 1) := by decide +kernel
theorem dX13_holds_33 : decode cX13_holds 33 = .ok (.invokevirtual 329, 3) := by decide +kernel
theorem dX13_holds_36 : decode cX13_holds 36 = .ok (.istore 6, 2) := by decide +kernel
theorem dX13_holds_38 : decode cX13_holds 38 = .ok (.iload 4, 2) := by decide +kernel
theorem dX13_holds_40 : decode cX13_holds 40 = .ok (.ifCond .eq 44, 3) := by decide +kernel
theorem dX13_holds_43 : decode cX13_holds 43 = .ok (.aload_n 0, 1) := by decide +kernel
theorem dX13_holds_44 : decode cX13_holds 44 = .ok (.getfield 84, 3) := by decide +kernel
theorem dX13_holds_47 : decode cX13_holds 47 = .ok (.iload 5, 2) := by decide +kernel
theorem dX13_holds_49 : decode cX13_holds 49 = .ok (.baload, 1) := by decide +kernel
theorem dX13_holds_50 : decode cX13_holds 50 = .ok (.ifCond .eq 18, 3) := by decide +kernel
theorem dX13_holds_53 : decode cX13_holds 53 = .ok (.iload 6, 2) := by decide +kernel
theorem dX13_holds_55 : decode cX13_holds 55 = .ok (.aload_n 0, 1) := by decide +kernel
theorem dX13_holds_56 : decode cX13_holds 56 = .ok (.getfield 81, 3) := by decide +kernel
theorem dX13_holds_59 : decode cX13_holds 59 = .ok (.iload 5, 2) := by decide +kernel
theorem dX13_holds_61 : decode cX13_holds 61 = .ok (.iaload, 1) := by decide +kernel
theorem dX13_holds_62 : decode cX13_holds 62 = .ok (.if_icmp .ge 22, 3) := by decide +kernel
theorem dX13_holds_65 : decode cX13_holds 65 = .ok (.goto 15, 3) := by decide +kernel
theorem dX13_holds_68 : decode cX13_holds 68 = .ok (.iload 6, 2) := by decide +kernel
theorem dX13_holds_70 : decode cX13_holds 70 = .ok (.aload_n 0, 1) := by decide +kernel
theorem dX13_holds_71 : decode cX13_holds 71 = .ok (.getfield 81, 3) := by decide +kernel
theorem dX13_holds_74 : decode cX13_holds 74 = .ok (.iload 5, 2) := by decide +kernel
theorem dX13_holds_76 : decode cX13_holds 76 = .ok (.iaload, 1) := by decide +kernel
theorem dX13_holds_77 : decode cX13_holds 77 = .ok (.if_icmp .le 7, 3) := by decide +kernel
theorem dX13_holds_80 : decode cX13_holds 80 = .ok (.iconst 1, 1) := by decide +kernel
theorem dX13_holds_81 : decode cX13_holds 81 = .ok (.goto 4, 3) := by decide +kernel
theorem dX13_holds_84 : decode cX13_holds 84 = .ok (.iconst 0, 1) := by decide +kernel
theorem dX13_holds_85 : decode cX13_holds 85 = .ok (.istore 4, 2) := by decide +kernel
theorem dX13_holds_87 : decode cX13_holds 87 = .ok (.iinc 5 1, 3) := by decide +kernel
theorem dX13_holds_90 : decode cX13_holds 90 = .ok (.goto (-82), 3) := by decide +kernel
theorem dX13_holds_93 : decode cX13_holds 93 = .ok (.iload 4, 2) := by decide +kernel
theorem dX13_holds_95 : decode cX13_holds 95 = .ok (.ireturn, 1) := by decide +kernel
theorem dX13_leads_0 : decode cX13_leads 0 = .ok (.aload_n 1, 1) := by decide +kernel
theorem dX13_leads_1 : decode cX13_leads 1 = .ok (.getfield 289, 3) := by decide +kernel
theorem dX13_leads_4 : decode cX13_leads 4 = .ok (.ifCond .ne 23, 3) := by decide +kernel
theorem dX13_leads_7 : decode cX13_leads 7 = .ok (.aload_n 1, 1) := by decide +kernel
theorem dX13_leads_8 : decode cX13_leads 8 = .ok (.getfield 333, 3) := by decide +kernel
theorem dX13_leads_11 : decode cX13_leads 11 = .ok (.iload_n 2, 1) := by decide +kernel
theorem dX13_leads_12 : decode cX13_leads 12 = .ok (.if_icmp .ne 15, 3) := by decide +kernel
theorem dX13_leads_15 : decode cX13_leads 15 = .ok (.aload_n 1, 1) := by decide +kernel
theorem dX13_leads_16 : decode cX13_leads 16 = .ok (.iconst 1, 1) := by decide +kernel
theorem dX13_leads_17 : decode cX13_leads 17 = .ok (.putfield 289, 3) := by decide +kernel
theorem dX13_leads_20 : decode cX13_leads 20 = .ok (.aload_n 1, 1) := by decide +kernel
theorem dX13_leads_21 : decode cX13_leads 21 = .ok (.getfield 335, 3) := by decide +kernel
theorem dX13_leads_24 : decode cX13_leads 24 = .ok (.iconst 0, 1) := by decide +kernel
theorem dX13_leads_25 : decode cX13_leads 25 = .ok (.iload_n 2, 1) := by decide +kernel
theorem dX13_leads_26 : decode cX13_leads 26 = .ok (.iastore, 1) := by decide +kernel
theorem dX13_leads_27 : decode cX13_leads 27 = .ok (.aload_n 1, 1) := by decide +kernel
theorem dX13_leads_28 : decode cX13_leads 28 = .ok (.getfield 289, 3) := by decide +kernel
theorem dX13_leads_31 : decode cX13_leads 31 = .ok (.iconst 1, 1) := by decide +kernel
theorem dX13_leads_32 : decode cX13_leads 32 = .ok (.if_icmp .eq 4, 3) := by decide +kernel
theorem dX13_leads_35 : decode cX13_leads 35 = .ok (.return_, 1) := by decide +kernel
theorem dX13_leads_36 : decode cX13_leads 36 = .ok (.iconst 0, 1) := by decide +kernel
theorem dX13_leads_37 : decode cX13_leads 37 = .ok (.istore_n 3, 1) := by decide +kernel
theorem dX13_leads_38 : decode cX13_leads 38 = .ok (.iload_n 3, 1) := by decide +kernel
theorem dX13_leads_39 : decode cX13_leads 39 = .ok (.aload_n 0, 1) := by decide +kernel
theorem dX13_leads_40 : decode cX13_leads 40 = .ok (.getfield 69, 3) := by decide +kernel
theorem dX13_leads_43 : decode cX13_leads 43 = .ok (.aload_n 1, 1) := by decide +kernel
theorem dX13_leads_44 : decode cX13_leads 44 = .ok (.getfield 292, 3) := by decide +kernel
theorem dX13_leads_47 : decode cX13_leads 47 = .ok (.iaload, 1) := by decide +kernel
theorem dX13_leads_48 : decode cX13_leads 48 = .ok (.if_icmp .ge 27, 3) := by decide +kernel
theorem dX13_leads_51 : decode cX13_leads 51 = .ok (.aload_n 0, 1) := by decide +kernel
theorem dX13_leads_52 : decode cX13_leads 52 = .ok (.aload_n 1, 1) := by decide +kernel
theorem dX13_leads_53 : decode cX13_leads 53 = .ok (.bipush 12, 2) := by decide +kernel
theorem dX13_leads_55 : decode cX13_leads 55 = .ok (.aload_n 1, 1) := by decide +kernel
theorem dX13_leads_56 : decode cX13_leads 56 = .ok (.getfield 292, 3) := by decide +kernel
theorem dX13_leads_59 : decode cX13_leads 59 = .ok (.imul, 1) := by decide +kernel
theorem dX13_leads_60 : decode cX13_leads 60 = .ok (.iload_n 3, 1) := by decide +kernel
theorem dX13_leads_61 : decode cX13_leads 61 = .ok (.iadd, 1) := by decide +kernel
theorem dX13_leads_62 : decode cX13_leads 62 = .ok (.iload_n 2, 1) := by decide +kernel
theorem dX13_leads_63 : decode cX13_leads 63 = .ok (.invokevirtual 338, 3) := by decide +kernel
theorem dX13_leads_66 : decode cX13_leads 66 = .ok (.ifCond .ne 9, 3) := by decide +kernel
theorem dX13_leads_69 : decode cX13_leads 69 = .ok (.iinc 3 1, 3) := by decide +kernel
theorem dX13_leads_72 : decode cX13_leads 72 = .ok (.goto (-34), 3) := by decide +kernel
theorem dX13_leads_75 : decode cX13_leads 75 = .ok (.iload_n 3, 1) := by decide +kernel
theorem dX13_leads_76 : decode cX13_leads 76 = .ok (.aload_n 0, 1) := by decide +kernel
theorem dX13_leads_77 : decode cX13_leads 77 = .ok (.getfield 69, 3) := by decide +kernel
theorem dX13_leads_80 : decode cX13_leads 80 = .ok (.aload_n 1, 1) := by decide +kernel
theorem dX13_leads_81 : decode cX13_leads 81 = .ok (.getfield 292, 3) := by decide +kernel
theorem dX13_leads_84 : decode cX13_leads 84 = .ok (.iaload, 1) := by decide +kernel
theorem dX13_leads_85 : decode cX13_leads 85 = .ok (.if_icmp .ge 7, 3) := by decide +kernel
theorem dX13_leads_88 : decode cX13_leads 88 = .ok (.iconst 1, 1) := by decide +kernel
theorem dX13_leads_89 : decode cX13_leads 89 = .ok (.goto 4, 3) := by decide +kernel
theorem dX13_leads_92 : decode cX13_leads 92 = .ok (.iconst 0, 1) := by decide +kernel
theorem dX13_leads_93 : decode cX13_leads 93 = .ok (.istore 4, 2) := by decide +kernel
theorem dX13_leads_95 : decode cX13_leads 95 = .ok (.aload_n 1, 1) := by decide +kernel
theorem dX13_leads_96 : decode cX13_leads 96 = .ok (.iload 4, 2) := by decide +kernel
theorem dX13_leads_98 : decode cX13_leads 98 = .ok (.ifCond .eq 7, 3) := by decide +kernel
theorem dX13_leads_101 : decode cX13_leads 101 = .ok (.iload_n 3, 1) := by decide +kernel
theorem dX13_leads_102 : decode cX13_leads 102 = .ok (.goto 5, 3) := by decide +kernel
theorem dX13_leads_105 : decode cX13_leads 105 = .ok (.bipush 100, 2) := by decide +kernel
theorem dX13_leads_107 : decode cX13_leads 107 = .ok (.putfield 342, 3) := by decide +kernel
theorem dX13_leads_110 : decode cX13_leads 110 = .ok (.iload 4, 2) := by decide +kernel
theorem dX13_leads_112 : decode cX13_leads 112 = .ok (.ifCond .eq 20, 3) := by decide +kernel
theorem dX13_leads_115 : decode cX13_leads 115 = .ok (.aload_n 0, 1) := by decide +kernel
theorem dX13_leads_116 : decode cX13_leads 116 = .ok (.getfield 72, 3) := by decide +kernel
theorem dX13_leads_119 : decode cX13_leads 119 = .ok (.bipush 12, 2) := by decide +kernel
theorem dX13_leads_121 : decode cX13_leads 121 = .ok (.aload_n 1, 1) := by decide +kernel
theorem dX13_leads_122 : decode cX13_leads 122 = .ok (.getfield 292, 3) := by decide +kernel
theorem dX13_leads_125 : decode cX13_leads 125 = .ok (.imul, 1) := by decide +kernel
theorem dX13_leads_126 : decode cX13_leads 126 = .ok (.iload_n 3, 1) := by decide +kernel
theorem dX13_leads_127 : decode cX13_leads 127 = .ok (.iadd, 1) := by decide +kernel
theorem dX13_leads_128 : decode cX13_leads 128 = .ok (.iaload, 1) := by decide +kernel
theorem dX13_leads_129 : decode cX13_leads 129 = .ok (.goto 4, 3) := by decide +kernel
theorem dX13_leads_132 : decode cX13_leads 132 = .ok (.iconst 0, 1) := by decide +kernel
theorem dX13_leads_133 : decode cX13_leads 133 = .ok (.istore 5, 2) := by decide +kernel
theorem dX13_leads_135 : decode cX13_leads 135 = .ok (.aload_n 0, 1) := by decide +kernel
theorem dX13_leads_136 : decode cX13_leads 136 = .ok (.getfield 29, 3) := by decide +kernel
theorem dX13_leads_139 : decode cX13_leads 139 = .ok (.iload_n 2, 1) := by decide +kernel
theorem dX13_leads_140 : decode cX13_leads 140 = .ok (.bipush 6, 2) := by decide +kernel
theorem dX13_leads_142 : decode cX13_leads 142 = .ok (.idiv, 1) := by decide +kernel
theorem dX13_leads_143 : decode cX13_leads 143 = .ok (.iaload, 1) := by decide +kernel
theorem dX13_leads_144 : decode cX13_leads 144 = .ok (.istore 6, 2) := by decide +kernel
theorem dX13_leads_146 : decode cX13_leads 146 = .ok (.iload 5, 2) := by decide +kernel
theorem dX13_leads_148 : decode cX13_leads 148 = .ok (.ifCond .ne 12, 3) := by decide +kernel
theorem dX13_leads_151 : decode cX13_leads 151 = .ok (.aload_n 0, 1) := by decide +kernel
theorem dX13_leads_152 : decode cX13_leads 152 = .ok (.aload_n 1, 1) := by decide +kernel
theorem dX13_leads_153 : decode cX13_leads 153 = .ok (.iload_n 2, 1) := by decide +kernel
theorem dX13_leads_154 : decode cX13_leads 154 = .ok (.iload 6, 2) := by decide +kernel
theorem dX13_leads_156 : decode cX13_leads 156 = .ok (.invokevirtual 345, 3) := by decide +kernel
theorem dX13_leads_159 : decode cX13_leads 159 = .ok (.return_, 1) := by decide +kernel
theorem dX13_leads_160 : decode cX13_leads 160 = .ok (.iload 5, 2) := by decide +kernel
theorem dX13_leads_162 : decode cX13_leads 162 = .ok (.iconst 2, 1) := by decide +kernel
theorem dX13_leads_163 : decode cX13_leads 163 = .ok (.if_icmp .ne 29, 3) := by decide +kernel
theorem dX13_leads_166 : decode cX13_leads 166 = .ok (.aload_n 1, 1) := by decide +kernel
theorem dX13_leads_167 : decode cX13_leads 167 = .ok (.getfield 322, 3) := by decide +kernel
theorem dX13_leads_170 : decode cX13_leads 170 = .ok (.ifCond .le 22, 3) := by decide +kernel
theorem dX13_leads_173 : decode cX13_leads 173 = .ok (.aload_n 1, 1) := by decide +kernel
theorem dX13_leads_174 : decode cX13_leads 174 = .ok (.dup, 1) := by decide +kernel
theorem dX13_leads_175 : decode cX13_leads 175 = .ok (.getfield 322, 3) := by decide +kernel
theorem dX13_leads_178 : decode cX13_leads 178 = .ok (.iconst 1, 1) := by decide +kernel
theorem dX13_leads_179 : decode cX13_leads 179 = .ok (.isub, 1) := by decide +kernel
theorem dX13_leads_180 : decode cX13_leads 180 = .ok (.putfield 322, 3) := by decide +kernel
theorem dX13_leads_183 : decode cX13_leads 183 = .ok (.aload_n 1, 1) := by decide +kernel
theorem dX13_leads_184 : decode cX13_leads 184 = .ok (.bipush 120, 2) := by decide +kernel
theorem dX13_leads_186 : decode cX13_leads 186 = .ok (.invokevirtual 349, 3) := by decide +kernel
theorem dX13_leads_189 : decode cX13_leads 189 = .ok (.goto 50, 3) := by decide +kernel
theorem dX13_leads_192 : decode cX13_leads 192 = .ok (.iload 5, 2) := by decide +kernel
theorem dX13_leads_194 : decode cX13_leads 194 = .ok (.iconst 3, 1) := by decide +kernel
theorem dX13_leads_195 : decode cX13_leads 195 = .ok (.if_icmp .ne 44, 3) := by decide +kernel
theorem dX13_leads_198 : decode cX13_leads 198 = .ok (.aload_n 1, 1) := by decide +kernel
theorem dX13_leads_199 : decode cX13_leads 199 = .ok (.getfield 304, 3) := by decide +kernel
theorem dX13_leads_202 : decode cX13_leads 202 = .ok (.ifCond .ne 37, 3) := by decide +kernel
theorem dX13_leads_205 : decode cX13_leads 205 = .ok (.aload_n 1, 1) := by decide +kernel
theorem dX13_leads_206 : decode cX13_leads 206 = .ok (.iconst 0, 1) := by decide +kernel
theorem dX13_leads_207 : decode cX13_leads 207 = .ok (.invokevirtual 324, 3) := by decide +kernel
theorem dX13_leads_210 : decode cX13_leads 210 = .ok (.iconst 1, 1) := by decide +kernel
theorem dX13_leads_211 : decode cX13_leads 211 = .ok (.if_icmp .le 28, 3) := by decide +kernel
theorem dX13_leads_214 : decode cX13_leads 214 = .ok (.aload_n 1, 1) := by decide +kernel
theorem dX13_leads_215 : decode cX13_leads 215 = .ok (.invokevirtual 317, 3) := by decide +kernel
theorem dX13_leads_218 : decode cX13_leads 218 = .ok (.istore 7, 2) := by decide +kernel
theorem dX13_leads_220 : decode cX13_leads 220 = .ok (.aload_n 1, 1) := by decide +kernel
theorem dX13_leads_221 : decode cX13_leads 221 = .ok (.getfield 352, 3) := by decide +kernel
theorem dX13_leads_224 : decode cX13_leads 224 = .ok (.iload 7, 2) := by decide +kernel
theorem dX13_leads_226 : decode cX13_leads 226 = .ok (.iconst 2, 1) := by decide +kernel
theorem dX13_leads_227 : decode cX13_leads 227 = .ok (.iastore, 1) := by decide +kernel
theorem dX13_leads_228 : decode cX13_leads 228 = .ok (.aload_n 1, 1) := by decide +kernel
theorem dX13_leads_229 : decode cX13_leads 229 = .ok (.getfield 355, 3) := by decide +kernel
theorem dX13_leads_232 : decode cX13_leads 232 = .ok (.iload 7, 2) := by decide +kernel
theorem dX13_leads_234 : decode cX13_leads 234 = .ok (.aload_n 1, 1) := by decide +kernel
theorem dX13_leads_235 : decode cX13_leads 235 = .ok (.getfield 307, 3) := by decide +kernel
theorem dX13_leads_238 : decode cX13_leads 238 = .ok (.iastore, 1) := by decide +kernel
theorem dX13_leads_239 : decode cX13_leads 239 = .ok (.aload_n 1, 1) := by decide +kernel
theorem dX13_leads_240 : decode cX13_leads 240 = .ok (.iload 6, 2) := by decide +kernel
theorem dX13_leads_242 : decode cX13_leads 242 = .ok (.bipush (-30), 2) := by decide +kernel
theorem dX13_leads_244 : decode cX13_leads 244 = .ok (.if_icmp .ge 8, 3) := by decide +kernel
theorem dX13_leads_247 : decode cX13_leads 247 = .ok (.bipush 10, 2) := by decide +kernel
theorem dX13_leads_249 : decode cX13_leads 249 = .ok (.goto 17, 3) := by decide +kernel
theorem dX13_leads_252 : decode cX13_leads 252 = .ok (.iload 6, 2) := by decide +kernel
theorem dX13_leads_254 : decode cX13_leads 254 = .ok (.bipush (-5), 2) := by decide +kernel
theorem dX13_leads_256 : decode cX13_leads 256 = .ok (.if_icmp .le 8, 3) := by decide +kernel
theorem dX13_leads_259 : decode cX13_leads 259 = .ok (.bipush 12, 2) := by decide +kernel
theorem dX13_leads_261 : decode cX13_leads 261 = .ok (.goto 5, 3) := by decide +kernel
theorem dX13_leads_264 : decode cX13_leads 264 = .ok (.bipush 15, 2) := by decide +kernel
theorem dX13_leads_266 : decode cX13_leads 266 = .ok (.invokevirtual 349, 3) := by decide +kernel
theorem dX13_leads_269 : decode cX13_leads 269 = .ok (.aload_n 1, 1) := by decide +kernel
theorem dX13_leads_270 : decode cX13_leads 270 = .ok (.dup, 1) := by decide +kernel
theorem dX13_leads_271 : decode cX13_leads 271 = .ok (.getfield 312, 3) := by decide +kernel
theorem dX13_leads_274 : decode cX13_leads 274 = .ok (.iconst 1, 1) := by decide +kernel
theorem dX13_leads_275 : decode cX13_leads 275 = .ok (.iadd, 1) := by decide +kernel
theorem dX13_leads_276 : decode cX13_leads 276 = .ok (.putfield 312, 3) := by decide +kernel
theorem dX13_leads_279 : decode cX13_leads 279 = .ok (.aload_n 1, 1) := by decide +kernel
theorem dX13_leads_280 : decode cX13_leads 280 = .ok (.iconst 0, 1) := by decide +kernel
theorem dX13_leads_281 : decode cX13_leads 281 = .ok (.putfield 310, 3) := by decide +kernel
theorem dX13_leads_284 : decode cX13_leads 284 = .ok (.return_, 1) := by decide +kernel
theorem dX13_goes_0 : decode cX13_goes 0 = .ok (.aload_n 1, 1) := by decide +kernel
theorem dX13_goes_1 : decode cX13_goes 1 = .ok (.getfield 304, 3) := by decide +kernel
theorem dX13_goes_4 : decode cX13_goes 4 = .ok (.ifCond .ne 26, 3) := by decide +kernel
theorem dX13_goes_7 : decode cX13_goes 7 = .ok (.aload_n 1, 1) := by decide +kernel
theorem dX13_goes_8 : decode cX13_goes 8 = .ok (.getfield 358, 3) := by decide +kernel
theorem dX13_goes_11 : decode cX13_goes 11 = .ok (.aload_n 1, 1) := by decide +kernel
theorem dX13_goes_12 : decode cX13_goes 12 = .ok (.getfield 307, 3) := by decide +kernel
theorem dX13_goes_15 : decode cX13_goes 15 = .ok (.iaload, 1) := by decide +kernel
theorem dX13_goes_16 : decode cX13_goes 16 = .ok (.iconst (-1), 1) := by decide +kernel
theorem dX13_goes_17 : decode cX13_goes 17 = .ok (.if_icmp .ne 13, 3) := by decide +kernel
theorem dX13_goes_20 : decode cX13_goes 20 = .ok (.aload_n 1, 1) := by decide +kernel
theorem dX13_goes_21 : decode cX13_goes 21 = .ok (.getfield 358, 3) := by decide +kernel
theorem dX13_goes_24 : decode cX13_goes 24 = .ok (.aload_n 1, 1) := by decide +kernel
theorem dX13_goes_25 : decode cX13_goes 25 = .ok (.getfield 307, 3) := by decide +kernel
theorem dX13_goes_28 : decode cX13_goes 28 = .ok (.iload_n 2, 1) := by decide +kernel
theorem dX13_goes_29 : decode cX13_goes 29 = .ok (.iastore, 1) := by decide +kernel
theorem dX13_goes_30 : decode cX13_goes 30 = .ok (.aload_n 1, 1) := by decide +kernel
theorem dX13_goes_31 : decode cX13_goes 31 = .ok (.dup, 1) := by decide +kernel
theorem dX13_goes_32 : decode cX13_goes 32 = .ok (.getfield 310, 3) := by decide +kernel
theorem dX13_goes_35 : decode cX13_goes 35 = .ok (.iconst 1, 1) := by decide +kernel
theorem dX13_goes_36 : decode cX13_goes 36 = .ok (.iadd, 1) := by decide +kernel
theorem dX13_goes_37 : decode cX13_goes 37 = .ok (.putfield 310, 3) := by decide +kernel
theorem dX13_goes_40 : decode cX13_goes 40 = .ok (.aload_n 1, 1) := by decide +kernel
theorem dX13_goes_41 : decode cX13_goes 41 = .ok (.iconst 0, 1) := by decide +kernel
theorem dX13_goes_42 : decode cX13_goes 42 = .ok (.putfield 312, 3) := by decide +kernel
theorem dX13_goes_45 : decode cX13_goes 45 = .ok (.bipush 6, 2) := by decide +kernel
theorem dX13_goes_47 : decode cX13_goes 47 = .ok (.aload_n 1, 1) := by decide +kernel
theorem dX13_goes_48 : decode cX13_goes 48 = .ok (.getfield 327, 3) := by decide +kernel
theorem dX13_goes_51 : decode cX13_goes 51 = .ok (.bipush 40, 2) := by decide +kernel
theorem dX13_goes_53 : decode cX13_goes 53 = .ok (.idiv, 1) := by decide +kernel
theorem dX13_goes_54 : decode cX13_goes 54 = .ok (.iadd, 1) := by decide +kernel
theorem dX13_goes_55 : decode cX13_goes 55 = .ok (.aload_n 0, 1) := by decide +kernel
theorem dX13_goes_56 : decode cX13_goes 56 = .ok (.getfield 26, 3) := by decide +kernel
theorem dX13_goes_59 : decode cX13_goes 59 = .ok (.aload_n 1, 1) := by decide +kernel
theorem dX13_goes_60 : decode cX13_goes 60 = .ok (.getfield 307, 3) := by decide +kernel
theorem dX13_goes_63 : decode cX13_goes 63 = .ok (.iaload, 1) := by decide +kernel
theorem dX13_goes_64 : decode cX13_goes 64 = .ok (.bipush 25, 2) := by decide +kernel
theorem dX13_goes_66 : decode cX13_goes 66 = .ok (.idiv, 1) := by decide +kernel
theorem dX13_goes_67 : decode cX13_goes 67 = .ok (.iadd, 1) := by decide +kernel
theorem dX13_goes_68 : decode cX13_goes 68 = .ok (.iload_n 3, 1) := by decide +kernel
theorem dX13_goes_69 : decode cX13_goes 69 = .ok (.bipush (-10), 2) := by decide +kernel
theorem dX13_goes_71 : decode cX13_goes 71 = .ok (.if_icmp .le 12, 3) := by decide +kernel
theorem dX13_goes_74 : decode cX13_goes 74 = .ok (.iload_n 3, 1) := by decide +kernel
theorem dX13_goes_75 : decode cX13_goes 75 = .ok (.bipush 10, 2) := by decide +kernel
theorem dX13_goes_77 : decode cX13_goes 77 = .ok (.iadd, 1) := by decide +kernel
theorem dX13_goes_78 : decode cX13_goes 78 = .ok (.iconst 3, 1) := by decide +kernel
theorem dX13_goes_79 : decode cX13_goes 79 = .ok (.idiv, 1) := by decide +kernel
theorem dX13_goes_80 : decode cX13_goes 80 = .ok (.goto 4, 3) := by decide +kernel
theorem dX13_goes_83 : decode cX13_goes 83 = .ok (.iconst 0, 1) := by decide +kernel
theorem dX13_goes_84 : decode cX13_goes 84 = .ok (.iadd, 1) := by decide +kernel
theorem dX13_goes_85 : decode cX13_goes 85 = .ok (.istore 4, 2) := by decide +kernel
theorem dX13_goes_87 : decode cX13_goes 87 = .ok (.iconst 0, 1) := by decide +kernel
theorem dX13_goes_88 : decode cX13_goes 88 = .ok (.istore 5, 2) := by decide +kernel
theorem dX13_goes_90 : decode cX13_goes 90 = .ok (.iload 5, 2) := by decide +kernel
theorem dX13_goes_92 : decode cX13_goes 92 = .ok (.aload_n 1, 1) := by decide +kernel
theorem dX13_goes_93 : decode cX13_goes 93 = .ok (.getfield 361, 3) := by decide +kernel
theorem dX13_goes_96 : decode cX13_goes 96 = .ok (.if_icmp .ge 64, 3) := by decide +kernel
theorem dX13_goes_99 : decode cX13_goes 99 = .ok (.aload_n 1, 1) := by decide +kernel
theorem dX13_goes_100 : decode cX13_goes 100 = .ok (.getfield 352, 3) := by decide +kernel
theorem dX13_goes_103 : decode cX13_goes 103 = .ok (.iload 5, 2) := by decide +kernel
theorem dX13_goes_105 : decode cX13_goes 105 = .ok (.iaload, 1) := by decide +kernel
theorem dX13_goes_106 : decode cX13_goes 106 = .ok (.ifCond .eq 6, 3) := by decide +kernel
theorem dX13_goes_109 : decode cX13_goes 109 = .ok (.goto 45, 3) := by decide +kernel
theorem dX13_goes_112 : decode cX13_goes 112 = .ok (.aload_n 1, 1) := by decide +kernel
theorem dX13_goes_113 : decode cX13_goes 113 = .ok (.getfield 314, 3) := by decide +kernel
theorem dX13_goes_116 : decode cX13_goes 116 = .ok (.iload 5, 2) := by decide +kernel
theorem dX13_goes_118 : decode cX13_goes 118 = .ok (.iconst 0, 1) := by decide +kernel
theorem dX13_goes_119 : decode cX13_goes 119 = .ok (.aload_n 1, 1) := by decide +kernel
theorem dX13_goes_120 : decode cX13_goes 120 = .ok (.getfield 314, 3) := by decide +kernel
theorem dX13_goes_123 : decode cX13_goes 123 = .ok (.iload 5, 2) := by decide +kernel
theorem dX13_goes_125 : decode cX13_goes 125 = .ok (.iaload, 1) := by decide +kernel
theorem dX13_goes_126 : decode cX13_goes 126 = .ok (.iload 4, 2) := by decide +kernel
theorem dX13_goes_128 : decode cX13_goes 128 = .ok (.isub, 1) := by decide +kernel
theorem dX13_goes_129 : decode cX13_goes 129 = .ok (.invokestatic 363, 3) := by decide +kernel
theorem dX13_goes_132 : decode cX13_goes 132 = .ok (.iastore, 1) := by decide +kernel
theorem dX13_goes_133 : decode cX13_goes 133 = .ok (.aload_n 1, 1) := by decide +kernel
theorem dX13_goes_134 : decode cX13_goes 134 = .ok (.getfield 314, 3) := by decide +kernel
theorem dX13_goes_137 : decode cX13_goes 137 = .ok (.iload 5, 2) := by decide +kernel
theorem dX13_goes_139 : decode cX13_goes 139 = .ok (.iaload, 1) := by decide +kernel
theorem dX13_goes_140 : decode cX13_goes 140 = .ok (.ifCond .le 6, 3) := by decide +kernel
theorem dX13_goes_143 : decode cX13_goes 143 = .ok (.goto 11, 3) := by decide +kernel
theorem dX13_goes_146 : decode cX13_goes 146 = .ok (.aload_n 1, 1) := by decide +kernel
theorem dX13_goes_147 : decode cX13_goes 147 = .ok (.getfield 352, 3) := by decide +kernel
theorem dX13_goes_150 : decode cX13_goes 150 = .ok (.iload 5, 2) := by decide +kernel
theorem dX13_goes_152 : decode cX13_goes 152 = .ok (.iconst 1, 1) := by decide +kernel
theorem dX13_goes_153 : decode cX13_goes 153 = .ok (.iastore, 1) := by decide +kernel
theorem dX13_goes_154 : decode cX13_goes 154 = .ok (.iinc 5 1, 3) := by decide +kernel
theorem dX13_goes_157 : decode cX13_goes 157 = .ok (.goto (-67), 3) := by decide +kernel
theorem dX13_goes_160 : decode cX13_goes 160 = .ok (.aload_n 1, 1) := by decide +kernel
theorem dX13_goes_161 : decode cX13_goes 161 = .ok (.aload_n 1, 1) := by decide +kernel
theorem dX13_goes_162 : decode cX13_goes 162 = .ok (.getfield 369, 3) := by decide +kernel
theorem dX13_goes_165 : decode cX13_goes 165 = .ok (.bipush 25, 2) := by decide +kernel
theorem dX13_goes_167 : decode cX13_goes 167 = .ok (.aload_n 1, 1) := by decide +kernel
theorem dX13_goes_168 : decode cX13_goes 168 = .ok (.iconst 1, 1) := by decide +kernel
theorem dX13_goes_169 : decode cX13_goes 169 = .ok (.invokevirtual 324, 3) := by decide +kernel
theorem dX13_goes_172 : decode cX13_goes 172 = .ok (.imul, 1) := by decide +kernel
theorem dX13_goes_173 : decode cX13_goes 173 = .ok (.iadd, 1) := by decide +kernel
theorem dX13_goes_174 : decode cX13_goes 174 = .ok (.putfield 327, 3) := by decide +kernel
theorem dX13_goes_177 : decode cX13_goes 177 = .ok (.aload_n 1, 1) := by decide +kernel
theorem dX13_goes_178 : decode cX13_goes 178 = .ok (.iconst 0, 1) := by decide +kernel
theorem dX13_goes_179 : decode cX13_goes 179 = .ok (.invokevirtual 324, 3) := by decide +kernel
theorem dX13_goes_182 : decode cX13_goes 182 = .ok (.istore 5, 2) := by decide +kernel
theorem dX13_goes_184 : decode cX13_goes 184 = .ok (.iload 5, 2) := by decide +kernel
theorem dX13_goes_186 : decode cX13_goes 186 = .ok (.ifCond .ne 9, 3) := by decide +kernel
theorem dX13_goes_189 : decode cX13_goes 189 = .ok (.aload_n 1, 1) := by decide +kernel
theorem dX13_goes_190 : decode cX13_goes 190 = .ok (.iconst 3, 1) := by decide +kernel
theorem dX13_goes_191 : decode cX13_goes 191 = .ok (.putfield 289, 3) := by decide +kernel
theorem dX13_goes_194 : decode cX13_goes 194 = .ok (.return_, 1) := by decide +kernel
theorem dX13_goes_195 : decode cX13_goes 195 = .ok (.bipush 30, 2) := by decide +kernel
theorem dX13_goes_197 : decode cX13_goes 197 = .ok (.aload_n 1, 1) := by decide +kernel
theorem dX13_goes_198 : decode cX13_goes 198 = .ok (.invokevirtual 320, 3) := by decide +kernel
theorem dX13_goes_201 : decode cX13_goes 201 = .ok (.imul, 1) := by decide +kernel
theorem dX13_goes_202 : decode cX13_goes 202 = .ok (.iload 5, 2) := by decide +kernel
theorem dX13_goes_204 : decode cX13_goes 204 = .ok (.imul, 1) := by decide +kernel
theorem dX13_goes_205 : decode cX13_goes 205 = .ok (.bipush 100, 2) := by decide +kernel
theorem dX13_goes_207 : decode cX13_goes 207 = .ok (.imul, 1) := by decide +kernel
theorem dX13_goes_208 : decode cX13_goes 208 = .ok (.sipush 1000, 3) := by decide +kernel
theorem dX13_goes_211 : decode cX13_goes 211 = .ok (.aload_n 0, 1) := by decide +kernel
theorem dX13_goes_212 : decode cX13_goes 212 = .ok (.getfield 26, 3) := by decide +kernel
theorem dX13_goes_215 : decode cX13_goes 215 = .ok (.aload_n 1, 1) := by decide +kernel
theorem dX13_goes_216 : decode cX13_goes 216 = .ok (.getfield 307, 3) := by decide +kernel
theorem dX13_goes_219 : decode cX13_goes 219 = .ok (.iaload, 1) := by decide +kernel
theorem dX13_goes_220 : decode cX13_goes 220 = .ok (.imul, 1) := by decide +kernel
theorem dX13_goes_221 : decode cX13_goes 221 = .ok (.idiv, 1) := by decide +kernel
theorem dX13_goes_222 : decode cX13_goes 222 = .ok (.bipush 20, 2) := by decide +kernel
theorem dX13_goes_224 : decode cX13_goes 224 = .ok (.imul, 1) := by decide +kernel
theorem dX13_goes_225 : decode cX13_goes 225 = .ok (.bipush 20, 2) := by decide +kernel
theorem dX13_goes_227 : decode cX13_goes 227 = .ok (.iload 5, 2) := by decide +kernel
theorem dX13_goes_229 : decode cX13_goes 229 = .ok (.imul, 1) := by decide +kernel
theorem dX13_goes_230 : decode cX13_goes 230 = .ok (.aload_n 1, 1) := by decide +kernel
theorem dX13_goes_231 : decode cX13_goes 231 = .ok (.getfield 327, 3) := by decide +kernel
theorem dX13_goes_234 : decode cX13_goes 234 = .ok (.iadd, 1) := by decide +kernel
theorem dX13_goes_235 : decode cX13_goes 235 = .ok (.idiv, 1) := by decide +kernel
theorem dX13_goes_236 : decode cX13_goes 236 = .ok (.istore 6, 2) := by decide +kernel
theorem dX13_goes_238 : decode cX13_goes 238 = .ok (.aload_n 1, 1) := by decide +kernel
theorem dX13_goes_239 : decode cX13_goes 239 = .ok (.dup, 1) := by decide +kernel
theorem dX13_goes_240 : decode cX13_goes 240 = .ok (.getfield 304, 3) := by decide +kernel
theorem dX13_goes_243 : decode cX13_goes 243 = .ok (.iload 6, 2) := by decide +kernel
theorem dX13_goes_245 : decode cX13_goes 245 = .ok (.iadd, 1) := by decide +kernel
theorem dX13_goes_246 : decode cX13_goes 246 = .ok (.putfield 304, 3) := by decide +kernel
theorem dX13_goes_249 : decode cX13_goes 249 = .ok (.aload_n 1, 1) := by decide +kernel
theorem dX13_goes_250 : decode cX13_goes 250 = .ok (.getfield 304, 3) := by decide +kernel
theorem dX13_goes_253 : decode cX13_goes 253 = .ok (.aload_n 0, 1) := by decide +kernel
theorem dX13_goes_254 : decode cX13_goes 254 = .ok (.getfield 22, 3) := by decide +kernel
theorem dX13_goes_257 : decode cX13_goes 257 = .ok (.aload_n 1, 1) := by decide +kernel
theorem dX13_goes_258 : decode cX13_goes 258 = .ok (.getfield 307, 3) := by decide +kernel
theorem dX13_goes_261 : decode cX13_goes 261 = .ok (.iaload, 1) := by decide +kernel
theorem dX13_goes_262 : decode cX13_goes 262 = .ok (.if_icmp .ge 4, 3) := by decide +kernel
theorem dX13_goes_265 : decode cX13_goes 265 = .ok (.return_, 1) := by decide +kernel
theorem dX13_goes_266 : decode cX13_goes 266 = .ok (.aload_n 1, 1) := by decide +kernel
theorem dX13_goes_267 : decode cX13_goes 267 = .ok (.dup, 1) := by decide +kernel
theorem dX13_goes_268 : decode cX13_goes 268 = .ok (.getfield 307, 3) := by decide +kernel
theorem dX13_goes_271 : decode cX13_goes 271 = .ok (.iconst 1, 1) := by decide +kernel
theorem dX13_goes_272 : decode cX13_goes 272 = .ok (.iadd, 1) := by decide +kernel
theorem dX13_goes_273 : decode cX13_goes 273 = .ok (.putfield 307, 3) := by decide +kernel
theorem dX13_goes_276 : decode cX13_goes 276 = .ok (.aload_n 1, 1) := by decide +kernel
theorem dX13_goes_277 : decode cX13_goes 277 = .ok (.iconst 0, 1) := by decide +kernel
theorem dX13_goes_278 : decode cX13_goes 278 = .ok (.putfield 304, 3) := by decide +kernel
theorem dX13_goes_281 : decode cX13_goes 281 = .ok (.aload_n 1, 1) := by decide +kernel
theorem dX13_goes_282 : decode cX13_goes 282 = .ok (.getfield 335, 3) := by decide +kernel
theorem dX13_goes_285 : decode cX13_goes 285 = .ok (.aload_n 1, 1) := by decide +kernel
theorem dX13_goes_286 : decode cX13_goes 286 = .ok (.getfield 307, 3) := by decide +kernel
theorem dX13_goes_289 : decode cX13_goes 289 = .ok (.iload_n 2, 1) := by decide +kernel
theorem dX13_goes_290 : decode cX13_goes 290 = .ok (.iconst 1, 1) := by decide +kernel
theorem dX13_goes_291 : decode cX13_goes 291 = .ok (.iadd, 1) := by decide +kernel
theorem dX13_goes_292 : decode cX13_goes 292 = .ok (.iastore, 1) := by decide +kernel
theorem dX13_goes_293 : decode cX13_goes 293 = .ok (.iconst 0, 1) := by decide +kernel
theorem dX13_goes_294 : decode cX13_goes 294 = .ok (.istore 7, 2) := by decide +kernel
theorem dX13_goes_296 : decode cX13_goes 296 = .ok (.iload 7, 2) := by decide +kernel
theorem dX13_goes_298 : decode cX13_goes 298 = .ok (.aload_n 1, 1) := by decide +kernel
theorem dX13_goes_299 : decode cX13_goes 299 = .ok (.getfield 361, 3) := by decide +kernel
theorem dX13_goes_302 : decode cX13_goes 302 = .ok (.if_icmp .ge 42, 3) := by decide +kernel
theorem dX13_goes_305 : decode cX13_goes 305 = .ok (.aload_n 1, 1) := by decide +kernel
theorem dX13_goes_306 : decode cX13_goes 306 = .ok (.getfield 352, 3) := by decide +kernel
theorem dX13_goes_309 : decode cX13_goes 309 = .ok (.iload 7, 2) := by decide +kernel
theorem dX13_goes_311 : decode cX13_goes 311 = .ok (.iaload, 1) := by decide +kernel
theorem dX13_goes_312 : decode cX13_goes 312 = .ok (.iconst 1, 1) := by decide +kernel
theorem dX13_goes_313 : decode cX13_goes 313 = .ok (.if_icmp .eq 6, 3) := by decide +kernel
theorem dX13_goes_316 : decode cX13_goes 316 = .ok (.goto 22, 3) := by decide +kernel
theorem dX13_goes_319 : decode cX13_goes 319 = .ok (.aload_n 1, 1) := by decide +kernel
theorem dX13_goes_320 : decode cX13_goes 320 = .ok (.getfield 352, 3) := by decide +kernel
theorem dX13_goes_323 : decode cX13_goes 323 = .ok (.iload 7, 2) := by decide +kernel
theorem dX13_goes_325 : decode cX13_goes 325 = .ok (.iconst 2, 1) := by decide +kernel
theorem dX13_goes_326 : decode cX13_goes 326 = .ok (.iastore, 1) := by decide +kernel
theorem dX13_goes_327 : decode cX13_goes 327 = .ok (.aload_n 1, 1) := by decide +kernel
theorem dX13_goes_328 : decode cX13_goes 328 = .ok (.getfield 355, 3) := by decide +kernel
theorem dX13_goes_331 : decode cX13_goes 331 = .ok (.iload 7, 2) := by decide +kernel
theorem dX13_goes_333 : decode cX13_goes 333 = .ok (.aload_n 1, 1) := by decide +kernel
theorem dX13_goes_334 : decode cX13_goes 334 = .ok (.getfield 307, 3) := by decide +kernel
theorem dX13_goes_337 : decode cX13_goes 337 = .ok (.iastore, 1) := by decide +kernel
theorem dX13_goes_338 : decode cX13_goes 338 = .ok (.iinc 7 1, 3) := by decide +kernel
theorem dX13_goes_341 : decode cX13_goes 341 = .ok (.goto (-45), 3) := by decide +kernel
theorem dX13_goes_344 : decode cX13_goes 344 = .ok (.aload_n 1, 1) := by decide +kernel
theorem dX13_goes_345 : decode cX13_goes 345 = .ok (.aload_n 1, 1) := by decide +kernel
theorem dX13_goes_346 : decode cX13_goes 346 = .ok (.getfield 369, 3) := by decide +kernel
theorem dX13_goes_349 : decode cX13_goes 349 = .ok (.putfield 327, 3) := by decide +kernel
theorem dX13_goes_352 : decode cX13_goes 352 = .ok (.aload_n 1, 1) := by decide +kernel
theorem dX13_goes_353 : decode cX13_goes 353 = .ok (.getfield 307, 3) := by decide +kernel
theorem dX13_goes_356 : decode cX13_goes 356 = .ok (.aload_n 0, 1) := by decide +kernel
theorem dX13_goes_357 : decode cX13_goes 357 = .ok (.getfield 91, 3) := by decide +kernel
theorem dX13_goes_360 : decode cX13_goes 360 = .ok (.if_icmp .ne 8, 3) := by decide +kernel
theorem dX13_goes_363 : decode cX13_goes 363 = .ok (.aload_n 1, 1) := by decide +kernel
theorem dX13_goes_364 : decode cX13_goes 364 = .ok (.iconst 2, 1) := by decide +kernel
theorem dX13_goes_365 : decode cX13_goes 365 = .ok (.putfield 289, 3) := by decide +kernel
theorem dX13_goes_368 : decode cX13_goes 368 = .ok (.return_, 1) := by decide +kernel
theorem dX13_isOver_0 : decode cX13_isOver 0 = .ok (.iconst 0, 1) := by decide +kernel
theorem dX13_isOver_1 : decode cX13_isOver 1 = .ok (.istore_n 1, 1) := by decide +kernel
theorem dX13_isOver_2 : decode cX13_isOver 2 = .ok (.iconst 0, 1) := by decide +kernel
theorem dX13_isOver_3 : decode cX13_isOver 3 = .ok (.istore_n 2, 1) := by decide +kernel
theorem dX13_isOver_4 : decode cX13_isOver 4 = .ok (.iload_n 2, 1) := by decide +kernel
theorem dX13_isOver_5 : decode cX13_isOver 5 = .ok (.aload_n 0, 1) := by decide +kernel
theorem dX13_isOver_6 : decode cX13_isOver 6 = .ok (.getfield 94, 3) := by decide +kernel
theorem dX13_isOver_9 : decode cX13_isOver 9 = .ok (.if_icmp .ge 32, 3) := by decide +kernel
theorem dX13_isOver_12 : decode cX13_isOver 12 = .ok (.iload_n 1, 1) := by decide +kernel
theorem dX13_isOver_13 : decode cX13_isOver 13 = .ok (.ifCond .ne 16, 3) := by decide +kernel
theorem dX13_isOver_16 : decode cX13_isOver 16 = .ok (.aload_n 0, 1) := by decide +kernel
theorem dX13_isOver_17 : decode cX13_isOver 17 = .ok (.getfield 34, 3) := by decide +kernel
theorem dX13_isOver_20 : decode cX13_isOver 20 = .ok (.iload_n 2, 1) := by decide +kernel
theorem dX13_isOver_21 : decode cX13_isOver 21 = .ok (.aaload, 1) := by decide +kernel
theorem dX13_isOver_22 : decode cX13_isOver 22 = .ok (.getfield 289, 3) := by decide +kernel
theorem dX13_isOver_25 : decode cX13_isOver 25 = .ok (.iconst 2, 1) := by decide +kernel
theorem dX13_isOver_26 : decode cX13_isOver 26 = .ok (.if_icmp .ge 7, 3) := by decide +kernel
theorem dX13_isOver_29 : decode cX13_isOver 29 = .ok (.iconst 1, 1) := by decide +kernel
theorem dX13_isOver_30 : decode cX13_isOver 30 = .ok (.goto 4, 3) := by decide +kernel
theorem dX13_isOver_33 : decode cX13_isOver 33 = .ok (.iconst 0, 1) := by decide +kernel
theorem dX13_isOver_34 : decode cX13_isOver 34 = .ok (.istore_n 1, 1) := by decide +kernel
theorem dX13_isOver_35 : decode cX13_isOver 35 = .ok (.iinc 2 1, 3) := by decide +kernel
theorem dX13_isOver_38 : decode cX13_isOver 38 = .ok (.goto (-34), 3) := by decide +kernel
theorem dX13_isOver_41 : decode cX13_isOver 41 = .ok (.iload_n 1, 1) := by decide +kernel
theorem dX13_isOver_42 : decode cX13_isOver 42 = .ok (.ifCond .eq 13, 3) := by decide +kernel
theorem dX13_isOver_45 : decode cX13_isOver 45 = .ok (.aload_n 0, 1) := by decide +kernel
theorem dX13_isOver_46 : decode cX13_isOver 46 = .ok (.getfield 100, 3) := by decide +kernel
theorem dX13_isOver_49 : decode cX13_isOver 49 = .ok (.sipush 2000, 3) := by decide +kernel
theorem dX13_isOver_52 : decode cX13_isOver 52 = .ok (.if_icmp .lt 7, 3) := by decide +kernel
theorem dX13_isOver_55 : decode cX13_isOver 55 = .ok (.iconst 1, 1) := by decide +kernel
theorem dX13_isOver_56 : decode cX13_isOver 56 = .ok (.goto 4, 3) := by decide +kernel
theorem dX13_isOver_59 : decode cX13_isOver 59 = .ok (.iconst 0, 1) := by decide +kernel
theorem dX13_isOver_60 : decode cX13_isOver 60 = .ok (.ireturn, 1) := by decide +kernel
theorem dX13_run_0 : decode cX13_run 0 = .ok (.aload_n 0, 1) := by decide +kernel
theorem dX13_run_1 : decode cX13_run 1 = .ok (.iconst 0, 1) := by decide +kernel
theorem dX13_run_2 : decode cX13_run 2 = .ok (.putfield 1, 3) := by decide +kernel
theorem dX13_run_5 : decode cX13_run 5 = .ok (.aload_n 0, 1) := by decide +kernel
theorem dX13_run_6 : decode cX13_run 6 = .ok (.invokevirtual 372, 3) := by decide +kernel
theorem dX13_run_9 : decode cX13_run 9 = .ok (.ifCond .eq 9, 3) := by decide +kernel
theorem dX13_run_12 : decode cX13_run 12 = .ok (.aload_n 0, 1) := by decide +kernel
theorem dX13_run_13 : decode cX13_run 13 = .ok (.iconst 5, 1) := by decide +kernel
theorem dX13_run_14 : decode cX13_run 14 = .ok (.invokevirtual 121, 3) := by decide +kernel
theorem dX13_run_17 : decode cX13_run 17 = .ok (.ireturn, 1) := by decide +kernel
theorem dX13_run_18 : decode cX13_run 18 = .ok (.iload_n 1, 1) := by decide +kernel
theorem dX13_run_19 : decode cX13_run 19 = .ok (.iconst 1, 1) := by decide +kernel
theorem dX13_run_20 : decode cX13_run 20 = .ok (.sipush 500, 3) := by decide +kernel
theorem dX13_run_23 : decode cX13_run 23 = .ok (.invokestatic 125, 3) := by decide +kernel
theorem dX13_run_26 : decode cX13_run 26 = .ok (.ifCond .ne 9, 3) := by decide +kernel
theorem dX13_run_29 : decode cX13_run 29 = .ok (.aload_n 0, 1) := by decide +kernel
theorem dX13_run_30 : decode cX13_run 30 = .ok (.iconst 2, 1) := by decide +kernel
theorem dX13_run_31 : decode cX13_run 31 = .ok (.invokevirtual 121, 3) := by decide +kernel
theorem dX13_run_34 : decode cX13_run 34 = .ok (.ireturn, 1) := by decide +kernel
theorem dX13_run_35 : decode cX13_run 35 = .ok (.iconst 0, 1) := by decide +kernel
theorem dX13_run_36 : decode cX13_run 36 = .ok (.istore_n 2, 1) := by decide +kernel
theorem dX13_run_37 : decode cX13_run 37 = .ok (.iload_n 2, 1) := by decide +kernel
theorem dX13_run_38 : decode cX13_run 38 = .ok (.iload_n 1, 1) := by decide +kernel
theorem dX13_run_39 : decode cX13_run 39 = .ok (.if_icmp .ge 158, 3) := by decide +kernel
theorem dX13_run_42 : decode cX13_run 42 = .ok (.aload_n 0, 1) := by decide +kernel
theorem dX13_run_43 : decode cX13_run 43 = .ok (.invokevirtual 372, 3) := by decide +kernel
theorem dX13_run_46 : decode cX13_run 46 = .ok (.ifCond .ne 151, 3) := by decide +kernel
theorem dX13_run_49 : decode cX13_run 49 = .ok (.iconst 0, 1) := by decide +kernel
theorem dX13_run_50 : decode cX13_run 50 = .ok (.istore_n 3, 1) := by decide +kernel
theorem dX13_run_51 : decode cX13_run 51 = .ok (.iload_n 3, 1) := by decide +kernel
theorem dX13_run_52 : decode cX13_run 52 = .ok (.aload_n 0, 1) := by decide +kernel
theorem dX13_run_53 : decode cX13_run 53 = .ok (.getfield 94, 3) := by decide +kernel
theorem dX13_run_56 : decode cX13_run 56 = .ok (.if_icmp .ge 23, 3) := by decide +kernel
theorem dX13_run_59 : decode cX13_run 59 = .ok (.aload_n 0, 1) := by decide +kernel
theorem dX13_run_60 : decode cX13_run 60 = .ok (.aload_n 0, 1) := by decide +kernel
theorem dX13_run_61 : decode cX13_run 61 = .ok (.getfield 34, 3) := by decide +kernel
theorem dX13_run_64 : decode cX13_run 64 = .ok (.iload_n 3, 1) := by decide +kernel
theorem dX13_run_65 : decode cX13_run 65 = .ok (.aaload, 1) := by decide +kernel
theorem dX13_run_66 : decode cX13_run 66 = .ok (.aload_n 0, 1) := by decide +kernel
theorem dX13_run_67 : decode cX13_run 67 = .ok (.getfield 100, 3) := by decide +kernel
theorem dX13_run_70 : decode cX13_run 70 = .ok (.invokevirtual 375, 3) := by decide +kernel
theorem dX13_run_73 : decode cX13_run 73 = .ok (.iinc 3 1, 3) := by decide +kernel
theorem dX13_run_76 : decode cX13_run 76 = .ok (.goto (-25), 3) := by decide +kernel
theorem dX13_run_79 : decode cX13_run 79 = .ok (.iconst 0, 1) := by decide +kernel
theorem dX13_run_80 : decode cX13_run 80 = .ok (.istore_n 3, 1) := by decide +kernel
theorem dX13_run_81 : decode cX13_run 81 = .ok (.iload_n 3, 1) := by decide +kernel
theorem dX13_run_82 : decode cX13_run 82 = .ok (.aload_n 0, 1) := by decide +kernel
theorem dX13_run_83 : decode cX13_run 83 = .ok (.getfield 94, 3) := by decide +kernel
theorem dX13_run_86 : decode cX13_run 86 = .ok (.if_icmp .ge 95, 3) := by decide +kernel
theorem dX13_run_89 : decode cX13_run 89 = .ok (.aload_n 0, 1) := by decide +kernel
theorem dX13_run_90 : decode cX13_run 90 = .ok (.getfield 34, 3) := by decide +kernel
theorem dX13_run_93 : decode cX13_run 93 = .ok (.iload_n 3, 1) := by decide +kernel
theorem dX13_run_94 : decode cX13_run 94 = .ok (.aaload, 1) := by decide +kernel
theorem dX13_run_95 : decode cX13_run 95 = .ok (.astore 4, 2) := by decide +kernel
theorem dX13_run_97 : decode cX13_run 97 = .ok (.aload_n 0, 1) := by decide +kernel
theorem dX13_run_98 : decode cX13_run 98 = .ok (.getfield 100, 3) := by decide +kernel
theorem dX13_run_101 : decode cX13_run 101 = .ok (.aload_n 0, 1) := by decide +kernel
theorem dX13_run_102 : decode cX13_run 102 = .ok (.getfield 19, 3) := by decide +kernel
theorem dX13_run_105 : decode cX13_run 105 = .ok (.irem, 1) := by decide +kernel
theorem dX13_run_106 : decode cX13_run 106 = .ok (.ifCond .ne 69, 3) := by decide +kernel
theorem dX13_run_109 : decode cX13_run 109 = .ok (.aload 4, 2) := by decide +kernel
theorem dX13_run_111 : decode cX13_run 111 = .ok (.getfield 289, 3) := by decide +kernel
theorem dX13_run_114 : decode cX13_run 114 = .ok (.ifCond .eq 61, 3) := by decide +kernel
theorem dX13_run_117 : decode cX13_run 117 = .ok (.aload 4, 2) := by decide +kernel
theorem dX13_run_119 : decode cX13_run 119 = .ok (.aload_n 0, 1) := by decide +kernel
theorem dX13_run_120 : decode cX13_run 120 = .ok (.getfield 100, 3) := by decide +kernel
theorem dX13_run_123 : decode cX13_run 123 = .ok (.invokevirtual 379, 3) := by decide +kernel
theorem dX13_run_126 : decode cX13_run 126 = .ok (.ifCond .eq 6, 3) := by decide +kernel
theorem dX13_run_129 : decode cX13_run 129 = .ok (.goto 46, 3) := by decide +kernel
theorem dX13_run_132 : decode cX13_run 132 = .ok (.aload 4, 2) := by decide +kernel
theorem dX13_run_134 : decode cX13_run 134 = .ok (.getfield 382, 3) := by decide +kernel
theorem dX13_run_137 : decode cX13_run 137 = .ok (.aload 4, 2) := by decide +kernel
theorem dX13_run_139 : decode cX13_run 139 = .ok (.getfield 385, 3) := by decide +kernel
theorem dX13_run_142 : decode cX13_run 142 = .ok (.aload_n 0, 1) := by decide +kernel
theorem dX13_run_143 : decode cX13_run 143 = .ok (.getfield 100, 3) := by decide +kernel
theorem dX13_run_146 : decode cX13_run 146 = .ok (.iastore, 1) := by decide +kernel
theorem dX13_run_147 : decode cX13_run 147 = .ok (.aload 4, 2) := by decide +kernel
theorem dX13_run_149 : decode cX13_run 149 = .ok (.getfield 388, 3) := by decide +kernel
theorem dX13_run_152 : decode cX13_run 152 = .ok (.aload 4, 2) := by decide +kernel
theorem dX13_run_154 : decode cX13_run 154 = .ok (.getfield 385, 3) := by decide +kernel
theorem dX13_run_157 : decode cX13_run 157 = .ok (.aload_n 0, 1) := by decide +kernel
theorem dX13_run_158 : decode cX13_run 158 = .ok (.aload 4, 2) := by decide +kernel
theorem dX13_run_160 : decode cX13_run 160 = .ok (.invokevirtual 391, 3) := by decide +kernel
theorem dX13_run_163 : decode cX13_run 163 = .ok (.iastore, 1) := by decide +kernel
theorem dX13_run_164 : decode cX13_run 164 = .ok (.aload 4, 2) := by decide +kernel
theorem dX13_run_166 : decode cX13_run 166 = .ok (.dup, 1) := by decide +kernel
theorem dX13_run_167 : decode cX13_run 167 = .ok (.getfield 385, 3) := by decide +kernel
theorem dX13_run_170 : decode cX13_run 170 = .ok (.iconst 1, 1) := by decide +kernel
theorem dX13_run_171 : decode cX13_run 171 = .ok (.iadd, 1) := by decide +kernel
theorem dX13_run_172 : decode cX13_run 172 = .ok (.putfield 385, 3) := by decide +kernel
theorem dX13_run_175 : decode cX13_run 175 = .ok (.iinc 3 1, 3) := by decide +kernel
theorem dX13_run_178 : decode cX13_run 178 = .ok (.goto (-97), 3) := by decide +kernel
theorem dX13_run_181 : decode cX13_run 181 = .ok (.aload_n 0, 1) := by decide +kernel
theorem dX13_run_182 : decode cX13_run 182 = .ok (.dup, 1) := by decide +kernel
theorem dX13_run_183 : decode cX13_run 183 = .ok (.getfield 100, 3) := by decide +kernel
theorem dX13_run_186 : decode cX13_run 186 = .ok (.iconst 1, 1) := by decide +kernel
theorem dX13_run_187 : decode cX13_run 187 = .ok (.iadd, 1) := by decide +kernel
theorem dX13_run_188 : decode cX13_run 188 = .ok (.putfield 100, 3) := by decide +kernel
theorem dX13_run_191 : decode cX13_run 191 = .ok (.iinc 2 1, 3) := by decide +kernel
theorem dX13_run_194 : decode cX13_run 194 = .ok (.goto (-157), 3) := by decide +kernel
theorem dX13_run_197 : decode cX13_run 197 = .ok (.aload_n 0, 1) := by decide +kernel
theorem dX13_run_198 : decode cX13_run 198 = .ok (.iload_n 2, 1) := by decide +kernel
theorem dX13_run_199 : decode cX13_run 199 = .ok (.invokevirtual 129, 3) := by decide +kernel
theorem dX13_run_202 : decode cX13_run 202 = .ok (.ireturn, 1) := by decide +kernel
theorem dX13_about_0 : decode cX13_about 0 = .ok (.aload_n 0, 1) := by decide +kernel
theorem dX13_about_1 : decode cX13_about 1 = .ok (.iconst 0, 1) := by decide +kernel
theorem dX13_about_2 : decode cX13_about 2 = .ok (.putfield 1, 3) := by decide +kernel
theorem dX13_about_5 : decode cX13_about 5 = .ok (.aload_n 0, 1) := by decide +kernel
theorem dX13_about_6 : decode cX13_about 6 = .ok (.iload_n 1, 1) := by decide +kernel
theorem dX13_about_7 : decode cX13_about 7 = .ok (.invokevirtual 286, 3) := by decide +kernel
theorem dX13_about_10 : decode cX13_about 10 = .ok (.ifCond .ne 5, 3) := by decide +kernel
theorem dX13_about_13 : decode cX13_about 13 = .ok (.iconst (-1), 1) := by decide +kernel
theorem dX13_about_14 : decode cX13_about 14 = .ok (.ireturn, 1) := by decide +kernel
theorem dX13_about_15 : decode cX13_about 15 = .ok (.aload_n 0, 1) := by decide +kernel
theorem dX13_about_16 : decode cX13_about 16 = .ok (.getfield 34, 3) := by decide +kernel
theorem dX13_about_19 : decode cX13_about 19 = .ok (.iload_n 1, 1) := by decide +kernel
theorem dX13_about_20 : decode cX13_about 20 = .ok (.aaload, 1) := by decide +kernel
theorem dX13_about_21 : decode cX13_about 21 = .ok (.astore_n 3, 1) := by decide +kernel
theorem dX13_about_22 : decode cX13_about 22 = .ok (.iload_n 2, 1) := by decide +kernel
theorem dX13_about_23 : decode cX13_about 23 = .ok (.tableswitch 134 0 12 #[65, 70, 75, 80, 86, 92, 98, 104, 109, 114, 119, 124, 129], 65) := by decide +kernel
theorem dX13_about_88 : decode cX13_about 88 = .ok (.aload_n 3, 1) := by decide +kernel
theorem dX13_about_89 : decode cX13_about 89 = .ok (.getfield 289, 3) := by decide +kernel
theorem dX13_about_92 : decode cX13_about 92 = .ok (.ireturn, 1) := by decide +kernel
theorem dX13_about_93 : decode cX13_about 93 = .ok (.aload_n 3, 1) := by decide +kernel
theorem dX13_about_94 : decode cX13_about 94 = .ok (.getfield 307, 3) := by decide +kernel
theorem dX13_about_97 : decode cX13_about 97 = .ok (.ireturn, 1) := by decide +kernel
theorem dX13_about_98 : decode cX13_about 98 = .ok (.aload_n 3, 1) := by decide +kernel
theorem dX13_about_99 : decode cX13_about 99 = .ok (.getfield 304, 3) := by decide +kernel
theorem dX13_about_102 : decode cX13_about 102 = .ok (.ireturn, 1) := by decide +kernel
theorem dX13_about_103 : decode cX13_about 103 = .ok (.aload_n 0, 1) := by decide +kernel
theorem dX13_about_104 : decode cX13_about 104 = .ok (.aload_n 3, 1) := by decide +kernel
theorem dX13_about_105 : decode cX13_about 105 = .ok (.invokevirtual 391, 3) := by decide +kernel
theorem dX13_about_108 : decode cX13_about 108 = .ok (.ireturn, 1) := by decide +kernel
theorem dX13_about_109 : decode cX13_about 109 = .ok (.aload_n 3, 1) := by decide +kernel
theorem dX13_about_110 : decode cX13_about 110 = .ok (.iconst 0, 1) := by decide +kernel
theorem dX13_about_111 : decode cX13_about 111 = .ok (.invokevirtual 324, 3) := by decide +kernel
theorem dX13_about_114 : decode cX13_about 114 = .ok (.ireturn, 1) := by decide +kernel
theorem dX13_about_115 : decode cX13_about 115 = .ok (.aload_n 3, 1) := by decide +kernel
theorem dX13_about_116 : decode cX13_about 116 = .ok (.iconst 1, 1) := by decide +kernel
theorem dX13_about_117 : decode cX13_about 117 = .ok (.invokevirtual 324, 3) := by decide +kernel
theorem dX13_about_120 : decode cX13_about 120 = .ok (.ireturn, 1) := by decide +kernel
theorem dX13_about_121 : decode cX13_about 121 = .ok (.aload_n 3, 1) := by decide +kernel
theorem dX13_about_122 : decode cX13_about 122 = .ok (.iconst 2, 1) := by decide +kernel
theorem dX13_about_123 : decode cX13_about 123 = .ok (.invokevirtual 324, 3) := by decide +kernel
theorem dX13_about_126 : decode cX13_about 126 = .ok (.ireturn, 1) := by decide +kernel
theorem dX13_about_127 : decode cX13_about 127 = .ok (.aload_n 3, 1) := by decide +kernel
theorem dX13_about_128 : decode cX13_about 128 = .ok (.getfield 327, 3) := by decide +kernel
theorem dX13_about_131 : decode cX13_about 131 = .ok (.ireturn, 1) := by decide +kernel
theorem dX13_about_132 : decode cX13_about 132 = .ok (.aload_n 3, 1) := by decide +kernel
theorem dX13_about_133 : decode cX13_about 133 = .ok (.getfield 322, 3) := by decide +kernel
theorem dX13_about_136 : decode cX13_about 136 = .ok (.ireturn, 1) := by decide +kernel
theorem dX13_about_137 : decode cX13_about 137 = .ok (.aload_n 3, 1) := by decide +kernel
theorem dX13_about_138 : decode cX13_about 138 = .ok (.getfield 310, 3) := by decide +kernel
theorem dX13_about_141 : decode cX13_about 141 = .ok (.ireturn, 1) := by decide +kernel
theorem dX13_about_142 : decode cX13_about 142 = .ok (.aload_n 3, 1) := by decide +kernel
theorem dX13_about_143 : decode cX13_about 143 = .ok (.getfield 312, 3) := by decide +kernel
theorem dX13_about_146 : decode cX13_about 146 = .ok (.ireturn, 1) := by decide +kernel
theorem dX13_about_147 : decode cX13_about 147 = .ok (.aload_n 3, 1) := by decide +kernel
theorem dX13_about_148 : decode cX13_about 148 = .ok (.getfield 292, 3) := by decide +kernel
theorem dX13_about_151 : decode cX13_about 151 = .ok (.ireturn, 1) := by decide +kernel
theorem dX13_about_152 : decode cX13_about 152 = .ok (.aload_n 3, 1) := by decide +kernel
theorem dX13_about_153 : decode cX13_about 153 = .ok (.getfield 333, 3) := by decide +kernel
theorem dX13_about_156 : decode cX13_about 156 = .ok (.ireturn, 1) := by decide +kernel
theorem dX13_about_157 : decode cX13_about 157 = .ok (.iconst (-1), 1) := by decide +kernel
theorem dX13_about_158 : decode cX13_about 158 = .ok (.ireturn, 1) := by decide +kernel
theorem dX13_dog_0 : decode cX13_dog 0 = .ok (.aload_n 0, 1) := by decide +kernel
theorem dX13_dog_1 : decode cX13_dog 1 = .ok (.iconst 0, 1) := by decide +kernel
theorem dX13_dog_2 : decode cX13_dog 2 = .ok (.putfield 1, 3) := by decide +kernel
theorem dX13_dog_5 : decode cX13_dog 5 = .ok (.aload_n 0, 1) := by decide +kernel
theorem dX13_dog_6 : decode cX13_dog 6 = .ok (.iload_n 1, 1) := by decide +kernel
theorem dX13_dog_7 : decode cX13_dog 7 = .ok (.invokevirtual 286, 3) := by decide +kernel
theorem dX13_dog_10 : decode cX13_dog 10 = .ok (.ifCond .eq 20, 3) := by decide +kernel
theorem dX13_dog_13 : decode cX13_dog 13 = .ok (.iload_n 2, 1) := by decide +kernel
theorem dX13_dog_14 : decode cX13_dog 14 = .ok (.ifCond .lt 16, 3) := by decide +kernel
theorem dX13_dog_17 : decode cX13_dog 17 = .ok (.iload_n 2, 1) := by decide +kernel
theorem dX13_dog_18 : decode cX13_dog 18 = .ok (.aload_n 0, 1) := by decide +kernel
theorem dX13_dog_19 : decode cX13_dog 19 = .ok (.getfield 34, 3) := by decide +kernel
theorem dX13_dog_22 : decode cX13_dog 22 = .ok (.iload_n 1, 1) := by decide +kernel
theorem dX13_dog_23 : decode cX13_dog 23 = .ok (.aaload, 1) := by decide +kernel
theorem dX13_dog_24 : decode cX13_dog 24 = .ok (.getfield 361, 3) := by decide +kernel
theorem dX13_dog_27 : decode cX13_dog 27 = .ok (.if_icmp .lt 5, 3) := by decide +kernel
theorem dX13_dog_30 : decode cX13_dog 30 = .ok (.iconst (-1), 1) := by decide +kernel
theorem dX13_dog_31 : decode cX13_dog 31 = .ok (.ireturn, 1) := by decide +kernel
theorem dX13_dog_32 : decode cX13_dog 32 = .ok (.aload_n 0, 1) := by decide +kernel
theorem dX13_dog_33 : decode cX13_dog 33 = .ok (.getfield 34, 3) := by decide +kernel
theorem dX13_dog_36 : decode cX13_dog 36 = .ok (.iload_n 1, 1) := by decide +kernel
theorem dX13_dog_37 : decode cX13_dog 37 = .ok (.aaload, 1) := by decide +kernel
theorem dX13_dog_38 : decode cX13_dog 38 = .ok (.astore 4, 2) := by decide +kernel
theorem dX13_dog_40 : decode cX13_dog 40 = .ok (.iload_n 3, 1) := by decide +kernel
theorem dX13_dog_41 : decode cX13_dog 41 = .ok (.ifCond .ne 13, 3) := by decide +kernel
theorem dX13_dog_44 : decode cX13_dog 44 = .ok (.aload 4, 2) := by decide +kernel
theorem dX13_dog_46 : decode cX13_dog 46 = .ok (.getfield 314, 3) := by decide +kernel
theorem dX13_dog_49 : decode cX13_dog 49 = .ok (.iload_n 2, 1) := by decide +kernel
theorem dX13_dog_50 : decode cX13_dog 50 = .ok (.iaload, 1) := by decide +kernel
theorem dX13_dog_51 : decode cX13_dog 51 = .ok (.goto 34, 3) := by decide +kernel
theorem dX13_dog_54 : decode cX13_dog 54 = .ok (.iload_n 3, 1) := by decide +kernel
theorem dX13_dog_55 : decode cX13_dog 55 = .ok (.iconst 1, 1) := by decide +kernel
theorem dX13_dog_56 : decode cX13_dog 56 = .ok (.if_icmp .ne 13, 3) := by decide +kernel
theorem dX13_dog_59 : decode cX13_dog 59 = .ok (.aload 4, 2) := by decide +kernel
theorem dX13_dog_61 : decode cX13_dog 61 = .ok (.getfield 352, 3) := by decide +kernel
theorem dX13_dog_64 : decode cX13_dog 64 = .ok (.iload_n 2, 1) := by decide +kernel
theorem dX13_dog_65 : decode cX13_dog 65 = .ok (.iaload, 1) := by decide +kernel
theorem dX13_dog_66 : decode cX13_dog 66 = .ok (.goto 19, 3) := by decide +kernel
theorem dX13_dog_69 : decode cX13_dog 69 = .ok (.iload_n 3, 1) := by decide +kernel
theorem dX13_dog_70 : decode cX13_dog 70 = .ok (.iconst 2, 1) := by decide +kernel
theorem dX13_dog_71 : decode cX13_dog 71 = .ok (.if_icmp .ne 13, 3) := by decide +kernel
theorem dX13_dog_74 : decode cX13_dog 74 = .ok (.aload 4, 2) := by decide +kernel
theorem dX13_dog_76 : decode cX13_dog 76 = .ok (.getfield 355, 3) := by decide +kernel
theorem dX13_dog_79 : decode cX13_dog 79 = .ok (.iload_n 2, 1) := by decide +kernel
theorem dX13_dog_80 : decode cX13_dog 80 = .ok (.iaload, 1) := by decide +kernel
theorem dX13_dog_81 : decode cX13_dog 81 = .ok (.goto 4, 3) := by decide +kernel
theorem dX13_dog_84 : decode cX13_dog 84 = .ok (.iconst (-1), 1) := by decide +kernel
theorem dX13_dog_85 : decode cX13_dog 85 = .ok (.ireturn, 1) := by decide +kernel
theorem dX13_time_0 : decode cX13_time 0 = .ok (.aload_n 0, 1) := by decide +kernel
theorem dX13_time_1 : decode cX13_time 1 = .ok (.iconst 0, 1) := by decide +kernel
theorem dX13_time_2 : decode cX13_time 2 = .ok (.putfield 1, 3) := by decide +kernel
theorem dX13_time_5 : decode cX13_time 5 = .ok (.aload_n 0, 1) := by decide +kernel
theorem dX13_time_6 : decode cX13_time 6 = .ok (.iload_n 1, 1) := by decide +kernel
theorem dX13_time_7 : decode cX13_time 7 = .ok (.invokevirtual 286, 3) := by decide +kernel
theorem dX13_time_10 : decode cX13_time 10 = .ok (.ifCond .eq 15, 3) := by decide +kernel
theorem dX13_time_13 : decode cX13_time 13 = .ok (.iload_n 2, 1) := by decide +kernel
theorem dX13_time_14 : decode cX13_time 14 = .ok (.ifCond .lt 11, 3) := by decide +kernel
theorem dX13_time_17 : decode cX13_time 17 = .ok (.iload_n 2, 1) := by decide +kernel
theorem dX13_time_18 : decode cX13_time 18 = .ok (.aload_n 0, 1) := by decide +kernel
theorem dX13_time_19 : decode cX13_time 19 = .ok (.getfield 91, 3) := by decide +kernel
theorem dX13_time_22 : decode cX13_time 22 = .ok (.if_icmp .le 5, 3) := by decide +kernel
theorem dX13_time_25 : decode cX13_time 25 = .ok (.iconst (-1), 1) := by decide +kernel
theorem dX13_time_26 : decode cX13_time 26 = .ok (.ireturn, 1) := by decide +kernel
theorem dX13_time_27 : decode cX13_time 27 = .ok (.iload_n 3, 1) := by decide +kernel
theorem dX13_time_28 : decode cX13_time 28 = .ok (.ifCond .eq 17, 3) := by decide +kernel
theorem dX13_time_31 : decode cX13_time 31 = .ok (.aload_n 0, 1) := by decide +kernel
theorem dX13_time_32 : decode cX13_time 32 = .ok (.getfield 34, 3) := by decide +kernel
theorem dX13_time_35 : decode cX13_time 35 = .ok (.iload_n 1, 1) := by decide +kernel
theorem dX13_time_36 : decode cX13_time 36 = .ok (.aaload, 1) := by decide +kernel
theorem dX13_time_37 : decode cX13_time 37 = .ok (.getfield 358, 3) := by decide +kernel
theorem dX13_time_40 : decode cX13_time 40 = .ok (.iload_n 2, 1) := by decide +kernel
theorem dX13_time_41 : decode cX13_time 41 = .ok (.iaload, 1) := by decide +kernel
theorem dX13_time_42 : decode cX13_time 42 = .ok (.goto 14, 3) := by decide +kernel
theorem dX13_time_45 : decode cX13_time 45 = .ok (.aload_n 0, 1) := by decide +kernel
theorem dX13_time_46 : decode cX13_time 46 = .ok (.getfield 34, 3) := by decide +kernel
theorem dX13_time_49 : decode cX13_time 49 = .ok (.iload_n 1, 1) := by decide +kernel
theorem dX13_time_50 : decode cX13_time 50 = .ok (.aaload, 1) := by decide +kernel
theorem dX13_time_51 : decode cX13_time 51 = .ok (.getfield 335, 3) := by decide +kernel
theorem dX13_time_54 : decode cX13_time 54 = .ok (.iload_n 2, 1) := by decide +kernel
theorem dX13_time_55 : decode cX13_time 55 = .ok (.iaload, 1) := by decide +kernel
theorem dX13_time_56 : decode cX13_time 56 = .ok (.ireturn, 1) := by decide +kernel
theorem dX13_did_0 : decode cX13_did 0 = .ok (.aload_n 0, 1) := by decide +kernel
theorem dX13_did_1 : decode cX13_did 1 = .ok (.iconst 0, 1) := by decide +kernel
theorem dX13_did_2 : decode cX13_did 2 = .ok (.putfield 1, 3) := by decide +kernel
theorem dX13_did_5 : decode cX13_did 5 = .ok (.aload_n 0, 1) := by decide +kernel
theorem dX13_did_6 : decode cX13_did 6 = .ok (.iload_n 1, 1) := by decide +kernel
theorem dX13_did_7 : decode cX13_did 7 = .ok (.invokevirtual 286, 3) := by decide +kernel
theorem dX13_did_10 : decode cX13_did 10 = .ok (.ifCond .eq 15, 3) := by decide +kernel
theorem dX13_did_13 : decode cX13_did 13 = .ok (.aload_n 0, 1) := by decide +kernel
theorem dX13_did_14 : decode cX13_did 14 = .ok (.getfield 34, 3) := by decide +kernel
theorem dX13_did_17 : decode cX13_did 17 = .ok (.iload_n 1, 1) := by decide +kernel
theorem dX13_did_18 : decode cX13_did 18 = .ok (.aaload, 1) := by decide +kernel
theorem dX13_did_19 : decode cX13_did 19 = .ok (.getfield 342, 3) := by decide +kernel
theorem dX13_did_22 : decode cX13_did 22 = .ok (.goto 4, 3) := by decide +kernel
theorem dX13_did_25 : decode cX13_did 25 = .ok (.iconst (-1), 1) := by decide +kernel
theorem dX13_did_26 : decode cX13_did 26 = .ok (.ireturn, 1) := by decide +kernel
theorem dX13_less_0 : decode cX13_less 0 = .ok (.iload_n 2, 1) := by decide +kernel
theorem dX13_less_1 : decode cX13_less 1 = .ok (.aload_n 0, 1) := by decide +kernel
theorem dX13_less_2 : decode cX13_less 2 = .ok (.getfield 91, 3) := by decide +kernel
theorem dX13_less_5 : decode cX13_less 5 = .ok (.if_icmp .ne 7, 3) := by decide +kernel
theorem dX13_less_8 : decode cX13_less 8 = .ok (.iconst 0, 1) := by decide +kernel
theorem dX13_less_9 : decode cX13_less 9 = .ok (.goto 22, 3) := by decide +kernel
theorem dX13_less_12 : decode cX13_less 12 = .ok (.iconst 0, 1) := by decide +kernel
theorem dX13_less_13 : decode cX13_less 13 = .ok (.iload_n 3, 1) := by decide +kernel
theorem dX13_less_14 : decode cX13_less 14 = .ok (.aload_n 1, 1) := by decide +kernel
theorem dX13_less_15 : decode cX13_less 15 = .ok (.getfield 358, 3) := by decide +kernel
theorem dX13_less_18 : decode cX13_less 18 = .ok (.iload_n 2, 1) := by decide +kernel
theorem dX13_less_19 : decode cX13_less 19 = .ok (.iaload, 1) := by decide +kernel
theorem dX13_less_20 : decode cX13_less 20 = .ok (.aload_n 1, 1) := by decide +kernel
theorem dX13_less_21 : decode cX13_less 21 = .ok (.getfield 335, 3) := by decide +kernel
theorem dX13_less_24 : decode cX13_less 24 = .ok (.iload_n 2, 1) := by decide +kernel
theorem dX13_less_25 : decode cX13_less 25 = .ok (.iaload, 1) := by decide +kernel
theorem dX13_less_26 : decode cX13_less 26 = .ok (.isub, 1) := by decide +kernel
theorem dX13_less_27 : decode cX13_less 27 = .ok (.isub, 1) := by decide +kernel
theorem dX13_less_28 : decode cX13_less 28 = .ok (.invokestatic 363, 3) := by decide +kernel
theorem dX13_less_31 : decode cX13_less 31 = .ok (.ireturn, 1) := by decide +kernel
theorem dX13_lacksOf_0 : decode cX13_lacksOf 0 = .ok (.aload_n 0, 1) := by decide +kernel
theorem dX13_lacksOf_1 : decode cX13_lacksOf 1 = .ok (.getfield 88, 3) := by decide +kernel
theorem dX13_lacksOf_4 : decode cX13_lacksOf 4 = .ok (.iconst 4, 1) := by decide +kernel
theorem dX13_lacksOf_5 : decode cX13_lacksOf 5 = .ok (.iload_n 2, 1) := by decide +kernel
theorem dX13_lacksOf_6 : decode cX13_lacksOf 6 = .ok (.imul, 1) := by decide +kernel
theorem dX13_lacksOf_7 : decode cX13_lacksOf 7 = .ok (.iconst 1, 1) := by decide +kernel
theorem dX13_lacksOf_8 : decode cX13_lacksOf 8 = .ok (.iadd, 1) := by decide +kernel
theorem dX13_lacksOf_9 : decode cX13_lacksOf 9 = .ok (.iaload, 1) := by decide +kernel
theorem dX13_lacksOf_10 : decode cX13_lacksOf 10 = .ok (.istore_n 3, 1) := by decide +kernel
theorem dX13_lacksOf_11 : decode cX13_lacksOf 11 = .ok (.aload_n 0, 1) := by decide +kernel
theorem dX13_lacksOf_12 : decode cX13_lacksOf 12 = .ok (.getfield 88, 3) := by decide +kernel
theorem dX13_lacksOf_15 : decode cX13_lacksOf 15 = .ok (.iconst 4, 1) := by decide +kernel
theorem dX13_lacksOf_16 : decode cX13_lacksOf 16 = .ok (.iload_n 2, 1) := by decide +kernel
theorem dX13_lacksOf_17 : decode cX13_lacksOf 17 = .ok (.imul, 1) := by decide +kernel
theorem dX13_lacksOf_18 : decode cX13_lacksOf 18 = .ok (.iconst 2, 1) := by decide +kernel
theorem dX13_lacksOf_19 : decode cX13_lacksOf 19 = .ok (.iadd, 1) := by decide +kernel
theorem dX13_lacksOf_20 : decode cX13_lacksOf 20 = .ok (.iaload, 1) := by decide +kernel
theorem dX13_lacksOf_21 : decode cX13_lacksOf 21 = .ok (.istore 4, 2) := by decide +kernel
theorem dX13_lacksOf_23 : decode cX13_lacksOf 23 = .ok (.aload_n 0, 1) := by decide +kernel
theorem dX13_lacksOf_24 : decode cX13_lacksOf 24 = .ok (.getfield 88, 3) := by decide +kernel
theorem dX13_lacksOf_27 : decode cX13_lacksOf 27 = .ok (.iconst 4, 1) := by decide +kernel
theorem dX13_lacksOf_28 : decode cX13_lacksOf 28 = .ok (.iload_n 2, 1) := by decide +kernel
theorem dX13_lacksOf_29 : decode cX13_lacksOf 29 = .ok (.imul, 1) := by decide +kernel
theorem dX13_lacksOf_30 : decode cX13_lacksOf 30 = .ok (.iconst 3, 1) := by decide +kernel
theorem dX13_lacksOf_31 : decode cX13_lacksOf 31 = .ok (.iadd, 1) := by decide +kernel
theorem dX13_lacksOf_32 : decode cX13_lacksOf 32 = .ok (.iaload, 1) := by decide +kernel
theorem dX13_lacksOf_33 : decode cX13_lacksOf 33 = .ok (.istore 5, 2) := by decide +kernel
theorem dX13_lacksOf_35 : decode cX13_lacksOf 35 = .ok (.aload_n 0, 1) := by decide +kernel
theorem dX13_lacksOf_36 : decode cX13_lacksOf 36 = .ok (.getfield 88, 3) := by decide +kernel
theorem dX13_lacksOf_39 : decode cX13_lacksOf 39 = .ok (.iconst 4, 1) := by decide +kernel
theorem dX13_lacksOf_40 : decode cX13_lacksOf 40 = .ok (.iload_n 2, 1) := by decide +kernel
theorem dX13_lacksOf_41 : decode cX13_lacksOf 41 = .ok (.imul, 1) := by decide +kernel
theorem dX13_lacksOf_42 : decode cX13_lacksOf 42 = .ok (.iaload, 1) := by decide +kernel
theorem dX13_lacksOf_43 : decode cX13_lacksOf 43 = .ok (.tableswitch 124 0 2 #[25, 47, 112], 25) := by decide +kernel
theorem dX13_lacksOf_68 : decode cX13_lacksOf 68 = .ok (.iload 4, 2) := by decide +kernel
theorem dX13_lacksOf_70 : decode cX13_lacksOf 70 = .ok (.aload_n 0, 1) := by decide +kernel
theorem dX13_lacksOf_71 : decode cX13_lacksOf 71 = .ok (.getfield 91, 3) := by decide +kernel
theorem dX13_lacksOf_74 : decode cX13_lacksOf 74 = .ok (.if_icmp .le 7, 3) := by decide +kernel
theorem dX13_lacksOf_77 : decode cX13_lacksOf 77 = .ok (.iconst 0, 1) := by decide +kernel
theorem dX13_lacksOf_78 : decode cX13_lacksOf 78 = .ok (.goto 11, 3) := by decide +kernel
theorem dX13_lacksOf_81 : decode cX13_lacksOf 81 = .ok (.aload_n 0, 1) := by decide +kernel
theorem dX13_lacksOf_82 : decode cX13_lacksOf 82 = .ok (.aload_n 1, 1) := by decide +kernel
theorem dX13_lacksOf_83 : decode cX13_lacksOf 83 = .ok (.iload 4, 2) := by decide +kernel
theorem dX13_lacksOf_85 : decode cX13_lacksOf 85 = .ok (.iload_n 3, 1) := by decide +kernel
theorem dX13_lacksOf_86 : decode cX13_lacksOf 86 = .ok (.invokevirtual 395, 3) := by decide +kernel
theorem dX13_lacksOf_89 : decode cX13_lacksOf 89 = .ok (.ireturn, 1) := by decide +kernel
theorem dX13_lacksOf_90 : decode cX13_lacksOf 90 = .ok (.iload 4, 2) := by decide +kernel
theorem dX13_lacksOf_92 : decode cX13_lacksOf 92 = .ok (.iload 5, 2) := by decide +kernel
theorem dX13_lacksOf_94 : decode cX13_lacksOf 94 = .ok (.if_icmp .gt 12, 3) := by decide +kernel
theorem dX13_lacksOf_97 : decode cX13_lacksOf 97 = .ok (.iload 5, 2) := by decide +kernel
theorem dX13_lacksOf_99 : decode cX13_lacksOf 99 = .ok (.aload_n 0, 1) := by decide +kernel
theorem dX13_lacksOf_100 : decode cX13_lacksOf 100 = .ok (.getfield 91, 3) := by decide +kernel
theorem dX13_lacksOf_103 : decode cX13_lacksOf 103 = .ok (.if_icmp .le 5, 3) := by decide +kernel
theorem dX13_lacksOf_106 : decode cX13_lacksOf 106 = .ok (.iconst 0, 1) := by decide +kernel
theorem dX13_lacksOf_107 : decode cX13_lacksOf 107 = .ok (.ireturn, 1) := by decide +kernel
theorem dX13_lacksOf_108 : decode cX13_lacksOf 108 = .ok (.aload_n 0, 1) := by decide +kernel
theorem dX13_lacksOf_109 : decode cX13_lacksOf 109 = .ok (.aload_n 1, 1) := by decide +kernel
theorem dX13_lacksOf_110 : decode cX13_lacksOf 110 = .ok (.iload 4, 2) := by decide +kernel
theorem dX13_lacksOf_112 : decode cX13_lacksOf 112 = .ok (.iload_n 3, 1) := by decide +kernel
theorem dX13_lacksOf_113 : decode cX13_lacksOf 113 = .ok (.invokevirtual 395, 3) := by decide +kernel
theorem dX13_lacksOf_116 : decode cX13_lacksOf 116 = .ok (.istore 6, 2) := by decide +kernel
theorem dX13_lacksOf_118 : decode cX13_lacksOf 118 = .ok (.iload 4, 2) := by decide +kernel
theorem dX13_lacksOf_120 : decode cX13_lacksOf 120 = .ok (.iconst 1, 1) := by decide +kernel
theorem dX13_lacksOf_121 : decode cX13_lacksOf 121 = .ok (.iadd, 1) := by decide +kernel
theorem dX13_lacksOf_122 : decode cX13_lacksOf 122 = .ok (.istore 7, 2) := by decide +kernel
theorem dX13_lacksOf_124 : decode cX13_lacksOf 124 = .ok (.iload 7, 2) := by decide +kernel
theorem dX13_lacksOf_126 : decode cX13_lacksOf 126 = .ok (.iload 5, 2) := by decide +kernel
theorem dX13_lacksOf_128 : decode cX13_lacksOf 128 = .ok (.if_icmp .gt 24, 3) := by decide +kernel
theorem dX13_lacksOf_131 : decode cX13_lacksOf 131 = .ok (.iload 6, 2) := by decide +kernel
theorem dX13_lacksOf_133 : decode cX13_lacksOf 133 = .ok (.aload_n 0, 1) := by decide +kernel
theorem dX13_lacksOf_134 : decode cX13_lacksOf 134 = .ok (.aload_n 1, 1) := by decide +kernel
theorem dX13_lacksOf_135 : decode cX13_lacksOf 135 = .ok (.iload 7, 2) := by decide +kernel
theorem dX13_lacksOf_137 : decode cX13_lacksOf 137 = .ok (.iload_n 3, 1) := by decide +kernel
theorem dX13_lacksOf_138 : decode cX13_lacksOf 138 = .ok (.invokevirtual 395, 3) := by decide +kernel
theorem dX13_lacksOf_141 : decode cX13_lacksOf 141 = .ok (.invokestatic 398, 3) := by decide +kernel
theorem dX13_lacksOf_144 : decode cX13_lacksOf 144 = .ok (.istore 6, 2) := by decide +kernel
theorem dX13_lacksOf_146 : decode cX13_lacksOf 146 = .ok (.iinc 7 1, 3) := by decide +kernel
theorem dX13_lacksOf_149 : decode cX13_lacksOf 149 = .ok (.goto (-25), 3) := by decide +kernel
theorem dX13_lacksOf_152 : decode cX13_lacksOf 152 = .ok (.iload 6, 2) := by decide +kernel
theorem dX13_lacksOf_154 : decode cX13_lacksOf 154 = .ok (.ireturn, 1) := by decide +kernel
theorem dX13_lacksOf_155 : decode cX13_lacksOf 155 = .ok (.iconst 0, 1) := by decide +kernel
theorem dX13_lacksOf_156 : decode cX13_lacksOf 156 = .ok (.iload_n 3, 1) := by decide +kernel
theorem dX13_lacksOf_157 : decode cX13_lacksOf 157 = .ok (.aload_n 1, 1) := by decide +kernel
theorem dX13_lacksOf_158 : decode cX13_lacksOf 158 = .ok (.iconst 0, 1) := by decide +kernel
theorem dX13_lacksOf_159 : decode cX13_lacksOf 159 = .ok (.invokevirtual 324, 3) := by decide +kernel
theorem dX13_lacksOf_162 : decode cX13_lacksOf 162 = .ok (.isub, 1) := by decide +kernel
theorem dX13_lacksOf_163 : decode cX13_lacksOf 163 = .ok (.invokestatic 363, 3) := by decide +kernel
theorem dX13_lacksOf_166 : decode cX13_lacksOf 166 = .ok (.ireturn, 1) := by decide +kernel
theorem dX13_lacksOf_167 : decode cX13_lacksOf 167 = .ok (.iconst 0, 1) := by decide +kernel
theorem dX13_lacksOf_168 : decode cX13_lacksOf 168 = .ok (.ireturn, 1) := by decide +kernel
theorem dX13_resultOf_0 : decode cX13_resultOf 0 = .ok (.iconst 2, 1) := by decide +kernel
theorem dX13_resultOf_1 : decode cX13_resultOf 1 = .ok (.istore_n 2, 1) := by decide +kernel
theorem dX13_resultOf_2 : decode cX13_resultOf 2 = .ok (.bipush 60, 2) := by decide +kernel
theorem dX13_resultOf_4 : decode cX13_resultOf 4 = .ok (.istore_n 3, 1) := by decide +kernel
theorem dX13_resultOf_5 : decode cX13_resultOf 5 = .ok (.iconst 0, 1) := by decide +kernel
theorem dX13_resultOf_6 : decode cX13_resultOf 6 = .ok (.istore 4, 2) := by decide +kernel
theorem dX13_resultOf_8 : decode cX13_resultOf 8 = .ok (.iconst 0, 1) := by decide +kernel
theorem dX13_resultOf_9 : decode cX13_resultOf 9 = .ok (.istore 5, 2) := by decide +kernel
theorem dX13_resultOf_11 : decode cX13_resultOf 11 = .ok (.iconst 0, 1) := by decide +kernel
theorem dX13_resultOf_12 : decode cX13_resultOf 12 = .ok (.istore 6, 2) := by decide +kernel
theorem dX13_resultOf_14 : decode cX13_resultOf 14 = .ok (.iload 6, 2) := by decide +kernel
theorem dX13_resultOf_16 : decode cX13_resultOf 16 = .ok (.aload_n 0, 1) := by decide +kernel
theorem dX13_resultOf_17 : decode cX13_resultOf 17 = .ok (.getfield 250, 3) := by decide +kernel
theorem dX13_resultOf_20 : decode cX13_resultOf 20 = .ok (.if_icmp .ge 89, 3) := by decide +kernel
theorem dX13_resultOf_23 : decode cX13_resultOf 23 = .ok (.aload_n 0, 1) := by decide +kernel
theorem dX13_resultOf_24 : decode cX13_resultOf 24 = .ok (.getfield 88, 3) := by decide +kernel
theorem dX13_resultOf_27 : decode cX13_resultOf 27 = .ok (.iconst 4, 1) := by decide +kernel
theorem dX13_resultOf_28 : decode cX13_resultOf 28 = .ok (.iload 6, 2) := by decide +kernel
theorem dX13_resultOf_30 : decode cX13_resultOf 30 = .ok (.imul, 1) := by decide +kernel
theorem dX13_resultOf_31 : decode cX13_resultOf 31 = .ok (.iaload, 1) := by decide +kernel
theorem dX13_resultOf_32 : decode cX13_resultOf 32 = .ok (.iconst 3, 1) := by decide +kernel
theorem dX13_resultOf_33 : decode cX13_resultOf 33 = .ok (.if_icmp .ne 30, 3) := by decide +kernel
theorem dX13_resultOf_36 : decode cX13_resultOf 36 = .ok (.aload_n 0, 1) := by decide +kernel
theorem dX13_resultOf_37 : decode cX13_resultOf 37 = .ok (.getfield 88, 3) := by decide +kernel
theorem dX13_resultOf_40 : decode cX13_resultOf 40 = .ok (.iconst 4, 1) := by decide +kernel
theorem dX13_resultOf_41 : decode cX13_resultOf 41 = .ok (.iload 6, 2) := by decide +kernel
theorem dX13_resultOf_43 : decode cX13_resultOf 43 = .ok (.imul, 1) := by decide +kernel
theorem dX13_resultOf_44 : decode cX13_resultOf 44 = .ok (.iconst 1, 1) := by decide +kernel
theorem dX13_resultOf_45 : decode cX13_resultOf 45 = .ok (.iadd, 1) := by decide +kernel
theorem dX13_resultOf_46 : decode cX13_resultOf 46 = .ok (.iaload, 1) := by decide +kernel
theorem dX13_resultOf_47 : decode cX13_resultOf 47 = .ok (.istore_n 2, 1) := by decide +kernel
theorem dX13_resultOf_48 : decode cX13_resultOf 48 = .ok (.aload_n 0, 1) := by decide +kernel
theorem dX13_resultOf_49 : decode cX13_resultOf 49 = .ok (.getfield 88, 3) := by decide +kernel
theorem dX13_resultOf_52 : decode cX13_resultOf 52 = .ok (.iconst 4, 1) := by decide +kernel
theorem dX13_resultOf_53 : decode cX13_resultOf 53 = .ok (.iload 6, 2) := by decide +kernel
theorem dX13_resultOf_55 : decode cX13_resultOf 55 = .ok (.imul, 1) := by decide +kernel
theorem dX13_resultOf_56 : decode cX13_resultOf 56 = .ok (.iconst 2, 1) := by decide +kernel
theorem dX13_resultOf_57 : decode cX13_resultOf 57 = .ok (.iadd, 1) := by decide +kernel
theorem dX13_resultOf_58 : decode cX13_resultOf 58 = .ok (.iaload, 1) := by decide +kernel
theorem dX13_resultOf_59 : decode cX13_resultOf 59 = .ok (.istore_n 3, 1) := by decide +kernel
theorem dX13_resultOf_60 : decode cX13_resultOf 60 = .ok (.goto 43, 3) := by decide +kernel
theorem dX13_resultOf_63 : decode cX13_resultOf 63 = .ok (.aload_n 0, 1) := by decide +kernel
theorem dX13_resultOf_64 : decode cX13_resultOf 64 = .ok (.getfield 88, 3) := by decide +kernel
theorem dX13_resultOf_67 : decode cX13_resultOf 67 = .ok (.iconst 4, 1) := by decide +kernel
theorem dX13_resultOf_68 : decode cX13_resultOf 68 = .ok (.iload 6, 2) := by decide +kernel
theorem dX13_resultOf_70 : decode cX13_resultOf 70 = .ok (.imul, 1) := by decide +kernel
theorem dX13_resultOf_71 : decode cX13_resultOf 71 = .ok (.iaload, 1) := by decide +kernel
theorem dX13_resultOf_72 : decode cX13_resultOf 72 = .ok (.iconst 2, 1) := by decide +kernel
theorem dX13_resultOf_73 : decode cX13_resultOf 73 = .ok (.if_icmp .ne 18, 3) := by decide +kernel
theorem dX13_resultOf_76 : decode cX13_resultOf 76 = .ok (.iload 5, 2) := by decide +kernel
theorem dX13_resultOf_78 : decode cX13_resultOf 78 = .ok (.aload_n 0, 1) := by decide +kernel
theorem dX13_resultOf_79 : decode cX13_resultOf 79 = .ok (.aload_n 1, 1) := by decide +kernel
theorem dX13_resultOf_80 : decode cX13_resultOf 80 = .ok (.iload 6, 2) := by decide +kernel
theorem dX13_resultOf_82 : decode cX13_resultOf 82 = .ok (.invokevirtual 401, 3) := by decide +kernel
theorem dX13_resultOf_85 : decode cX13_resultOf 85 = .ok (.iadd, 1) := by decide +kernel
theorem dX13_resultOf_86 : decode cX13_resultOf 86 = .ok (.istore 5, 2) := by decide +kernel
theorem dX13_resultOf_88 : decode cX13_resultOf 88 = .ok (.goto 15, 3) := by decide +kernel
theorem dX13_resultOf_91 : decode cX13_resultOf 91 = .ok (.iload 4, 2) := by decide +kernel
theorem dX13_resultOf_93 : decode cX13_resultOf 93 = .ok (.aload_n 0, 1) := by decide +kernel
theorem dX13_resultOf_94 : decode cX13_resultOf 94 = .ok (.aload_n 1, 1) := by decide +kernel
theorem dX13_resultOf_95 : decode cX13_resultOf 95 = .ok (.iload 6, 2) := by decide +kernel
theorem dX13_resultOf_97 : decode cX13_resultOf 97 = .ok (.invokevirtual 401, 3) := by decide +kernel
theorem dX13_resultOf_100 : decode cX13_resultOf 100 = .ok (.iadd, 1) := by decide +kernel
theorem dX13_resultOf_101 : decode cX13_resultOf 101 = .ok (.istore 4, 2) := by decide +kernel
theorem dX13_resultOf_103 : decode cX13_resultOf 103 = .ok (.iinc 6 1, 3) := by decide +kernel
theorem dX13_resultOf_106 : decode cX13_resultOf 106 = .ok (.goto (-92), 3) := by decide +kernel
theorem dX13_resultOf_109 : decode cX13_resultOf 109 = .ok (.aload_n 1, 1) := by decide +kernel
theorem dX13_resultOf_110 : decode cX13_resultOf 110 = .ok (.getfield 335, 3) := by decide +kernel
theorem dX13_resultOf_113 : decode cX13_resultOf 113 = .ok (.aload_n 0, 1) := by decide +kernel
theorem dX13_resultOf_114 : decode cX13_resultOf 114 = .ok (.getfield 91, 3) := by decide +kernel
theorem dX13_resultOf_117 : decode cX13_resultOf 117 = .ok (.iaload, 1) := by decide +kernel
theorem dX13_resultOf_118 : decode cX13_resultOf 118 = .ok (.aload_n 1, 1) := by decide +kernel
theorem dX13_resultOf_119 : decode cX13_resultOf 119 = .ok (.getfield 333, 3) := by decide +kernel
theorem dX13_resultOf_122 : decode cX13_resultOf 122 = .ok (.isub, 1) := by decide +kernel
theorem dX13_resultOf_123 : decode cX13_resultOf 123 = .ok (.iload_n 2, 1) := by decide +kernel
theorem dX13_resultOf_124 : decode cX13_resultOf 124 = .ok (.iload 4, 2) := by decide +kernel
theorem dX13_resultOf_126 : decode cX13_resultOf 126 = .ok (.imul, 1) := by decide +kernel
theorem dX13_resultOf_127 : decode cX13_resultOf 127 = .ok (.iadd, 1) := by decide +kernel
theorem dX13_resultOf_128 : decode cX13_resultOf 128 = .ok (.iload_n 3, 1) := by decide +kernel
theorem dX13_resultOf_129 : decode cX13_resultOf 129 = .ok (.iload 5, 2) := by decide +kernel
theorem dX13_resultOf_131 : decode cX13_resultOf 131 = .ok (.imul, 1) := by decide +kernel
theorem dX13_resultOf_132 : decode cX13_resultOf 132 = .ok (.iadd, 1) := by decide +kernel
theorem dX13_resultOf_133 : decode cX13_resultOf 133 = .ok (.ireturn, 1) := by decide +kernel
theorem dX13_result_0 : decode cX13_result 0 = .ok (.aload_n 0, 1) := by decide +kernel
theorem dX13_result_1 : decode cX13_result 1 = .ok (.iconst 0, 1) := by decide +kernel
theorem dX13_result_2 : decode cX13_result 2 = .ok (.putfield 1, 3) := by decide +kernel
theorem dX13_result_5 : decode cX13_result 5 = .ok (.aload_n 0, 1) := by decide +kernel
theorem dX13_result_6 : decode cX13_result 6 = .ok (.iload_n 1, 1) := by decide +kernel
theorem dX13_result_7 : decode cX13_result 7 = .ok (.invokevirtual 286, 3) := by decide +kernel
theorem dX13_result_10 : decode cX13_result 10 = .ok (.ifCond .eq 29, 3) := by decide +kernel
theorem dX13_result_13 : decode cX13_result 13 = .ok (.aload_n 0, 1) := by decide +kernel
theorem dX13_result_14 : decode cX13_result 14 = .ok (.getfield 34, 3) := by decide +kernel
theorem dX13_result_17 : decode cX13_result 17 = .ok (.iload_n 1, 1) := by decide +kernel
theorem dX13_result_18 : decode cX13_result 18 = .ok (.aaload, 1) := by decide +kernel
theorem dX13_result_19 : decode cX13_result 19 = .ok (.getfield 289, 3) := by decide +kernel
theorem dX13_result_22 : decode cX13_result 22 = .ok (.iconst 2, 1) := by decide +kernel
theorem dX13_result_23 : decode cX13_result 23 = .ok (.if_icmp .ne 16, 3) := by decide +kernel
theorem dX13_result_26 : decode cX13_result 26 = .ok (.aload_n 0, 1) := by decide +kernel
theorem dX13_result_27 : decode cX13_result 27 = .ok (.aload_n 0, 1) := by decide +kernel
theorem dX13_result_28 : decode cX13_result 28 = .ok (.getfield 34, 3) := by decide +kernel
theorem dX13_result_31 : decode cX13_result 31 = .ok (.iload_n 1, 1) := by decide +kernel
theorem dX13_result_32 : decode cX13_result 32 = .ok (.aaload, 1) := by decide +kernel
theorem dX13_result_33 : decode cX13_result 33 = .ok (.invokevirtual 405, 3) := by decide +kernel
theorem dX13_result_36 : decode cX13_result 36 = .ok (.goto 4, 3) := by decide +kernel
theorem dX13_result_39 : decode cX13_result 39 = .ok (.iconst (-1), 1) := by decide +kernel
theorem dX13_result_40 : decode cX13_result 40 = .ok (.ireturn, 1) := by decide +kernel
theorem dX13_lacks_0 : decode cX13_lacks 0 = .ok (.aload_n 0, 1) := by decide +kernel
theorem dX13_lacks_1 : decode cX13_lacks 1 = .ok (.iconst 0, 1) := by decide +kernel
theorem dX13_lacks_2 : decode cX13_lacks 2 = .ok (.putfield 1, 3) := by decide +kernel
theorem dX13_lacks_5 : decode cX13_lacks 5 = .ok (.aload_n 0, 1) := by decide +kernel
theorem dX13_lacks_6 : decode cX13_lacks 6 = .ok (.iload_n 1, 1) := by decide +kernel
theorem dX13_lacks_7 : decode cX13_lacks 7 = .ok (.invokevirtual 286, 3) := by decide +kernel
theorem dX13_lacks_10 : decode cX13_lacks 10 = .ok (.ifCond .eq 42, 3) := by decide +kernel
theorem dX13_lacks_13 : decode cX13_lacks 13 = .ok (.aload_n 0, 1) := by decide +kernel
theorem dX13_lacks_14 : decode cX13_lacks 14 = .ok (.getfield 34, 3) := by decide +kernel
theorem dX13_lacks_17 : decode cX13_lacks 17 = .ok (.iload_n 1, 1) := by decide +kernel
theorem dX13_lacks_18 : decode cX13_lacks 18 = .ok (.aaload, 1) := by decide +kernel
theorem dX13_lacks_19 : decode cX13_lacks 19 = .ok (.getfield 289, 3) := by decide +kernel
theorem dX13_lacks_22 : decode cX13_lacks 22 = .ok (.iconst 2, 1) := by decide +kernel
theorem dX13_lacks_23 : decode cX13_lacks 23 = .ok (.if_icmp .ne 29, 3) := by decide +kernel
theorem dX13_lacks_26 : decode cX13_lacks 26 = .ok (.iload_n 2, 1) := by decide +kernel
theorem dX13_lacks_27 : decode cX13_lacks 27 = .ok (.ifCond .lt 25, 3) := by decide +kernel
theorem dX13_lacks_30 : decode cX13_lacks 30 = .ok (.iload_n 2, 1) := by decide +kernel
theorem dX13_lacks_31 : decode cX13_lacks 31 = .ok (.aload_n 0, 1) := by decide +kernel
theorem dX13_lacks_32 : decode cX13_lacks 32 = .ok (.getfield 250, 3) := by decide +kernel
theorem dX13_lacks_35 : decode cX13_lacks 35 = .ok (.if_icmp .ge 17, 3) := by decide +kernel
theorem dX13_lacks_38 : decode cX13_lacks 38 = .ok (.aload_n 0, 1) := by decide +kernel
theorem dX13_lacks_39 : decode cX13_lacks 39 = .ok (.aload_n 0, 1) := by decide +kernel
theorem dX13_lacks_40 : decode cX13_lacks 40 = .ok (.getfield 34, 3) := by decide +kernel
theorem dX13_lacks_43 : decode cX13_lacks 43 = .ok (.iload_n 1, 1) := by decide +kernel
theorem dX13_lacks_44 : decode cX13_lacks 44 = .ok (.aaload, 1) := by decide +kernel
theorem dX13_lacks_45 : decode cX13_lacks 45 = .ok (.iload_n 2, 1) := by decide +kernel
theorem dX13_lacks_46 : decode cX13_lacks 46 = .ok (.invokevirtual 401, 3) := by decide +kernel
theorem dX13_lacks_49 : decode cX13_lacks 49 = .ok (.goto 4, 3) := by decide +kernel
theorem dX13_lacks_52 : decode cX13_lacks 52 = .ok (.iconst (-1), 1) := by decide +kernel
theorem dX13_lacks_53 : decode cX13_lacks 53 = .ok (.ireturn, 1) := by decide +kernel
theorem dX13_isAhead_0 : decode cX13_isAhead 0 = .ok (.aload_n 0, 1) := by decide +kernel
theorem dX13_isAhead_1 : decode cX13_isAhead 1 = .ok (.getfield 34, 3) := by decide +kernel
theorem dX13_isAhead_4 : decode cX13_isAhead 4 = .ok (.iload_n 1, 1) := by decide +kernel
theorem dX13_isAhead_5 : decode cX13_isAhead 5 = .ok (.aaload, 1) := by decide +kernel
theorem dX13_isAhead_6 : decode cX13_isAhead 6 = .ok (.astore_n 3, 1) := by decide +kernel
theorem dX13_isAhead_7 : decode cX13_isAhead 7 = .ok (.aload_n 0, 1) := by decide +kernel
theorem dX13_isAhead_8 : decode cX13_isAhead 8 = .ok (.getfield 34, 3) := by decide +kernel
theorem dX13_isAhead_11 : decode cX13_isAhead 11 = .ok (.iload_n 2, 1) := by decide +kernel
theorem dX13_isAhead_12 : decode cX13_isAhead 12 = .ok (.aaload, 1) := by decide +kernel
theorem dX13_isAhead_13 : decode cX13_isAhead 13 = .ok (.astore 4, 2) := by decide +kernel
theorem dX13_isAhead_15 : decode cX13_isAhead 15 = .ok (.aload_n 3, 1) := by decide +kernel
theorem dX13_isAhead_16 : decode cX13_isAhead 16 = .ok (.getfield 289, 3) := by decide +kernel
theorem dX13_isAhead_19 : decode cX13_isAhead 19 = .ok (.iconst 2, 1) := by decide +kernel
theorem dX13_isAhead_20 : decode cX13_isAhead 20 = .ok (.if_icmp .ne 7, 3) := by decide +kernel
theorem dX13_isAhead_23 : decode cX13_isAhead 23 = .ok (.iconst 0, 1) := by decide +kernel
theorem dX13_isAhead_24 : decode cX13_isAhead 24 = .ok (.goto 27, 3) := by decide +kernel
theorem dX13_isAhead_27 : decode cX13_isAhead 27 = .ok (.aload_n 3, 1) := by decide +kernel
theorem dX13_isAhead_28 : decode cX13_isAhead 28 = .ok (.getfield 289, 3) := by decide +kernel
theorem dX13_isAhead_31 : decode cX13_isAhead 31 = .ok (.iconst 1, 1) := by decide +kernel
theorem dX13_isAhead_32 : decode cX13_isAhead 32 = .ok (.if_icmp .ne 7, 3) := by decide +kernel
theorem dX13_isAhead_35 : decode cX13_isAhead 35 = .ok (.iconst 1, 1) := by decide +kernel
theorem dX13_isAhead_36 : decode cX13_isAhead 36 = .ok (.goto 15, 3) := by decide +kernel
theorem dX13_isAhead_39 : decode cX13_isAhead 39 = .ok (.aload_n 3, 1) := by decide +kernel
theorem dX13_isAhead_40 : decode cX13_isAhead 40 = .ok (.getfield 289, 3) := by decide +kernel
theorem dX13_isAhead_43 : decode cX13_isAhead 43 = .ok (.ifCond .ne 7, 3) := by decide +kernel
theorem dX13_isAhead_46 : decode cX13_isAhead 46 = .ok (.iconst 2, 1) := by decide +kernel
theorem dX13_isAhead_47 : decode cX13_isAhead 47 = .ok (.goto 4, 3) := by decide +kernel
theorem dX13_isAhead_50 : decode cX13_isAhead 50 = .ok (.iconst 3, 1) := by decide +kernel
theorem dX13_isAhead_51 : decode cX13_isAhead 51 = .ok (.istore 5, 2) := by decide +kernel
theorem dX13_isAhead_53 : decode cX13_isAhead 53 = .ok (.aload 4, 2) := by decide +kernel
theorem dX13_isAhead_55 : decode cX13_isAhead 55 = .ok (.getfield 289, 3) := by decide +kernel
theorem dX13_isAhead_58 : decode cX13_isAhead 58 = .ok (.iconst 2, 1) := by decide +kernel
theorem dX13_isAhead_59 : decode cX13_isAhead 59 = .ok (.if_icmp .ne 7, 3) := by decide +kernel
theorem dX13_isAhead_62 : decode cX13_isAhead 62 = .ok (.iconst 0, 1) := by decide +kernel
theorem dX13_isAhead_63 : decode cX13_isAhead 63 = .ok (.goto 29, 3) := by decide +kernel
theorem dX13_isAhead_66 : decode cX13_isAhead 66 = .ok (.aload 4, 2) := by decide +kernel
theorem dX13_isAhead_68 : decode cX13_isAhead 68 = .ok (.getfield 289, 3) := by decide +kernel
theorem dX13_isAhead_71 : decode cX13_isAhead 71 = .ok (.iconst 1, 1) := by decide +kernel
theorem dX13_isAhead_72 : decode cX13_isAhead 72 = .ok (.if_icmp .ne 7, 3) := by decide +kernel
theorem dX13_isAhead_75 : decode cX13_isAhead 75 = .ok (.iconst 1, 1) := by decide +kernel
theorem dX13_isAhead_76 : decode cX13_isAhead 76 = .ok (.goto 16, 3) := by decide +kernel
theorem dX13_isAhead_79 : decode cX13_isAhead 79 = .ok (.aload 4, 2) := by decide +kernel
theorem dX13_isAhead_81 : decode cX13_isAhead 81 = .ok (.getfield 289, 3) := by decide +kernel
theorem dX13_isAhead_84 : decode cX13_isAhead 84 = .ok (.ifCond .ne 7, 3) := by decide +kernel
theorem dX13_isAhead_87 : decode cX13_isAhead 87 = .ok (.iconst 2, 1) := by decide +kernel
theorem dX13_isAhead_88 : decode cX13_isAhead 88 = .ok (.goto 4, 3) := by decide +kernel
theorem dX13_isAhead_91 : decode cX13_isAhead 91 = .ok (.iconst 3, 1) := by decide +kernel
theorem dX13_isAhead_92 : decode cX13_isAhead 92 = .ok (.istore 6, 2) := by decide +kernel
theorem dX13_isAhead_94 : decode cX13_isAhead 94 = .ok (.iload 5, 2) := by decide +kernel
theorem dX13_isAhead_96 : decode cX13_isAhead 96 = .ok (.iload 6, 2) := by decide +kernel
theorem dX13_isAhead_98 : decode cX13_isAhead 98 = .ok (.if_icmp .eq 16, 3) := by decide +kernel
theorem dX13_isAhead_101 : decode cX13_isAhead 101 = .ok (.iload 5, 2) := by decide +kernel
theorem dX13_isAhead_103 : decode cX13_isAhead 103 = .ok (.iload 6, 2) := by decide +kernel
theorem dX13_isAhead_105 : decode cX13_isAhead 105 = .ok (.if_icmp .ge 7, 3) := by decide +kernel
theorem dX13_isAhead_108 : decode cX13_isAhead 108 = .ok (.iconst 1, 1) := by decide +kernel
theorem dX13_isAhead_109 : decode cX13_isAhead 109 = .ok (.goto 4, 3) := by decide +kernel
theorem dX13_isAhead_112 : decode cX13_isAhead 112 = .ok (.iconst 0, 1) := by decide +kernel
theorem dX13_isAhead_113 : decode cX13_isAhead 113 = .ok (.ireturn, 1) := by decide +kernel
theorem dX13_isAhead_114 : decode cX13_isAhead 114 = .ok (.iload 5, 2) := by decide +kernel
theorem dX13_isAhead_116 : decode cX13_isAhead 116 = .ok (.ifCond .ne 11, 3) := by decide +kernel
theorem dX13_isAhead_119 : decode cX13_isAhead 119 = .ok (.aload_n 0, 1) := by decide +kernel
theorem dX13_isAhead_120 : decode cX13_isAhead 120 = .ok (.aload_n 3, 1) := by decide +kernel
theorem dX13_isAhead_121 : decode cX13_isAhead 121 = .ok (.invokevirtual 405, 3) := by decide +kernel
theorem dX13_isAhead_124 : decode cX13_isAhead 124 = .ok (.goto 19, 3) := by decide +kernel
theorem dX13_isAhead_127 : decode cX13_isAhead 127 = .ok (.iload 5, 2) := by decide +kernel
theorem dX13_isAhead_129 : decode cX13_isAhead 129 = .ok (.iconst 1, 1) := by decide +kernel
theorem dX13_isAhead_130 : decode cX13_isAhead 130 = .ok (.if_icmp .ne 12, 3) := by decide +kernel
theorem dX13_isAhead_133 : decode cX13_isAhead 133 = .ok (.aload_n 0, 1) := by decide +kernel
theorem dX13_isAhead_134 : decode cX13_isAhead 134 = .ok (.aload_n 3, 1) := by decide +kernel
theorem dX13_isAhead_135 : decode cX13_isAhead 135 = .ok (.invokevirtual 391, 3) := by decide +kernel
theorem dX13_isAhead_138 : decode cX13_isAhead 138 = .ok (.ineg, 1) := by decide +kernel
theorem dX13_isAhead_139 : decode cX13_isAhead 139 = .ok (.goto 4, 3) := by decide +kernel
theorem dX13_isAhead_142 : decode cX13_isAhead 142 = .ok (.iconst 0, 1) := by decide +kernel
theorem dX13_isAhead_143 : decode cX13_isAhead 143 = .ok (.istore 7, 2) := by decide +kernel
theorem dX13_isAhead_145 : decode cX13_isAhead 145 = .ok (.iload 5, 2) := by decide +kernel
theorem dX13_isAhead_147 : decode cX13_isAhead 147 = .ok (.ifCond .ne 12, 3) := by decide +kernel
theorem dX13_isAhead_150 : decode cX13_isAhead 150 = .ok (.aload_n 0, 1) := by decide +kernel
theorem dX13_isAhead_151 : decode cX13_isAhead 151 = .ok (.aload 4, 2) := by decide +kernel
theorem dX13_isAhead_153 : decode cX13_isAhead 153 = .ok (.invokevirtual 405, 3) := by decide +kernel
theorem dX13_isAhead_156 : decode cX13_isAhead 156 = .ok (.goto 20, 3) := by decide +kernel
theorem dX13_isAhead_159 : decode cX13_isAhead 159 = .ok (.iload 5, 2) := by decide +kernel
theorem dX13_isAhead_161 : decode cX13_isAhead 161 = .ok (.iconst 1, 1) := by decide +kernel
theorem dX13_isAhead_162 : decode cX13_isAhead 162 = .ok (.if_icmp .ne 13, 3) := by decide +kernel
theorem dX13_isAhead_165 : decode cX13_isAhead 165 = .ok (.aload_n 0, 1) := by decide +kernel
theorem dX13_isAhead_166 : decode cX13_isAhead 166 = .ok (.aload 4, 2) := by decide +kernel
theorem dX13_isAhead_168 : decode cX13_isAhead 168 = .ok (.invokevirtual 391, 3) := by decide +kernel
theorem dX13_isAhead_171 : decode cX13_isAhead 171 = .ok (.ineg, 1) := by decide +kernel
theorem dX13_isAhead_172 : decode cX13_isAhead 172 = .ok (.goto 4, 3) := by decide +kernel
theorem dX13_isAhead_175 : decode cX13_isAhead 175 = .ok (.iconst 0, 1) := by decide +kernel
theorem dX13_isAhead_176 : decode cX13_isAhead 176 = .ok (.istore 8, 2) := by decide +kernel
theorem dX13_isAhead_178 : decode cX13_isAhead 178 = .ok (.iload 7, 2) := by decide +kernel
theorem dX13_isAhead_180 : decode cX13_isAhead 180 = .ok (.iload 8, 2) := by decide +kernel
theorem dX13_isAhead_182 : decode cX13_isAhead 182 = .ok (.if_icmp .eq 18, 3) := by decide +kernel
theorem dX13_isAhead_185 : decode cX13_isAhead 185 = .ok (.iload 7, 2) := by decide +kernel
theorem dX13_isAhead_187 : decode cX13_isAhead 187 = .ok (.iload 8, 2) := by decide +kernel
theorem dX13_isAhead_189 : decode cX13_isAhead 189 = .ok (.if_icmp .ge 7, 3) := by decide +kernel
theorem dX13_isAhead_192 : decode cX13_isAhead 192 = .ok (.iconst 1, 1) := by decide +kernel
theorem dX13_isAhead_193 : decode cX13_isAhead 193 = .ok (.goto 17, 3) := by decide +kernel
theorem dX13_isAhead_196 : decode cX13_isAhead 196 = .ok (.iconst 0, 1) := by decide +kernel
theorem dX13_isAhead_197 : decode cX13_isAhead 197 = .ok (.goto 13, 3) := by decide +kernel
theorem dX13_isAhead_200 : decode cX13_isAhead 200 = .ok (.iload_n 1, 1) := by decide +kernel
theorem dX13_isAhead_201 : decode cX13_isAhead 201 = .ok (.iload_n 2, 1) := by decide +kernel
theorem dX13_isAhead_202 : decode cX13_isAhead 202 = .ok (.if_icmp .ge 7, 3) := by decide +kernel
theorem dX13_isAhead_205 : decode cX13_isAhead 205 = .ok (.iconst 1, 1) := by decide +kernel
theorem dX13_isAhead_206 : decode cX13_isAhead 206 = .ok (.goto 4, 3) := by decide +kernel
theorem dX13_isAhead_209 : decode cX13_isAhead 209 = .ok (.iconst 0, 1) := by decide +kernel
theorem dX13_isAhead_210 : decode cX13_isAhead 210 = .ok (.ireturn, 1) := by decide +kernel
theorem dX13_place_0 : decode cX13_place 0 = .ok (.aload_n 0, 1) := by decide +kernel
theorem dX13_place_1 : decode cX13_place 1 = .ok (.iconst 0, 1) := by decide +kernel
theorem dX13_place_2 : decode cX13_place 2 = .ok (.putfield 1, 3) := by decide +kernel
theorem dX13_place_5 : decode cX13_place 5 = .ok (.iconst 0, 1) := by decide +kernel
theorem dX13_place_6 : decode cX13_place 6 = .ok (.istore_n 2, 1) := by decide +kernel
theorem dX13_place_7 : decode cX13_place 7 = .ok (.iload_n 2, 1) := by decide +kernel
theorem dX13_place_8 : decode cX13_place 8 = .ok (.aload_n 0, 1) := by decide +kernel
theorem dX13_place_9 : decode cX13_place 9 = .ok (.getfield 94, 3) := by decide +kernel
theorem dX13_place_12 : decode cX13_place 12 = .ok (.if_icmp .ge 60, 3) := by decide +kernel
theorem dX13_place_15 : decode cX13_place 15 = .ok (.iconst 0, 1) := by decide +kernel
theorem dX13_place_16 : decode cX13_place 16 = .ok (.istore_n 3, 1) := by decide +kernel
theorem dX13_place_17 : decode cX13_place 17 = .ok (.iconst 0, 1) := by decide +kernel
theorem dX13_place_18 : decode cX13_place 18 = .ok (.istore 4, 2) := by decide +kernel
theorem dX13_place_20 : decode cX13_place 20 = .ok (.iload 4, 2) := by decide +kernel
theorem dX13_place_22 : decode cX13_place 22 = .ok (.aload_n 0, 1) := by decide +kernel
theorem dX13_place_23 : decode cX13_place 23 = .ok (.getfield 94, 3) := by decide +kernel
theorem dX13_place_26 : decode cX13_place 26 = .ok (.if_icmp .ge 33, 3) := by decide +kernel
theorem dX13_place_29 : decode cX13_place 29 = .ok (.iload_n 3, 1) := by decide +kernel
theorem dX13_place_30 : decode cX13_place 30 = .ok (.iload 4, 2) := by decide +kernel
theorem dX13_place_32 : decode cX13_place 32 = .ok (.iload_n 2, 1) := by decide +kernel
theorem dX13_place_33 : decode cX13_place 33 = .ok (.if_icmp .eq 17, 3) := by decide +kernel
theorem dX13_place_36 : decode cX13_place 36 = .ok (.aload_n 0, 1) := by decide +kernel
theorem dX13_place_37 : decode cX13_place 37 = .ok (.iload 4, 2) := by decide +kernel
theorem dX13_place_39 : decode cX13_place 39 = .ok (.iload_n 2, 1) := by decide +kernel
theorem dX13_place_40 : decode cX13_place 40 = .ok (.invokevirtual 408, 3) := by decide +kernel
theorem dX13_place_43 : decode cX13_place 43 = .ok (.ifCond .eq 7, 3) := by decide +kernel
theorem dX13_place_46 : decode cX13_place 46 = .ok (.iconst 1, 1) := by decide +kernel
theorem dX13_place_47 : decode cX13_place 47 = .ok (.goto 4, 3) := by decide +kernel
theorem dX13_place_50 : decode cX13_place 50 = .ok (.iconst 0, 1) := by decide +kernel
theorem dX13_place_51 : decode cX13_place 51 = .ok (.iadd, 1) := by decide +kernel
theorem dX13_place_52 : decode cX13_place 52 = .ok (.istore_n 3, 1) := by decide +kernel
theorem dX13_place_53 : decode cX13_place 53 = .ok (.iinc 4 1, 3) := by decide +kernel
theorem dX13_place_56 : decode cX13_place 56 = .ok (.goto (-36), 3) := by decide +kernel
theorem dX13_place_59 : decode cX13_place 59 = .ok (.iload_n 3, 1) := by decide +kernel
theorem dX13_place_60 : decode cX13_place 60 = .ok (.iload_n 1, 1) := by decide +kernel
theorem dX13_place_61 : decode cX13_place 61 = .ok (.if_icmp .ne 5, 3) := by decide +kernel
theorem dX13_place_64 : decode cX13_place 64 = .ok (.iload_n 2, 1) := by decide +kernel
theorem dX13_place_65 : decode cX13_place 65 = .ok (.ireturn, 1) := by decide +kernel
theorem dX13_place_66 : decode cX13_place 66 = .ok (.iinc 2 1, 3) := by decide +kernel
theorem dX13_place_69 : decode cX13_place 69 = .ok (.goto (-62), 3) := by decide +kernel
theorem dX13_place_72 : decode cX13_place 72 = .ok (.iconst (-1), 1) := by decide +kernel
theorem dX13_place_73 : decode cX13_place 73 = .ok (.ireturn, 1) := by decide +kernel
theorem dX13_came_0 : decode cX13_came 0 = .ok (.aload_n 0, 1) := by decide +kernel
theorem dX13_came_1 : decode cX13_came 1 = .ok (.iconst 0, 1) := by decide +kernel
theorem dX13_came_2 : decode cX13_came 2 = .ok (.putfield 1, 3) := by decide +kernel
theorem dX13_came_5 : decode cX13_came 5 = .ok (.iload_n 1, 1) := by decide +kernel
theorem dX13_came_6 : decode cX13_came 6 = .ok (.ifCond .lt 11, 3) := by decide +kernel
theorem dX13_came_9 : decode cX13_came 9 = .ok (.iload_n 1, 1) := by decide +kernel
theorem dX13_came_10 : decode cX13_came 10 = .ok (.aload_n 0, 1) := by decide +kernel
theorem dX13_came_11 : decode cX13_came 11 = .ok (.getfield 91, 3) := by decide +kernel
theorem dX13_came_14 : decode cX13_came 14 = .ok (.if_icmp .le 5, 3) := by decide +kernel
theorem dX13_came_17 : decode cX13_came 17 = .ok (.iconst (-1), 1) := by decide +kernel
theorem dX13_came_18 : decode cX13_came 18 = .ok (.ireturn, 1) := by decide +kernel
theorem dX13_came_19 : decode cX13_came 19 = .ok (.iconst 0, 1) := by decide +kernel
theorem dX13_came_20 : decode cX13_came 20 = .ok (.istore_n 3, 1) := by decide +kernel
theorem dX13_came_21 : decode cX13_came 21 = .ok (.iconst 0, 1) := by decide +kernel
theorem dX13_came_22 : decode cX13_came 22 = .ok (.istore 4, 2) := by decide +kernel
theorem dX13_came_24 : decode cX13_came 24 = .ok (.iload 4, 2) := by decide +kernel
theorem dX13_came_26 : decode cX13_came 26 = .ok (.aload_n 0, 1) := by decide +kernel
theorem dX13_came_27 : decode cX13_came 27 = .ok (.getfield 94, 3) := by decide +kernel
theorem dX13_came_30 : decode cX13_came 30 = .ok (.if_icmp .ge 49, 3) := by decide +kernel
theorem dX13_came_33 : decode cX13_came 33 = .ok (.iload_n 3, 1) := by decide +kernel
theorem dX13_came_34 : decode cX13_came 34 = .ok (.aload_n 0, 1) := by decide +kernel
theorem dX13_came_35 : decode cX13_came 35 = .ok (.getfield 34, 3) := by decide +kernel
theorem dX13_came_38 : decode cX13_came 38 = .ok (.iload 4, 2) := by decide +kernel
theorem dX13_came_40 : decode cX13_came 40 = .ok (.aaload, 1) := by decide +kernel
theorem dX13_came_41 : decode cX13_came 41 = .ok (.getfield 335, 3) := by decide +kernel
theorem dX13_came_44 : decode cX13_came 44 = .ok (.iload_n 1, 1) := by decide +kernel
theorem dX13_came_45 : decode cX13_came 45 = .ok (.iaload, 1) := by decide +kernel
theorem dX13_came_46 : decode cX13_came 46 = .ok (.iconst (-1), 1) := by decide +kernel
theorem dX13_came_47 : decode cX13_came 47 = .ok (.if_icmp .eq 23, 3) := by decide +kernel
theorem dX13_came_50 : decode cX13_came 50 = .ok (.aload_n 0, 1) := by decide +kernel
theorem dX13_came_51 : decode cX13_came 51 = .ok (.getfield 34, 3) := by decide +kernel
theorem dX13_came_54 : decode cX13_came 54 = .ok (.iload 4, 2) := by decide +kernel
theorem dX13_came_56 : decode cX13_came 56 = .ok (.aaload, 1) := by decide +kernel
theorem dX13_came_57 : decode cX13_came 57 = .ok (.getfield 335, 3) := by decide +kernel
theorem dX13_came_60 : decode cX13_came 60 = .ok (.iload_n 1, 1) := by decide +kernel
theorem dX13_came_61 : decode cX13_came 61 = .ok (.iaload, 1) := by decide +kernel
theorem dX13_came_62 : decode cX13_came 62 = .ok (.iload_n 2, 1) := by decide +kernel
theorem dX13_came_63 : decode cX13_came 63 = .ok (.if_icmp .gt 7, 3) := by decide +kernel
theorem dX13_came_66 : decode cX13_came 66 = .ok (.iconst 1, 1) := by decide +kernel
theorem dX13_came_67 : decode cX13_came 67 = .ok (.goto 4, 3) := by decide +kernel
theorem dX13_came_70 : decode cX13_came 70 = .ok (.iconst 0, 1) := by decide +kernel
theorem dX13_came_71 : decode cX13_came 71 = .ok (.iadd, 1) := by decide +kernel
theorem dX13_came_72 : decode cX13_came 72 = .ok (.istore_n 3, 1) := by decide +kernel
theorem dX13_came_73 : decode cX13_came 73 = .ok (.iinc 4 1, 3) := by decide +kernel
theorem dX13_came_76 : decode cX13_came 76 = .ok (.goto (-52), 3) := by decide +kernel
theorem dX13_came_79 : decode cX13_came 79 = .ok (.iload_n 3, 1) := by decide +kernel
theorem dX13_came_80 : decode cX13_came 80 = .ok (.ireturn, 1) := by decide +kernel
theorem dX13_spot_0 : decode cX13_spot 0 = .ok (.aload_n 0, 1) := by decide +kernel
theorem dX13_spot_1 : decode cX13_spot 1 = .ok (.iconst 0, 1) := by decide +kernel
theorem dX13_spot_2 : decode cX13_spot 2 = .ok (.putfield 1, 3) := by decide +kernel
theorem dX13_spot_5 : decode cX13_spot 5 = .ok (.aload_n 0, 1) := by decide +kernel
theorem dX13_spot_6 : decode cX13_spot 6 = .ok (.iload_n 1, 1) := by decide +kernel
theorem dX13_spot_7 : decode cX13_spot 7 = .ok (.invokevirtual 286, 3) := by decide +kernel
theorem dX13_spot_10 : decode cX13_spot 10 = .ok (.ifCond .eq 15, 3) := by decide +kernel
theorem dX13_spot_13 : decode cX13_spot 13 = .ok (.iload_n 2, 1) := by decide +kernel
theorem dX13_spot_14 : decode cX13_spot 14 = .ok (.ifCond .lt 11, 3) := by decide +kernel
theorem dX13_spot_17 : decode cX13_spot 17 = .ok (.iload_n 2, 1) := by decide +kernel
theorem dX13_spot_18 : decode cX13_spot 18 = .ok (.aload_n 0, 1) := by decide +kernel
theorem dX13_spot_19 : decode cX13_spot 19 = .ok (.getfield 100, 3) := by decide +kernel
theorem dX13_spot_22 : decode cX13_spot 22 = .ok (.if_icmp .lt 5, 3) := by decide +kernel
theorem dX13_spot_25 : decode cX13_spot 25 = .ok (.iconst (-1), 1) := by decide +kernel
theorem dX13_spot_26 : decode cX13_spot 26 = .ok (.ireturn, 1) := by decide +kernel
theorem dX13_spot_27 : decode cX13_spot 27 = .ok (.aload_n 0, 1) := by decide +kernel
theorem dX13_spot_28 : decode cX13_spot 28 = .ok (.getfield 34, 3) := by decide +kernel
theorem dX13_spot_31 : decode cX13_spot 31 = .ok (.iload_n 1, 1) := by decide +kernel
theorem dX13_spot_32 : decode cX13_spot 32 = .ok (.aaload, 1) := by decide +kernel
theorem dX13_spot_33 : decode cX13_spot 33 = .ok (.astore 4, 2) := by decide +kernel
theorem dX13_spot_35 : decode cX13_spot 35 = .ok (.iconst 0, 1) := by decide +kernel
theorem dX13_spot_36 : decode cX13_spot 36 = .ok (.istore 5, 2) := by decide +kernel
theorem dX13_spot_38 : decode cX13_spot 38 = .ok (.iload 5, 2) := by decide +kernel
theorem dX13_spot_40 : decode cX13_spot 40 = .ok (.aload 4, 2) := by decide +kernel
theorem dX13_spot_42 : decode cX13_spot 42 = .ok (.getfield 385, 3) := by decide +kernel
theorem dX13_spot_45 : decode cX13_spot 45 = .ok (.if_icmp .ge 21, 3) := by decide +kernel
theorem dX13_spot_48 : decode cX13_spot 48 = .ok (.aload 4, 2) := by decide +kernel
theorem dX13_spot_50 : decode cX13_spot 50 = .ok (.getfield 382, 3) := by decide +kernel
theorem dX13_spot_53 : decode cX13_spot 53 = .ok (.iload 5, 2) := by decide +kernel
theorem dX13_spot_55 : decode cX13_spot 55 = .ok (.iaload, 1) := by decide +kernel
theorem dX13_spot_56 : decode cX13_spot 56 = .ok (.iload_n 2, 1) := by decide +kernel
theorem dX13_spot_57 : decode cX13_spot 57 = .ok (.if_icmp .gt 9, 3) := by decide +kernel
theorem dX13_spot_60 : decode cX13_spot 60 = .ok (.iinc 5 1, 3) := by decide +kernel
theorem dX13_spot_63 : decode cX13_spot 63 = .ok (.goto (-25), 3) := by decide +kernel
theorem dX13_spot_66 : decode cX13_spot 66 = .ok (.iload 5, 2) := by decide +kernel
theorem dX13_spot_68 : decode cX13_spot 68 = .ok (.ifCond .le 16, 3) := by decide +kernel
theorem dX13_spot_71 : decode cX13_spot 71 = .ok (.aload 4, 2) := by decide +kernel
theorem dX13_spot_73 : decode cX13_spot 73 = .ok (.getfield 388, 3) := by decide +kernel
theorem dX13_spot_76 : decode cX13_spot 76 = .ok (.iload 5, 2) := by decide +kernel
theorem dX13_spot_78 : decode cX13_spot 78 = .ok (.iconst 1, 1) := by decide +kernel
theorem dX13_spot_79 : decode cX13_spot 79 = .ok (.isub, 1) := by decide +kernel
theorem dX13_spot_80 : decode cX13_spot 80 = .ok (.iaload, 1) := by decide +kernel
theorem dX13_spot_81 : decode cX13_spot 81 = .ok (.goto 4, 3) := by decide +kernel
theorem dX13_spot_84 : decode cX13_spot 84 = .ok (.iconst 0, 1) := by decide +kernel
theorem dX13_spot_85 : decode cX13_spot 85 = .ok (.istore 6, 2) := by decide +kernel
theorem dX13_spot_87 : decode cX13_spot 87 = .ok (.iload 5, 2) := by decide +kernel
theorem dX13_spot_89 : decode cX13_spot 89 = .ok (.ifCond .le 24, 3) := by decide +kernel
theorem dX13_spot_92 : decode cX13_spot 92 = .ok (.iload 6, 2) := by decide +kernel
theorem dX13_spot_94 : decode cX13_spot 94 = .ok (.bipush 60, 2) := by decide +kernel
theorem dX13_spot_96 : decode cX13_spot 96 = .ok (.iload_n 2, 1) := by decide +kernel
theorem dX13_spot_97 : decode cX13_spot 97 = .ok (.aload 4, 2) := by decide +kernel
theorem dX13_spot_99 : decode cX13_spot 99 = .ok (.getfield 382, 3) := by decide +kernel
theorem dX13_spot_102 : decode cX13_spot 102 = .ok (.iload 5, 2) := by decide +kernel
theorem dX13_spot_104 : decode cX13_spot 104 = .ok (.iconst 1, 1) := by decide +kernel
theorem dX13_spot_105 : decode cX13_spot 105 = .ok (.isub, 1) := by decide +kernel
theorem dX13_spot_106 : decode cX13_spot 106 = .ok (.iaload, 1) := by decide +kernel
theorem dX13_spot_107 : decode cX13_spot 107 = .ok (.isub, 1) := by decide +kernel
theorem dX13_spot_108 : decode cX13_spot 108 = .ok (.imul, 1) := by decide +kernel
theorem dX13_spot_109 : decode cX13_spot 109 = .ok (.iadd, 1) := by decide +kernel
theorem dX13_spot_110 : decode cX13_spot 110 = .ok (.goto 28, 3) := by decide +kernel
theorem dX13_spot_113 : decode cX13_spot 113 = .ok (.iload_n 2, 1) := by decide +kernel
theorem dX13_spot_114 : decode cX13_spot 114 = .ok (.aload 4, 2) := by decide +kernel
theorem dX13_spot_116 : decode cX13_spot 116 = .ok (.getfield 333, 3) := by decide +kernel
theorem dX13_spot_119 : decode cX13_spot 119 = .ok (.if_icmp .ge 7, 3) := by decide +kernel
theorem dX13_spot_122 : decode cX13_spot 122 = .ok (.iconst 0, 1) := by decide +kernel
theorem dX13_spot_123 : decode cX13_spot 123 = .ok (.goto 15, 3) := by decide +kernel
theorem dX13_spot_126 : decode cX13_spot 126 = .ok (.bipush 60, 2) := by decide +kernel
theorem dX13_spot_128 : decode cX13_spot 128 = .ok (.iload_n 2, 1) := by decide +kernel
theorem dX13_spot_129 : decode cX13_spot 129 = .ok (.aload 4, 2) := by decide +kernel
theorem dX13_spot_131 : decode cX13_spot 131 = .ok (.getfield 333, 3) := by decide +kernel
theorem dX13_spot_134 : decode cX13_spot 134 = .ok (.isub, 1) := by decide +kernel
theorem dX13_spot_135 : decode cX13_spot 135 = .ok (.iconst 1, 1) := by decide +kernel
theorem dX13_spot_136 : decode cX13_spot 136 = .ok (.iadd, 1) := by decide +kernel
theorem dX13_spot_137 : decode cX13_spot 137 = .ok (.imul, 1) := by decide +kernel
theorem dX13_spot_138 : decode cX13_spot 138 = .ok (.istore 7, 2) := by decide +kernel
theorem dX13_spot_140 : decode cX13_spot 140 = .ok (.iload 5, 2) := by decide +kernel
theorem dX13_spot_142 : decode cX13_spot 142 = .ok (.aload 4, 2) := by decide +kernel
theorem dX13_spot_144 : decode cX13_spot 144 = .ok (.getfield 385, 3) := by decide +kernel
theorem dX13_spot_147 : decode cX13_spot 147 = .ok (.if_icmp .ge 32, 3) := by decide +kernel
theorem dX13_spot_150 : decode cX13_spot 150 = .ok (.iload 6, 2) := by decide +kernel
theorem dX13_spot_152 : decode cX13_spot 152 = .ok (.aload 4, 2) := by decide +kernel
theorem dX13_spot_154 : decode cX13_spot 154 = .ok (.getfield 388, 3) := by decide +kernel
theorem dX13_spot_157 : decode cX13_spot 157 = .ok (.iload 5, 2) := by decide +kernel
theorem dX13_spot_159 : decode cX13_spot 159 = .ok (.iaload, 1) := by decide +kernel
theorem dX13_spot_160 : decode cX13_spot 160 = .ok (.bipush 60, 2) := by decide +kernel
theorem dX13_spot_162 : decode cX13_spot 162 = .ok (.aload 4, 2) := by decide +kernel
theorem dX13_spot_164 : decode cX13_spot 164 = .ok (.getfield 382, 3) := by decide +kernel
theorem dX13_spot_167 : decode cX13_spot 167 = .ok (.iload 5, 2) := by decide +kernel
theorem dX13_spot_169 : decode cX13_spot 169 = .ok (.iaload, 1) := by decide +kernel
theorem dX13_spot_170 : decode cX13_spot 170 = .ok (.iload_n 2, 1) := by decide +kernel
theorem dX13_spot_171 : decode cX13_spot 171 = .ok (.isub, 1) := by decide +kernel
theorem dX13_spot_172 : decode cX13_spot 172 = .ok (.imul, 1) := by decide +kernel
theorem dX13_spot_173 : decode cX13_spot 173 = .ok (.isub, 1) := by decide +kernel
theorem dX13_spot_174 : decode cX13_spot 174 = .ok (.invokestatic 363, 3) := by decide +kernel
theorem dX13_spot_177 : decode cX13_spot 177 = .ok (.istore 6, 2) := by decide +kernel
theorem dX13_spot_179 : decode cX13_spot 179 = .ok (.iload 7, 2) := by decide +kernel
theorem dX13_spot_181 : decode cX13_spot 181 = .ok (.iload 5, 2) := by decide +kernel
theorem dX13_spot_183 : decode cX13_spot 183 = .ok (.aload 4, 2) := by decide +kernel
theorem dX13_spot_185 : decode cX13_spot 185 = .ok (.getfield 385, 3) := by decide +kernel
theorem dX13_spot_188 : decode cX13_spot 188 = .ok (.if_icmp .ge 14, 3) := by decide +kernel
theorem dX13_spot_191 : decode cX13_spot 191 = .ok (.aload 4, 2) := by decide +kernel
theorem dX13_spot_193 : decode cX13_spot 193 = .ok (.getfield 388, 3) := by decide +kernel
theorem dX13_spot_196 : decode cX13_spot 196 = .ok (.iload 5, 2) := by decide +kernel
theorem dX13_spot_198 : decode cX13_spot 198 = .ok (.iaload, 1) := by decide +kernel
theorem dX13_spot_199 : decode cX13_spot 199 = .ok (.goto 7, 3) := by decide +kernel
theorem dX13_spot_202 : decode cX13_spot 202 = .ok (.aload_n 0, 1) := by decide +kernel
theorem dX13_spot_203 : decode cX13_spot 203 = .ok (.invokevirtual 412, 3) := by decide +kernel
theorem dX13_spot_206 : decode cX13_spot 206 = .ok (.invokestatic 398, 3) := by decide +kernel
theorem dX13_spot_209 : decode cX13_spot 209 = .ok (.istore 7, 2) := by decide +kernel
theorem dX13_spot_211 : decode cX13_spot 211 = .ok (.iload_n 3, 1) := by decide +kernel
theorem dX13_spot_212 : decode cX13_spot 212 = .ok (.ifCond .eq 8, 3) := by decide +kernel
theorem dX13_spot_215 : decode cX13_spot 215 = .ok (.iload 7, 2) := by decide +kernel
theorem dX13_spot_217 : decode cX13_spot 217 = .ok (.goto 5, 3) := by decide +kernel
theorem dX13_spot_220 : decode cX13_spot 220 = .ok (.iload 6, 2) := by decide +kernel
theorem dX13_spot_222 : decode cX13_spot 222 = .ok (.ireturn, 1) := by decide +kernel
theorem dX13_signs_0 : decode cX13_signs 0 = .ok (.aload_n 0, 1) := by decide +kernel
theorem dX13_signs_1 : decode cX13_signs 1 = .ok (.iconst 0, 1) := by decide +kernel
theorem dX13_signs_2 : decode cX13_signs 2 = .ok (.putfield 1, 3) := by decide +kernel
theorem dX13_signs_5 : decode cX13_signs 5 = .ok (.aload_n 0, 1) := by decide +kernel
theorem dX13_signs_6 : decode cX13_signs 6 = .ok (.iload_n 1, 1) := by decide +kernel
theorem dX13_signs_7 : decode cX13_signs 7 = .ok (.invokevirtual 286, 3) := by decide +kernel
theorem dX13_signs_10 : decode cX13_signs 10 = .ok (.ifCond .eq 15, 3) := by decide +kernel
theorem dX13_signs_13 : decode cX13_signs 13 = .ok (.aload_n 0, 1) := by decide +kernel
theorem dX13_signs_14 : decode cX13_signs 14 = .ok (.getfield 34, 3) := by decide +kernel
theorem dX13_signs_17 : decode cX13_signs 17 = .ok (.iload_n 1, 1) := by decide +kernel
theorem dX13_signs_18 : decode cX13_signs 18 = .ok (.aaload, 1) := by decide +kernel
theorem dX13_signs_19 : decode cX13_signs 19 = .ok (.getfield 385, 3) := by decide +kernel
theorem dX13_signs_22 : decode cX13_signs 22 = .ok (.goto 4, 3) := by decide +kernel
theorem dX13_signs_25 : decode cX13_signs 25 = .ok (.iconst (-1), 1) := by decide +kernel
theorem dX13_signs_26 : decode cX13_signs 26 = .ok (.ireturn, 1) := by decide +kernel
theorem dX13_replay_0 : decode cX13_replay 0 = .ok (.aload_n 0, 1) := by decide +kernel
theorem dX13_replay_1 : decode cX13_replay 1 = .ok (.iconst 0, 1) := by decide +kernel
theorem dX13_replay_2 : decode cX13_replay 2 = .ok (.putfield 1, 3) := by decide +kernel
theorem dX13_replay_5 : decode cX13_replay 5 = .ok (.aload_n 0, 1) := by decide +kernel
theorem dX13_replay_6 : decode cX13_replay 6 = .ok (.iload_n 1, 1) := by decide +kernel
theorem dX13_replay_7 : decode cX13_replay 7 = .ok (.invokevirtual 286, 3) := by decide +kernel
theorem dX13_replay_10 : decode cX13_replay 10 = .ok (.ifCond .eq 11, 3) := by decide +kernel
theorem dX13_replay_13 : decode cX13_replay 13 = .ok (.aload_n 0, 1) := by decide +kernel
theorem dX13_replay_14 : decode cX13_replay 14 = .ok (.iload_n 2, 1) := by decide +kernel
theorem dX13_replay_15 : decode cX13_replay 15 = .ok (.invokevirtual 279, 3) := by decide +kernel
theorem dX13_replay_18 : decode cX13_replay 18 = .ok (.ifCond .ne 9, 3) := by decide +kernel
theorem dX13_replay_21 : decode cX13_replay 21 = .ok (.aload_n 0, 1) := by decide +kernel
theorem dX13_replay_22 : decode cX13_replay 22 = .ok (.iconst 1, 1) := by decide +kernel
theorem dX13_replay_23 : decode cX13_replay 23 = .ok (.invokevirtual 121, 3) := by decide +kernel
theorem dX13_replay_26 : decode cX13_replay 26 = .ok (.ireturn, 1) := by decide +kernel
theorem dX13_replay_27 : decode cX13_replay 27 = .ok (.iload_n 3, 1) := by decide +kernel
theorem dX13_replay_28 : decode cX13_replay 28 = .ok (.iconst 0, 1) := by decide +kernel
theorem dX13_replay_29 : decode cX13_replay 29 = .ok (.iconst 3, 1) := by decide +kernel
theorem dX13_replay_30 : decode cX13_replay 30 = .ok (.invokestatic 125, 3) := by decide +kernel
theorem dX13_replay_33 : decode cX13_replay 33 = .ok (.ifCond .ne 9, 3) := by decide +kernel
theorem dX13_replay_36 : decode cX13_replay 36 = .ok (.aload_n 0, 1) := by decide +kernel
theorem dX13_replay_37 : decode cX13_replay 37 = .ok (.iconst 2, 1) := by decide +kernel
theorem dX13_replay_38 : decode cX13_replay 38 = .ok (.invokevirtual 121, 3) := by decide +kernel
theorem dX13_replay_41 : decode cX13_replay 41 = .ok (.ireturn, 1) := by decide +kernel
theorem dX13_replay_42 : decode cX13_replay 42 = .ok (.aload_n 0, 1) := by decide +kernel
theorem dX13_replay_43 : decode cX13_replay 43 = .ok (.getfield 34, 3) := by decide +kernel
theorem dX13_replay_46 : decode cX13_replay 46 = .ok (.iload_n 1, 1) := by decide +kernel
theorem dX13_replay_47 : decode cX13_replay 47 = .ok (.aaload, 1) := by decide +kernel
theorem dX13_replay_48 : decode cX13_replay 48 = .ok (.astore 4, 2) := by decide +kernel
theorem dX13_replay_50 : decode cX13_replay 50 = .ok (.aload_n 0, 1) := by decide +kernel
theorem dX13_replay_51 : decode cX13_replay 51 = .ok (.getfield 54, 3) := by decide +kernel
theorem dX13_replay_54 : decode cX13_replay 54 = .ok (.aload 4, 2) := by decide +kernel
theorem dX13_replay_56 : decode cX13_replay 56 = .ok (.getfield 361, 3) := by decide +kernel
theorem dX13_replay_59 : decode cX13_replay 59 = .ok (.aload 4, 2) := by decide +kernel
theorem dX13_replay_61 : decode cX13_replay 61 = .ok (.getfield 369, 3) := by decide +kernel
theorem dX13_replay_64 : decode cX13_replay 64 = .ok (.aload 4, 2) := by decide +kernel
theorem dX13_replay_66 : decode cX13_replay 66 = .ok (.getfield 415, 3) := by decide +kernel
theorem dX13_replay_69 : decode cX13_replay 69 = .ok (.aload 4, 2) := by decide +kernel
theorem dX13_replay_71 : decode cX13_replay 71 = .ok (.getfield 333, 3) := by decide +kernel
theorem dX13_replay_74 : decode cX13_replay 74 = .ok (.iload_n 2, 1) := by decide +kernel
theorem dX13_replay_75 : decode cX13_replay 75 = .ok (.invokevirtual 282, 3) := by decide +kernel
theorem dX13_replay_78 : decode cX13_replay 78 = .ok (.iconst 0, 1) := by decide +kernel
theorem dX13_replay_79 : decode cX13_replay 79 = .ok (.istore 5, 2) := by decide +kernel
theorem dX13_replay_81 : decode cX13_replay 81 = .ok (.iload 5, 2) := by decide +kernel
theorem dX13_replay_83 : decode cX13_replay 83 = .ok (.aload_n 0, 1) := by decide +kernel
theorem dX13_replay_84 : decode cX13_replay 84 = .ok (.getfield 100, 3) := by decide +kernel
theorem dX13_replay_87 : decode cX13_replay 87 = .ok (.if_icmp .ge 19, 3) := by decide +kernel
theorem dX13_replay_90 : decode cX13_replay 90 = .ok (.aload_n 0, 1) := by decide +kernel
theorem dX13_replay_91 : decode cX13_replay 91 = .ok (.aload_n 0, 1) := by decide +kernel
theorem dX13_replay_92 : decode cX13_replay 92 = .ok (.getfield 54, 3) := by decide +kernel
theorem dX13_replay_95 : decode cX13_replay 95 = .ok (.iload 5, 2) := by decide +kernel
theorem dX13_replay_97 : decode cX13_replay 97 = .ok (.invokevirtual 375, 3) := by decide +kernel
theorem dX13_replay_100 : decode cX13_replay 100 = .ok (.iinc 5 1, 3) := by decide +kernel
theorem dX13_replay_103 : decode cX13_replay 103 = .ok (.goto (-22), 3) := by decide +kernel
theorem dX13_replay_106 : decode cX13_replay 106 = .ok (.aload_n 0, 1) := by decide +kernel
theorem dX13_replay_107 : decode cX13_replay 107 = .ok (.iload_n 3, 1) := by decide +kernel
theorem dX13_replay_108 : decode cX13_replay 108 = .ok (.ifCond .ne 14, 3) := by decide +kernel
theorem dX13_replay_111 : decode cX13_replay 111 = .ok (.aload_n 0, 1) := by decide +kernel
theorem dX13_replay_112 : decode cX13_replay 112 = .ok (.aload_n 0, 1) := by decide +kernel
theorem dX13_replay_113 : decode cX13_replay 113 = .ok (.getfield 54, 3) := by decide +kernel
theorem dX13_replay_116 : decode cX13_replay 116 = .ok (.invokevirtual 391, 3) := by decide +kernel
theorem dX13_replay_119 : decode cX13_replay 119 = .ok (.goto 46, 3) := by decide +kernel
theorem dX13_replay_122 : decode cX13_replay 122 = .ok (.iload_n 3, 1) := by decide +kernel
theorem dX13_replay_123 : decode cX13_replay 123 = .ok (.iconst 1, 1) := by decide +kernel
theorem dX13_replay_124 : decode cX13_replay 124 = .ok (.if_icmp .ne 14, 3) := by decide +kernel
theorem dX13_replay_127 : decode cX13_replay 127 = .ok (.aload_n 0, 1) := by decide +kernel
theorem dX13_replay_128 : decode cX13_replay 128 = .ok (.getfield 54, 3) := by decide +kernel
theorem dX13_replay_131 : decode cX13_replay 131 = .ok (.iconst 0, 1) := by decide +kernel
theorem dX13_replay_132 : decode cX13_replay 132 = .ok (.invokevirtual 324, 3) := by decide +kernel
theorem dX13_replay_135 : decode cX13_replay 135 = .ok (.goto 30, 3) := by decide +kernel
theorem dX13_replay_138 : decode cX13_replay 138 = .ok (.iload_n 3, 1) := by decide +kernel
theorem dX13_replay_139 : decode cX13_replay 139 = .ok (.iconst 2, 1) := by decide +kernel
theorem dX13_replay_140 : decode cX13_replay 140 = .ok (.if_icmp .ne 13, 3) := by decide +kernel
theorem dX13_replay_143 : decode cX13_replay 143 = .ok (.aload_n 0, 1) := by decide +kernel
theorem dX13_replay_144 : decode cX13_replay 144 = .ok (.getfield 54, 3) := by decide +kernel
theorem dX13_replay_147 : decode cX13_replay 147 = .ok (.getfield 289, 3) := by decide +kernel
theorem dX13_replay_150 : decode cX13_replay 150 = .ok (.goto 15, 3) := by decide +kernel
theorem dX13_replay_153 : decode cX13_replay 153 = .ok (.aload_n 0, 1) := by decide +kernel
theorem dX13_replay_154 : decode cX13_replay 154 = .ok (.getfield 54, 3) := by decide +kernel
theorem dX13_replay_157 : decode cX13_replay 157 = .ok (.getfield 335, 3) := by decide +kernel
theorem dX13_replay_160 : decode cX13_replay 160 = .ok (.aload_n 0, 1) := by decide +kernel
theorem dX13_replay_161 : decode cX13_replay 161 = .ok (.getfield 91, 3) := by decide +kernel
theorem dX13_replay_164 : decode cX13_replay 164 = .ok (.iaload, 1) := by decide +kernel
theorem dX13_replay_165 : decode cX13_replay 165 = .ok (.invokevirtual 129, 3) := by decide +kernel
theorem dX13_replay_168 : decode cX13_replay 168 = .ok (.ireturn, 1) := by decide +kernel
theorem dX13_count_0 : decode cX13_count 0 = .ok (.aload_n 0, 1) := by decide +kernel
theorem dX13_count_1 : decode cX13_count 1 = .ok (.iconst 0, 1) := by decide +kernel
theorem dX13_count_2 : decode cX13_count 2 = .ok (.putfield 1, 3) := by decide +kernel
theorem dX13_count_5 : decode cX13_count 5 = .ok (.iload_n 1, 1) := by decide +kernel
theorem dX13_count_6 : decode cX13_count 6 = .ok (.tableswitch 77 0 6 #[42, 47, 52, 57, 62, 67, 72], 42) := by decide +kernel
theorem dX13_count_48 : decode cX13_count 48 = .ok (.aload_n 0, 1) := by decide +kernel
theorem dX13_count_49 : decode cX13_count 49 = .ok (.getfield 91, 3) := by decide +kernel
theorem dX13_count_52 : decode cX13_count 52 = .ok (.ireturn, 1) := by decide +kernel
theorem dX13_count_53 : decode cX13_count 53 = .ok (.aload_n 0, 1) := by decide +kernel
theorem dX13_count_54 : decode cX13_count 54 = .ok (.getfield 94, 3) := by decide +kernel
theorem dX13_count_57 : decode cX13_count 57 = .ok (.ireturn, 1) := by decide +kernel
theorem dX13_count_58 : decode cX13_count 58 = .ok (.aload_n 0, 1) := by decide +kernel
theorem dX13_count_59 : decode cX13_count 59 = .ok (.getfield 227, 3) := by decide +kernel
theorem dX13_count_62 : decode cX13_count 62 = .ok (.ireturn, 1) := by decide +kernel
theorem dX13_count_63 : decode cX13_count 63 = .ok (.aload_n 0, 1) := by decide +kernel
theorem dX13_count_64 : decode cX13_count 64 = .ok (.getfield 250, 3) := by decide +kernel
theorem dX13_count_67 : decode cX13_count 67 = .ok (.ireturn, 1) := by decide +kernel
theorem dX13_count_68 : decode cX13_count 68 = .ok (.aload_n 0, 1) := by decide +kernel
theorem dX13_count_69 : decode cX13_count 69 = .ok (.getfield 100, 3) := by decide +kernel
theorem dX13_count_72 : decode cX13_count 72 = .ok (.ireturn, 1) := by decide +kernel
theorem dX13_count_73 : decode cX13_count 73 = .ok (.aload_n 0, 1) := by decide +kernel
theorem dX13_count_74 : decode cX13_count 74 = .ok (.invokevirtual 412, 3) := by decide +kernel
theorem dX13_count_77 : decode cX13_count 77 = .ok (.ireturn, 1) := by decide +kernel
theorem dX13_count_78 : decode cX13_count 78 = .ok (.aload_n 0, 1) := by decide +kernel
theorem dX13_count_79 : decode cX13_count 79 = .ok (.getfield 221, 3) := by decide +kernel
theorem dX13_count_82 : decode cX13_count 82 = .ok (.ireturn, 1) := by decide +kernel
theorem dX13_count_83 : decode cX13_count 83 = .ok (.iconst (-1), 1) := by decide +kernel
theorem dX13_count_84 : decode cX13_count 84 = .ok (.ireturn, 1) := by decide +kernel
theorem dX13_trouble_0 : decode cX13_trouble 0 = .ok (.aload_n 0, 1) := by decide +kernel
theorem dX13_trouble_1 : decode cX13_trouble 1 = .ok (.iconst 0, 1) := by decide +kernel
theorem dX13_trouble_2 : decode cX13_trouble 2 = .ok (.putfield 1, 3) := by decide +kernel
theorem dX13_trouble_5 : decode cX13_trouble 5 = .ok (.aload_n 0, 1) := by decide +kernel
theorem dX13_trouble_6 : decode cX13_trouble 6 = .ok (.getfield 7, 3) := by decide +kernel
theorem dX13_trouble_9 : decode cX13_trouble 9 = .ok (.ireturn, 1) := by decide +kernel
end
section
theorem dJ6_compare_7cf53_0 : decode cJ6_compare_7cf53 0 = .ok (.iload_n 0, 1) := by decide +kernel
theorem dJ6_compare_7cf53_1 : decode cJ6_compare_7cf53 1 = .ok (.iload_n 1, 1) := by decide +kernel
theorem dJ6_compare_7cf53_2 : decode cJ6_compare_7cf53 2 = .ok (.if_icmp .ge 7, 3) := by decide +kernel
theorem dJ6_compare_7cf53_5 : decode cJ6_compare_7cf53 5 = .ok (.iconst (-1), 1) := by decide +kernel
theorem dJ6_compare_7cf53_6 : decode cJ6_compare_7cf53 6 = .ok (.goto 13, 3) := by decide +kernel
theorem dJ6_compare_7cf53_9 : decode cJ6_compare_7cf53 9 = .ok (.iload_n 0, 1) := by decide +kernel
theorem dJ6_compare_7cf53_10 : decode cJ6_compare_7cf53 10 = .ok (.iload_n 1, 1) := by decide +kernel
theorem dJ6_compare_7cf53_11 : decode cJ6_compare_7cf53 11 = .ok (.if_icmp .ne 7, 3) := by decide +kernel
theorem dJ6_compare_7cf53_14 : decode cJ6_compare_7cf53 14 = .ok (.iconst 0, 1) := by decide +kernel
theorem dJ6_compare_7cf53_15 : decode cJ6_compare_7cf53 15 = .ok (.goto 4, 3) := by decide +kernel
theorem dJ6_compare_7cf53_18 : decode cJ6_compare_7cf53 18 = .ok (.iconst 1, 1) := by decide +kernel
theorem dJ6_compare_7cf53_19 : decode cJ6_compare_7cf53 19 = .ok (.ireturn, 1) := by decide +kernel
theorem dJ9_max_7cf53_0 : decode cJ9_max_7cf53 0 = .ok (.iload_n 0, 1) := by decide +kernel
theorem dJ9_max_7cf53_1 : decode cJ9_max_7cf53 1 = .ok (.iload_n 1, 1) := by decide +kernel
theorem dJ9_max_7cf53_2 : decode cJ9_max_7cf53 2 = .ok (.if_icmp .lt 7, 3) := by decide +kernel
theorem dJ9_max_7cf53_5 : decode cJ9_max_7cf53 5 = .ok (.iload_n 0, 1) := by decide +kernel
theorem dJ9_max_7cf53_6 : decode cJ9_max_7cf53 6 = .ok (.goto 4, 3) := by decide +kernel
theorem dJ9_max_7cf53_9 : decode cJ9_max_7cf53 9 = .ok (.iload_n 1, 1) := by decide +kernel
theorem dJ9_max_7cf53_10 : decode cJ9_max_7cf53 10 = .ok (.ireturn, 1) := by decide +kernel
theorem dJ9_min_7cf53_0 : decode cJ9_min_7cf53 0 = .ok (.iload_n 0, 1) := by decide +kernel
theorem dJ9_min_7cf53_1 : decode cJ9_min_7cf53 1 = .ok (.iload_n 1, 1) := by decide +kernel
theorem dJ9_min_7cf53_2 : decode cJ9_min_7cf53 2 = .ok (.if_icmp .gt 7, 3) := by decide +kernel
theorem dJ9_min_7cf53_5 : decode cJ9_min_7cf53 5 = .ok (.iload_n 0, 1) := by decide +kernel
theorem dJ9_min_7cf53_6 : decode cJ9_min_7cf53 6 = .ok (.goto 4, 3) := by decide +kernel
theorem dJ9_min_7cf53_9 : decode cJ9_min_7cf53 9 = .ok (.iload_n 1, 1) := by decide +kernel
theorem dJ9_min_7cf53_10 : decode cJ9_min_7cf53 10 = .ok (.ireturn, 1) := by decide +kernel
theorem dJ0_length_8abf5_0 : decode cJ0_length_8abf5 0 = .ok (.aload_n 0, 1) := by decide +kernel
theorem dJ0_length_8abf5_1 : decode cJ0_length_8abf5 1 = .ok (.getfield 9, 3) := by decide +kernel
theorem dJ0_length_8abf5_4 : decode cJ0_length_8abf5 4 = .ok (.arraylength, 1) := by decide +kernel
theorem dJ0_length_8abf5_5 : decode cJ0_length_8abf5 5 = .ok (.aload_n 0, 1) := by decide +kernel
theorem dJ0_length_8abf5_6 : decode cJ0_length_8abf5 6 = .ok (.invokevirtual 335, 3) := by decide +kernel
theorem dJ0_length_8abf5_9 : decode cJ0_length_8abf5 9 = .ok (.ishr, 1) := by decide +kernel
theorem dJ0_length_8abf5_10 : decode cJ0_length_8abf5 10 = .ok (.ireturn, 1) := by decide +kernel
theorem dJ0_charAt_5068e_0 : decode cJ0_charAt_5068e 0 = .ok (.aload_n 0, 1) := by decide +kernel
theorem dJ0_charAt_5068e_1 : decode cJ0_charAt_5068e 1 = .ok (.invokevirtual 492, 3) := by decide +kernel
theorem dJ0_charAt_5068e_4 : decode cJ0_charAt_5068e 4 = .ok (.ifCond .eq 12, 3) := by decide +kernel
theorem dJ0_charAt_5068e_7 : decode cJ0_charAt_5068e 7 = .ok (.aload_n 0, 1) := by decide +kernel
theorem dJ0_charAt_5068e_8 : decode cJ0_charAt_5068e 8 = .ok (.getfield 9, 3) := by decide +kernel
theorem dJ0_charAt_5068e_11 : decode cJ0_charAt_5068e 11 = .ok (.iload_n 1, 1) := by decide +kernel
theorem dJ0_charAt_5068e_12 : decode cJ0_charAt_5068e 12 = .ok (.invokestatic 495, 3) := by decide +kernel
theorem dJ0_charAt_5068e_15 : decode cJ0_charAt_5068e 15 = .ok (.ireturn, 1) := by decide +kernel
theorem dJ0_charAt_5068e_16 : decode cJ0_charAt_5068e 16 = .ok (.aload_n 0, 1) := by decide +kernel
theorem dJ0_charAt_5068e_17 : decode cJ0_charAt_5068e 17 = .ok (.getfield 9, 3) := by decide +kernel
theorem dJ0_charAt_5068e_20 : decode cJ0_charAt_5068e 20 = .ok (.iload_n 1, 1) := by decide +kernel
theorem dJ0_charAt_5068e_21 : decode cJ0_charAt_5068e 21 = .ok (.invokestatic 498, 3) := by decide +kernel
theorem dJ0_charAt_5068e_24 : decode cJ0_charAt_5068e 24 = .ok (.ireturn, 1) := by decide +kernel
theorem dJ0_coder_7d493_0 : decode cJ0_coder_7d493 0 = .ok (.getstatic 38, 3) := by decide +kernel
theorem dJ0_coder_7d493_3 : decode cJ0_coder_7d493 3 = .ok (.ifCond .eq 10, 3) := by decide +kernel
theorem dJ0_coder_7d493_6 : decode cJ0_coder_7d493 6 = .ok (.aload_n 0, 1) := by decide +kernel
theorem dJ0_coder_7d493_7 : decode cJ0_coder_7d493 7 = .ok (.getfield 15, 3) := by decide +kernel
theorem dJ0_coder_7d493_10 : decode cJ0_coder_7d493 10 = .ok (.goto 4, 3) := by decide +kernel
theorem dJ0_coder_7d493_13 : decode cJ0_coder_7d493 13 = .ok (.iconst 1, 1) := by decide +kernel
theorem dJ0_coder_7d493_14 : decode cJ0_coder_7d493 14 = .ok (.ireturn, 1) := by decide +kernel
theorem dJ0_isLatin1_aae02_0 : decode cJ0_isLatin1_aae02 0 = .ok (.getstatic 38, 3) := by decide +kernel
theorem dJ0_isLatin1_aae02_3 : decode cJ0_isLatin1_aae02 3 = .ok (.ifCond .eq 14, 3) := by decide +kernel
theorem dJ0_isLatin1_aae02_6 : decode cJ0_isLatin1_aae02 6 = .ok (.aload_n 0, 1) := by decide +kernel
theorem dJ0_isLatin1_aae02_7 : decode cJ0_isLatin1_aae02 7 = .ok (.getfield 15, 3) := by decide +kernel
theorem dJ0_isLatin1_aae02_10 : decode cJ0_isLatin1_aae02 10 = .ok (.ifCond .ne 7, 3) := by decide +kernel
theorem dJ0_isLatin1_aae02_13 : decode cJ0_isLatin1_aae02 13 = .ok (.iconst 1, 1) := by decide +kernel
theorem dJ0_isLatin1_aae02_14 : decode cJ0_isLatin1_aae02 14 = .ok (.goto 4, 3) := by decide +kernel
theorem dJ0_isLatin1_aae02_17 : decode cJ0_isLatin1_aae02 17 = .ok (.iconst 0, 1) := by decide +kernel
theorem dJ0_isLatin1_aae02_18 : decode cJ0_isLatin1_aae02 18 = .ok (.ireturn, 1) := by decide +kernel
theorem dJ0_checkIndex_df160_0 : decode cJ0_checkIndex_df160 0 = .ok (.iload_n 0, 1) := by decide +kernel
theorem dJ0_checkIndex_df160_1 : decode cJ0_checkIndex_df160 1 = .ok (.iload_n 1, 1) := by decide +kernel
theorem dJ0_checkIndex_df160_2 : decode cJ0_checkIndex_df160 2 = .ok (.getstatic 1053, 3) := by decide +kernel
theorem dJ0_checkIndex_df160_5 : decode cJ0_checkIndex_df160 5 = .ok (.invokestatic 1059, 3) := by decide +kernel
theorem dJ0_checkIndex_df160_8 : decode cJ0_checkIndex_df160 8 = .ok (.pop, 1) := by decide +kernel
theorem dJ0_checkIndex_df160_9 : decode cJ0_checkIndex_df160 9 = .ok (.return_, 1) := by decide +kernel
theorem dJ1_charAt_3b067_0 : decode cJ1_charAt_3b067 0 = .ok (.iload_n 1, 1) := by decide +kernel
theorem dJ1_charAt_3b067_1 : decode cJ1_charAt_3b067 1 = .ok (.aload_n 0, 1) := by decide +kernel
theorem dJ1_charAt_3b067_2 : decode cJ1_charAt_3b067 2 = .ok (.arraylength, 1) := by decide +kernel
theorem dJ1_charAt_3b067_3 : decode cJ1_charAt_3b067 3 = .ok (.invokestatic 9, 3) := by decide +kernel
theorem dJ1_charAt_3b067_6 : decode cJ1_charAt_3b067 6 = .ok (.aload_n 0, 1) := by decide +kernel
theorem dJ1_charAt_3b067_7 : decode cJ1_charAt_3b067 7 = .ok (.iload_n 1, 1) := by decide +kernel
theorem dJ1_charAt_3b067_8 : decode cJ1_charAt_3b067 8 = .ok (.baload, 1) := by decide +kernel
theorem dJ1_charAt_3b067_9 : decode cJ1_charAt_3b067 9 = .ok (.sipush 255, 3) := by decide +kernel
theorem dJ1_charAt_3b067_12 : decode cJ1_charAt_3b067 12 = .ok (.iand, 1) := by decide +kernel
theorem dJ1_charAt_3b067_13 : decode cJ1_charAt_3b067 13 = .ok (.i2c, 1) := by decide +kernel
theorem dJ1_charAt_3b067_14 : decode cJ1_charAt_3b067 14 = .ok (.ireturn, 1) := by decide +kernel
theorem dJ2_getChar_3b067_0 : decode cJ2_getChar_3b067 0 = .ok (.getstatic 44, 3) := by decide +kernel
theorem dJ2_getChar_3b067_3 : decode cJ2_getChar_3b067 3 = .ok (.ifCond .ne 25, 3) := by decide +kernel
theorem dJ2_getChar_3b067_6 : decode cJ2_getChar_3b067 6 = .ok (.iload_n 1, 1) := by decide +kernel
theorem dJ2_getChar_3b067_7 : decode cJ2_getChar_3b067 7 = .ok (.ifCond .lt 11, 3) := by decide +kernel
theorem dJ2_getChar_3b067_10 : decode cJ2_getChar_3b067 10 = .ok (.iload_n 1, 1) := by decide +kernel
theorem dJ2_getChar_3b067_11 : decode cJ2_getChar_3b067 11 = .ok (.aload_n 0, 1) := by decide +kernel
theorem dJ2_getChar_3b067_12 : decode cJ2_getChar_3b067 12 = .ok (.invokestatic 48, 3) := by decide +kernel
theorem dJ2_getChar_3b067_15 : decode cJ2_getChar_3b067 15 = .ok (.if_icmp .lt 13, 3) := by decide +kernel
theorem dJ2_getChar_3b067_18 : decode cJ2_getChar_3b067 18 = .ok (.new 52, 3) := by decide +kernel
theorem dJ2_getChar_3b067_21 : decode cJ2_getChar_3b067 21 = .ok (.dup, 1) := by decide +kernel
theorem dJ2_getChar_3b067_22 : decode cJ2_getChar_3b067 22 = .ok (.ldc 54, 2) := by decide +kernel
theorem dJ2_getChar_3b067_24 : decode cJ2_getChar_3b067 24 = .ok (.invokespecial 56, 3) := by decide +kernel
theorem dJ2_getChar_3b067_27 : decode cJ2_getChar_3b067 27 = .ok (.athrow, 1) := by decide +kernel
theorem dJ2_getChar_3b067_28 : decode cJ2_getChar_3b067 28 = .ok (.iload_n 1, 1) := by decide +kernel
theorem dJ2_getChar_3b067_29 : decode cJ2_getChar_3b067 29 = .ok (.iconst 1, 1) := by decide +kernel
theorem dJ2_getChar_3b067_30 : decode cJ2_getChar_3b067 30 = .ok (.ishl, 1) := by decide +kernel
theorem dJ2_getChar_3b067_31 : decode cJ2_getChar_3b067 31 = .ok (.istore_n 1, 1) := by decide +kernel
theorem dJ2_getChar_3b067_32 : decode cJ2_getChar_3b067 32 = .ok (.aload_n 0, 1) := by decide +kernel
theorem dJ2_getChar_3b067_33 : decode cJ2_getChar_3b067 33 = .ok (.iload_n 1, 1) := by decide +kernel
theorem dJ2_getChar_3b067_34 : decode cJ2_getChar_3b067 34 = .ok (.iinc 1 1, 3) := by decide +kernel
theorem dJ2_getChar_3b067_37 : decode cJ2_getChar_3b067 37 = .ok (.baload, 1) := by decide +kernel
theorem dJ2_getChar_3b067_38 : decode cJ2_getChar_3b067 38 = .ok (.sipush 255, 3) := by decide +kernel
theorem dJ2_getChar_3b067_41 : decode cJ2_getChar_3b067 41 = .ok (.iand, 1) := by decide +kernel
theorem dJ2_getChar_3b067_42 : decode cJ2_getChar_3b067 42 = .ok (.getstatic 59, 3) := by decide +kernel
theorem dJ2_getChar_3b067_45 : decode cJ2_getChar_3b067 45 = .ok (.ishl, 1) := by decide +kernel
theorem dJ2_getChar_3b067_46 : decode cJ2_getChar_3b067 46 = .ok (.aload_n 0, 1) := by decide +kernel
theorem dJ2_getChar_3b067_47 : decode cJ2_getChar_3b067 47 = .ok (.iload_n 1, 1) := by decide +kernel
theorem dJ2_getChar_3b067_48 : decode cJ2_getChar_3b067 48 = .ok (.baload, 1) := by decide +kernel
theorem dJ2_getChar_3b067_49 : decode cJ2_getChar_3b067 49 = .ok (.sipush 255, 3) := by decide +kernel
theorem dJ2_getChar_3b067_52 : decode cJ2_getChar_3b067 52 = .ok (.iand, 1) := by decide +kernel
theorem dJ2_getChar_3b067_53 : decode cJ2_getChar_3b067 53 = .ok (.getstatic 63, 3) := by decide +kernel
theorem dJ2_getChar_3b067_56 : decode cJ2_getChar_3b067 56 = .ok (.ishl, 1) := by decide +kernel
theorem dJ2_getChar_3b067_57 : decode cJ2_getChar_3b067 57 = .ok (.ior, 1) := by decide +kernel
theorem dJ2_getChar_3b067_58 : decode cJ2_getChar_3b067 58 = .ok (.i2c, 1) := by decide +kernel
theorem dJ2_getChar_3b067_59 : decode cJ2_getChar_3b067 59 = .ok (.ireturn, 1) := by decide +kernel
theorem dJ2_length_9d52b_0 : decode cJ2_length_9d52b 0 = .ok (.aload_n 0, 1) := by decide +kernel
theorem dJ2_length_9d52b_1 : decode cJ2_length_9d52b 1 = .ok (.arraylength, 1) := by decide +kernel
theorem dJ2_length_9d52b_2 : decode cJ2_length_9d52b 2 = .ok (.iconst 1, 1) := by decide +kernel
theorem dJ2_length_9d52b_3 : decode cJ2_length_9d52b 3 = .ok (.ishr, 1) := by decide +kernel
theorem dJ2_length_9d52b_4 : decode cJ2_length_9d52b 4 = .ok (.ireturn, 1) := by decide +kernel
theorem dJ2_charAt_3b067_0 : decode cJ2_charAt_3b067 0 = .ok (.iload_n 1, 1) := by decide +kernel
theorem dJ2_charAt_3b067_1 : decode cJ2_charAt_3b067 1 = .ok (.aload_n 0, 1) := by decide +kernel
theorem dJ2_charAt_3b067_2 : decode cJ2_charAt_3b067 2 = .ok (.invokestatic 67, 3) := by decide +kernel
theorem dJ2_charAt_3b067_5 : decode cJ2_charAt_3b067 5 = .ok (.aload_n 0, 1) := by decide +kernel
theorem dJ2_charAt_3b067_6 : decode cJ2_charAt_3b067 6 = .ok (.iload_n 1, 1) := by decide +kernel
theorem dJ2_charAt_3b067_7 : decode cJ2_charAt_3b067 7 = .ok (.invokestatic 71, 3) := by decide +kernel
theorem dJ2_charAt_3b067_10 : decode cJ2_charAt_3b067 10 = .ok (.ireturn, 1) := by decide +kernel
theorem dJ2_checkIndex_2214a_0 : decode cJ2_checkIndex_2214a 0 = .ok (.iload_n 0, 1) := by decide +kernel
theorem dJ2_checkIndex_2214a_1 : decode cJ2_checkIndex_2214a 1 = .ok (.aload_n 1, 1) := by decide +kernel
theorem dJ2_checkIndex_2214a_2 : decode cJ2_checkIndex_2214a 2 = .ok (.invokestatic 48, 3) := by decide +kernel
theorem dJ2_checkIndex_2214a_5 : decode cJ2_checkIndex_2214a 5 = .ok (.invokestatic 414, 3) := by decide +kernel
theorem dJ2_checkIndex_2214a_8 : decode cJ2_checkIndex_2214a 8 = .ok (.return_, 1) := by decide +kernel
theorem dJ7_fill_53178_0 : decode cJ7_fill_53178 0 = .ok (.iconst 0, 1) := by decide +kernel
theorem dJ7_fill_53178_1 : decode cJ7_fill_53178 1 = .ok (.istore_n 2, 1) := by decide +kernel
theorem dJ7_fill_53178_2 : decode cJ7_fill_53178 2 = .ok (.aload_n 0, 1) := by decide +kernel
theorem dJ7_fill_53178_3 : decode cJ7_fill_53178 3 = .ok (.arraylength, 1) := by decide +kernel
theorem dJ7_fill_53178_4 : decode cJ7_fill_53178 4 = .ok (.istore_n 3, 1) := by decide +kernel
theorem dJ7_fill_53178_5 : decode cJ7_fill_53178 5 = .ok (.iload_n 2, 1) := by decide +kernel
theorem dJ7_fill_53178_6 : decode cJ7_fill_53178 6 = .ok (.iload_n 3, 1) := by decide +kernel
theorem dJ7_fill_53178_7 : decode cJ7_fill_53178 7 = .ok (.if_icmp .ge 13, 3) := by decide +kernel
theorem dJ7_fill_53178_10 : decode cJ7_fill_53178 10 = .ok (.aload_n 0, 1) := by decide +kernel
theorem dJ7_fill_53178_11 : decode cJ7_fill_53178 11 = .ok (.iload_n 2, 1) := by decide +kernel
theorem dJ7_fill_53178_12 : decode cJ7_fill_53178 12 = .ok (.iload_n 1, 1) := by decide +kernel
theorem dJ7_fill_53178_13 : decode cJ7_fill_53178 13 = .ok (.iastore, 1) := by decide +kernel
theorem dJ7_fill_53178_14 : decode cJ7_fill_53178 14 = .ok (.iinc 2 1, 3) := by decide +kernel
theorem dJ7_fill_53178_17 : decode cJ7_fill_53178 17 = .ok (.goto (-12), 3) := by decide +kernel
theorem dJ7_fill_53178_20 : decode cJ7_fill_53178 20 = .ok (.return_, 1) := by decide +kernel
theorem dJ7_copyOf_59c91_0 : decode cJ7_copyOf_59c91 0 = .ok (.iload_n 1, 1) := by decide +kernel
theorem dJ7_copyOf_59c91_1 : decode cJ7_copyOf_59c91 1 = .ok (.aload_n 0, 1) := by decide +kernel
theorem dJ7_copyOf_59c91_2 : decode cJ7_copyOf_59c91 2 = .ok (.arraylength, 1) := by decide +kernel
theorem dJ7_copyOf_59c91_3 : decode cJ7_copyOf_59c91 3 = .ok (.if_icmp .ne 11, 3) := by decide +kernel
theorem dJ7_copyOf_59c91_6 : decode cJ7_copyOf_59c91 6 = .ok (.aload_n 0, 1) := by decide +kernel
theorem dJ7_copyOf_59c91_7 : decode cJ7_copyOf_59c91 7 = .ok (.invokevirtual 316, 3) := by decide +kernel
theorem dJ7_copyOf_59c91_10 : decode cJ7_copyOf_59c91 10 = .ok (.checkcast 317, 3) := by decide +kernel
theorem dJ7_copyOf_59c91_13 : decode cJ7_copyOf_59c91 13 = .ok (.areturn, 1) := by decide +kernel
theorem dJ7_copyOf_59c91_14 : decode cJ7_copyOf_59c91 14 = .ok (.iload_n 1, 1) := by decide +kernel
theorem dJ7_copyOf_59c91_15 : decode cJ7_copyOf_59c91 15 = .ok (.newarray .int, 2) := by decide +kernel
theorem dJ7_copyOf_59c91_17 : decode cJ7_copyOf_59c91 17 = .ok (.astore_n 2, 1) := by decide +kernel
theorem dJ7_copyOf_59c91_18 : decode cJ7_copyOf_59c91 18 = .ok (.aload_n 0, 1) := by decide +kernel
theorem dJ7_copyOf_59c91_19 : decode cJ7_copyOf_59c91 19 = .ok (.iconst 0, 1) := by decide +kernel
theorem dJ7_copyOf_59c91_20 : decode cJ7_copyOf_59c91 20 = .ok (.aload_n 2, 1) := by decide +kernel
theorem dJ7_copyOf_59c91_21 : decode cJ7_copyOf_59c91 21 = .ok (.iconst 0, 1) := by decide +kernel
theorem dJ7_copyOf_59c91_22 : decode cJ7_copyOf_59c91 22 = .ok (.aload_n 0, 1) := by decide +kernel
theorem dJ7_copyOf_59c91_23 : decode cJ7_copyOf_59c91 23 = .ok (.arraylength, 1) := by decide +kernel
theorem dJ7_copyOf_59c91_24 : decode cJ7_copyOf_59c91 24 = .ok (.iload_n 1, 1) := by decide +kernel
theorem dJ7_copyOf_59c91_25 : decode cJ7_copyOf_59c91 25 = .ok (.invokestatic 304, 3) := by decide +kernel
theorem dJ7_copyOf_59c91_28 : decode cJ7_copyOf_59c91 28 = .ok (.invokestatic 150, 3) := by decide +kernel
theorem dJ7_copyOf_59c91_31 : decode cJ7_copyOf_59c91 31 = .ok (.aload_n 2, 1) := by decide +kernel
theorem dJ7_copyOf_59c91_32 : decode cJ7_copyOf_59c91 32 = .ok (.areturn, 1) := by decide +kernel
theorem dJ3_checkIndex_8e157_0 : decode cJ3_checkIndex_8e157 0 = .ok (.iload_n 0, 1) := by decide +kernel
theorem dJ3_checkIndex_8e157_1 : decode cJ3_checkIndex_8e157 1 = .ok (.ifCond .lt 8, 3) := by decide +kernel
theorem dJ3_checkIndex_8e157_4 : decode cJ3_checkIndex_8e157 4 = .ok (.iload_n 0, 1) := by decide +kernel
theorem dJ3_checkIndex_8e157_5 : decode cJ3_checkIndex_8e157 5 = .ok (.iload_n 1, 1) := by decide +kernel
theorem dJ3_checkIndex_8e157_6 : decode cJ3_checkIndex_8e157 6 = .ok (.if_icmp .lt 10, 3) := by decide +kernel
theorem dJ3_checkIndex_8e157_9 : decode cJ3_checkIndex_8e157 9 = .ok (.aload_n 2, 1) := by decide +kernel
theorem dJ3_checkIndex_8e157_10 : decode cJ3_checkIndex_8e157 10 = .ok (.iload_n 0, 1) := by decide +kernel
theorem dJ3_checkIndex_8e157_11 : decode cJ3_checkIndex_8e157 11 = .ok (.iload_n 1, 1) := by decide +kernel
theorem dJ3_checkIndex_8e157_12 : decode cJ3_checkIndex_8e157 12 = .ok (.invokestatic 95, 3) := by decide +kernel
theorem dJ3_checkIndex_8e157_15 : decode cJ3_checkIndex_8e157 15 = .ok (.athrow, 1) := by decide +kernel
theorem dJ3_checkIndex_8e157_16 : decode cJ3_checkIndex_8e157 16 = .ok (.iload_n 0, 1) := by decide +kernel
theorem dJ3_checkIndex_8e157_17 : decode cJ3_checkIndex_8e157 17 = .ok (.ireturn, 1) := by decide +kernel
theorem dL_law_0 : decode cL_law 0 = .ok (.new 7, 3) := by decide +kernel
theorem dL_law_3 : decode cL_law 3 = .ok (.dup, 1) := by decide +kernel
theorem dL_law_4 : decode cL_law 4 = .ok (.invokespecial 9, 3) := by decide +kernel
theorem dL_law_7 : decode cL_law 7 = .ok (.astore_n 1, 1) := by decide +kernel
theorem dL_law_8 : decode cL_law 8 = .ok (.new 10, 3) := by decide +kernel
theorem dL_law_11 : decode cL_law 11 = .ok (.dup, 1) := by decide +kernel
theorem dL_law_12 : decode cL_law 12 = .ok (.invokespecial 12, 3) := by decide +kernel
theorem dL_law_15 : decode cL_law 15 = .ok (.astore_n 2, 1) := by decide +kernel
theorem dL_law_16 : decode cL_law 16 = .ok (.iconst 0, 1) := by decide +kernel
theorem dL_law_17 : decode cL_law 17 = .ok (.istore_n 3, 1) := by decide +kernel
theorem dL_law_18 : decode cL_law 18 = .ok (.iload_n 3, 1) := by decide +kernel
theorem dL_law_19 : decode cL_law 19 = .ok (.aload_n 0, 1) := by decide +kernel
theorem dL_law_20 : decode cL_law 20 = .ok (.arraylength, 1) := by decide +kernel
theorem dL_law_21 : decode cL_law 21 = .ok (.bipush 6, 2) := by decide +kernel
theorem dL_law_23 : decode cL_law 23 = .ok (.isub, 1) := by decide +kernel
theorem dL_law_24 : decode cL_law 24 = .ok (.if_icmp .gt 1065, 3) := by decide +kernel
theorem dL_law_27 : decode cL_law 27 = .ok (.aload_n 0, 1) := by decide +kernel
theorem dL_law_28 : decode cL_law 28 = .ok (.iload_n 3, 1) := by decide +kernel
theorem dL_law_29 : decode cL_law 29 = .ok (.iaload, 1) := by decide +kernel
theorem dL_law_30 : decode cL_law 30 = .ok (.bipush 31, 2) := by decide +kernel
theorem dL_law_32 : decode cL_law 32 = .ok (.iand, 1) := by decide +kernel
theorem dL_law_33 : decode cL_law 33 = .ok (.tableswitch 1050 0 28 #[131, 164, 207, 270, 293, 316, 329, 342, 405, 438, 481, 504, 527, 560, 603, 662, 685, 708, 741, 764, 797, 856, 879, 922, 935, 948, 981, 1014, 1037], 131) := by decide +kernel
theorem dL_law_164 : decode cL_law 164 = .ok (.aload_n 1, 1) := by decide +kernel
theorem dL_law_165 : decode cL_law 165 = .ok (.aload_n 0, 1) := by decide +kernel
theorem dL_law_166 : decode cL_law 166 = .ok (.iload_n 3, 1) := by decide +kernel
theorem dL_law_167 : decode cL_law 167 = .ok (.iconst 1, 1) := by decide +kernel
theorem dL_law_168 : decode cL_law 168 = .ok (.iadd, 1) := by decide +kernel
theorem dL_law_169 : decode cL_law 169 = .ok (.iaload, 1) := by decide +kernel
theorem dL_law_170 : decode cL_law 170 = .ok (.aload_n 0, 1) := by decide +kernel
theorem dL_law_171 : decode cL_law 171 = .ok (.iload_n 3, 1) := by decide +kernel
theorem dL_law_172 : decode cL_law 172 = .ok (.iconst 2, 1) := by decide +kernel
theorem dL_law_173 : decode cL_law 173 = .ok (.iadd, 1) := by decide +kernel
theorem dL_law_174 : decode cL_law 174 = .ok (.iaload, 1) := by decide +kernel
theorem dL_law_175 : decode cL_law 175 = .ok (.invokevirtual 13, 3) := by decide +kernel
theorem dL_law_178 : decode cL_law 178 = .ok (.aload_n 2, 1) := by decide +kernel
theorem dL_law_179 : decode cL_law 179 = .ok (.aload_n 0, 1) := by decide +kernel
theorem dL_law_180 : decode cL_law 180 = .ok (.iload_n 3, 1) := by decide +kernel
theorem dL_law_181 : decode cL_law 181 = .ok (.iconst 1, 1) := by decide +kernel
theorem dL_law_182 : decode cL_law 182 = .ok (.iadd, 1) := by decide +kernel
theorem dL_law_183 : decode cL_law 183 = .ok (.iaload, 1) := by decide +kernel
theorem dL_law_184 : decode cL_law 184 = .ok (.aload_n 0, 1) := by decide +kernel
theorem dL_law_185 : decode cL_law 185 = .ok (.iload_n 3, 1) := by decide +kernel
theorem dL_law_186 : decode cL_law 186 = .ok (.iconst 2, 1) := by decide +kernel
theorem dL_law_187 : decode cL_law 187 = .ok (.iadd, 1) := by decide +kernel
theorem dL_law_188 : decode cL_law 188 = .ok (.iaload, 1) := by decide +kernel
theorem dL_law_189 : decode cL_law 189 = .ok (.invokevirtual 17, 3) := by decide +kernel
theorem dL_law_192 : decode cL_law 192 = .ok (.if_icmp .eq 891, 3) := by decide +kernel
theorem dL_law_195 : decode cL_law 195 = .ok (.iconst 0, 1) := by decide +kernel
theorem dL_law_196 : decode cL_law 196 = .ok (.ireturn, 1) := by decide +kernel
theorem dL_law_197 : decode cL_law 197 = .ok (.aload_n 1, 1) := by decide +kernel
theorem dL_law_198 : decode cL_law 198 = .ok (.aload_n 0, 1) := by decide +kernel
theorem dL_law_199 : decode cL_law 199 = .ok (.iload_n 3, 1) := by decide +kernel
theorem dL_law_200 : decode cL_law 200 = .ok (.iconst 1, 1) := by decide +kernel
theorem dL_law_201 : decode cL_law 201 = .ok (.iadd, 1) := by decide +kernel
theorem dL_law_202 : decode cL_law 202 = .ok (.iaload, 1) := by decide +kernel
theorem dL_law_203 : decode cL_law 203 = .ok (.aload_n 0, 1) := by decide +kernel
theorem dL_law_204 : decode cL_law 204 = .ok (.iload_n 3, 1) := by decide +kernel
theorem dL_law_205 : decode cL_law 205 = .ok (.iconst 2, 1) := by decide +kernel
theorem dL_law_206 : decode cL_law 206 = .ok (.iadd, 1) := by decide +kernel
theorem dL_law_207 : decode cL_law 207 = .ok (.iaload, 1) := by decide +kernel
theorem dL_law_208 : decode cL_law 208 = .ok (.aload_n 0, 1) := by decide +kernel
theorem dL_law_209 : decode cL_law 209 = .ok (.iload_n 3, 1) := by decide +kernel
theorem dL_law_210 : decode cL_law 210 = .ok (.iconst 3, 1) := by decide +kernel
theorem dL_law_211 : decode cL_law 211 = .ok (.iadd, 1) := by decide +kernel
theorem dL_law_212 : decode cL_law 212 = .ok (.iaload, 1) := by decide +kernel
theorem dL_law_213 : decode cL_law 213 = .ok (.invokevirtual 18, 3) := by decide +kernel
theorem dL_law_216 : decode cL_law 216 = .ok (.aload_n 2, 1) := by decide +kernel
theorem dL_law_217 : decode cL_law 217 = .ok (.aload_n 0, 1) := by decide +kernel
theorem dL_law_218 : decode cL_law 218 = .ok (.iload_n 3, 1) := by decide +kernel
theorem dL_law_219 : decode cL_law 219 = .ok (.iconst 1, 1) := by decide +kernel
theorem dL_law_220 : decode cL_law 220 = .ok (.iadd, 1) := by decide +kernel
theorem dL_law_221 : decode cL_law 221 = .ok (.iaload, 1) := by decide +kernel
theorem dL_law_222 : decode cL_law 222 = .ok (.aload_n 0, 1) := by decide +kernel
theorem dL_law_223 : decode cL_law 223 = .ok (.iload_n 3, 1) := by decide +kernel
theorem dL_law_224 : decode cL_law 224 = .ok (.iconst 2, 1) := by decide +kernel
theorem dL_law_225 : decode cL_law 225 = .ok (.iadd, 1) := by decide +kernel
theorem dL_law_226 : decode cL_law 226 = .ok (.iaload, 1) := by decide +kernel
theorem dL_law_227 : decode cL_law 227 = .ok (.aload_n 0, 1) := by decide +kernel
theorem dL_law_228 : decode cL_law 228 = .ok (.iload_n 3, 1) := by decide +kernel
theorem dL_law_229 : decode cL_law 229 = .ok (.iconst 3, 1) := by decide +kernel
theorem dL_law_230 : decode cL_law 230 = .ok (.iadd, 1) := by decide +kernel
theorem dL_law_231 : decode cL_law 231 = .ok (.iaload, 1) := by decide +kernel
theorem dL_law_232 : decode cL_law 232 = .ok (.invokevirtual 22, 3) := by decide +kernel
theorem dL_law_235 : decode cL_law 235 = .ok (.if_icmp .eq 848, 3) := by decide +kernel
theorem dL_law_238 : decode cL_law 238 = .ok (.iconst 0, 1) := by decide +kernel
theorem dL_law_239 : decode cL_law 239 = .ok (.ireturn, 1) := by decide +kernel
theorem dL_law_240 : decode cL_law 240 = .ok (.aload_n 1, 1) := by decide +kernel
theorem dL_law_241 : decode cL_law 241 = .ok (.aload_n 0, 1) := by decide +kernel
theorem dL_law_242 : decode cL_law 242 = .ok (.iload_n 3, 1) := by decide +kernel
theorem dL_law_243 : decode cL_law 243 = .ok (.iconst 1, 1) := by decide +kernel
theorem dL_law_244 : decode cL_law 244 = .ok (.iadd, 1) := by decide +kernel
theorem dL_law_245 : decode cL_law 245 = .ok (.iaload, 1) := by decide +kernel
theorem dL_law_246 : decode cL_law 246 = .ok (.aload_n 0, 1) := by decide +kernel
theorem dL_law_247 : decode cL_law 247 = .ok (.iload_n 3, 1) := by decide +kernel
theorem dL_law_248 : decode cL_law 248 = .ok (.iconst 2, 1) := by decide +kernel
theorem dL_law_249 : decode cL_law 249 = .ok (.iadd, 1) := by decide +kernel
theorem dL_law_250 : decode cL_law 250 = .ok (.iaload, 1) := by decide +kernel
theorem dL_law_251 : decode cL_law 251 = .ok (.aload_n 0, 1) := by decide +kernel
theorem dL_law_252 : decode cL_law 252 = .ok (.iload_n 3, 1) := by decide +kernel
theorem dL_law_253 : decode cL_law 253 = .ok (.iconst 3, 1) := by decide +kernel
theorem dL_law_254 : decode cL_law 254 = .ok (.iadd, 1) := by decide +kernel
theorem dL_law_255 : decode cL_law 255 = .ok (.iaload, 1) := by decide +kernel
theorem dL_law_256 : decode cL_law 256 = .ok (.aload_n 0, 1) := by decide +kernel
theorem dL_law_257 : decode cL_law 257 = .ok (.iload_n 3, 1) := by decide +kernel
theorem dL_law_258 : decode cL_law 258 = .ok (.iconst 4, 1) := by decide +kernel
theorem dL_law_259 : decode cL_law 259 = .ok (.iadd, 1) := by decide +kernel
theorem dL_law_260 : decode cL_law 260 = .ok (.iaload, 1) := by decide +kernel
theorem dL_law_261 : decode cL_law 261 = .ok (.aload_n 0, 1) := by decide +kernel
theorem dL_law_262 : decode cL_law 262 = .ok (.iload_n 3, 1) := by decide +kernel
theorem dL_law_263 : decode cL_law 263 = .ok (.iconst 5, 1) := by decide +kernel
theorem dL_law_264 : decode cL_law 264 = .ok (.iadd, 1) := by decide +kernel
theorem dL_law_265 : decode cL_law 265 = .ok (.iaload, 1) := by decide +kernel
theorem dL_law_266 : decode cL_law 266 = .ok (.invokevirtual 23, 3) := by decide +kernel
theorem dL_law_269 : decode cL_law 269 = .ok (.aload_n 2, 1) := by decide +kernel
theorem dL_law_270 : decode cL_law 270 = .ok (.aload_n 0, 1) := by decide +kernel
theorem dL_law_271 : decode cL_law 271 = .ok (.iload_n 3, 1) := by decide +kernel
theorem dL_law_272 : decode cL_law 272 = .ok (.iconst 1, 1) := by decide +kernel
theorem dL_law_273 : decode cL_law 273 = .ok (.iadd, 1) := by decide +kernel
theorem dL_law_274 : decode cL_law 274 = .ok (.iaload, 1) := by decide +kernel
theorem dL_law_275 : decode cL_law 275 = .ok (.aload_n 0, 1) := by decide +kernel
theorem dL_law_276 : decode cL_law 276 = .ok (.iload_n 3, 1) := by decide +kernel
theorem dL_law_277 : decode cL_law 277 = .ok (.iconst 2, 1) := by decide +kernel
theorem dL_law_278 : decode cL_law 278 = .ok (.iadd, 1) := by decide +kernel
theorem dL_law_279 : decode cL_law 279 = .ok (.iaload, 1) := by decide +kernel
theorem dL_law_280 : decode cL_law 280 = .ok (.aload_n 0, 1) := by decide +kernel
theorem dL_law_281 : decode cL_law 281 = .ok (.iload_n 3, 1) := by decide +kernel
theorem dL_law_282 : decode cL_law 282 = .ok (.iconst 3, 1) := by decide +kernel
theorem dL_law_283 : decode cL_law 283 = .ok (.iadd, 1) := by decide +kernel
theorem dL_law_284 : decode cL_law 284 = .ok (.iaload, 1) := by decide +kernel
theorem dL_law_285 : decode cL_law 285 = .ok (.aload_n 0, 1) := by decide +kernel
theorem dL_law_286 : decode cL_law 286 = .ok (.iload_n 3, 1) := by decide +kernel
theorem dL_law_287 : decode cL_law 287 = .ok (.iconst 4, 1) := by decide +kernel
theorem dL_law_288 : decode cL_law 288 = .ok (.iadd, 1) := by decide +kernel
theorem dL_law_289 : decode cL_law 289 = .ok (.iaload, 1) := by decide +kernel
theorem dL_law_290 : decode cL_law 290 = .ok (.aload_n 0, 1) := by decide +kernel
theorem dL_law_291 : decode cL_law 291 = .ok (.iload_n 3, 1) := by decide +kernel
theorem dL_law_292 : decode cL_law 292 = .ok (.iconst 5, 1) := by decide +kernel
theorem dL_law_293 : decode cL_law 293 = .ok (.iadd, 1) := by decide +kernel
theorem dL_law_294 : decode cL_law 294 = .ok (.iaload, 1) := by decide +kernel
theorem dL_law_295 : decode cL_law 295 = .ok (.invokevirtual 27, 3) := by decide +kernel
theorem dL_law_298 : decode cL_law 298 = .ok (.if_icmp .eq 785, 3) := by decide +kernel
theorem dL_law_301 : decode cL_law 301 = .ok (.iconst 0, 1) := by decide +kernel
theorem dL_law_302 : decode cL_law 302 = .ok (.ireturn, 1) := by decide +kernel
theorem dL_law_303 : decode cL_law 303 = .ok (.aload_n 1, 1) := by decide +kernel
theorem dL_law_304 : decode cL_law 304 = .ok (.aload_n 0, 1) := by decide +kernel
theorem dL_law_305 : decode cL_law 305 = .ok (.iload_n 3, 1) := by decide +kernel
theorem dL_law_306 : decode cL_law 306 = .ok (.iconst 1, 1) := by decide +kernel
theorem dL_law_307 : decode cL_law 307 = .ok (.iadd, 1) := by decide +kernel
theorem dL_law_308 : decode cL_law 308 = .ok (.iaload, 1) := by decide +kernel
theorem dL_law_309 : decode cL_law 309 = .ok (.invokevirtual 28, 3) := by decide +kernel
theorem dL_law_312 : decode cL_law 312 = .ok (.aload_n 2, 1) := by decide +kernel
theorem dL_law_313 : decode cL_law 313 = .ok (.aload_n 0, 1) := by decide +kernel
theorem dL_law_314 : decode cL_law 314 = .ok (.iload_n 3, 1) := by decide +kernel
theorem dL_law_315 : decode cL_law 315 = .ok (.iconst 1, 1) := by decide +kernel
theorem dL_law_316 : decode cL_law 316 = .ok (.iadd, 1) := by decide +kernel
theorem dL_law_317 : decode cL_law 317 = .ok (.iaload, 1) := by decide +kernel
theorem dL_law_318 : decode cL_law 318 = .ok (.invokevirtual 32, 3) := by decide +kernel
theorem dL_law_321 : decode cL_law 321 = .ok (.if_icmp .eq 762, 3) := by decide +kernel
theorem dL_law_324 : decode cL_law 324 = .ok (.iconst 0, 1) := by decide +kernel
theorem dL_law_325 : decode cL_law 325 = .ok (.ireturn, 1) := by decide +kernel
theorem dL_law_326 : decode cL_law 326 = .ok (.aload_n 1, 1) := by decide +kernel
theorem dL_law_327 : decode cL_law 327 = .ok (.aload_n 0, 1) := by decide +kernel
theorem dL_law_328 : decode cL_law 328 = .ok (.iload_n 3, 1) := by decide +kernel
theorem dL_law_329 : decode cL_law 329 = .ok (.iconst 1, 1) := by decide +kernel
theorem dL_law_330 : decode cL_law 330 = .ok (.iadd, 1) := by decide +kernel
theorem dL_law_331 : decode cL_law 331 = .ok (.iaload, 1) := by decide +kernel
theorem dL_law_332 : decode cL_law 332 = .ok (.invokevirtual 33, 3) := by decide +kernel
theorem dL_law_335 : decode cL_law 335 = .ok (.aload_n 2, 1) := by decide +kernel
theorem dL_law_336 : decode cL_law 336 = .ok (.aload_n 0, 1) := by decide +kernel
theorem dL_law_337 : decode cL_law 337 = .ok (.iload_n 3, 1) := by decide +kernel
theorem dL_law_338 : decode cL_law 338 = .ok (.iconst 1, 1) := by decide +kernel
theorem dL_law_339 : decode cL_law 339 = .ok (.iadd, 1) := by decide +kernel
theorem dL_law_340 : decode cL_law 340 = .ok (.iaload, 1) := by decide +kernel
theorem dL_law_341 : decode cL_law 341 = .ok (.invokevirtual 36, 3) := by decide +kernel
theorem dL_law_344 : decode cL_law 344 = .ok (.if_icmp .eq 739, 3) := by decide +kernel
theorem dL_law_347 : decode cL_law 347 = .ok (.iconst 0, 1) := by decide +kernel
theorem dL_law_348 : decode cL_law 348 = .ok (.ireturn, 1) := by decide +kernel
theorem dL_law_349 : decode cL_law 349 = .ok (.aload_n 1, 1) := by decide +kernel
theorem dL_law_350 : decode cL_law 350 = .ok (.invokevirtual 37, 3) := by decide +kernel
theorem dL_law_353 : decode cL_law 353 = .ok (.aload_n 2, 1) := by decide +kernel
theorem dL_law_354 : decode cL_law 354 = .ok (.invokevirtual 41, 3) := by decide +kernel
theorem dL_law_357 : decode cL_law 357 = .ok (.if_icmp .eq 726, 3) := by decide +kernel
theorem dL_law_360 : decode cL_law 360 = .ok (.iconst 0, 1) := by decide +kernel
theorem dL_law_361 : decode cL_law 361 = .ok (.ireturn, 1) := by decide +kernel
theorem dL_law_362 : decode cL_law 362 = .ok (.aload_n 1, 1) := by decide +kernel
theorem dL_law_363 : decode cL_law 363 = .ok (.invokevirtual 42, 3) := by decide +kernel
theorem dL_law_366 : decode cL_law 366 = .ok (.aload_n 2, 1) := by decide +kernel
theorem dL_law_367 : decode cL_law 367 = .ok (.invokevirtual 45, 3) := by decide +kernel
theorem dL_law_370 : decode cL_law 370 = .ok (.if_icmp .eq 713, 3) := by decide +kernel
theorem dL_law_373 : decode cL_law 373 = .ok (.iconst 0, 1) := by decide +kernel
theorem dL_law_374 : decode cL_law 374 = .ok (.ireturn, 1) := by decide +kernel
theorem dL_law_375 : decode cL_law 375 = .ok (.aload_n 1, 1) := by decide +kernel
theorem dL_law_376 : decode cL_law 376 = .ok (.aload_n 0, 1) := by decide +kernel
theorem dL_law_377 : decode cL_law 377 = .ok (.iload_n 3, 1) := by decide +kernel
theorem dL_law_378 : decode cL_law 378 = .ok (.iconst 1, 1) := by decide +kernel
theorem dL_law_379 : decode cL_law 379 = .ok (.iadd, 1) := by decide +kernel
theorem dL_law_380 : decode cL_law 380 = .ok (.iaload, 1) := by decide +kernel
theorem dL_law_381 : decode cL_law 381 = .ok (.aload_n 0, 1) := by decide +kernel
theorem dL_law_382 : decode cL_law 382 = .ok (.iload_n 3, 1) := by decide +kernel
theorem dL_law_383 : decode cL_law 383 = .ok (.iconst 2, 1) := by decide +kernel
theorem dL_law_384 : decode cL_law 384 = .ok (.iadd, 1) := by decide +kernel
theorem dL_law_385 : decode cL_law 385 = .ok (.iaload, 1) := by decide +kernel
theorem dL_law_386 : decode cL_law 386 = .ok (.aload_n 0, 1) := by decide +kernel
theorem dL_law_387 : decode cL_law 387 = .ok (.iload_n 3, 1) := by decide +kernel
theorem dL_law_388 : decode cL_law 388 = .ok (.iconst 3, 1) := by decide +kernel
theorem dL_law_389 : decode cL_law 389 = .ok (.iadd, 1) := by decide +kernel
theorem dL_law_390 : decode cL_law 390 = .ok (.iaload, 1) := by decide +kernel
theorem dL_law_391 : decode cL_law 391 = .ok (.aload_n 0, 1) := by decide +kernel
theorem dL_law_392 : decode cL_law 392 = .ok (.iload_n 3, 1) := by decide +kernel
theorem dL_law_393 : decode cL_law 393 = .ok (.iconst 4, 1) := by decide +kernel
theorem dL_law_394 : decode cL_law 394 = .ok (.iadd, 1) := by decide +kernel
theorem dL_law_395 : decode cL_law 395 = .ok (.iaload, 1) := by decide +kernel
theorem dL_law_396 : decode cL_law 396 = .ok (.aload_n 0, 1) := by decide +kernel
theorem dL_law_397 : decode cL_law 397 = .ok (.iload_n 3, 1) := by decide +kernel
theorem dL_law_398 : decode cL_law 398 = .ok (.iconst 5, 1) := by decide +kernel
theorem dL_law_399 : decode cL_law 399 = .ok (.iadd, 1) := by decide +kernel
theorem dL_law_400 : decode cL_law 400 = .ok (.iaload, 1) := by decide +kernel
theorem dL_law_401 : decode cL_law 401 = .ok (.invokevirtual 46, 3) := by decide +kernel
theorem dL_law_404 : decode cL_law 404 = .ok (.aload_n 2, 1) := by decide +kernel
theorem dL_law_405 : decode cL_law 405 = .ok (.aload_n 0, 1) := by decide +kernel
theorem dL_law_406 : decode cL_law 406 = .ok (.iload_n 3, 1) := by decide +kernel
theorem dL_law_407 : decode cL_law 407 = .ok (.iconst 1, 1) := by decide +kernel
theorem dL_law_408 : decode cL_law 408 = .ok (.iadd, 1) := by decide +kernel
theorem dL_law_409 : decode cL_law 409 = .ok (.iaload, 1) := by decide +kernel
theorem dL_law_410 : decode cL_law 410 = .ok (.aload_n 0, 1) := by decide +kernel
theorem dL_law_411 : decode cL_law 411 = .ok (.iload_n 3, 1) := by decide +kernel
theorem dL_law_412 : decode cL_law 412 = .ok (.iconst 2, 1) := by decide +kernel
theorem dL_law_413 : decode cL_law 413 = .ok (.iadd, 1) := by decide +kernel
theorem dL_law_414 : decode cL_law 414 = .ok (.iaload, 1) := by decide +kernel
theorem dL_law_415 : decode cL_law 415 = .ok (.aload_n 0, 1) := by decide +kernel
theorem dL_law_416 : decode cL_law 416 = .ok (.iload_n 3, 1) := by decide +kernel
theorem dL_law_417 : decode cL_law 417 = .ok (.iconst 3, 1) := by decide +kernel
theorem dL_law_418 : decode cL_law 418 = .ok (.iadd, 1) := by decide +kernel
theorem dL_law_419 : decode cL_law 419 = .ok (.iaload, 1) := by decide +kernel
theorem dL_law_420 : decode cL_law 420 = .ok (.aload_n 0, 1) := by decide +kernel
theorem dL_law_421 : decode cL_law 421 = .ok (.iload_n 3, 1) := by decide +kernel
theorem dL_law_422 : decode cL_law 422 = .ok (.iconst 4, 1) := by decide +kernel
theorem dL_law_423 : decode cL_law 423 = .ok (.iadd, 1) := by decide +kernel
theorem dL_law_424 : decode cL_law 424 = .ok (.iaload, 1) := by decide +kernel
theorem dL_law_425 : decode cL_law 425 = .ok (.aload_n 0, 1) := by decide +kernel
theorem dL_law_426 : decode cL_law 426 = .ok (.iload_n 3, 1) := by decide +kernel
theorem dL_law_427 : decode cL_law 427 = .ok (.iconst 5, 1) := by decide +kernel
theorem dL_law_428 : decode cL_law 428 = .ok (.iadd, 1) := by decide +kernel
theorem dL_law_429 : decode cL_law 429 = .ok (.iaload, 1) := by decide +kernel
theorem dL_law_430 : decode cL_law 430 = .ok (.invokevirtual 49, 3) := by decide +kernel
theorem dL_law_433 : decode cL_law 433 = .ok (.if_icmp .eq 650, 3) := by decide +kernel
theorem dL_law_436 : decode cL_law 436 = .ok (.iconst 0, 1) := by decide +kernel
theorem dL_law_437 : decode cL_law 437 = .ok (.ireturn, 1) := by decide +kernel
theorem dL_law_438 : decode cL_law 438 = .ok (.aload_n 1, 1) := by decide +kernel
theorem dL_law_439 : decode cL_law 439 = .ok (.aload_n 0, 1) := by decide +kernel
theorem dL_law_440 : decode cL_law 440 = .ok (.iload_n 3, 1) := by decide +kernel
theorem dL_law_441 : decode cL_law 441 = .ok (.iconst 1, 1) := by decide +kernel
theorem dL_law_442 : decode cL_law 442 = .ok (.iadd, 1) := by decide +kernel
theorem dL_law_443 : decode cL_law 443 = .ok (.iaload, 1) := by decide +kernel
theorem dL_law_444 : decode cL_law 444 = .ok (.aload_n 0, 1) := by decide +kernel
theorem dL_law_445 : decode cL_law 445 = .ok (.iload_n 3, 1) := by decide +kernel
theorem dL_law_446 : decode cL_law 446 = .ok (.iconst 2, 1) := by decide +kernel
theorem dL_law_447 : decode cL_law 447 = .ok (.iadd, 1) := by decide +kernel
theorem dL_law_448 : decode cL_law 448 = .ok (.iaload, 1) := by decide +kernel
theorem dL_law_449 : decode cL_law 449 = .ok (.invokevirtual 50, 3) := by decide +kernel
theorem dL_law_452 : decode cL_law 452 = .ok (.aload_n 2, 1) := by decide +kernel
theorem dL_law_453 : decode cL_law 453 = .ok (.aload_n 0, 1) := by decide +kernel
theorem dL_law_454 : decode cL_law 454 = .ok (.iload_n 3, 1) := by decide +kernel
theorem dL_law_455 : decode cL_law 455 = .ok (.iconst 1, 1) := by decide +kernel
theorem dL_law_456 : decode cL_law 456 = .ok (.iadd, 1) := by decide +kernel
theorem dL_law_457 : decode cL_law 457 = .ok (.iaload, 1) := by decide +kernel
theorem dL_law_458 : decode cL_law 458 = .ok (.aload_n 0, 1) := by decide +kernel
theorem dL_law_459 : decode cL_law 459 = .ok (.iload_n 3, 1) := by decide +kernel
theorem dL_law_460 : decode cL_law 460 = .ok (.iconst 2, 1) := by decide +kernel
theorem dL_law_461 : decode cL_law 461 = .ok (.iadd, 1) := by decide +kernel
theorem dL_law_462 : decode cL_law 462 = .ok (.iaload, 1) := by decide +kernel
theorem dL_law_463 : decode cL_law 463 = .ok (.invokevirtual 54, 3) := by decide +kernel
theorem dL_law_466 : decode cL_law 466 = .ok (.if_icmp .eq 617, 3) := by decide +kernel
theorem dL_law_469 : decode cL_law 469 = .ok (.iconst 0, 1) := by decide +kernel
theorem dL_law_470 : decode cL_law 470 = .ok (.ireturn, 1) := by decide +kernel
theorem dL_law_471 : decode cL_law 471 = .ok (.aload_n 1, 1) := by decide +kernel
theorem dL_law_472 : decode cL_law 472 = .ok (.aload_n 0, 1) := by decide +kernel
theorem dL_law_473 : decode cL_law 473 = .ok (.iload_n 3, 1) := by decide +kernel
theorem dL_law_474 : decode cL_law 474 = .ok (.iconst 1, 1) := by decide +kernel
theorem dL_law_475 : decode cL_law 475 = .ok (.iadd, 1) := by decide +kernel
theorem dL_law_476 : decode cL_law 476 = .ok (.iaload, 1) := by decide +kernel
theorem dL_law_477 : decode cL_law 477 = .ok (.aload_n 0, 1) := by decide +kernel
theorem dL_law_478 : decode cL_law 478 = .ok (.iload_n 3, 1) := by decide +kernel
theorem dL_law_479 : decode cL_law 479 = .ok (.iconst 2, 1) := by decide +kernel
theorem dL_law_480 : decode cL_law 480 = .ok (.iadd, 1) := by decide +kernel
theorem dL_law_481 : decode cL_law 481 = .ok (.iaload, 1) := by decide +kernel
theorem dL_law_482 : decode cL_law 482 = .ok (.aload_n 0, 1) := by decide +kernel
theorem dL_law_483 : decode cL_law 483 = .ok (.iload_n 3, 1) := by decide +kernel
theorem dL_law_484 : decode cL_law 484 = .ok (.iconst 3, 1) := by decide +kernel
theorem dL_law_485 : decode cL_law 485 = .ok (.iadd, 1) := by decide +kernel
theorem dL_law_486 : decode cL_law 486 = .ok (.iaload, 1) := by decide +kernel
theorem dL_law_487 : decode cL_law 487 = .ok (.invokevirtual 55, 3) := by decide +kernel
theorem dL_law_490 : decode cL_law 490 = .ok (.aload_n 2, 1) := by decide +kernel
theorem dL_law_491 : decode cL_law 491 = .ok (.aload_n 0, 1) := by decide +kernel
theorem dL_law_492 : decode cL_law 492 = .ok (.iload_n 3, 1) := by decide +kernel
theorem dL_law_493 : decode cL_law 493 = .ok (.iconst 1, 1) := by decide +kernel
theorem dL_law_494 : decode cL_law 494 = .ok (.iadd, 1) := by decide +kernel
theorem dL_law_495 : decode cL_law 495 = .ok (.iaload, 1) := by decide +kernel
theorem dL_law_496 : decode cL_law 496 = .ok (.aload_n 0, 1) := by decide +kernel
theorem dL_law_497 : decode cL_law 497 = .ok (.iload_n 3, 1) := by decide +kernel
theorem dL_law_498 : decode cL_law 498 = .ok (.iconst 2, 1) := by decide +kernel
theorem dL_law_499 : decode cL_law 499 = .ok (.iadd, 1) := by decide +kernel
theorem dL_law_500 : decode cL_law 500 = .ok (.iaload, 1) := by decide +kernel
theorem dL_law_501 : decode cL_law 501 = .ok (.aload_n 0, 1) := by decide +kernel
theorem dL_law_502 : decode cL_law 502 = .ok (.iload_n 3, 1) := by decide +kernel
theorem dL_law_503 : decode cL_law 503 = .ok (.iconst 3, 1) := by decide +kernel
theorem dL_law_504 : decode cL_law 504 = .ok (.iadd, 1) := by decide +kernel
theorem dL_law_505 : decode cL_law 505 = .ok (.iaload, 1) := by decide +kernel
theorem dL_law_506 : decode cL_law 506 = .ok (.invokevirtual 59, 3) := by decide +kernel
theorem dL_law_509 : decode cL_law 509 = .ok (.if_icmp .eq 574, 3) := by decide +kernel
theorem dL_law_512 : decode cL_law 512 = .ok (.iconst 0, 1) := by decide +kernel
theorem dL_law_513 : decode cL_law 513 = .ok (.ireturn, 1) := by decide +kernel
theorem dL_law_514 : decode cL_law 514 = .ok (.aload_n 1, 1) := by decide +kernel
theorem dL_law_515 : decode cL_law 515 = .ok (.aload_n 0, 1) := by decide +kernel
theorem dL_law_516 : decode cL_law 516 = .ok (.iload_n 3, 1) := by decide +kernel
theorem dL_law_517 : decode cL_law 517 = .ok (.iconst 1, 1) := by decide +kernel
theorem dL_law_518 : decode cL_law 518 = .ok (.iadd, 1) := by decide +kernel
theorem dL_law_519 : decode cL_law 519 = .ok (.iaload, 1) := by decide +kernel
theorem dL_law_520 : decode cL_law 520 = .ok (.invokevirtual 60, 3) := by decide +kernel
theorem dL_law_523 : decode cL_law 523 = .ok (.aload_n 2, 1) := by decide +kernel
theorem dL_law_524 : decode cL_law 524 = .ok (.aload_n 0, 1) := by decide +kernel
theorem dL_law_525 : decode cL_law 525 = .ok (.iload_n 3, 1) := by decide +kernel
theorem dL_law_526 : decode cL_law 526 = .ok (.iconst 1, 1) := by decide +kernel
theorem dL_law_527 : decode cL_law 527 = .ok (.iadd, 1) := by decide +kernel
theorem dL_law_528 : decode cL_law 528 = .ok (.iaload, 1) := by decide +kernel
theorem dL_law_529 : decode cL_law 529 = .ok (.invokevirtual 64, 3) := by decide +kernel
theorem dL_law_532 : decode cL_law 532 = .ok (.if_icmp .eq 551, 3) := by decide +kernel
theorem dL_law_535 : decode cL_law 535 = .ok (.iconst 0, 1) := by decide +kernel
theorem dL_law_536 : decode cL_law 536 = .ok (.ireturn, 1) := by decide +kernel
theorem dL_law_537 : decode cL_law 537 = .ok (.aload_n 1, 1) := by decide +kernel
theorem dL_law_538 : decode cL_law 538 = .ok (.aload_n 0, 1) := by decide +kernel
theorem dL_law_539 : decode cL_law 539 = .ok (.iload_n 3, 1) := by decide +kernel
theorem dL_law_540 : decode cL_law 540 = .ok (.iconst 1, 1) := by decide +kernel
theorem dL_law_541 : decode cL_law 541 = .ok (.iadd, 1) := by decide +kernel
theorem dL_law_542 : decode cL_law 542 = .ok (.iaload, 1) := by decide +kernel
theorem dL_law_543 : decode cL_law 543 = .ok (.invokevirtual 65, 3) := by decide +kernel
theorem dL_law_546 : decode cL_law 546 = .ok (.aload_n 2, 1) := by decide +kernel
theorem dL_law_547 : decode cL_law 547 = .ok (.aload_n 0, 1) := by decide +kernel
theorem dL_law_548 : decode cL_law 548 = .ok (.iload_n 3, 1) := by decide +kernel
theorem dL_law_549 : decode cL_law 549 = .ok (.iconst 1, 1) := by decide +kernel
theorem dL_law_550 : decode cL_law 550 = .ok (.iadd, 1) := by decide +kernel
theorem dL_law_551 : decode cL_law 551 = .ok (.iaload, 1) := by decide +kernel
theorem dL_law_552 : decode cL_law 552 = .ok (.invokevirtual 68, 3) := by decide +kernel
theorem dL_law_555 : decode cL_law 555 = .ok (.if_icmp .eq 528, 3) := by decide +kernel
theorem dL_law_558 : decode cL_law 558 = .ok (.iconst 0, 1) := by decide +kernel
theorem dL_law_559 : decode cL_law 559 = .ok (.ireturn, 1) := by decide +kernel
theorem dL_law_560 : decode cL_law 560 = .ok (.aload_n 1, 1) := by decide +kernel
theorem dL_law_561 : decode cL_law 561 = .ok (.aload_n 0, 1) := by decide +kernel
theorem dL_law_562 : decode cL_law 562 = .ok (.iload_n 3, 1) := by decide +kernel
theorem dL_law_563 : decode cL_law 563 = .ok (.iconst 1, 1) := by decide +kernel
theorem dL_law_564 : decode cL_law 564 = .ok (.iadd, 1) := by decide +kernel
theorem dL_law_565 : decode cL_law 565 = .ok (.iaload, 1) := by decide +kernel
theorem dL_law_566 : decode cL_law 566 = .ok (.aload_n 0, 1) := by decide +kernel
theorem dL_law_567 : decode cL_law 567 = .ok (.iload_n 3, 1) := by decide +kernel
theorem dL_law_568 : decode cL_law 568 = .ok (.iconst 2, 1) := by decide +kernel
theorem dL_law_569 : decode cL_law 569 = .ok (.iadd, 1) := by decide +kernel
theorem dL_law_570 : decode cL_law 570 = .ok (.iaload, 1) := by decide +kernel
theorem dL_law_571 : decode cL_law 571 = .ok (.invokevirtual 69, 3) := by decide +kernel
theorem dL_law_574 : decode cL_law 574 = .ok (.aload_n 2, 1) := by decide +kernel
theorem dL_law_575 : decode cL_law 575 = .ok (.aload_n 0, 1) := by decide +kernel
theorem dL_law_576 : decode cL_law 576 = .ok (.iload_n 3, 1) := by decide +kernel
theorem dL_law_577 : decode cL_law 577 = .ok (.iconst 1, 1) := by decide +kernel
theorem dL_law_578 : decode cL_law 578 = .ok (.iadd, 1) := by decide +kernel
theorem dL_law_579 : decode cL_law 579 = .ok (.iaload, 1) := by decide +kernel
theorem dL_law_580 : decode cL_law 580 = .ok (.aload_n 0, 1) := by decide +kernel
theorem dL_law_581 : decode cL_law 581 = .ok (.iload_n 3, 1) := by decide +kernel
theorem dL_law_582 : decode cL_law 582 = .ok (.iconst 2, 1) := by decide +kernel
theorem dL_law_583 : decode cL_law 583 = .ok (.iadd, 1) := by decide +kernel
theorem dL_law_584 : decode cL_law 584 = .ok (.iaload, 1) := by decide +kernel
theorem dL_law_585 : decode cL_law 585 = .ok (.invokevirtual 72, 3) := by decide +kernel
theorem dL_law_588 : decode cL_law 588 = .ok (.if_icmp .eq 495, 3) := by decide +kernel
theorem dL_law_591 : decode cL_law 591 = .ok (.iconst 0, 1) := by decide +kernel
theorem dL_law_592 : decode cL_law 592 = .ok (.ireturn, 1) := by decide +kernel
theorem dL_law_593 : decode cL_law 593 = .ok (.aload_n 1, 1) := by decide +kernel
theorem dL_law_594 : decode cL_law 594 = .ok (.aload_n 0, 1) := by decide +kernel
theorem dL_law_595 : decode cL_law 595 = .ok (.iload_n 3, 1) := by decide +kernel
theorem dL_law_596 : decode cL_law 596 = .ok (.iconst 1, 1) := by decide +kernel
theorem dL_law_597 : decode cL_law 597 = .ok (.iadd, 1) := by decide +kernel
theorem dL_law_598 : decode cL_law 598 = .ok (.iaload, 1) := by decide +kernel
theorem dL_law_599 : decode cL_law 599 = .ok (.aload_n 0, 1) := by decide +kernel
theorem dL_law_600 : decode cL_law 600 = .ok (.iload_n 3, 1) := by decide +kernel
theorem dL_law_601 : decode cL_law 601 = .ok (.iconst 2, 1) := by decide +kernel
theorem dL_law_602 : decode cL_law 602 = .ok (.iadd, 1) := by decide +kernel
theorem dL_law_603 : decode cL_law 603 = .ok (.iaload, 1) := by decide +kernel
theorem dL_law_604 : decode cL_law 604 = .ok (.aload_n 0, 1) := by decide +kernel
theorem dL_law_605 : decode cL_law 605 = .ok (.iload_n 3, 1) := by decide +kernel
theorem dL_law_606 : decode cL_law 606 = .ok (.iconst 3, 1) := by decide +kernel
theorem dL_law_607 : decode cL_law 607 = .ok (.iadd, 1) := by decide +kernel
theorem dL_law_608 : decode cL_law 608 = .ok (.iaload, 1) := by decide +kernel
theorem dL_law_609 : decode cL_law 609 = .ok (.invokevirtual 73, 3) := by decide +kernel
theorem dL_law_612 : decode cL_law 612 = .ok (.aload_n 2, 1) := by decide +kernel
theorem dL_law_613 : decode cL_law 613 = .ok (.aload_n 0, 1) := by decide +kernel
theorem dL_law_614 : decode cL_law 614 = .ok (.iload_n 3, 1) := by decide +kernel
theorem dL_law_615 : decode cL_law 615 = .ok (.iconst 1, 1) := by decide +kernel
theorem dL_law_616 : decode cL_law 616 = .ok (.iadd, 1) := by decide +kernel
theorem dL_law_617 : decode cL_law 617 = .ok (.iaload, 1) := by decide +kernel
theorem dL_law_618 : decode cL_law 618 = .ok (.aload_n 0, 1) := by decide +kernel
theorem dL_law_619 : decode cL_law 619 = .ok (.iload_n 3, 1) := by decide +kernel
theorem dL_law_620 : decode cL_law 620 = .ok (.iconst 2, 1) := by decide +kernel
theorem dL_law_621 : decode cL_law 621 = .ok (.iadd, 1) := by decide +kernel
theorem dL_law_622 : decode cL_law 622 = .ok (.iaload, 1) := by decide +kernel
theorem dL_law_623 : decode cL_law 623 = .ok (.aload_n 0, 1) := by decide +kernel
theorem dL_law_624 : decode cL_law 624 = .ok (.iload_n 3, 1) := by decide +kernel
theorem dL_law_625 : decode cL_law 625 = .ok (.iconst 3, 1) := by decide +kernel
theorem dL_law_626 : decode cL_law 626 = .ok (.iadd, 1) := by decide +kernel
theorem dL_law_627 : decode cL_law 627 = .ok (.iaload, 1) := by decide +kernel
theorem dL_law_628 : decode cL_law 628 = .ok (.invokevirtual 76, 3) := by decide +kernel
theorem dL_law_631 : decode cL_law 631 = .ok (.if_icmp .eq 452, 3) := by decide +kernel
theorem dL_law_634 : decode cL_law 634 = .ok (.iconst 0, 1) := by decide +kernel
theorem dL_law_635 : decode cL_law 635 = .ok (.ireturn, 1) := by decide +kernel
theorem dL_law_636 : decode cL_law 636 = .ok (.aload_n 1, 1) := by decide +kernel
theorem dL_law_637 : decode cL_law 637 = .ok (.aload_n 0, 1) := by decide +kernel
theorem dL_law_638 : decode cL_law 638 = .ok (.iload_n 3, 1) := by decide +kernel
theorem dL_law_639 : decode cL_law 639 = .ok (.iconst 1, 1) := by decide +kernel
theorem dL_law_640 : decode cL_law 640 = .ok (.iadd, 1) := by decide +kernel
theorem dL_law_641 : decode cL_law 641 = .ok (.iaload, 1) := by decide +kernel
theorem dL_law_642 : decode cL_law 642 = .ok (.aload_n 0, 1) := by decide +kernel
theorem dL_law_643 : decode cL_law 643 = .ok (.iload_n 3, 1) := by decide +kernel
theorem dL_law_644 : decode cL_law 644 = .ok (.iconst 2, 1) := by decide +kernel
theorem dL_law_645 : decode cL_law 645 = .ok (.iadd, 1) := by decide +kernel
theorem dL_law_646 : decode cL_law 646 = .ok (.iaload, 1) := by decide +kernel
theorem dL_law_647 : decode cL_law 647 = .ok (.aload_n 0, 1) := by decide +kernel
theorem dL_law_648 : decode cL_law 648 = .ok (.iload_n 3, 1) := by decide +kernel
theorem dL_law_649 : decode cL_law 649 = .ok (.iconst 3, 1) := by decide +kernel
theorem dL_law_650 : decode cL_law 650 = .ok (.iadd, 1) := by decide +kernel
theorem dL_law_651 : decode cL_law 651 = .ok (.iaload, 1) := by decide +kernel
theorem dL_law_652 : decode cL_law 652 = .ok (.ifCond .eq 7, 3) := by decide +kernel
theorem dL_law_655 : decode cL_law 655 = .ok (.iconst 1, 1) := by decide +kernel
theorem dL_law_656 : decode cL_law 656 = .ok (.goto 4, 3) := by decide +kernel
theorem dL_law_659 : decode cL_law 659 = .ok (.iconst 0, 1) := by decide +kernel
theorem dL_law_660 : decode cL_law 660 = .ok (.invokevirtual 77, 3) := by decide +kernel
theorem dL_law_663 : decode cL_law 663 = .ok (.aload_n 2, 1) := by decide +kernel
theorem dL_law_664 : decode cL_law 664 = .ok (.aload_n 0, 1) := by decide +kernel
theorem dL_law_665 : decode cL_law 665 = .ok (.iload_n 3, 1) := by decide +kernel
theorem dL_law_666 : decode cL_law 666 = .ok (.iconst 1, 1) := by decide +kernel
theorem dL_law_667 : decode cL_law 667 = .ok (.iadd, 1) := by decide +kernel
theorem dL_law_668 : decode cL_law 668 = .ok (.iaload, 1) := by decide +kernel
theorem dL_law_669 : decode cL_law 669 = .ok (.aload_n 0, 1) := by decide +kernel
theorem dL_law_670 : decode cL_law 670 = .ok (.iload_n 3, 1) := by decide +kernel
theorem dL_law_671 : decode cL_law 671 = .ok (.iconst 2, 1) := by decide +kernel
theorem dL_law_672 : decode cL_law 672 = .ok (.iadd, 1) := by decide +kernel
theorem dL_law_673 : decode cL_law 673 = .ok (.iaload, 1) := by decide +kernel
theorem dL_law_674 : decode cL_law 674 = .ok (.aload_n 0, 1) := by decide +kernel
theorem dL_law_675 : decode cL_law 675 = .ok (.iload_n 3, 1) := by decide +kernel
theorem dL_law_676 : decode cL_law 676 = .ok (.iconst 3, 1) := by decide +kernel
theorem dL_law_677 : decode cL_law 677 = .ok (.iadd, 1) := by decide +kernel
theorem dL_law_678 : decode cL_law 678 = .ok (.iaload, 1) := by decide +kernel
theorem dL_law_679 : decode cL_law 679 = .ok (.ifCond .eq 7, 3) := by decide +kernel
theorem dL_law_682 : decode cL_law 682 = .ok (.iconst 1, 1) := by decide +kernel
theorem dL_law_683 : decode cL_law 683 = .ok (.goto 4, 3) := by decide +kernel
theorem dL_law_686 : decode cL_law 686 = .ok (.iconst 0, 1) := by decide +kernel
theorem dL_law_687 : decode cL_law 687 = .ok (.invokevirtual 81, 3) := by decide +kernel
theorem dL_law_690 : decode cL_law 690 = .ok (.if_icmp .eq 393, 3) := by decide +kernel
theorem dL_law_693 : decode cL_law 693 = .ok (.iconst 0, 1) := by decide +kernel
theorem dL_law_694 : decode cL_law 694 = .ok (.ireturn, 1) := by decide +kernel
theorem dL_law_695 : decode cL_law 695 = .ok (.aload_n 1, 1) := by decide +kernel
theorem dL_law_696 : decode cL_law 696 = .ok (.aload_n 0, 1) := by decide +kernel
theorem dL_law_697 : decode cL_law 697 = .ok (.iload_n 3, 1) := by decide +kernel
theorem dL_law_698 : decode cL_law 698 = .ok (.iconst 1, 1) := by decide +kernel
theorem dL_law_699 : decode cL_law 699 = .ok (.iadd, 1) := by decide +kernel
theorem dL_law_700 : decode cL_law 700 = .ok (.iaload, 1) := by decide +kernel
theorem dL_law_701 : decode cL_law 701 = .ok (.invokevirtual 82, 3) := by decide +kernel
theorem dL_law_704 : decode cL_law 704 = .ok (.aload_n 2, 1) := by decide +kernel
theorem dL_law_705 : decode cL_law 705 = .ok (.aload_n 0, 1) := by decide +kernel
theorem dL_law_706 : decode cL_law 706 = .ok (.iload_n 3, 1) := by decide +kernel
theorem dL_law_707 : decode cL_law 707 = .ok (.iconst 1, 1) := by decide +kernel
theorem dL_law_708 : decode cL_law 708 = .ok (.iadd, 1) := by decide +kernel
theorem dL_law_709 : decode cL_law 709 = .ok (.iaload, 1) := by decide +kernel
theorem dL_law_710 : decode cL_law 710 = .ok (.invokevirtual 85, 3) := by decide +kernel
theorem dL_law_713 : decode cL_law 713 = .ok (.if_icmp .eq 370, 3) := by decide +kernel
theorem dL_law_716 : decode cL_law 716 = .ok (.iconst 0, 1) := by decide +kernel
theorem dL_law_717 : decode cL_law 717 = .ok (.ireturn, 1) := by decide +kernel
theorem dL_law_718 : decode cL_law 718 = .ok (.aload_n 1, 1) := by decide +kernel
theorem dL_law_719 : decode cL_law 719 = .ok (.aload_n 0, 1) := by decide +kernel
theorem dL_law_720 : decode cL_law 720 = .ok (.iload_n 3, 1) := by decide +kernel
theorem dL_law_721 : decode cL_law 721 = .ok (.iconst 1, 1) := by decide +kernel
theorem dL_law_722 : decode cL_law 722 = .ok (.iadd, 1) := by decide +kernel
theorem dL_law_723 : decode cL_law 723 = .ok (.iaload, 1) := by decide +kernel
theorem dL_law_724 : decode cL_law 724 = .ok (.invokevirtual 86, 3) := by decide +kernel
theorem dL_law_727 : decode cL_law 727 = .ok (.aload_n 2, 1) := by decide +kernel
theorem dL_law_728 : decode cL_law 728 = .ok (.aload_n 0, 1) := by decide +kernel
theorem dL_law_729 : decode cL_law 729 = .ok (.iload_n 3, 1) := by decide +kernel
theorem dL_law_730 : decode cL_law 730 = .ok (.iconst 1, 1) := by decide +kernel
theorem dL_law_731 : decode cL_law 731 = .ok (.iadd, 1) := by decide +kernel
theorem dL_law_732 : decode cL_law 732 = .ok (.iaload, 1) := by decide +kernel
theorem dL_law_733 : decode cL_law 733 = .ok (.invokevirtual 89, 3) := by decide +kernel
theorem dL_law_736 : decode cL_law 736 = .ok (.if_icmp .eq 347, 3) := by decide +kernel
theorem dL_law_739 : decode cL_law 739 = .ok (.iconst 0, 1) := by decide +kernel
theorem dL_law_740 : decode cL_law 740 = .ok (.ireturn, 1) := by decide +kernel
theorem dL_law_741 : decode cL_law 741 = .ok (.aload_n 1, 1) := by decide +kernel
theorem dL_law_742 : decode cL_law 742 = .ok (.aload_n 0, 1) := by decide +kernel
theorem dL_law_743 : decode cL_law 743 = .ok (.iload_n 3, 1) := by decide +kernel
theorem dL_law_744 : decode cL_law 744 = .ok (.iconst 1, 1) := by decide +kernel
theorem dL_law_745 : decode cL_law 745 = .ok (.iadd, 1) := by decide +kernel
theorem dL_law_746 : decode cL_law 746 = .ok (.iaload, 1) := by decide +kernel
theorem dL_law_747 : decode cL_law 747 = .ok (.aload_n 0, 1) := by decide +kernel
theorem dL_law_748 : decode cL_law 748 = .ok (.iload_n 3, 1) := by decide +kernel
theorem dL_law_749 : decode cL_law 749 = .ok (.iconst 2, 1) := by decide +kernel
theorem dL_law_750 : decode cL_law 750 = .ok (.iadd, 1) := by decide +kernel
theorem dL_law_751 : decode cL_law 751 = .ok (.iaload, 1) := by decide +kernel
theorem dL_law_752 : decode cL_law 752 = .ok (.invokevirtual 90, 3) := by decide +kernel
theorem dL_law_755 : decode cL_law 755 = .ok (.aload_n 2, 1) := by decide +kernel
theorem dL_law_756 : decode cL_law 756 = .ok (.aload_n 0, 1) := by decide +kernel
theorem dL_law_757 : decode cL_law 757 = .ok (.iload_n 3, 1) := by decide +kernel
theorem dL_law_758 : decode cL_law 758 = .ok (.iconst 1, 1) := by decide +kernel
theorem dL_law_759 : decode cL_law 759 = .ok (.iadd, 1) := by decide +kernel
theorem dL_law_760 : decode cL_law 760 = .ok (.iaload, 1) := by decide +kernel
theorem dL_law_761 : decode cL_law 761 = .ok (.aload_n 0, 1) := by decide +kernel
theorem dL_law_762 : decode cL_law 762 = .ok (.iload_n 3, 1) := by decide +kernel
theorem dL_law_763 : decode cL_law 763 = .ok (.iconst 2, 1) := by decide +kernel
theorem dL_law_764 : decode cL_law 764 = .ok (.iadd, 1) := by decide +kernel
theorem dL_law_765 : decode cL_law 765 = .ok (.iaload, 1) := by decide +kernel
theorem dL_law_766 : decode cL_law 766 = .ok (.invokevirtual 93, 3) := by decide +kernel
theorem dL_law_769 : decode cL_law 769 = .ok (.if_icmp .eq 314, 3) := by decide +kernel
theorem dL_law_772 : decode cL_law 772 = .ok (.iconst 0, 1) := by decide +kernel
theorem dL_law_773 : decode cL_law 773 = .ok (.ireturn, 1) := by decide +kernel
theorem dL_law_774 : decode cL_law 774 = .ok (.aload_n 1, 1) := by decide +kernel
theorem dL_law_775 : decode cL_law 775 = .ok (.aload_n 0, 1) := by decide +kernel
theorem dL_law_776 : decode cL_law 776 = .ok (.iload_n 3, 1) := by decide +kernel
theorem dL_law_777 : decode cL_law 777 = .ok (.iconst 1, 1) := by decide +kernel
theorem dL_law_778 : decode cL_law 778 = .ok (.iadd, 1) := by decide +kernel
theorem dL_law_779 : decode cL_law 779 = .ok (.iaload, 1) := by decide +kernel
theorem dL_law_780 : decode cL_law 780 = .ok (.invokevirtual 94, 3) := by decide +kernel
theorem dL_law_783 : decode cL_law 783 = .ok (.aload_n 2, 1) := by decide +kernel
theorem dL_law_784 : decode cL_law 784 = .ok (.aload_n 0, 1) := by decide +kernel
theorem dL_law_785 : decode cL_law 785 = .ok (.iload_n 3, 1) := by decide +kernel
theorem dL_law_786 : decode cL_law 786 = .ok (.iconst 1, 1) := by decide +kernel
theorem dL_law_787 : decode cL_law 787 = .ok (.iadd, 1) := by decide +kernel
theorem dL_law_788 : decode cL_law 788 = .ok (.iaload, 1) := by decide +kernel
theorem dL_law_789 : decode cL_law 789 = .ok (.invokevirtual 97, 3) := by decide +kernel
theorem dL_law_792 : decode cL_law 792 = .ok (.if_icmp .eq 291, 3) := by decide +kernel
theorem dL_law_795 : decode cL_law 795 = .ok (.iconst 0, 1) := by decide +kernel
theorem dL_law_796 : decode cL_law 796 = .ok (.ireturn, 1) := by decide +kernel
theorem dL_law_797 : decode cL_law 797 = .ok (.aload_n 1, 1) := by decide +kernel
theorem dL_law_798 : decode cL_law 798 = .ok (.aload_n 0, 1) := by decide +kernel
theorem dL_law_799 : decode cL_law 799 = .ok (.iload_n 3, 1) := by decide +kernel
theorem dL_law_800 : decode cL_law 800 = .ok (.iconst 1, 1) := by decide +kernel
theorem dL_law_801 : decode cL_law 801 = .ok (.iadd, 1) := by decide +kernel
theorem dL_law_802 : decode cL_law 802 = .ok (.iaload, 1) := by decide +kernel
theorem dL_law_803 : decode cL_law 803 = .ok (.aload_n 0, 1) := by decide +kernel
theorem dL_law_804 : decode cL_law 804 = .ok (.iload_n 3, 1) := by decide +kernel
theorem dL_law_805 : decode cL_law 805 = .ok (.iconst 2, 1) := by decide +kernel
theorem dL_law_806 : decode cL_law 806 = .ok (.iadd, 1) := by decide +kernel
theorem dL_law_807 : decode cL_law 807 = .ok (.iaload, 1) := by decide +kernel
theorem dL_law_808 : decode cL_law 808 = .ok (.invokevirtual 98, 3) := by decide +kernel
theorem dL_law_811 : decode cL_law 811 = .ok (.aload_n 2, 1) := by decide +kernel
theorem dL_law_812 : decode cL_law 812 = .ok (.aload_n 0, 1) := by decide +kernel
theorem dL_law_813 : decode cL_law 813 = .ok (.iload_n 3, 1) := by decide +kernel
theorem dL_law_814 : decode cL_law 814 = .ok (.iconst 1, 1) := by decide +kernel
theorem dL_law_815 : decode cL_law 815 = .ok (.iadd, 1) := by decide +kernel
theorem dL_law_816 : decode cL_law 816 = .ok (.iaload, 1) := by decide +kernel
theorem dL_law_817 : decode cL_law 817 = .ok (.aload_n 0, 1) := by decide +kernel
theorem dL_law_818 : decode cL_law 818 = .ok (.iload_n 3, 1) := by decide +kernel
theorem dL_law_819 : decode cL_law 819 = .ok (.iconst 2, 1) := by decide +kernel
theorem dL_law_820 : decode cL_law 820 = .ok (.iadd, 1) := by decide +kernel
theorem dL_law_821 : decode cL_law 821 = .ok (.iaload, 1) := by decide +kernel
theorem dL_law_822 : decode cL_law 822 = .ok (.invokevirtual 101, 3) := by decide +kernel
theorem dL_law_825 : decode cL_law 825 = .ok (.if_icmp .eq 258, 3) := by decide +kernel
theorem dL_law_828 : decode cL_law 828 = .ok (.iconst 0, 1) := by decide +kernel
theorem dL_law_829 : decode cL_law 829 = .ok (.ireturn, 1) := by decide +kernel
theorem dL_law_830 : decode cL_law 830 = .ok (.aload_n 1, 1) := by decide +kernel
theorem dL_law_831 : decode cL_law 831 = .ok (.aload_n 0, 1) := by decide +kernel
theorem dL_law_832 : decode cL_law 832 = .ok (.iload_n 3, 1) := by decide +kernel
theorem dL_law_833 : decode cL_law 833 = .ok (.iconst 1, 1) := by decide +kernel
theorem dL_law_834 : decode cL_law 834 = .ok (.iadd, 1) := by decide +kernel
theorem dL_law_835 : decode cL_law 835 = .ok (.iaload, 1) := by decide +kernel
theorem dL_law_836 : decode cL_law 836 = .ok (.aload_n 0, 1) := by decide +kernel
theorem dL_law_837 : decode cL_law 837 = .ok (.iload_n 3, 1) := by decide +kernel
theorem dL_law_838 : decode cL_law 838 = .ok (.iconst 2, 1) := by decide +kernel
theorem dL_law_839 : decode cL_law 839 = .ok (.iadd, 1) := by decide +kernel
theorem dL_law_840 : decode cL_law 840 = .ok (.iaload, 1) := by decide +kernel
theorem dL_law_841 : decode cL_law 841 = .ok (.aload_n 0, 1) := by decide +kernel
theorem dL_law_842 : decode cL_law 842 = .ok (.iload_n 3, 1) := by decide +kernel
theorem dL_law_843 : decode cL_law 843 = .ok (.iconst 3, 1) := by decide +kernel
theorem dL_law_844 : decode cL_law 844 = .ok (.iadd, 1) := by decide +kernel
theorem dL_law_845 : decode cL_law 845 = .ok (.iaload, 1) := by decide +kernel
theorem dL_law_846 : decode cL_law 846 = .ok (.ifCond .eq 7, 3) := by decide +kernel
theorem dL_law_849 : decode cL_law 849 = .ok (.iconst 1, 1) := by decide +kernel
theorem dL_law_850 : decode cL_law 850 = .ok (.goto 4, 3) := by decide +kernel
theorem dL_law_853 : decode cL_law 853 = .ok (.iconst 0, 1) := by decide +kernel
theorem dL_law_854 : decode cL_law 854 = .ok (.invokevirtual 102, 3) := by decide +kernel
theorem dL_law_857 : decode cL_law 857 = .ok (.aload_n 2, 1) := by decide +kernel
theorem dL_law_858 : decode cL_law 858 = .ok (.aload_n 0, 1) := by decide +kernel
theorem dL_law_859 : decode cL_law 859 = .ok (.iload_n 3, 1) := by decide +kernel
theorem dL_law_860 : decode cL_law 860 = .ok (.iconst 1, 1) := by decide +kernel
theorem dL_law_861 : decode cL_law 861 = .ok (.iadd, 1) := by decide +kernel
theorem dL_law_862 : decode cL_law 862 = .ok (.iaload, 1) := by decide +kernel
theorem dL_law_863 : decode cL_law 863 = .ok (.aload_n 0, 1) := by decide +kernel
theorem dL_law_864 : decode cL_law 864 = .ok (.iload_n 3, 1) := by decide +kernel
theorem dL_law_865 : decode cL_law 865 = .ok (.iconst 2, 1) := by decide +kernel
theorem dL_law_866 : decode cL_law 866 = .ok (.iadd, 1) := by decide +kernel
theorem dL_law_867 : decode cL_law 867 = .ok (.iaload, 1) := by decide +kernel
theorem dL_law_868 : decode cL_law 868 = .ok (.aload_n 0, 1) := by decide +kernel
theorem dL_law_869 : decode cL_law 869 = .ok (.iload_n 3, 1) := by decide +kernel
theorem dL_law_870 : decode cL_law 870 = .ok (.iconst 3, 1) := by decide +kernel
theorem dL_law_871 : decode cL_law 871 = .ok (.iadd, 1) := by decide +kernel
theorem dL_law_872 : decode cL_law 872 = .ok (.iaload, 1) := by decide +kernel
theorem dL_law_873 : decode cL_law 873 = .ok (.ifCond .eq 7, 3) := by decide +kernel
theorem dL_law_876 : decode cL_law 876 = .ok (.iconst 1, 1) := by decide +kernel
theorem dL_law_877 : decode cL_law 877 = .ok (.goto 4, 3) := by decide +kernel
theorem dL_law_880 : decode cL_law 880 = .ok (.iconst 0, 1) := by decide +kernel
theorem dL_law_881 : decode cL_law 881 = .ok (.invokevirtual 105, 3) := by decide +kernel
theorem dL_law_884 : decode cL_law 884 = .ok (.if_icmp .eq 199, 3) := by decide +kernel
theorem dL_law_887 : decode cL_law 887 = .ok (.iconst 0, 1) := by decide +kernel
theorem dL_law_888 : decode cL_law 888 = .ok (.ireturn, 1) := by decide +kernel
theorem dL_law_889 : decode cL_law 889 = .ok (.aload_n 1, 1) := by decide +kernel
theorem dL_law_890 : decode cL_law 890 = .ok (.aload_n 0, 1) := by decide +kernel
theorem dL_law_891 : decode cL_law 891 = .ok (.iload_n 3, 1) := by decide +kernel
theorem dL_law_892 : decode cL_law 892 = .ok (.iconst 1, 1) := by decide +kernel
theorem dL_law_893 : decode cL_law 893 = .ok (.iadd, 1) := by decide +kernel
theorem dL_law_894 : decode cL_law 894 = .ok (.iaload, 1) := by decide +kernel
theorem dL_law_895 : decode cL_law 895 = .ok (.invokevirtual 106, 3) := by decide +kernel
theorem dL_law_898 : decode cL_law 898 = .ok (.aload_n 2, 1) := by decide +kernel
theorem dL_law_899 : decode cL_law 899 = .ok (.aload_n 0, 1) := by decide +kernel
theorem dL_law_900 : decode cL_law 900 = .ok (.iload_n 3, 1) := by decide +kernel
theorem dL_law_901 : decode cL_law 901 = .ok (.iconst 1, 1) := by decide +kernel
theorem dL_law_902 : decode cL_law 902 = .ok (.iadd, 1) := by decide +kernel
theorem dL_law_903 : decode cL_law 903 = .ok (.iaload, 1) := by decide +kernel
theorem dL_law_904 : decode cL_law 904 = .ok (.invokevirtual 109, 3) := by decide +kernel
theorem dL_law_907 : decode cL_law 907 = .ok (.if_icmp .eq 176, 3) := by decide +kernel
theorem dL_law_910 : decode cL_law 910 = .ok (.iconst 0, 1) := by decide +kernel
theorem dL_law_911 : decode cL_law 911 = .ok (.ireturn, 1) := by decide +kernel
theorem dL_law_912 : decode cL_law 912 = .ok (.aload_n 1, 1) := by decide +kernel
theorem dL_law_913 : decode cL_law 913 = .ok (.aload_n 0, 1) := by decide +kernel
theorem dL_law_914 : decode cL_law 914 = .ok (.iload_n 3, 1) := by decide +kernel
theorem dL_law_915 : decode cL_law 915 = .ok (.iconst 1, 1) := by decide +kernel
theorem dL_law_916 : decode cL_law 916 = .ok (.iadd, 1) := by decide +kernel
theorem dL_law_917 : decode cL_law 917 = .ok (.iaload, 1) := by decide +kernel
theorem dL_law_918 : decode cL_law 918 = .ok (.aload_n 0, 1) := by decide +kernel
theorem dL_law_919 : decode cL_law 919 = .ok (.iload_n 3, 1) := by decide +kernel
theorem dL_law_920 : decode cL_law 920 = .ok (.iconst 2, 1) := by decide +kernel
theorem dL_law_921 : decode cL_law 921 = .ok (.iadd, 1) := by decide +kernel
theorem dL_law_922 : decode cL_law 922 = .ok (.iaload, 1) := by decide +kernel
theorem dL_law_923 : decode cL_law 923 = .ok (.aload_n 0, 1) := by decide +kernel
theorem dL_law_924 : decode cL_law 924 = .ok (.iload_n 3, 1) := by decide +kernel
theorem dL_law_925 : decode cL_law 925 = .ok (.iconst 3, 1) := by decide +kernel
theorem dL_law_926 : decode cL_law 926 = .ok (.iadd, 1) := by decide +kernel
theorem dL_law_927 : decode cL_law 927 = .ok (.iaload, 1) := by decide +kernel
theorem dL_law_928 : decode cL_law 928 = .ok (.invokevirtual 110, 3) := by decide +kernel
theorem dL_law_931 : decode cL_law 931 = .ok (.aload_n 2, 1) := by decide +kernel
theorem dL_law_932 : decode cL_law 932 = .ok (.aload_n 0, 1) := by decide +kernel
theorem dL_law_933 : decode cL_law 933 = .ok (.iload_n 3, 1) := by decide +kernel
theorem dL_law_934 : decode cL_law 934 = .ok (.iconst 1, 1) := by decide +kernel
theorem dL_law_935 : decode cL_law 935 = .ok (.iadd, 1) := by decide +kernel
theorem dL_law_936 : decode cL_law 936 = .ok (.iaload, 1) := by decide +kernel
theorem dL_law_937 : decode cL_law 937 = .ok (.aload_n 0, 1) := by decide +kernel
theorem dL_law_938 : decode cL_law 938 = .ok (.iload_n 3, 1) := by decide +kernel
theorem dL_law_939 : decode cL_law 939 = .ok (.iconst 2, 1) := by decide +kernel
theorem dL_law_940 : decode cL_law 940 = .ok (.iadd, 1) := by decide +kernel
theorem dL_law_941 : decode cL_law 941 = .ok (.iaload, 1) := by decide +kernel
theorem dL_law_942 : decode cL_law 942 = .ok (.aload_n 0, 1) := by decide +kernel
theorem dL_law_943 : decode cL_law 943 = .ok (.iload_n 3, 1) := by decide +kernel
theorem dL_law_944 : decode cL_law 944 = .ok (.iconst 3, 1) := by decide +kernel
theorem dL_law_945 : decode cL_law 945 = .ok (.iadd, 1) := by decide +kernel
theorem dL_law_946 : decode cL_law 946 = .ok (.iaload, 1) := by decide +kernel
theorem dL_law_947 : decode cL_law 947 = .ok (.invokevirtual 113, 3) := by decide +kernel
theorem dL_law_950 : decode cL_law 950 = .ok (.if_icmp .eq 133, 3) := by decide +kernel
theorem dL_law_953 : decode cL_law 953 = .ok (.iconst 0, 1) := by decide +kernel
theorem dL_law_954 : decode cL_law 954 = .ok (.ireturn, 1) := by decide +kernel
theorem dL_law_955 : decode cL_law 955 = .ok (.aload_n 1, 1) := by decide +kernel
theorem dL_law_956 : decode cL_law 956 = .ok (.invokevirtual 114, 3) := by decide +kernel
theorem dL_law_959 : decode cL_law 959 = .ok (.aload_n 2, 1) := by decide +kernel
theorem dL_law_960 : decode cL_law 960 = .ok (.invokevirtual 118, 3) := by decide +kernel
theorem dL_law_963 : decode cL_law 963 = .ok (.if_icmp .eq 120, 3) := by decide +kernel
theorem dL_law_966 : decode cL_law 966 = .ok (.iconst 0, 1) := by decide +kernel
theorem dL_law_967 : decode cL_law 967 = .ok (.ireturn, 1) := by decide +kernel
theorem dL_law_968 : decode cL_law 968 = .ok (.aload_n 1, 1) := by decide +kernel
theorem dL_law_969 : decode cL_law 969 = .ok (.invokevirtual 119, 3) := by decide +kernel
theorem dL_law_972 : decode cL_law 972 = .ok (.aload_n 2, 1) := by decide +kernel
theorem dL_law_973 : decode cL_law 973 = .ok (.invokevirtual 122, 3) := by decide +kernel
theorem dL_law_976 : decode cL_law 976 = .ok (.if_icmp .eq 107, 3) := by decide +kernel
theorem dL_law_979 : decode cL_law 979 = .ok (.iconst 0, 1) := by decide +kernel
theorem dL_law_980 : decode cL_law 980 = .ok (.ireturn, 1) := by decide +kernel
theorem dL_law_981 : decode cL_law 981 = .ok (.aload_n 1, 1) := by decide +kernel
theorem dL_law_982 : decode cL_law 982 = .ok (.aload_n 0, 1) := by decide +kernel
theorem dL_law_983 : decode cL_law 983 = .ok (.iload_n 3, 1) := by decide +kernel
theorem dL_law_984 : decode cL_law 984 = .ok (.iconst 1, 1) := by decide +kernel
theorem dL_law_985 : decode cL_law 985 = .ok (.iadd, 1) := by decide +kernel
theorem dL_law_986 : decode cL_law 986 = .ok (.iaload, 1) := by decide +kernel
theorem dL_law_987 : decode cL_law 987 = .ok (.aload_n 0, 1) := by decide +kernel
theorem dL_law_988 : decode cL_law 988 = .ok (.iload_n 3, 1) := by decide +kernel
theorem dL_law_989 : decode cL_law 989 = .ok (.iconst 2, 1) := by decide +kernel
theorem dL_law_990 : decode cL_law 990 = .ok (.iadd, 1) := by decide +kernel
theorem dL_law_991 : decode cL_law 991 = .ok (.iaload, 1) := by decide +kernel
theorem dL_law_992 : decode cL_law 992 = .ok (.invokevirtual 123, 3) := by decide +kernel
theorem dL_law_995 : decode cL_law 995 = .ok (.aload_n 2, 1) := by decide +kernel
theorem dL_law_996 : decode cL_law 996 = .ok (.aload_n 0, 1) := by decide +kernel
theorem dL_law_997 : decode cL_law 997 = .ok (.iload_n 3, 1) := by decide +kernel
theorem dL_law_998 : decode cL_law 998 = .ok (.iconst 1, 1) := by decide +kernel
theorem dL_law_999 : decode cL_law 999 = .ok (.iadd, 1) := by decide +kernel
theorem dL_law_1000 : decode cL_law 1000 = .ok (.iaload, 1) := by decide +kernel
theorem dL_law_1001 : decode cL_law 1001 = .ok (.aload_n 0, 1) := by decide +kernel
theorem dL_law_1002 : decode cL_law 1002 = .ok (.iload_n 3, 1) := by decide +kernel
theorem dL_law_1003 : decode cL_law 1003 = .ok (.iconst 2, 1) := by decide +kernel
theorem dL_law_1004 : decode cL_law 1004 = .ok (.iadd, 1) := by decide +kernel
theorem dL_law_1005 : decode cL_law 1005 = .ok (.iaload, 1) := by decide +kernel
theorem dL_law_1006 : decode cL_law 1006 = .ok (.invokevirtual 126, 3) := by decide +kernel
theorem dL_law_1009 : decode cL_law 1009 = .ok (.if_icmp .eq 74, 3) := by decide +kernel
theorem dL_law_1012 : decode cL_law 1012 = .ok (.iconst 0, 1) := by decide +kernel
theorem dL_law_1013 : decode cL_law 1013 = .ok (.ireturn, 1) := by decide +kernel
theorem dL_law_1014 : decode cL_law 1014 = .ok (.aload_n 1, 1) := by decide +kernel
theorem dL_law_1015 : decode cL_law 1015 = .ok (.aload_n 0, 1) := by decide +kernel
theorem dL_law_1016 : decode cL_law 1016 = .ok (.iload_n 3, 1) := by decide +kernel
theorem dL_law_1017 : decode cL_law 1017 = .ok (.iconst 1, 1) := by decide +kernel
theorem dL_law_1018 : decode cL_law 1018 = .ok (.iadd, 1) := by decide +kernel
theorem dL_law_1019 : decode cL_law 1019 = .ok (.iaload, 1) := by decide +kernel
theorem dL_law_1020 : decode cL_law 1020 = .ok (.aload_n 0, 1) := by decide +kernel
theorem dL_law_1021 : decode cL_law 1021 = .ok (.iload_n 3, 1) := by decide +kernel
theorem dL_law_1022 : decode cL_law 1022 = .ok (.iconst 2, 1) := by decide +kernel
theorem dL_law_1023 : decode cL_law 1023 = .ok (.iadd, 1) := by decide +kernel
theorem dL_law_1024 : decode cL_law 1024 = .ok (.iaload, 1) := by decide +kernel
theorem dL_law_1025 : decode cL_law 1025 = .ok (.invokevirtual 127, 3) := by decide +kernel
theorem dL_law_1028 : decode cL_law 1028 = .ok (.aload_n 2, 1) := by decide +kernel
theorem dL_law_1029 : decode cL_law 1029 = .ok (.aload_n 0, 1) := by decide +kernel
theorem dL_law_1030 : decode cL_law 1030 = .ok (.iload_n 3, 1) := by decide +kernel
theorem dL_law_1031 : decode cL_law 1031 = .ok (.iconst 1, 1) := by decide +kernel
theorem dL_law_1032 : decode cL_law 1032 = .ok (.iadd, 1) := by decide +kernel
theorem dL_law_1033 : decode cL_law 1033 = .ok (.iaload, 1) := by decide +kernel
theorem dL_law_1034 : decode cL_law 1034 = .ok (.aload_n 0, 1) := by decide +kernel
theorem dL_law_1035 : decode cL_law 1035 = .ok (.iload_n 3, 1) := by decide +kernel
theorem dL_law_1036 : decode cL_law 1036 = .ok (.iconst 2, 1) := by decide +kernel
theorem dL_law_1037 : decode cL_law 1037 = .ok (.iadd, 1) := by decide +kernel
theorem dL_law_1038 : decode cL_law 1038 = .ok (.iaload, 1) := by decide +kernel
theorem dL_law_1039 : decode cL_law 1039 = .ok (.invokevirtual 130, 3) := by decide +kernel
theorem dL_law_1042 : decode cL_law 1042 = .ok (.if_icmp .eq 41, 3) := by decide +kernel
theorem dL_law_1045 : decode cL_law 1045 = .ok (.iconst 0, 1) := by decide +kernel
theorem dL_law_1046 : decode cL_law 1046 = .ok (.ireturn, 1) := by decide +kernel
theorem dL_law_1047 : decode cL_law 1047 = .ok (.aload_n 1, 1) := by decide +kernel
theorem dL_law_1048 : decode cL_law 1048 = .ok (.aload_n 0, 1) := by decide +kernel
theorem dL_law_1049 : decode cL_law 1049 = .ok (.iload_n 3, 1) := by decide +kernel
theorem dL_law_1050 : decode cL_law 1050 = .ok (.iconst 1, 1) := by decide +kernel
theorem dL_law_1051 : decode cL_law 1051 = .ok (.iadd, 1) := by decide +kernel
theorem dL_law_1052 : decode cL_law 1052 = .ok (.iaload, 1) := by decide +kernel
theorem dL_law_1053 : decode cL_law 1053 = .ok (.invokevirtual 131, 3) := by decide +kernel
theorem dL_law_1056 : decode cL_law 1056 = .ok (.aload_n 2, 1) := by decide +kernel
theorem dL_law_1057 : decode cL_law 1057 = .ok (.aload_n 0, 1) := by decide +kernel
theorem dL_law_1058 : decode cL_law 1058 = .ok (.iload_n 3, 1) := by decide +kernel
theorem dL_law_1059 : decode cL_law 1059 = .ok (.iconst 1, 1) := by decide +kernel
theorem dL_law_1060 : decode cL_law 1060 = .ok (.iadd, 1) := by decide +kernel
theorem dL_law_1061 : decode cL_law 1061 = .ok (.iaload, 1) := by decide +kernel
theorem dL_law_1062 : decode cL_law 1062 = .ok (.invokevirtual 134, 3) := by decide +kernel
theorem dL_law_1065 : decode cL_law 1065 = .ok (.if_icmp .eq 18, 3) := by decide +kernel
theorem dL_law_1068 : decode cL_law 1068 = .ok (.iconst 0, 1) := by decide +kernel
theorem dL_law_1069 : decode cL_law 1069 = .ok (.ireturn, 1) := by decide +kernel
theorem dL_law_1070 : decode cL_law 1070 = .ok (.aload_n 1, 1) := by decide +kernel
theorem dL_law_1071 : decode cL_law 1071 = .ok (.invokevirtual 135, 3) := by decide +kernel
theorem dL_law_1074 : decode cL_law 1074 = .ok (.aload_n 2, 1) := by decide +kernel
theorem dL_law_1075 : decode cL_law 1075 = .ok (.invokevirtual 138, 3) := by decide +kernel
theorem dL_law_1078 : decode cL_law 1078 = .ok (.if_icmp .eq 5, 3) := by decide +kernel
theorem dL_law_1081 : decode cL_law 1081 = .ok (.iconst 0, 1) := by decide +kernel
theorem dL_law_1082 : decode cL_law 1082 = .ok (.ireturn, 1) := by decide +kernel
theorem dL_law_1083 : decode cL_law 1083 = .ok (.iinc 3 6, 3) := by decide +kernel
theorem dL_law_1086 : decode cL_law 1086 = .ok (.goto (-1068), 3) := by decide +kernel
theorem dL_law_1089 : decode cL_law 1089 = .ok (.iconst 1, 1) := by decide +kernel
theorem dL_law_1090 : decode cL_law 1090 = .ok (.ireturn, 1) := by decide +kernel
end
section
/-! ===== the machine under a world: ints, references, longs by address and place ===== -/
abbrev Ev : Type := State × (Nat → ClassId) × (Nat → Nat → Nat) × (Nat → ClassId)
abbrev Mc : Type := Program × Launch × Env × Room × State × MethodId × Array Value × List Frame × Method × Code
abbrev Wd : Type := (Nat → Option (Nat × Nat)) × (Nat → Nat → Int32) × (Nat → Nat → Option Nat) × (Nat → Nat → Int64) × Nat
def eB (E : Ev) : Nat := E.1.heap.size
abbrev mP (M : Mc) : Program := M.1
abbrev mL (M : Mc) : Launch := M.2.1
abbrev mE (M : Mc) : Env := M.2.2.1
abbrev mR (M : Mc) : Room := M.2.2.2.1
abbrev mS (M : Mc) : State := M.2.2.2.2.1
abbrev mM (M : Mc) : MethodId := M.2.2.2.2.2.1
abbrev mA (M : Mc) : Array Value := M.2.2.2.2.2.2.1
abbrev mB (M : Mc) : List Frame := M.2.2.2.2.2.2.2.1
abbrev mT (M : Mc) : Method := M.2.2.2.2.2.2.2.2.1
abbrev mC (M : Mc) : Code := M.2.2.2.2.2.2.2.2.2
abbrev WW (M : Mc) (H : Heap) (locs : List Loc) (cells slots : Nat) (Q : State → Prop) (g : JFrame) : Prop := W (mP M) (mL M) (mE M) (mR M) (mS M) (mM M) (mA M) (mB M) (mT M) (mC M) H locs cells slots Q g
/-- the classes whose objects the world holds: Dogs 0, Gaps 1, LawBook 2, Plan 3, Race 4, SignRow 5, Tape 6, Team 7, Trail 8, SledHouse 9, Stop 10, Model's Team 11, Model 12 -/
abbrev kCl : List vw_C := [(RX0, TX0, 6), (RX1, TX1, 3), (RX2, TX2, 5), (RX4, TX4, 8), (RX5, TX5, 5), (RX6, TX6, 1), (RX7, TX7, 9), (RX8, TX8, 15), (RX9, TX9, 5), (RX10, TX10, 12), (RX11, TX11, 8), (RX12, TX12, 24), (RX13, TX13, 40)]
def fT (ci : Nat) : Nat → FieldType := match ci with
  | 0 => tyX0
  | 1 => tyX1
  | 2 => tyX2
  | 3 => tyX4
  | 4 => tyX5
  | 5 => tyX6
  | 6 => tyX7
  | 7 => tyX8
  | 8 => tyX9
  | 9 => tyX10
  | 10 => tyX11
  | 11 => tyX12
  | _ => tyX13
/-- arrays: 100 int, 101 byte, 102 boolean, 103 Plan, 104 SignRow, 105 Team, 106 Model's Team -/
def akT (k : Nat) : Option FieldType := match k with
  | 100 => some .int
  | 101 => some .byte
  | 102 => some .boolean
  | 103 => some (.object RX4)
  | 104 => some (.object RX6)
  | 105 => some (.object RX8)
  | 106 => some (.object RX12)
  | _ => none
def fkind (t : FieldType) : Nat := match t with
  | .object _ => 1
  | .array _ => 1
  | .long => 2
  | _ => 0
def fval (t : FieldType) (i : Int32) (r : Option Nat) (j : Int64) : Value := if fkind t = 0 then .int i else if fkind t = 1 then va_rf r else .long j
def cOK (E : Ev) (w : Wd) (H : Heap) (a : Nat) : Prop := ∀ k n, w.1 a = some (k, n) → eB E ≤ a ∧
  ((k < 100 ∧ ∃ r, kCl[k]? = some r ∧ t_OB a (E.2.1 k) r.2.2 (E.2.2.1 k) H (fun j => fval (fT k j) (w.2.1 a j) (w.2.2.1 a j) (w.2.2.2.1 a j))) ∨
   (100 ≤ k ∧ k < 103 ∧ H[a]? = some (arrV (E.2.2.2 k) n (fun j => .int (w.2.1 a j)))) ∨
   (103 ≤ k ∧ H[a]? = some (arrV (E.2.2.2 k) n (fun j => va_rf (w.2.2.1 a j)))))
def Rw (E : Ev) (w : Wd) (H : Heap) : Prop := H.size = w.2.2.2.2 ∧ eB E ≤ H.size ∧ (∀ q, q < eB E → H[q]? = E.1.heap[q]?) ∧ ∀ a, cOK E w H a
/-- what the start gives: the tables' words, the classes' numbers and slots, the array classes -/
def Glob (E : Ev) : Prop := (∃ a0, ∀ w ∈ lw_tbl, w.before a0 E.1 = true) ∧ (∀ k q, kCl[k]? = some q → u_Kn E.1 q.1 q.2.1 q.2.2 (E.2.1 k) (E.2.2.1 k)) ∧ (∀ k ty, akT k = some ty → ArrOfT E.1 (E.2.2.2 k) ty ∧ va_RA E.1 (E.2.2.2 k) ty)
def Cx (E : Ev) (M : Mc) (own : String) (cc : ByteArray) (nL : Nat) (rm : Room) (ret : Option FieldType) (nm : String) : Prop :=
  Glob E ∧ E.1.WarmedH (mS M).vm ∧ (mP M).tables.exec = Jvm.exec ∧ (mC M).code = cc ∧ (mC M).maxLocals = nL ∧ (mS M).vm.findClass own = some (mM M).cls ∧ (mT M).locks = false ∧ mR M = rm ∧ (mT M).sig.returnType = ret ∧ (mT M).name = nm
def lok (n : Nat) (ls : Array Slot) (L : List (Option Value)) : Prop := ls.size = n ∧ lv_wf ls ∧ ∀ (i : Nat) (v : Value), L[i]? = some (some v) → ls[i]? = some (.val v)
/-- at pc, with these locals, this stack, this world: the machine comes to Q -/
def G (E : Ev) (M : Mc) (cells slots : Nat) (Q : State → Prop) (pc : Nat) (L : List (Option Value)) (st : List Value) (w : Wd) : Prop :=
  ∀ (H : Heap) (locs : List Loc) (ls : Array Slot), Rw E w H → (∀ q ∈ locs, eB E ≤ q.base) → lok (mC M).maxLocals ls L → WW M H locs cells slots Q (F0 (mM M) pc ls st)
section CX
variable {E : Ev} {M : Mc} {own : String} {cc : ByteArray} {nL : Nat} {rm : Room} {ret : Option FieldType} {nm : String}
theorem Cx.glob (X : Cx E M own cc nL rm ret nm) : Glob E := X.1
theorem Cx.warm (X : Cx E M own cc nL rm ret nm) : E.1.WarmedH (mS M).vm := X.2.1
theorem Cx.hx (X : Cx E M own cc nL rm ret nm) : (mP M).tables.exec = Jvm.exec := X.2.2.1
theorem Cx.hb (X : Cx E M own cc nL rm ret nm) : (mC M).code = cc := X.2.2.2.1
theorem Cx.hml (X : Cx E M own cc nL rm ret nm) : (mC M).maxLocals = nL := X.2.2.2.2.1
theorem Cx.hown (X : Cx E M own cc nL rm ret nm) : (mS M).vm.findClass own = some (mM M).cls := X.2.2.2.2.2.1
theorem Cx.hlocks (X : Cx E M own cc nL rm ret nm) : (mT M).locks = false := X.2.2.2.2.2.2.1
theorem Cx.room (X : Cx E M own cc nL rm ret nm) : mR M = rm := X.2.2.2.2.2.2.2.1
theorem Cx.hret (X : Cx E M own cc nL rm ret nm) : (mT M).sig.returnType = ret := X.2.2.2.2.2.2.2.2.1
theorem Cx.hnm (X : Cx E M own cc nL rm ret nm) : (mT M).name = nm := X.2.2.2.2.2.2.2.2.2
def good (w : Cond) : Prop := (w.onTables && w.keeps) = true ∨ ∃ ty, w = .arrayClass ty
theorem Glob.word (h : Glob E) {U : State} (hW : E.1.WarmedH U.vm) {w : Cond} (hw : w ∈ lw_tbl) (hg : good w) {a' : Array Value} : w.before a' U = true := by
  obtain ⟨a0, h0⟩ := h.1
  exact word_at hW hg (h0 w hw)
theorem Cx.word (X : Cx E M own cc nL rm ret nm) {w : Cond} (hw : w ∈ lw_tbl) (hg : good w) {a' : Array Value} : w.before a' (mS M) = true := X.glob.word X.warm hw hg
theorem Cx.kn (X : Cx E M own cc nL rm ret nm) {k : Nat} {q : vw_C} (h : kCl[k]? = some q) : u_Kn (mS M) q.1 q.2.1 q.2.2 (E.2.1 k) (E.2.2.1 k) := u_Kn_moved X.warm.alike (X.glob.2.1 k q h)
theorem Cx.arr (X : Cx E M own cc nL rm ret nm) {k : Nat} {ty : FieldType} (h : akT k = some ty) : ArrOfT (mS M) (E.2.2.2 k) ty := arrOfT_moved X.warm.alike (X.glob.2.2 k ty h).1
theorem Cx.ra (X : Cx E M own cc nL rm ret nm) {k : Nat} {ty : FieldType} (h : akT k = some ty) : va_RA (mS M) (E.2.2.2 k) ty := (X.glob.2.2 k ty h).2.moved X.warm.alike
theorem Cx.nestF (X : Cx E M own cc nL rm ret nm) {a : String} {i : Nat} {b n d h : String} (hw : Cond.fieldLinkNest a i b n d h ∈ lw_tbl) {a' : Array Value} : (Cond.fieldLinkNest a i b n d h).before a' (mS M) = true := by
  obtain ⟨a0, h0⟩ := X.glob.1
  exact va_Nw.use rfl (va_Nw.warmF X.warm (va_Nw.of rfl (h0 _ hw)))
theorem Cx.nestM (X : Cx E M own cc nL rm ret nm) {a : String} {i : Nat} {x : MethodName} {h : String} (hw : Cond.methodLinkNest a i x h ∈ lw_tbl) {a' : Array Value} : (Cond.methodLinkNest a i x h).before a' (mS M) = true := by
  obtain ⟨a0, h0⟩ := X.glob.1
  exact va_Nw.use rfl (va_Nw.warmM X.warm (va_Nw.of rfl (h0 _ hw)))
end CX
/-! the fields' words -/
theorem inX0 : ∀ w ∈ u_ws RX0 TX0 6, w ∈ lw_tbl := by decide +kernel
theorem inX1 : ∀ w ∈ u_ws RX1 TX1 3, w ∈ lw_tbl := by decide +kernel
theorem inX2 : ∀ w ∈ u_ws RX2 TX2 5, w ∈ lw_tbl := by decide +kernel
theorem inX4 : ∀ w ∈ u_ws RX4 TX4 8, w ∈ lw_tbl := by decide +kernel
theorem inX5 : ∀ w ∈ u_ws RX5 TX5 5, w ∈ lw_tbl := by decide +kernel
theorem inX6 : ∀ w ∈ u_ws RX6 TX6 1, w ∈ lw_tbl := by decide +kernel
theorem inX7 : ∀ w ∈ u_ws RX7 TX7 9, w ∈ lw_tbl := by decide +kernel
theorem inX8 : ∀ w ∈ u_ws RX8 TX8 15, w ∈ lw_tbl := by decide +kernel
theorem inX9 : ∀ w ∈ u_ws RX9 TX9 5, w ∈ lw_tbl := by decide +kernel
theorem inX10 : ∀ w ∈ u_ws RX10 TX10 12, w ∈ lw_tbl := by decide +kernel
theorem inX11 : ∀ w ∈ u_ws RX11 TX11 8, w ∈ lw_tbl := by decide +kernel
theorem inX12 : ∀ w ∈ u_ws RX12 TX12 24, w ∈ lw_tbl := by decide +kernel
theorem inX13 : ∀ w ∈ u_ws RX13 TX13 40, w ∈ lw_tbl := by decide +kernel
theorem kCl_cases {P : Nat → vw_C → Prop} (h0 : P 0 (RX0, TX0, 6)) (h1 : P 1 (RX1, TX1, 3)) (h2 : P 2 (RX2, TX2, 5)) (h3 : P 3 (RX4, TX4, 8)) (h4 : P 4 (RX5, TX5, 5)) (h5 : P 5 (RX6, TX6, 1)) (h6 : P 6 (RX7, TX7, 9)) (h7 : P 7 (RX8, TX8, 15)) (h8 : P 8 (RX9, TX9, 5)) (h9 : P 9 (RX10, TX10, 12)) (h10 : P 10 (RX11, TX11, 8)) (h11 : P 11 (RX12, TX12, 24)) (h12 : P 12 (RX13, TX13, 40)) {k : Nat} {r : vw_C} (h : kCl[k]? = some r) : P k r := by
  match k, h with
  | 0, h => cases h; exact h0
  | 1, h => cases h; exact h1
  | 2, h => cases h; exact h2
  | 3, h => cases h; exact h3
  | 4, h => cases h; exact h4
  | 5, h => cases h; exact h5
  | 6, h => cases h; exact h6
  | 7, h => cases h; exact h7
  | 8, h => cases h; exact h8
  | 9, h => cases h; exact h9
  | 10, h => cases h; exact h10
  | 11, h => cases h; exact h11
  | 12, h => cases h; exact h12
  | k + 13, h => simp [kCl] at h
theorem kCl_in {k : Nat} {r : vw_C} (h : kCl[k]? = some r) : ∀ w ∈ u_ws r.1 r.2.1 r.2.2, w ∈ lw_tbl := kCl_cases (P := fun _ r => ∀ w ∈ u_ws r.1 r.2.1 r.2.2, w ∈ lw_tbl) inX0 inX1 inX2 inX4 inX5 inX6 inX7 inX8 inX9 inX10 inX11 inX12 inX13 h
theorem kCl_ty {k : Nat} {r : vw_C} (h : kCl[k]? = some r) : ∀ j, j < r.2.2 → parseFieldDescriptor (r.2.1 j).2.2.1 = some (fT k j) := kCl_cases (P := fun k r => ∀ j, j < r.2.2 → parseFieldDescriptor (r.2.1 j).2.2.1 = some (fT k j)) tyX0_ok tyX1_ok tyX2_ok tyX4_ok tyX5_ok tyX6_ok tyX7_ok tyX8_ok tyX9_ok tyX10_ok tyX11_ok tyX12_ok tyX13_ok h
theorem kCl_nm {k : Nat} {r : vw_C} (h : kCl[k]? = some r) : ∀ a, a < r.2.2 → ∀ b, b < r.2.2 → a ≠ b → (r.2.1 a).2.1 ≠ (r.2.1 b).2.1 := kCl_cases (P := fun _ r => ∀ a, a < r.2.2 → ∀ b, b < r.2.2 → a ≠ b → (r.2.1 a).2.1 ≠ (r.2.1 b).2.1) nmX0 nmX1 nmX2 nmX4 nmX5 nmX6 nmX7 nmX8 nmX9 nmX10 nmX11 nmX12 nmX13 h
theorem u_lay_good (C : String) (T : u_T) (k : Nat) : good (u_lay C T k) := by
  unfold u_lay
  split <;> exact Or.inl rfl
section CY
variable {E : Ev} {M : Mc} {own : String} {cc : ByteArray} {nL : Nat} {rm : Room} {ret : Option FieldType} {nm : String}
theorem Cx.lay (X : Cx E M own cc nL rm ret nm) {k j : Nat} {r : vw_C} (h : kCl[k]? = some r) (hj : j < r.2.2) : (u_lay r.1 r.2.1 j).before (mA M) (mS M) = true := X.word (kCl_in h _ (u_in_lay hj)) (u_lay_good _ _ _)
theorem Cx.lays (X : Cx E M own cc nL rm ret nm) {k j : Nat} {r : vw_C} (h : kCl[k]? = some r) (hj : j < r.2.2) :
    (Cond.lays r.1 (r.2.1 j).1 (r.2.1 j).2.1 (r.2.1 j).2.2.1).before (mA M) (mS M) = true ∨ (Cond.laysFinal r.1 (r.2.1 j).1 (r.2.1 j).2.1 (r.2.1 j).2.2.1).before (mA M) (mS M) = true := by
  have h2 := X.lay h hj
  unfold u_lay at h2
  split at h2
  · exact Or.inr h2
  · exact Or.inl h2
theorem Cx.apart (X : Cx E M own cc nL rm ret nm) {k : Nat} {r : vw_C} (h : kCl[k]? = some r) : ∀ x y, x < r.2.2 → y < r.2.2 → x ≠ y → (E.2.2.1 k) x ≠ (E.2.2.1 k) y := by
  intro x y hx hy hne
  obtain ⟨hS, -⟩ := X.kn h
  obtain ⟨_, _, _, fa, hia, ea⟩ := hS x hx
  obtain ⟨_, _, _, fb, hib, eb⟩ := hS y hy
  rw [← ea, ← eb]
  refine u_apart (X.lays h hx) (X.lays h hy) hia hib ?_
  rw [(State.fieldFound?_type hia (kCl_ty h x hx)).1, (State.fieldFound?_type hib (kCl_ty h y hy)).1]
  exact kCl_nm h x hx y hy hne
end CY
/-- a pool entry that names field k of class ci -/
def FL (own : String) (idx ci k : Nat) : Prop := ∃ r, kCl[ci]? = some r ∧ k < r.2.2 ∧ (Cond.fieldLink own idx (r.2.1 k).1 (r.2.1 k).2.1 (r.2.1 k).2.2.1 ∈ lw_tbl ∨ ∃ host, Cond.fieldLinkNest own idx (r.2.1 k).1 (r.2.1 k).2.1 (r.2.1 k).2.2.1 host ∈ lw_tbl)
def FLk (kd : Nat) (own : String) (idx ci k : Nat) : Prop := FL own idx ci k ∧ fkind (fT ci k) = kd
/-- it may be written: not final, or in its own class's constructor -/
def FW (own nm : String) (idx ci k : Nat) : Prop := ∃ r, kCl[ci]? = some r ∧ ((r.2.1 k).2.2.2 = false ∨ ((r.2.1 k).2.2.2 = true ∧ nm = "<init>" ∧ (r.2.1 k).1 = own ∧ Cond.fieldLink own idx (r.2.1 k).1 (r.2.1 k).2.1 (r.2.1 k).2.2.1 ∈ lw_tbl))
theorem kCl_lt {ci : Nat} {r : vw_C} (h : kCl[ci]? = some r) : ci < 13 := (List.getElem?_eq_some_iff.mp h).1
section CZ
variable {E : Ev} {M : Mc} {own : String} {cc : ByteArray} {nL : Nat} {rm : Room} {ret : Option FieldType} {nm : String} {pc : Nat} {ls : Array Slot} {st : List Value} {H : Heap} {locs : List Loc} {cells slots : Nat} {Q : State → Prop} {w : Wd} {a n idx ci k : Nat} {v : Value}
theorem Rw.obj (hR : Rw E w H) {r : vw_C} (hr : kCl[ci]? = some r) (hs : w.1 a = some (ci, n)) : eB E ≤ a ∧ t_OB a (E.2.1 ci) r.2.2 (E.2.2.1 ci) H (fun j => fval (fT ci j) (w.2.1 a j) (w.2.2.1 a j) (w.2.2.2.1 a j)) := by
  have h13 := kCl_lt hr
  obtain ⟨hb, h | h | h⟩ := hR.2.2.2 a ci n hs
  · obtain ⟨-, r', h1, h2⟩ := h
    cases hr.symm.trans h1
    exact ⟨hb, h2⟩
  · omega
  · omega
theorem getf_core (X : Cx E M own cc nL rm ret nm) (hd : decode cc pc = .ok (.getfield idx, 3)) (hf : FL own idx ci k) (hR : Rw E w H) (hs : w.1 a = some (ci, n)) (hv : fval (fT ci k) (w.2.1 a k) (w.2.2.1 a k) (w.2.2.2.1 a k) = v)
    (kk : WW M H locs cells slots Q (F0 (mM M) (pc + 3) ls (v :: st))) : WW M H locs cells slots Q (F0 (mM M) pc ls (.ref a :: st)) := by
  obtain ⟨r, hr, hk, hlink⟩ := hf
  obtain ⟨-, cell, q1, q2, q3, q4⟩ := hR.obj hr hs
  obtain ⟨hS, hfc, kC, hkC, hkind⟩ := X.kn hr
  obtain ⟨cf, kf, fi, f, hi, hsl⟩ := hS k hk
  have hst := (u_facts hfc hkC (X.lays hr hk) hi).1
  have hsv : cell.slots[f.slot]? = some v := by rw [hsl, q4 k hk]; exact congrArg some hv
  rcases hlink with h | ⟨host, h⟩
  · exact W.getf X.hx X.hb X.hown (X.word h (Or.inl rfl)) hi hst q1 (by rw [q3]; exact fun h => by cases h) hsv rfl rfl hd kk
  · exact va_Wgetf X.hx X.hb X.hown (X.nestF h) hi hst q1 (by rw [q3]; exact fun h => by cases h) hsv rfl rfl hd kk
theorem putf_core (X : Cx E M own cc nL rm ret nm) (hd : decode cc pc = .ok (.putfield idx, 3)) (hf : FL own idx ci k) (hw : FW own nm idx ci k) (hR : Rw E w H) (hs : w.1 a = some (ci, n)) (hn : narrow (fT ci k) v = v) (hfit : fits (fT ci k) v = true)
    (kk : ∀ (H' : Heap) (j : Nat), (∀ r, kCl[ci]? = some r → t_OB a (E.2.1 ci) r.2.2 (E.2.2.1 ci) H' (updV (fun j => fval (fT ci j) (w.2.1 a j) (w.2.2.1 a j) (w.2.2.2.1 a j)) k v)) → H'.size = H.size → (∀ q, q ≠ a → H'[q]? = H[q]?) → WW M H' (locs ++ [⟨a, j⟩]) cells slots Q (F0 (mM M) (pc + 3) ls st)) : WW M H locs cells slots Q (F0 (mM M) pc ls (v :: .ref a :: st)) := by
  obtain ⟨r, hr, hk, hlink⟩ := hf
  obtain ⟨-, cell, q1, q2, q3, q4⟩ := hR.obj hr hs
  obtain ⟨hS, hfc, kC, hkC, hkind⟩ := X.kn hr
  obtain ⟨cf, kf, fi, f, hi, hsl⟩ := hS k hk
  have hst := (u_facts hfc hkC (X.lays hr hk) hi).1
  have hlt : f.slot < cell.slots.size := by rw [hsl]; exact k2_hasslot (q4 k hk)
  have hap := X.apart hr
  have hlay := X.lay hr hk
  unfold u_lay at hlay
  obtain ⟨r', hr', hww⟩ := hw
  cases hr.symm.trans hr'
  have fin : ∀ H' : Heap, H'[a]? = some (cell.setSlot f.slot v) → ∀ r', kCl[ci]? = some r' → t_OB a (E.2.1 ci) r'.2.2 (E.2.2.1 ci) H' (updV (fun j => fval (fT ci j) (w.2.1 a j) (w.2.2.1 a j) (w.2.2.2.1 a j)) k v) := by
    intro H' e1 r' hr'
    cases hr.symm.trans hr'
    rw [hsl] at e1
    exact ⟨_, e1, q2, q3, t_set q4 hap hk v⟩
  rcases hww with hfin | ⟨hfin, hin2, hdecl, hl2⟩
  · rw [if_neg (by rw [hfin]; decide)] at hlay
    have h6 := u_store hfc hkC hkind hlay hi (kCl_ty hr k hk) hn hfit
    rcases hlink with h | ⟨host, h⟩
    · exact W.putK X.hx X.hb (f := f) ⟨X.hown, X.word h (Or.inl rfl), ⟨_, _, _, hi⟩, hst⟩ (by rw [q2]; exact h6) q1 q3 hlt rfl rfl hd fun H' e1 e2 e3 => kk H' _ (fin H' e1) e2 e3
    · exact va_WputK X.hx X.hb (f := f) X.hown (X.nestF h) hi hst (by rw [q2]; exact h6) q1 q3 hlt rfl rfl hd fun H' e1 e2 e3 => kk H' _ (fin H' e1) e2 e3
  · rw [if_pos hfin] at hlay
    have hcf : (mM M).cls = cf := by
      obtain ⟨_, _, c', _, _, _, -, -, hf', -, -, -, hown2, -⟩ := Cond.laysFinal_spec hlay
      have e1 : c' = cf := by have := hi.symm.trans hf'; simp at this; exact this.1.symm
      rw [hdecl] at hown2
      rw [← e1]; exact Option.some.inj (X.hown.symm.trans hown2)
    have h6 := u_fits hfc hkC hkind (Or.inr hlay) hi (kCl_ty hr k hk) hn hfit
    exact W.putFinK X.hx X.hb X.hown (X.word hl2 (Or.inl rfl)) hi hst hcf (X.hnm.trans hin2) (by rw [q2]; exact h6) q1 q3 hlt rfl rfl hd fun H' e1 e2 e3 => kk H' _ (fin H' e1) e2 e3
end CZ
end
section
/-! ===== rows: an instruction each, over G ===== -/
def up2 {α : Type} (f : Nat → Nat → α) (a k : Nat) (x : α) : Nat → Nat → α := fun b j => if b = a ∧ j = k then x else f b j
def up1 {α : Type} (f : Nat → α) (a : Nat) (x : α) : Nat → α := fun b => if b = a then x else f b
def zr {α : Type} (f : Nat → Nat → α) (a : Nat) (x : α) : Nat → Nat → α := fun b j => if b = a then x else f b j
theorem up2_same {α : Type} (f : Nat → Nat → α) (a k : Nat) (x : α) : up2 f a k x a k = x := by simp [up2]
theorem up2_a {α : Type} {f : Nat → Nat → α} {a k b j : Nat} {x : α} (h : b ≠ a) : up2 f a k x b j = f b j := by simp [up2, h]
theorem up2_k {α : Type} {f : Nat → Nat → α} {a k b j : Nat} {x : α} (h : j ≠ k) : up2 f a k x b j = f b j := by simp [up2, h]
theorem up2_row {α : Type} {f : Nat → Nat → α} {a k b : Nat} {x : α} (h : b ≠ a) : up2 f a k x b = f b := by funext j; simp [up2, h]
def prs (L : List (Option Value)) : List (Nat × Value) := (List.range L.length).filterMap (fun i => match L[i]? with
  | some (some v) => some (i, v)
  | _ => none)
theorem mem_prs {L : List (Option Value)} {i : Nat} {v : Value} : (i, v) ∈ prs L ↔ L[i]? = some (some v) := by
  unfold prs
  rw [List.mem_filterMap]
  constructor
  · rintro ⟨j, hj, h⟩
    split at h
    · next x hx =>
      cases h
      exact hx
    · cases h
  · intro h
    have hlt : i < L.length := (List.getElem?_eq_some_iff.mp h).1
    exact ⟨i, List.mem_range.mpr hlt, by rw [h]⟩
theorem lok.has {n : Nat} {ls : Array Slot} {L : List (Option Value)} (h : lok n ls L) : lv_has ls n (prs L) := ⟨h.1, h.2.1, fun q hq => h.2.2 q.1 q.2 (mem_prs.mp hq)⟩
/-- no long lies just ahead of place i -/
def okst (L : List (Option Value)) (i : Nat) : Bool := match i with
  | 0 => true
  | j + 1 => match L[j]? with
    | some (some v) => v.category == 1
    | _ => true
theorem lok.st1 {n : Nat} {ls' : Array Slot} {L : List (Option Value)} {i : Nat} {v : Value} (ho : okst L i = true) (h : lv_has ls' n ((i, v) :: (prs L).filter (fun q => !(q.1 == i) && !(q.1 + 1 == i && q.2.category == 2)))) : lok n ls' (L.set i (some v)) := by
  refine ⟨h.1, h.2.1, fun j w hj => ?_⟩
  by_cases hji : j = i
  · subst hji
    have hw : w = v := by
      rw [List.getElem?_set] at hj
      simp only [if_true] at hj
      split at hj
      · cases hj; rfl
      · cases hj
    rw [hw]
    exact h.2.2 (j, v) List.mem_cons_self
  · have hj2 : L[j]? = some (some w) := by
      rw [List.getElem?_set_ne (Ne.symm hji)] at hj
      exact hj
    refine h.2.2 (j, w) (List.mem_cons_of_mem _ (List.mem_filter.mpr ⟨mem_prs.mpr hj2, ?_⟩))
    simp only [Bool.and_eq_true, Bool.not_eq_true', beq_eq_false_iff_ne, Bool.and_eq_false_iff]
    refine ⟨hji, ?_⟩
    by_cases hj1 : j + 1 = i
    · right
      subst hj1
      simp only [okst, hj2] at ho
      have : w.category = 1 := by simpa using ho
      omega
    · left
      exact hj1
theorem lok.st2 {n : Nat} {ls' : Array Slot} {L : List (Option Value)} {i : Nat} {v : Value} (ho : okst L i = true) (h : lv_has ls' n ((i, v) :: (prs L).filter (fun q => !(q.1 == i) && (!(q.1 == i + 1) && !(q.1 + 1 == i && q.2.category == 2))))) : lok n ls' ((L.set i (some v)).set (i + 1) none) := by
  refine ⟨h.1, h.2.1, fun j w hj => ?_⟩
  by_cases hji1 : j = i + 1
  · subst hji1
    rw [List.getElem?_set] at hj
    simp only [if_true] at hj
    split at hj
    · cases hj
    · cases hj
  · rw [List.getElem?_set_ne (Ne.symm hji1)] at hj
    by_cases hji : j = i
    · subst hji
      have hw : w = v := by
        rw [List.getElem?_set] at hj
        simp only [if_true] at hj
        split at hj
        · cases hj; rfl
        · cases hj
      rw [hw]
      exact h.2.2 (j, v) List.mem_cons_self
    · have hj2 : L[j]? = some (some w) := by
        rw [List.getElem?_set_ne (Ne.symm hji)] at hj
        exact hj
      refine h.2.2 (j, w) (List.mem_cons_of_mem _ (List.mem_filter.mpr ⟨mem_prs.mpr hj2, ?_⟩))
      simp only [Bool.and_eq_true, Bool.not_eq_true', beq_eq_false_iff_ne, Bool.and_eq_false_iff]
      refine ⟨hji, hji1, ?_⟩
      by_cases hj1 : j + 1 = i
      · right
        subst hj1
        simp only [okst, hj2] at ho
        have : w.category = 1 := by simpa using ho
        omega
      · left
        exact hj1
section RW
variable {E : Ev} {M : Mc} {own : String} {cc : ByteArray} {nL : Nat} {rm : Room} {ret : Option FieldType} {nm : String} {cells slots : Nat} {Q : State → Prop} {pc : Nat} {L : List (Option Value)} {st : List Value} {w : Wd}
theorem r_iconst {n : Int} {v : Int32} (X : Cx E M own cc nL rm ret nm) (hd : decode cc pc = .ok (.iconst n, 1)) (hv : Int32.ofInt n = v) (kk : G E M cells slots Q (pc + 1) L (.int v :: st) w) : G E M cells slots Q pc L (st) w := fun H locs ls hR hl hls => lv_iconst X.hx X.hb hd hv (kk H locs ls hR hl hls)
theorem r_bipush {n : Int} {v : Int32} (X : Cx E M own cc nL rm ret nm) (hd : decode cc pc = .ok (.bipush n, 2)) (hv : (Int8.ofInt n).toInt32 = v) (kk : G E M cells slots Q (pc + 2) L (.int v :: st) w) : G E M cells slots Q pc L (st) w := fun H locs ls hR hl hls => lv_bipush X.hx X.hb hd hv (kk H locs ls hR hl hls)
theorem r_sipush {n : Int} {v : Int32} (X : Cx E M own cc nL rm ret nm) (hd : decode cc pc = .ok (.sipush n, 3)) (hv : (Int16.ofInt n).toInt32 = v) (kk : G E M cells slots Q (pc + 3) L (.int v :: st) w) : G E M cells slots Q pc L (st) w := fun H locs ls hR hl hls => lv_sipush X.hx X.hb hd hv (kk H locs ls hR hl hls)
theorem r_lconst {n : Fin 2} {v : Int64} (X : Cx E M own cc nL rm ret nm) (hd : decode cc pc = .ok (.lconst n, 1)) (hv : Int64.ofNat (n : Nat) = v) (kk : G E M cells slots Q (pc + 1) L (.long v :: st) w) : G E M cells slots Q pc L (st) w := fun H locs ls hR hl hls => lv_lconst X.hx X.hb hd hv (kk H locs ls hR hl hls)
theorem r_null  (X : Cx E M own cc nL rm ret nm) (hd : decode cc pc = .ok (.aconst_null, 1))  (kk : G E M cells slots Q (pc + 1) L (.null :: st) w) : G E M cells slots Q pc L (st) w := fun H locs ls hR hl hls => lv_null X.hx X.hb hd  (kk H locs ls hR hl hls)
theorem r_iload_n {k : Fin 4} {i : Nat} {x : Int32} (X : Cx E M own cc nL rm ret nm) (hd : decode cc pc = .ok (.iload_n k, 1)) (hi : (k : Nat) = i) (hx : L[i]? = some (some (.int x))) (kk : G E M cells slots Q (pc + 1) L (.int x :: st) w) : G E M cells slots Q pc L st w := fun H locs ls hR hl hls => lv_iload_n X.hx X.hb hd hi (hls.2.2 _ _ hx) (kk H locs ls hR hl hls)
theorem r_iload {i : Nat} {x : Int32} (X : Cx E M own cc nL rm ret nm) (hd : decode cc pc = .ok (.iload i, 2)) (hx : L[i]? = some (some (.int x))) (kk : G E M cells slots Q (pc + 2) L (.int x :: st) w) : G E M cells slots Q pc L st w := fun H locs ls hR hl hls => lv_iload X.hx X.hb hd (hls.2.2 _ _ hx) (kk H locs ls hR hl hls)
theorem r_lload_n {k : Fin 4} {i : Nat} {x : Int64} (X : Cx E M own cc nL rm ret nm) (hd : decode cc pc = .ok (.lload_n k, 1)) (hi : (k : Nat) = i) (hx : L[i]? = some (some (.long x))) (kk : G E M cells slots Q (pc + 1) L (.long x :: st) w) : G E M cells slots Q pc L st w := fun H locs ls hR hl hls => lv_lload_n X.hx X.hb hd hi (hls.2.2 _ _ hx) (kk H locs ls hR hl hls)
theorem r_lload {i : Nat} {x : Int64} (X : Cx E M own cc nL rm ret nm) (hd : decode cc pc = .ok (.lload i, 2)) (hx : L[i]? = some (some (.long x))) (kk : G E M cells slots Q (pc + 2) L (.long x :: st) w) : G E M cells slots Q pc L st w := fun H locs ls hR hl hls => lv_lload X.hx X.hb hd (hls.2.2 _ _ hx) (kk H locs ls hR hl hls)
theorem r_aload_n {k : Fin 4} {i : Nat} {x : Nat} (X : Cx E M own cc nL rm ret nm) (hd : decode cc pc = .ok (.aload_n k, 1)) (hi : (k : Nat) = i) (hx : L[i]? = some (some (.ref x))) (kk : G E M cells slots Q (pc + 1) L (.ref x :: st) w) : G E M cells slots Q pc L st w := fun H locs ls hR hl hls => lv_aload_n X.hx X.hb hd hi (hls.2.2 _ _ hx) (kk H locs ls hR hl hls)
theorem r_aload {i : Nat} {x : Nat} (X : Cx E M own cc nL rm ret nm) (hd : decode cc pc = .ok (.aload i, 2)) (hx : L[i]? = some (some (.ref x))) (kk : G E M cells slots Q (pc + 2) L (.ref x :: st) w) : G E M cells slots Q pc L st w := fun H locs ls hR hl hls => lv_aload X.hx X.hb hd (hls.2.2 _ _ hx) (kk H locs ls hR hl hls)
theorem r_istore_n {k : Fin 4} {i : Nat} {x : Int32} (X : Cx E M own cc nL rm ret nm) (hd : decode cc pc = .ok (.istore_n k, 1)) (hi : (k : Nat) = i) (hn : i < nL) (ho : okst L i = true) (kk : G E M cells slots Q (pc + 1) (L.set i (some (.int x))) st w) : G E M cells slots Q pc L (.int x :: st) w := fun H locs ls hR hl hls => lv_istore_n X.hx X.hb hd hi hls.has (by rw [X.hml]; exact hn) rfl (fun ls' h' => kk H locs ls' hR hl (lok.st1 ho h'))
theorem r_istore {i : Nat} {x : Int32} (X : Cx E M own cc nL rm ret nm) (hd : decode cc pc = .ok (.istore i, 2)) (hn : i < nL) (ho : okst L i = true) (kk : G E M cells slots Q (pc + 2) (L.set i (some (.int x))) st w) : G E M cells slots Q pc L (.int x :: st) w := fun H locs ls hR hl hls => lv_istore X.hx X.hb hd hls.has (by rw [X.hml]; exact hn) rfl (fun ls' h' => kk H locs ls' hR hl (lok.st1 ho h'))
theorem r_astore_n {k : Fin 4} {i : Nat} {x : Nat} (X : Cx E M own cc nL rm ret nm) (hd : decode cc pc = .ok (.astore_n k, 1)) (hi : (k : Nat) = i) (hn : i < nL) (ho : okst L i = true) (kk : G E M cells slots Q (pc + 1) (L.set i (some (.ref x))) st w) : G E M cells slots Q pc L (.ref x :: st) w := fun H locs ls hR hl hls => lv_astore_n X.hx X.hb hd hi hls.has (by rw [X.hml]; exact hn) rfl (fun ls' h' => kk H locs ls' hR hl (lok.st1 ho h'))
theorem r_astore {i : Nat} {x : Nat} (X : Cx E M own cc nL rm ret nm) (hd : decode cc pc = .ok (.astore i, 2)) (hn : i < nL) (ho : okst L i = true) (kk : G E M cells slots Q (pc + 2) (L.set i (some (.ref x))) st w) : G E M cells slots Q pc L (.ref x :: st) w := fun H locs ls hR hl hls => lv_astore X.hx X.hb hd hls.has (by rw [X.hml]; exact hn) rfl (fun ls' h' => kk H locs ls' hR hl (lok.st1 ho h'))
theorem r_lstore_n {k : Fin 4} {i : Nat} {x : Int64} (X : Cx E M own cc nL rm ret nm) (hd : decode cc pc = .ok (.lstore_n k, 1)) (hi : (k : Nat) = i) (hn : i + 1 < nL) (ho : okst L i = true) (kk : G E M cells slots Q (pc + 1) ((L.set i (some (.long x))).set (i + 1) none) st w) : G E M cells slots Q pc L (.long x :: st) w := fun H locs ls hR hl hls => lv_lstore_n X.hx X.hb hd hi hls.has (by rw [X.hml]; exact hn) rfl (fun ls' h' => kk H locs ls' hR hl (lok.st2 ho h'))
theorem r_iinc {i : Nat} {n : Int} {x v : Int32} (X : Cx E M own cc nL rm ret nm) (hd : decode cc pc = .ok (.iinc i n, 3)) (hx : L[i]? = some (some (.int x))) (hv : x + Int32.ofInt n = v) (hn : i < nL) (ho : okst L i = true) (kk : G E M cells slots Q (pc + 3) (L.set i (some (.int v))) st w) : G E M cells slots Q pc L st w := by
  intro H locs ls hR hl hls
  obtain ⟨k, hk⟩ := List.getElem?_of_mem (mem_prs.mpr hx)
  exact lv_iinc X.hx X.hb hd hls.has hk hv (by rw [X.hml]; exact hn) rfl (fun ls' h' => kk H locs ls' hR hl (lok.st1 ho h'))
/-- a counter goes on -/
theorem r_iincN {i j : Nat} (X : Cx E M own cc nL rm ret nm) (hd : decode cc pc = .ok (.iinc i 1, 3)) (hx : L[i]? = some (some (.int (nI j)))) (hn : i < nL) (ho : okst L i = true) (kk : G E M cells slots Q (pc + 3) (L.set i (some (.int (nI (j + 1))))) st w) : G E M cells slots Q pc L st w := r_iinc X hd hx (show nI j + Int32.ofInt 1 = nI (j + 1) from nI_1 j) hn ho kk
theorem r_iadd {x y : Int32} (X : Cx E M own cc nL rm ret nm) (hd : decode cc pc = .ok (.iadd, 1))  (kk : G E M cells slots Q (pc + 1) L (.int (x + y) :: st) w) : G E M cells slots Q pc L (.int y :: .int x :: st) w := fun H locs ls hR hl hls => lv_iadd X.hx X.hb hd  (kk H locs ls hR hl hls)
theorem r_isub {x y : Int32} (X : Cx E M own cc nL rm ret nm) (hd : decode cc pc = .ok (.isub, 1))  (kk : G E M cells slots Q (pc + 1) L (.int (x - y) :: st) w) : G E M cells slots Q pc L (.int y :: .int x :: st) w := fun H locs ls hR hl hls => lv_isub X.hx X.hb hd  (kk H locs ls hR hl hls)
theorem r_imul {x y : Int32} (X : Cx E M own cc nL rm ret nm) (hd : decode cc pc = .ok (.imul, 1))  (kk : G E M cells slots Q (pc + 1) L (.int (x * y) :: st) w) : G E M cells slots Q pc L (.int y :: .int x :: st) w := fun H locs ls hR hl hls => lv_imul X.hx X.hb hd  (kk H locs ls hR hl hls)
theorem r_iand {x y : Int32} (X : Cx E M own cc nL rm ret nm) (hd : decode cc pc = .ok (.iand, 1))  (kk : G E M cells slots Q (pc + 1) L (.int (x &&& y) :: st) w) : G E M cells slots Q pc L (.int y :: .int x :: st) w := fun H locs ls hR hl hls => lv_iand X.hx X.hb hd  (kk H locs ls hR hl hls)
theorem r_ishr {x y : Int32} (X : Cx E M own cc nL rm ret nm) (hd : decode cc pc = .ok (.ishr, 1))  (kk : G E M cells slots Q (pc + 1) L (.int (x >>> (y &&& 31)) :: st) w) : G E M cells slots Q pc L (.int y :: .int x :: st) w := fun H locs ls hR hl hls => lv_ishr X.hx X.hb hd  (kk H locs ls hR hl hls)
theorem r_idiv {x y : Int32} (X : Cx E M own cc nL rm ret nm) (hd : decode cc pc = .ok (.idiv, 1)) (hne : ¬ y = 0) (kk : G E M cells slots Q (pc + 1) L (.int (x / y) :: st) w) : G E M cells slots Q pc L (.int y :: .int x :: st) w := fun H locs ls hR hl hls => lv_idiv X.hx X.hb hd hne (kk H locs ls hR hl hls)
theorem r_irem {x y : Int32} (X : Cx E M own cc nL rm ret nm) (hd : decode cc pc = .ok (.irem, 1)) (hne : ¬ y = 0) (kk : G E M cells slots Q (pc + 1) L (.int (x - x / y * y) :: st) w) : G E M cells slots Q pc L (.int y :: .int x :: st) w := fun H locs ls hR hl hls => lv_irem X.hx X.hb hd hne (kk H locs ls hR hl hls)
theorem r_ineg {x : Int32} (X : Cx E M own cc nL rm ret nm) (hd : decode cc pc = .ok (.ineg, 1))  (kk : G E M cells slots Q (pc + 1) L (.int (-x) :: st) w) : G E M cells slots Q pc L (.int x :: st) w := fun H locs ls hR hl hls => lv_ineg X.hx X.hb hd  (kk H locs ls hR hl hls)
theorem r_ladd {x y : Int64} (X : Cx E M own cc nL rm ret nm) (hd : decode cc pc = .ok (.ladd, 1))  (kk : G E M cells slots Q (pc + 1) L (.long (x + y) :: st) w) : G E M cells slots Q pc L (.long y :: .long x :: st) w := fun H locs ls hR hl hls => lv_ladd X.hx X.hb hd  (kk H locs ls hR hl hls)
theorem r_lmul {x y : Int64} (X : Cx E M own cc nL rm ret nm) (hd : decode cc pc = .ok (.lmul, 1))  (kk : G E M cells slots Q (pc + 1) L (.long (x * y) :: st) w) : G E M cells slots Q pc L (.long y :: .long x :: st) w := fun H locs ls hR hl hls => lv_lmul X.hx X.hb hd  (kk H locs ls hR hl hls)
theorem r_i2l {x : Int32} (X : Cx E M own cc nL rm ret nm) (hd : decode cc pc = .ok (.i2l, 1))  (kk : G E M cells slots Q (pc + 1) L (.long x.toInt64 :: st) w) : G E M cells slots Q pc L (.int x :: st) w := fun H locs ls hR hl hls => lv_i2l X.hx X.hb hd rfl (kk H locs ls hR hl hls)
theorem r_i2b {x : Int32} (X : Cx E M own cc nL rm ret nm) (hd : decode cc pc = .ok (.i2b, 1))  (kk : G E M cells slots Q (pc + 1) L (.int x.toInt8.toInt32 :: st) w) : G E M cells slots Q pc L (.int x :: st) w := fun H locs ls hR hl hls => lv_i2b X.hx X.hb hd rfl (kk H locs ls hR hl hls)
theorem r_lcmp {x y : Int64} (X : Cx E M own cc nL rm ret nm) (hd : decode cc pc = .ok (.lcmp, 1)) (kk : G E M cells slots Q (pc + 1) L (.int (lg_cmp x y) :: st) w) : G E M cells slots Q pc L (.long y :: .long x :: st) w := fun H locs ls hR hl hls => W.lcmp X.hx X.hb hd (kk H locs ls hR hl hls)
theorem r_dup {va : Value} (X : Cx E M own cc nL rm ret nm) (hd : decode cc pc = .ok (.dup, 1)) (hva : va.category = 1) (kk : G E M cells slots Q (pc + 1) L (va :: va :: st) w) : G E M cells slots Q pc L (va :: st) w := fun H locs ls hR hl hls => lv_dup X.hx X.hb hd hva (kk H locs ls hR hl hls)
theorem r_pop {va : Value} (X : Cx E M own cc nL rm ret nm) (hd : decode cc pc = .ok (.pop, 1)) (hva : va.category = 1) (kk : G E M cells slots Q (pc + 1) L (st) w) : G E M cells slots Q pc L (va :: st) w := fun H locs ls hR hl hls => lv_pop X.hx X.hb hd hva (kk H locs ls hR hl hls)
theorem r_dup_x1 {va vb : Value} (X : Cx E M own cc nL rm ret nm) (hd : decode cc pc = .ok (.dup_x1, 1)) (hva : va.category = 1) (hvb : vb.category = 1) (kk : G E M cells slots Q (pc + 1) L (va :: vb :: va :: st) w) : G E M cells slots Q pc L (va :: vb :: st) w := fun H locs ls hR hl hls => lv_dup_x1 X.hx X.hb hd hva hvb (kk H locs ls hR hl hls)
theorem r_dup2 {va vb : Value} (X : Cx E M own cc nL rm ret nm) (hd : decode cc pc = .ok (.dup2, 1)) (hva : va.category = 1) (hvb : vb.category = 1) (kk : G E M cells slots Q (pc + 1) L (va :: vb :: va :: vb :: st) w) : G E M cells slots Q pc L (va :: vb :: st) w := fun H locs ls hR hl hls => lv_dup2_11 X.hx X.hb hd hva hvb (kk H locs ls hR hl hls)
theorem r_if_eq {x : Int32} {off : Int} {tgt : Nat} (X : Cx E M own cc nL rm ret nm) (hd : decode cc pc = .ok (.ifCond .eq off, 3)) (ht : (pc : Int) + off = (tgt : Int)) (kt : x = 0 → G E M cells slots Q tgt L st w) (kf : ¬ x = 0 → G E M cells slots Q (pc + 3) L st w) : G E M cells slots Q pc L (.int x :: st) w := fun H locs ls hR hl hls => lv_if_eq X.hx X.hb hd ht (fun h => kt h H locs ls hR hl hls) (fun h => kf h H locs ls hR hl hls)
theorem r_icmp_eq {x y : Int32} {off : Int} {tgt : Nat} (X : Cx E M own cc nL rm ret nm) (hd : decode cc pc = .ok (.if_icmp .eq off, 3)) (ht : (pc : Int) + off = (tgt : Int)) (kt : x = y → G E M cells slots Q tgt L st w) (kf : ¬ x = y → G E M cells slots Q (pc + 3) L st w) : G E M cells slots Q pc L (.int y :: .int x :: st) w := fun H locs ls hR hl hls => lv_icmp_eq X.hx X.hb hd ht (fun h => kt h H locs ls hR hl hls) (fun h => kf h H locs ls hR hl hls)
theorem r_icmpN_eq {i j : Nat} {off : Int} {tgt : Nat} (X : Cx E M own cc nL rm ret nm) (hd : decode cc pc = .ok (.if_icmp .eq off, 3)) (ht : (pc : Int) + off = (tgt : Int)) (hi : i < 2 ^ 31) (hj : j < 2 ^ 31) (kt : i = j → G E M cells slots Q tgt L st w) (kf : ¬ i = j → G E M cells slots Q (pc + 3) L st w) : G E M cells slots Q pc L (.int (nI j) :: .int (nI i) :: st) w := r_icmp_eq X hd ht (fun h => kt ((nI_eq hi hj).mp h)) (fun h => kf (fun q => h ((nI_eq hi hj).mpr q)))
theorem r_if_ne {x : Int32} {off : Int} {tgt : Nat} (X : Cx E M own cc nL rm ret nm) (hd : decode cc pc = .ok (.ifCond .ne off, 3)) (ht : (pc : Int) + off = (tgt : Int)) (kt : ¬ x = 0 → G E M cells slots Q tgt L st w) (kf : x = 0 → G E M cells slots Q (pc + 3) L st w) : G E M cells slots Q pc L (.int x :: st) w := fun H locs ls hR hl hls => lv_if_ne X.hx X.hb hd ht (fun h => kt h H locs ls hR hl hls) (fun h => kf h H locs ls hR hl hls)
theorem r_icmp_ne {x y : Int32} {off : Int} {tgt : Nat} (X : Cx E M own cc nL rm ret nm) (hd : decode cc pc = .ok (.if_icmp .ne off, 3)) (ht : (pc : Int) + off = (tgt : Int)) (kt : ¬ x = y → G E M cells slots Q tgt L st w) (kf : x = y → G E M cells slots Q (pc + 3) L st w) : G E M cells slots Q pc L (.int y :: .int x :: st) w := fun H locs ls hR hl hls => lv_icmp_ne X.hx X.hb hd ht (fun h => kt h H locs ls hR hl hls) (fun h => kf h H locs ls hR hl hls)
theorem r_icmpN_ne {i j : Nat} {off : Int} {tgt : Nat} (X : Cx E M own cc nL rm ret nm) (hd : decode cc pc = .ok (.if_icmp .ne off, 3)) (ht : (pc : Int) + off = (tgt : Int)) (hi : i < 2 ^ 31) (hj : j < 2 ^ 31) (kt : ¬ i = j → G E M cells slots Q tgt L st w) (kf : i = j → G E M cells slots Q (pc + 3) L st w) : G E M cells slots Q pc L (.int (nI j) :: .int (nI i) :: st) w := r_icmp_ne X hd ht (fun h => kt (fun q => h ((nI_eq hi hj).mpr q))) (fun h => kf ((nI_eq hi hj).mp h))
theorem r_if_lt {x : Int32} {off : Int} {tgt : Nat} (X : Cx E M own cc nL rm ret nm) (hd : decode cc pc = .ok (.ifCond .lt off, 3)) (ht : (pc : Int) + off = (tgt : Int)) (kt : x < 0 → G E M cells slots Q tgt L st w) (kf : ¬ x < 0 → G E M cells slots Q (pc + 3) L st w) : G E M cells slots Q pc L (.int x :: st) w := fun H locs ls hR hl hls => lv_if_lt X.hx X.hb hd ht (fun h => kt h H locs ls hR hl hls) (fun h => kf h H locs ls hR hl hls)
theorem r_icmp_lt {x y : Int32} {off : Int} {tgt : Nat} (X : Cx E M own cc nL rm ret nm) (hd : decode cc pc = .ok (.if_icmp .lt off, 3)) (ht : (pc : Int) + off = (tgt : Int)) (kt : x < y → G E M cells slots Q tgt L st w) (kf : ¬ x < y → G E M cells slots Q (pc + 3) L st w) : G E M cells slots Q pc L (.int y :: .int x :: st) w := fun H locs ls hR hl hls => lv_icmp_lt X.hx X.hb hd ht (fun h => kt h H locs ls hR hl hls) (fun h => kf h H locs ls hR hl hls)
theorem r_icmpN_lt {i j : Nat} {off : Int} {tgt : Nat} (X : Cx E M own cc nL rm ret nm) (hd : decode cc pc = .ok (.if_icmp .lt off, 3)) (ht : (pc : Int) + off = (tgt : Int)) (hi : i < 2 ^ 31) (hj : j < 2 ^ 31) (kt : i < j → G E M cells slots Q tgt L st w) (kf : j ≤ i → G E M cells slots Q (pc + 3) L st w) : G E M cells slots Q pc L (.int (nI j) :: .int (nI i) :: st) w := r_icmp_lt X hd ht (fun h => kt ((nI_ltI hi hj).mp h)) (fun h => kf (by have := mt (nI_ltI hi hj).mpr h; omega))
theorem r_if_ge {x : Int32} {off : Int} {tgt : Nat} (X : Cx E M own cc nL rm ret nm) (hd : decode cc pc = .ok (.ifCond .ge off, 3)) (ht : (pc : Int) + off = (tgt : Int)) (kt : 0 ≤ x → G E M cells slots Q tgt L st w) (kf : ¬ 0 ≤ x → G E M cells slots Q (pc + 3) L st w) : G E M cells slots Q pc L (.int x :: st) w := fun H locs ls hR hl hls => lv_if_ge X.hx X.hb hd ht (fun h => kt h H locs ls hR hl hls) (fun h => kf h H locs ls hR hl hls)
theorem r_icmp_ge {x y : Int32} {off : Int} {tgt : Nat} (X : Cx E M own cc nL rm ret nm) (hd : decode cc pc = .ok (.if_icmp .ge off, 3)) (ht : (pc : Int) + off = (tgt : Int)) (kt : y ≤ x → G E M cells slots Q tgt L st w) (kf : ¬ y ≤ x → G E M cells slots Q (pc + 3) L st w) : G E M cells slots Q pc L (.int y :: .int x :: st) w := fun H locs ls hR hl hls => lv_icmp_ge X.hx X.hb hd ht (fun h => kt h H locs ls hR hl hls) (fun h => kf h H locs ls hR hl hls)
theorem r_icmpN_ge {i j : Nat} {off : Int} {tgt : Nat} (X : Cx E M own cc nL rm ret nm) (hd : decode cc pc = .ok (.if_icmp .ge off, 3)) (ht : (pc : Int) + off = (tgt : Int)) (hi : i < 2 ^ 31) (hj : j < 2 ^ 31) (kt : j ≤ i → G E M cells slots Q tgt L st w) (kf : i < j → G E M cells slots Q (pc + 3) L st w) : G E M cells slots Q pc L (.int (nI j) :: .int (nI i) :: st) w := r_icmp_ge X hd ht (fun h => kt ((nI_leI hj hi).mp h)) (fun h => kf (by have := mt (nI_leI hj hi).mpr h; omega))
theorem r_if_gt {x : Int32} {off : Int} {tgt : Nat} (X : Cx E M own cc nL rm ret nm) (hd : decode cc pc = .ok (.ifCond .gt off, 3)) (ht : (pc : Int) + off = (tgt : Int)) (kt : 0 < x → G E M cells slots Q tgt L st w) (kf : ¬ 0 < x → G E M cells slots Q (pc + 3) L st w) : G E M cells slots Q pc L (.int x :: st) w := fun H locs ls hR hl hls => lv_if_gt X.hx X.hb hd ht (fun h => kt h H locs ls hR hl hls) (fun h => kf h H locs ls hR hl hls)
theorem r_icmp_gt {x y : Int32} {off : Int} {tgt : Nat} (X : Cx E M own cc nL rm ret nm) (hd : decode cc pc = .ok (.if_icmp .gt off, 3)) (ht : (pc : Int) + off = (tgt : Int)) (kt : y < x → G E M cells slots Q tgt L st w) (kf : ¬ y < x → G E M cells slots Q (pc + 3) L st w) : G E M cells slots Q pc L (.int y :: .int x :: st) w := fun H locs ls hR hl hls => lv_icmp_gt X.hx X.hb hd ht (fun h => kt h H locs ls hR hl hls) (fun h => kf h H locs ls hR hl hls)
theorem r_icmpN_gt {i j : Nat} {off : Int} {tgt : Nat} (X : Cx E M own cc nL rm ret nm) (hd : decode cc pc = .ok (.if_icmp .gt off, 3)) (ht : (pc : Int) + off = (tgt : Int)) (hi : i < 2 ^ 31) (hj : j < 2 ^ 31) (kt : j < i → G E M cells slots Q tgt L st w) (kf : i ≤ j → G E M cells slots Q (pc + 3) L st w) : G E M cells slots Q pc L (.int (nI j) :: .int (nI i) :: st) w := r_icmp_gt X hd ht (fun h => kt ((nI_ltI hj hi).mp h)) (fun h => kf (by have := mt (nI_ltI hj hi).mpr h; omega))
theorem r_if_le {x : Int32} {off : Int} {tgt : Nat} (X : Cx E M own cc nL rm ret nm) (hd : decode cc pc = .ok (.ifCond .le off, 3)) (ht : (pc : Int) + off = (tgt : Int)) (kt : x ≤ 0 → G E M cells slots Q tgt L st w) (kf : ¬ x ≤ 0 → G E M cells slots Q (pc + 3) L st w) : G E M cells slots Q pc L (.int x :: st) w := fun H locs ls hR hl hls => lv_if_le X.hx X.hb hd ht (fun h => kt h H locs ls hR hl hls) (fun h => kf h H locs ls hR hl hls)
theorem r_icmp_le {x y : Int32} {off : Int} {tgt : Nat} (X : Cx E M own cc nL rm ret nm) (hd : decode cc pc = .ok (.if_icmp .le off, 3)) (ht : (pc : Int) + off = (tgt : Int)) (kt : x ≤ y → G E M cells slots Q tgt L st w) (kf : ¬ x ≤ y → G E M cells slots Q (pc + 3) L st w) : G E M cells slots Q pc L (.int y :: .int x :: st) w := fun H locs ls hR hl hls => lv_icmp_le X.hx X.hb hd ht (fun h => kt h H locs ls hR hl hls) (fun h => kf h H locs ls hR hl hls)
theorem r_icmpN_le {i j : Nat} {off : Int} {tgt : Nat} (X : Cx E M own cc nL rm ret nm) (hd : decode cc pc = .ok (.if_icmp .le off, 3)) (ht : (pc : Int) + off = (tgt : Int)) (hi : i < 2 ^ 31) (hj : j < 2 ^ 31) (kt : i ≤ j → G E M cells slots Q tgt L st w) (kf : j < i → G E M cells slots Q (pc + 3) L st w) : G E M cells slots Q pc L (.int (nI j) :: .int (nI i) :: st) w := r_icmp_le X hd ht (fun h => kt ((nI_leI hi hj).mp h)) (fun h => kf (by have := mt (nI_leI hi hj).mpr h; omega))
theorem r_goto {off : Int} {tgt : Nat} (X : Cx E M own cc nL rm ret nm) (hd : decode cc pc = .ok (.goto off, 3)) (ht : (pc : Int) + off = (tgt : Int)) (kk : G E M cells slots Q tgt L st w) : G E M cells slots Q pc L st w := fun H locs ls hR hl hls => lv_goto X.hx X.hb hd ht (kk H locs ls hR hl hls)
theorem r_ifnonnull {x : Nat} {off : Int} {tgt : Nat} (X : Cx E M own cc nL rm ret nm) (hd : decode cc pc = .ok (.ifnonnull off, 3)) (ht : (pc : Int) + off = (tgt : Int)) (kk : G E M cells slots Q tgt L st w) : G E M cells slots Q pc L (.ref x :: st) w := fun H locs ls hR hl hls => lv_ifnonnull X.hx X.hb hd ht (kk H locs ls hR hl hls)
theorem r_ifnonnullN {off : Int} (X : Cx E M own cc nL rm ret nm) (hd : decode cc pc = .ok (.ifnonnull off, 3)) (kk : G E M cells slots Q (pc + 3) L st w) : G E M cells slots Q pc L (.null :: st) w := fun H locs ls hR hl hls => lv_ifnonnullN X.hx X.hb hd (kk H locs ls hR hl hls)
theorem r_lookup {dflt : Int} {ps : Array (Int × Int)} {len : Nat} {x : Int32} {off : Int} {tgt : Nat} (X : Cx E M own cc nL rm ret nm) (hd : decode cc pc = .ok (.lookupswitch dflt ps, len)) (hp : (ps.toList.zip (ps.toList.drop 1)).all (fun (a, next) => a.1 < next.1) = true) (ho : Op.lookupswitch.offset ps.toList dflt x.toInt = off) (ht : (pc : Int) + off = (tgt : Int)) (kk : G E M cells slots Q tgt L st w) : G E M cells slots Q pc L (.int x :: st) w := fun H locs ls hR hl hls => lv_lookup X.hx X.hb hd hp ho ht (kk H locs ls hR hl hls)
theorem r_tableOut {dflt lo hi : Int} {offs : Array Int} {len : Nat} {x : Int32} {tgt : Nat} (X : Cx E M own cc nL rm ret nm) (hd : decode cc pc = .ok (.tableswitch dflt lo hi offs, len)) (h : x.toInt < lo ∨ hi < x.toInt) (ht : (pc : Int) + dflt = (tgt : Int)) (kk : G E M cells slots Q tgt L st w) : G E M cells slots Q pc L (.int x :: st) w := fun H locs ls hR hl hls => lv_tableOut X.hx X.hb hd h ht (kk H locs ls hR hl hls)
theorem r_tableIn {dflt lo hi : Int} {offs : Array Int} {len : Nat} {x : Int32} {off : Int} {tgt : Nat} (X : Cx E M own cc nL rm ret nm) (hd : decode cc pc = .ok (.tableswitch dflt lo hi offs, len)) (h1 : ¬ x.toInt < lo) (h2 : ¬ hi < x.toInt) (ho : offs[(x.toInt - lo).toNat]? = some off) (ht : (pc : Int) + off = (tgt : Int)) (kk : G E M cells slots Q tgt L st w) : G E M cells slots Q pc L (.int x :: st) w := fun H locs ls hR hl hls => lv_tableIn X.hx X.hb hd h1 h2 ho ht (kk H locs ls hR hl hls)
/-- the top's number by another name -/
theorem r_topi {x : Int32} (y : Int32) (h : x = y) (kk : G E M cells slots Q pc L (.int y :: st) w) : G E M cells slots Q pc L (.int x :: st) w := h ▸ kk
theorem r_top2 {x z : Int32} (y : Int32) (h : x = y) (kk : G E M cells slots Q pc L (.int z :: .int y :: st) w) : G E M cells slots Q pc L (.int z :: .int x :: st) w := h ▸ kk
theorem r_name {x : Int32} (kk : ∀ y : Int32, y = x → G E M cells slots Q pc L (.int y :: st) w) : G E M cells slots Q pc L (.int x :: st) w := kk x rfl
theorem r_loc {L' : List (Option Value)} (h : L = L') (kk : G E M cells slots Q pc L' st w) : G E M cells slots Q pc L st w := h ▸ kk
theorem r_world {w' : Wd} (h : w = w') (kk : G E M cells slots Q pc L st w') : G E M cells slots Q pc L st w := h ▸ kk
/-- fewer locals are known -/
theorem r_weak {L' : List (Option Value)} (h : ∀ (i : Nat) (v : Value), L'[i]? = some (some v) → L[i]? = some (some v)) (kk : G E M cells slots Q pc L' st w) : G E M cells slots Q pc L st w := fun H locs ls hR hl hls => kk H locs ls hR hl ⟨hls.1, hls.2.1, fun i v hi => hls.2.2 i v (h i v hi)⟩
theorem r_widen {c' s' : Nat} (h1 : cells ≤ c') (h2 : slots ≤ s') (kk : G E M c' s' Q pc L st w) : G E M cells slots Q pc L st w := fun H locs ls hR hl hls => W.widen h1 h2 (kk H locs ls hR hl hls)
end RW
/-! the heap's rows -/
section RH
variable {E : Ev} {M : Mc} {own : String} {cc : ByteArray} {nL : Nat} {rm : Room} {ret : Option FieldType} {nm : String} {cells slots : Nat} {Q : State → Prop} {pc : Nat} {L : List (Option Value)} {st : List Value} {w w' : Wd} {H H' : Heap}
variable {S : Nat → Option (Nat × Nat)} {I : Nat → Nat → Int32} {V : Nat → Nat → Option Nat} {J : Nat → Nat → Int64} {N : Nat} {a n idx ci k : Nat}
theorem r_getI {x : Int32} (X : Cx E M own cc nL rm ret nm) (hd : decode cc pc = .ok (.getfield idx, 3)) (hf : FLk 0 own idx ci k) (hs : S a = some (ci, n)) (hv : I a k = x) (kk : G E M cells slots Q (pc + 3) L (.int x :: st) (S, I, V, J, N)) : G E M cells slots Q pc L (.ref a :: st) (S, I, V, J, N) :=
  fun H locs ls hR hl hls => getf_core X hd hf.1 hR hs (by simp only [fval, hf.2, if_true, hv]) (kk H locs ls hR hl hls)
theorem r_getR {b : Nat} (X : Cx E M own cc nL rm ret nm) (hd : decode cc pc = .ok (.getfield idx, 3)) (hf : FLk 1 own idx ci k) (hs : S a = some (ci, n)) (hv : V a k = some b) (kk : G E M cells slots Q (pc + 3) L (.ref b :: st) (S, I, V, J, N)) : G E M cells slots Q pc L (.ref a :: st) (S, I, V, J, N) :=
  fun H locs ls hR hl hls => getf_core X hd hf.1 hR hs (by simp [fval, hf.2, hv, va_rf]) (kk H locs ls hR hl hls)
theorem r_getN (X : Cx E M own cc nL rm ret nm) (hd : decode cc pc = .ok (.getfield idx, 3)) (hf : FLk 1 own idx ci k) (hs : S a = some (ci, n)) (hv : V a k = none) (kk : G E M cells slots Q (pc + 3) L (.null :: st) (S, I, V, J, N)) : G E M cells slots Q pc L (.ref a :: st) (S, I, V, J, N) :=
  fun H locs ls hR hl hls => getf_core X hd hf.1 hR hs (by simp [fval, hf.2, hv, va_rf]) (kk H locs ls hR hl hls)
theorem r_getJ {x : Int64} (X : Cx E M own cc nL rm ret nm) (hd : decode cc pc = .ok (.getfield idx, 3)) (hf : FLk 2 own idx ci k) (hs : S a = some (ci, n)) (hv : J a k = x) (kk : G E M cells slots Q (pc + 3) L (.long x :: st) (S, I, V, J, N)) : G E M cells slots Q pc L (.ref a :: st) (S, I, V, J, N) :=
  fun H locs ls hR hl hls => getf_core X hd hf.1 hR hs (by simp [fval, hf.2, hv]) (kk H locs ls hR hl hls)
theorem cOK.kept {b : Nat} (h : cOK E w H b) (e0 : w'.1 b = w.1 b) (e1 : w'.2.1 b = w.2.1 b) (e2 : w'.2.2.1 b = w.2.2.1 b) (e3 : w'.2.2.2.1 b = w.2.2.2.1 b) (hq : H'[b]? = H[b]?) : cOK E w' H' b := by
  intro k n hk
  rw [e0] at hk
  obtain ⟨hb, h | h | h⟩ := h k n hk
  · obtain ⟨h1, r, h2, h3⟩ := h
    refine ⟨hb, Or.inl ⟨h1, r, h2, ?_⟩⟩
    rw [e1, e2, e3]
    exact h3.kept hq
  · refine ⟨hb, Or.inr (Or.inl ⟨h.1, h.2.1, ?_⟩)⟩
    rw [hq, e1]
    exact h.2.2
  · refine ⟨hb, Or.inr (Or.inr ⟨h.1, ?_⟩)⟩
    rw [hq, e2]
    exact h.2
/-- a world's cell a moves to cell a of another world, all else stays -/
theorem Rw.moved (hR : Rw E w H) (hs : eB E ≤ a) (h2 : H'.size = H.size) (h3 : ∀ q, q ≠ a → H'[q]? = H[q]?) (e4 : w'.2.2.2.2 = w.2.2.2.2) (ho : ∀ b, b ≠ a → w'.1 b = w.1 b ∧ w'.2.1 b = w.2.1 b ∧ w'.2.2.1 b = w.2.2.1 b ∧ w'.2.2.2.1 b = w.2.2.2.1 b) (ha : cOK E w' H' a) : Rw E w' H' := by
  refine ⟨by rw [h2, e4]; exact hR.1, by rw [h2]; exact hR.2.1, fun q hq => ?_, fun b => ?_⟩
  · rw [h3 q (by omega)]
    exact hR.2.2.1 q hq
  · by_cases hb : b = a
    · subst hb
      exact ha
    · obtain ⟨e0, e1, e2, e3⟩ := ho b hb
      exact (hR.2.2.2 b).kept e0 e1 e2 e3 (h3 b hb)
theorem r_putI {x : Int32} (X : Cx E M own cc nL rm ret nm) (hd : decode cc pc = .ok (.putfield idx, 3)) (hf : FLk 0 own idx ci k) (hw : FW own nm idx ci k) (hs : S a = some (ci, n)) (hn : narrow (fT ci k) (.int x) = .int x) (hfit : fits (fT ci k) (.int x) = true) (kk : G E M cells slots Q (pc + 3) L st (S, up2 I a k x, V, J, N)) : G E M cells slots Q pc L (.int x :: .ref a :: st) (S, I, V, J, N) := by
  intro H locs ls hR hl hls
  obtain ⟨r, hr, -⟩ := id hf.1
  have hb := (hR.obj hr hs).1
  refine putf_core X hd hf.1 hw hR hs hn hfit fun H' j h1 h2 h3 => ?_
  refine kk H' _ ls ?_ (fun q hq => ?_) hls
  · refine hR.moved hb h2 h3 rfl (fun b hb => ⟨rfl, up2_row hb, rfl, rfl⟩) ?_
    intro k' n' hk'
    cases hs.symm.trans hk'
    refine ⟨hb, Or.inl ⟨by have := kCl_lt hr; omega, r, hr, (h1 r hr).to fun j _ => ?_⟩⟩
    by_cases hj : j = k
    · subst hj
      simp [updV, fval, hf.2, up2]
    · simp [updV, hj, up2]
  · rcases List.mem_append.mp hq with h | h
    · exact hl q h
    · rw [List.mem_singleton.mp h]
      exact hb
theorem r_putR {o : Option Nat} (X : Cx E M own cc nL rm ret nm) (hd : decode cc pc = .ok (.putfield idx, 3)) (hf : FLk 1 own idx ci k) (hw : FW own nm idx ci k) (hs : S a = some (ci, n)) (hn : narrow (fT ci k) (va_rf o) = va_rf o) (hfit : fits (fT ci k) (va_rf o) = true) (kk : G E M cells slots Q (pc + 3) L st (S, I, up2 V a k o, J, N)) : G E M cells slots Q pc L (va_rf o :: .ref a :: st) (S, I, V, J, N) := by
  intro H locs ls hR hl hls
  obtain ⟨r, hr, -⟩ := id hf.1
  have hb := (hR.obj hr hs).1
  refine putf_core X hd hf.1 hw hR hs hn hfit fun H' j h1 h2 h3 => ?_
  refine kk H' _ ls ?_ (fun q hq => ?_) hls
  · refine hR.moved hb h2 h3 rfl (fun b hb => ⟨rfl, rfl, up2_row hb, rfl⟩) ?_
    intro k' n' hk'
    cases hs.symm.trans hk'
    refine ⟨hb, Or.inl ⟨by have := kCl_lt hr; omega, r, hr, (h1 r hr).to fun j _ => ?_⟩⟩
    by_cases hj : j = k
    · subst hj
      simp [updV, fval, hf.2, up2]
    · simp [updV, hj, up2]
  · rcases List.mem_append.mp hq with h | h
    · exact hl q h
    · rw [List.mem_singleton.mp h]
      exact hb
theorem r_putJ {x : Int64} (X : Cx E M own cc nL rm ret nm) (hd : decode cc pc = .ok (.putfield idx, 3)) (hf : FLk 2 own idx ci k) (hw : FW own nm idx ci k) (hs : S a = some (ci, n)) (hn : narrow (fT ci k) (.long x) = .long x) (hfit : fits (fT ci k) (.long x) = true) (kk : G E M cells slots Q (pc + 3) L st (S, I, V, up2 J a k x, N)) : G E M cells slots Q pc L (.long x :: .ref a :: st) (S, I, V, J, N) := by
  intro H locs ls hR hl hls
  obtain ⟨r, hr, -⟩ := id hf.1
  have hb := (hR.obj hr hs).1
  refine putf_core X hd hf.1 hw hR hs hn hfit fun H' j h1 h2 h3 => ?_
  refine kk H' _ ls ?_ (fun q hq => ?_) hls
  · refine hR.moved hb h2 h3 rfl (fun b hb => ⟨rfl, rfl, rfl, up2_row hb⟩) ?_
    intro k' n' hk'
    cases hs.symm.trans hk'
    refine ⟨hb, Or.inl ⟨by have := kCl_lt hr; omega, r, hr, (h1 r hr).to fun j _ => ?_⟩⟩
    by_cases hj : j = k
    · subst hj
      simp [updV, fval, hf.2, up2]
    · simp [updV, hj, up2]
  · rcases List.mem_append.mp hq with h | h
    · exact hl q h
    · rw [List.mem_singleton.mp h]
      exact hb
theorem Rw.arrI (hR : Rw E w H) (hs : w.1 a = some (k, n)) (h1 : 100 ≤ k) (h2 : k < 103) : eB E ≤ a ∧ H[a]? = some (arrV (E.2.2.2 k) n (fun j => .int (w.2.1 a j))) := by
  obtain ⟨hb, h | h | h⟩ := hR.2.2.2 a k n hs
  · omega
  · exact ⟨hb, h.2.2⟩
  · omega
theorem Rw.arrR (hR : Rw E w H) (hs : w.1 a = some (k, n)) (h1 : 103 ≤ k) : eB E ≤ a ∧ H[a]? = some (arrV (E.2.2.2 k) n (fun j => va_rf (w.2.2.1 a j))) := by
  obtain ⟨hb, h | h | h⟩ := hR.2.2.2 a k n hs
  · omega
  · omega
  · exact ⟨hb, h.2⟩
theorem arrV_in {cA : ClassId} {f : Nat → Value} {i : Int32} (hin : vp_in i n) : ¬ (i < 0 ∨ (arrV cA n f).slots.size ≤ i.toNatClampNeg) := by rw [arrV_size]; exact hin
theorem vp_in_lt {i : Int32} (hin : vp_in i n) : i.toNatClampNeg < n := Nat.not_le.mp fun q => hin (Or.inr q)
theorem r_iald {i x : Int32} (X : Cx E M own cc nL rm ret nm) (hd : decode cc pc = .ok (.iaload, 1)) (hs : S a = some (100, n)) (hin : vp_in i n) (hv : I a i.toNatClampNeg = x) (kk : G E M cells slots Q (pc + 1) L (.int x :: st) (S, I, V, J, N)) : G E M cells slots Q pc L (.int i :: .ref a :: st) (S, I, V, J, N) :=
  fun H locs ls hR hl hls => W.iald X.hx X.hb (hR.arrI hs (by decide) (by decide)).2 (X.arr (k := 100) rfl _ _) (fun h => by cases h) (arrV_in hin) (v := .int x) (by rw [arrV_read _ _ (vp_in_lt hin)]; exact congrArg (fun z => some (Value.int z)) hv) rfl rfl hd (kk H locs ls hR hl hls)
theorem r_bald {i x : Int32} (X : Cx E M own cc nL rm ret nm) (hd : decode cc pc = .ok (.baload, 1)) (hs : S a = some (101, n)) (hin : vp_in i n) (hv : I a i.toNatClampNeg = x) (kk : G E M cells slots Q (pc + 1) L (.int x :: st) (S, I, V, J, N)) : G E M cells slots Q pc L (.int i :: .ref a :: st) (S, I, V, J, N) :=
  fun H locs ls hR hl hls => W.bald X.hx X.hb (hR.arrI hs (by decide) (by decide)).2 (X.arr (k := 101) rfl _ _) (fun h => by cases h) (arrV_in hin) (v := .int x) (by rw [arrV_read _ _ (vp_in_lt hin)]; exact congrArg (fun z => some (Value.int z)) hv) rfl rfl hd (kk H locs ls hR hl hls)
theorem r_zald {i x : Int32} (X : Cx E M own cc nL rm ret nm) (hd : decode cc pc = .ok (.baload, 1)) (hs : S a = some (102, n)) (hin : vp_in i n) (hv : I a i.toNatClampNeg = x) (kk : G E M cells slots Q (pc + 1) L (.int x :: st) (S, I, V, J, N)) : G E M cells slots Q pc L (.int i :: .ref a :: st) (S, I, V, J, N) :=
  fun H locs ls hR hl hls => W.zald X.hx X.hb (hR.arrI hs (by decide) (by decide)).2 (X.arr (k := 102) rfl _ _) (fun h => by cases h) (arrV_in hin) (v := .int x) (by rw [arrV_read _ _ (vp_in_lt hin)]; exact congrArg (fun z => some (Value.int z)) hv) rfl rfl hd (kk H locs ls hR hl hls)
/-- loads at a counted place -/
theorem r_ialdN {j : Nat} {x : Int32} (X : Cx E M own cc nL rm ret nm) (hd : decode cc pc = .ok (.iaload, 1)) (hs : S a = some (100, n)) (hj : j < n) (hn : n < 2 ^ 31) (hv : I a j = x) (kk : G E M cells slots Q (pc + 1) L (.int x :: st) (S, I, V, J, N)) : G E M cells slots Q pc L (.int (nI j) :: .ref a :: st) (S, I, V, J, N) := r_iald X hd hs (vp_in_nI hj hn) (by rw [nI_clamp (by omega)]; exact hv) kk
theorem r_baldN {j : Nat} {x : Int32} (X : Cx E M own cc nL rm ret nm) (hd : decode cc pc = .ok (.baload, 1)) (hs : S a = some (101, n)) (hj : j < n) (hn : n < 2 ^ 31) (hv : I a j = x) (kk : G E M cells slots Q (pc + 1) L (.int x :: st) (S, I, V, J, N)) : G E M cells slots Q pc L (.int (nI j) :: .ref a :: st) (S, I, V, J, N) := r_bald X hd hs (vp_in_nI hj hn) (by rw [nI_clamp (by omega)]; exact hv) kk
theorem r_zaldN {j : Nat} {x : Int32} (X : Cx E M own cc nL rm ret nm) (hd : decode cc pc = .ok (.baload, 1)) (hs : S a = some (102, n)) (hj : j < n) (hn : n < 2 ^ 31) (hv : I a j = x) (kk : G E M cells slots Q (pc + 1) L (.int x :: st) (S, I, V, J, N)) : G E M cells slots Q pc L (.int (nI j) :: .ref a :: st) (S, I, V, J, N) := r_zald X hd hs (vp_in_nI hj hn) (by rw [nI_clamp (by omega)]; exact hv) kk
theorem akT_ref (h : 103 ≤ k) {ty : FieldType} (ht : akT k = some ty) : ty.isReference = true := by
  unfold akT at ht
  split at ht <;> first | omega | (cases ht; rfl) | cases ht
theorem aald_core {i : Int32} {v : Value} {ty : FieldType} (X : Cx E M own cc nL rm ret nm) (hd : decode cc pc = .ok (.aaload, 1)) (hk : 103 ≤ k) (ht : akT k = some ty) (hs : S a = some (k, n)) (hin : vp_in i n) (hv : va_rf (V a i.toNatClampNeg) = v) (kk : G E M cells slots Q (pc + 1) L (v :: st) (S, I, V, J, N)) : G E M cells slots Q pc L (.int i :: .ref a :: st) (S, I, V, J, N) :=
  fun H locs ls hR hl hls => W.aald X.hx X.hb (hR.arrR hs hk).2 (X.arr ht _ _) (akT_ref hk ht) (fun h => by cases h) (arrV_in hin) (v := v) (by rw [arrV_read _ _ (vp_in_lt hin)]; exact congrArg some hv) rfl rfl hd (kk H locs ls hR hl hls)
theorem r_aald {i : Int32} {b : Nat} {ty : FieldType} (X : Cx E M own cc nL rm ret nm) (hd : decode cc pc = .ok (.aaload, 1)) (hs : S a = some (k, n)) (hk : 103 ≤ k) (ht : akT k = some ty) (hin : vp_in i n) (hv : V a i.toNatClampNeg = some b) (kk : G E M cells slots Q (pc + 1) L (.ref b :: st) (S, I, V, J, N)) : G E M cells slots Q pc L (.int i :: .ref a :: st) (S, I, V, J, N) := aald_core X hd hk ht hs hin (by rw [hv]; rfl) kk
theorem r_aaldN {j b : Nat} {ty : FieldType} (X : Cx E M own cc nL rm ret nm) (hd : decode cc pc = .ok (.aaload, 1)) (hs : S a = some (k, n)) (hk : 103 ≤ k) (ht : akT k = some ty) (hj : j < n) (hn : n < 2 ^ 31) (hv : V a j = some b) (kk : G E M cells slots Q (pc + 1) L (.ref b :: st) (S, I, V, J, N)) : G E M cells slots Q pc L (.int (nI j) :: .ref a :: st) (S, I, V, J, N) := r_aald X hd hs hk ht (vp_in_nI hj hn) (by rw [nI_clamp (by omega)]; exact hv) kk
theorem ast_core {i : Int32} (hR : Rw E (S, I, V, J, N) H) (hs : S a = some (k, n)) (h1 : 100 ≤ k) (h2 : k < 103) {x : Int32} (e1 : H'[a]? = some ((arrV (E.2.2.2 k) n (fun j => .int (I a j))).setSlot i.toNatClampNeg (.int x))) (e2 : H'.size = H.size) (e3 : ∀ q, q ≠ a → H'[q]? = H[q]?) : Rw E (S, up2 I a i.toNatClampNeg x, V, J, N) H' := by
  have hb := (hR.arrI hs h1 h2).1
  refine hR.moved hb e2 e3 rfl (fun b hb => ⟨rfl, up2_row hb, rfl, rfl⟩) ?_
  intro k' n' hk'
  cases hs.symm.trans hk'
  refine ⟨hb, Or.inr (Or.inl ⟨h1, h2, ?_⟩)⟩
  rw [e1, arrV_store]
  congr 2
  funext j
  by_cases hj : j = i.toNatClampNeg
  · simp [updV, up2, hj]
  · simp [updV, up2, hj]
theorem loc_core {locs : List Loc} {j : Nat} (hl : ∀ q ∈ locs, eB E ≤ q.base) (hb : eB E ≤ a) : ∀ q ∈ locs ++ [⟨a, j⟩], eB E ≤ q.base := by
  intro q hq
  rcases List.mem_append.mp hq with h | h
  · exact hl q h
  · rw [List.mem_singleton.mp h]
    exact hb
theorem r_iast {i x : Int32} (X : Cx E M own cc nL rm ret nm) (hd : decode cc pc = .ok (.iastore, 1)) (hs : S a = some (100, n)) (hin : vp_in i n) (kk : G E M cells slots Q (pc + 1) L st (S, up2 I a i.toNatClampNeg x, V, J, N)) : G E M cells slots Q pc L (.int x :: .int i :: .ref a :: st) (S, I, V, J, N) := by
  intro H locs ls hR hl hls
  obtain ⟨hb, hc⟩ := hR.arrI hs (by decide) (by decide)
  exact W.iast X.hx X.hb hc (X.arr (k := 100) rfl _ _) (fun h => by cases h) (arrV_in hin) rfl rfl hd fun H' e1 e2 e3 => kk H' _ ls (ast_core hR hs (by decide) (by decide) e1 e2 e3) (loc_core hl hb) hls
theorem r_iastN {j : Nat} {x : Int32} (X : Cx E M own cc nL rm ret nm) (hd : decode cc pc = .ok (.iastore, 1)) (hs : S a = some (100, n)) (hj : j < n) (hn : n < 2 ^ 31) (kk : G E M cells slots Q (pc + 1) L st (S, up2 I a j x, V, J, N)) : G E M cells slots Q pc L (.int x :: .int (nI j) :: .ref a :: st) (S, I, V, J, N) := r_iast X hd hs (vp_in_nI hj hn) (by rw [nI_clamp (by omega)]; exact kk)
theorem r_bast {i x y : Int32} (X : Cx E M own cc nL rm ret nm) (hd : decode cc pc = .ok (.bastore, 1)) (hs : S a = some (101, n)) (hin : vp_in i n) (hy : narrow .byte (.int x) = .int y) (kk : G E M cells slots Q (pc + 1) L st (S, up2 I a i.toNatClampNeg y, V, J, N)) : G E M cells slots Q pc L (.int x :: .int i :: .ref a :: st) (S, I, V, J, N) := by
  intro H locs ls hR hl hls
  obtain ⟨hb, hc⟩ := hR.arrI hs (by decide) (by decide)
  exact W.bast X.hx X.hb hc (X.arr (k := 101) rfl _ _) (fun h => by cases h) (arrV_in hin) rfl rfl hd fun H' e1 e2 e3 => kk H' _ ls (ast_core hR hs (by decide) (by decide) (by rw [e1, hy]) e2 e3) (loc_core hl hb) hls
theorem r_bastN {j : Nat} {x y : Int32} (X : Cx E M own cc nL rm ret nm) (hd : decode cc pc = .ok (.bastore, 1)) (hs : S a = some (101, n)) (hj : j < n) (hn : n < 2 ^ 31) (hy : narrow .byte (.int x) = .int y) (kk : G E M cells slots Q (pc + 1) L st (S, up2 I a j y, V, J, N)) : G E M cells slots Q pc L (.int x :: .int (nI j) :: .ref a :: st) (S, I, V, J, N) := r_bast X hd hs (vp_in_nI hj hn) hy (by rw [nI_clamp (by omega)]; exact kk)
theorem r_zast {i x y : Int32} (X : Cx E M own cc nL rm ret nm) (hd : decode cc pc = .ok (.bastore, 1)) (hs : S a = some (102, n)) (hin : vp_in i n) (hy : narrow .boolean (.int x) = .int y) (kk : G E M cells slots Q (pc + 1) L st (S, up2 I a i.toNatClampNeg y, V, J, N)) : G E M cells slots Q pc L (.int x :: .int i :: .ref a :: st) (S, I, V, J, N) := by
  intro H locs ls hR hl hls
  obtain ⟨hb, hc⟩ := hR.arrI hs (by decide) (by decide)
  exact W.zast X.hx X.hb hc (X.arr (k := 102) rfl _ _) (fun h => by cases h) (arrV_in hin) rfl rfl hd fun H' e1 e2 e3 => kk H' _ ls (ast_core hR hs (by decide) (by decide) (by rw [e1, hy]) e2 e3) (loc_core hl hb) hls
theorem r_zastN {j : Nat} {x y : Int32} (X : Cx E M own cc nL rm ret nm) (hd : decode cc pc = .ok (.bastore, 1)) (hs : S a = some (102, n)) (hj : j < n) (hn : n < 2 ^ 31) (hy : narrow .boolean (.int x) = .int y) (kk : G E M cells slots Q (pc + 1) L st (S, up2 I a j y, V, J, N)) : G E M cells slots Q pc L (.int x :: .int (nI j) :: .ref a :: st) (S, I, V, J, N) := r_zast X hd hs (vp_in_nI hj hn) hy (by rw [nI_clamp (by omega)]; exact kk)
theorem r_alen {ty : FieldType} (X : Cx E M own cc nL rm ret nm) (hd : decode cc pc = .ok (.arraylength, 1)) (hs : S a = some (k, n)) (hk : 100 ≤ k) (ht : akT k = some ty) (kk : G E M cells slots Q (pc + 1) L (.int (nI n) :: st) (S, I, V, J, N)) : G E M cells slots Q pc L (.ref a :: st) (S, I, V, J, N) := by
  intro H locs ls hR hl hls
  obtain ⟨hb, h | h | h⟩ := hR.2.2.2 a k n hs
  · omega
  · exact W.alen X.hx X.hb h.2.2 (X.arr ht _ _) (by rw [arrV_size]; rfl) rfl rfl hd (kk H locs ls hR hl hls)
  · exact W.alen X.hx X.hb h.2 (X.arr ht _ _) (by rw [arrV_size]; rfl) rfl rfl hd (kk H locs ls hR hl hls)
end RH
end
section
theorem zz_last : True := trivial
end
