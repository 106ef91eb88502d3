-- ===== PART A: goes FIRST, ahead of the names: the tables' words, and 'selects' of the private methods out of them =====
/-- a private method of a class that the tables say can be made, by its rows of tables_1 -/
def lw_okq (q : MethodName × Nat) : Prop := (q.1.cls ≠ "java/lang/invoke/MethodHandle" ∧ q.1.cls ≠ "java/lang/invoke/VarHandle") ∧ Cond.instantiable q.1.cls q.2 ∈ tables_1 ∧ Cond.privateMethod q.1 ∈ tables_1 ∧ Cond.instanceMethod q.1 ∈ tables_1
theorem lw_p0 : lw_okq (⟨"CordlessHouse", "refuse", "(I)I"⟩, 11) := ⟨⟨by decide +kernel, by decide +kernel⟩, List.mem_of_getElem? (i := 10) (by decide +kernel), List.mem_of_getElem? (i := 138) (by decide +kernel), List.mem_of_getElem? (i := 139) (by decide +kernel)⟩
theorem lw_p1 : lw_okq (⟨"CordlessHouse", "find", "(I)LCordlessHouse$Portable;"⟩, 11) := ⟨⟨by decide +kernel, by decide +kernel⟩, List.mem_of_getElem? (i := 10) (by decide +kernel), List.mem_of_getElem? (i := 257) (by decide +kernel), List.mem_of_getElem? (i := 258) (by decide +kernel)⟩
theorem lw_p2 : lw_okq (⟨"CordlessHouse", "endCall", "(LCordlessHouse$Portable;)V"⟩, 11) := ⟨⟨by decide +kernel, by decide +kernel⟩, List.mem_of_getElem? (i := 10) (by decide +kernel), List.mem_of_getElem? (i := 277) (by decide +kernel), List.mem_of_getElem? (i := 278) (by decide +kernel)⟩
theorem lw_p3 : lw_okq (⟨"CordlessHouse", "release", "(LCordlessHouse$Portable;)V"⟩, 11) := ⟨⟨by decide +kernel, by decide +kernel⟩, List.mem_of_getElem? (i := 10) (by decide +kernel), List.mem_of_getElem? (i := 292) (by decide +kernel), List.mem_of_getElem? (i := 293) (by decide +kernel)⟩
theorem lw_p4 : lw_okq (⟨"CordlessHouse$Radio", "dropBearer", "(I)V"⟩, 11) := ⟨⟨by decide +kernel, by decide +kernel⟩, List.mem_of_getElem? (i := 18) (by decide +kernel), List.mem_of_getElem? (i := 308) (by decide +kernel), List.mem_of_getElem? (i := 309) (by decide +kernel)⟩
theorem lw_p5 : lw_okq (⟨"CordlessHouse$Blocks", "wrap", "(I)I"⟩, 3) := ⟨⟨by decide +kernel, by decide +kernel⟩, List.mem_of_getElem? (i := 162) (by decide +kernel), List.mem_of_getElem? (i := 324) (by decide +kernel), List.mem_of_getElem? (i := 325) (by decide +kernel)⟩
theorem lw_p6 : lw_okq (⟨"CordlessHouse", "runFrame", "()V"⟩, 11) := ⟨⟨by decide +kernel, by decide +kernel⟩, List.mem_of_getElem? (i := 10) (by decide +kernel), List.mem_of_getElem? (i := 333) (by decide +kernel), List.mem_of_getElem? (i := 334) (by decide +kernel)⟩
theorem lw_p7 : lw_okq (⟨"CordlessHouse", "setUpBearers", "()V"⟩, 11) := ⟨⟨by decide +kernel, by decide +kernel⟩, List.mem_of_getElem? (i := 10) (by decide +kernel), List.mem_of_getElem? (i := 337) (by decide +kernel), List.mem_of_getElem? (i := 338) (by decide +kernel)⟩
theorem lw_p8 : lw_okq (⟨"CordlessHouse", "wantsBearer", "(LCordlessHouse$Portable;)Z"⟩, 11) := ⟨⟨by decide +kernel, by decide +kernel⟩, List.mem_of_getElem? (i := 10) (by decide +kernel), List.mem_of_getElem? (i := 341) (by decide +kernel), List.mem_of_getElem? (i := 342) (by decide +kernel)⟩
theorem lw_p9 : lw_okq (⟨"CordlessHouse$Radio", "firstBearerOf", "(I)I"⟩, 11) := ⟨⟨by decide +kernel, by decide +kernel⟩, List.mem_of_getElem? (i := 18) (by decide +kernel), List.mem_of_getElem? (i := 353) (by decide +kernel), List.mem_of_getElem? (i := 354) (by decide +kernel)⟩
theorem lw_p10 : lw_okq (⟨"CordlessHouse$Radio", "lastBearerOf", "(I)I"⟩, 11) := ⟨⟨by decide +kernel, by decide +kernel⟩, List.mem_of_getElem? (i := 18) (by decide +kernel), List.mem_of_getElem? (i := 357) (by decide +kernel), List.mem_of_getElem? (i := 358) (by decide +kernel)⟩
theorem lw_p11 : lw_okq (⟨"CordlessHouse$Radio", "chooseCell", "(I)I"⟩, 11) := ⟨⟨by decide +kernel, by decide +kernel⟩, List.mem_of_getElem? (i := 18) (by decide +kernel), List.mem_of_getElem? (i := 365) (by decide +kernel), List.mem_of_getElem? (i := 366) (by decide +kernel)⟩
theorem lw_p12 : lw_okq (⟨"CordlessHouse$Radio", "reachesPlace", "(II)Z"⟩, 11) := ⟨⟨by decide +kernel, by decide +kernel⟩, List.mem_of_getElem? (i := 18) (by decide +kernel), List.mem_of_getElem? (i := 373) (by decide +kernel), List.mem_of_getElem? (i := 374) (by decide +kernel)⟩
theorem lw_p13 : lw_okq (⟨"CordlessHouse$Radio", "chooseChannel", "(II)I"⟩, 11) := ⟨⟨by decide +kernel, by decide +kernel⟩, List.mem_of_getElem? (i := 18) (by decide +kernel), List.mem_of_getElem? (i := 377) (by decide +kernel), List.mem_of_getElem? (i := 378) (by decide +kernel)⟩
theorem lw_p14 : lw_okq (⟨"CordlessHouse$Radio", "takenSlots", "(II)I"⟩, 11) := ⟨⟨by decide +kernel, by decide +kernel⟩, List.mem_of_getElem? (i := 18) (by decide +kernel), List.mem_of_getElem? (i := 381) (by decide +kernel), List.mem_of_getElem? (i := 382) (by decide +kernel)⟩
theorem lw_p15 : lw_okq (⟨"CordlessHouse$Radio", "addBearer", "(III)V"⟩, 11) := ⟨⟨by decide +kernel, by decide +kernel⟩, List.mem_of_getElem? (i := 18) (by decide +kernel), List.mem_of_getElem? (i := 407) (by decide +kernel), List.mem_of_getElem? (i := 408) (by decide +kernel)⟩
def lw_privs_1 : List (MethodName × Nat) := [(⟨"CordlessHouse", "refuse", "(I)I"⟩, 11), (⟨"CordlessHouse", "find", "(I)LCordlessHouse$Portable;"⟩, 11), (⟨"CordlessHouse", "endCall", "(LCordlessHouse$Portable;)V"⟩, 11), (⟨"CordlessHouse", "release", "(LCordlessHouse$Portable;)V"⟩, 11), (⟨"CordlessHouse$Radio", "dropBearer", "(I)V"⟩, 11), (⟨"CordlessHouse$Blocks", "wrap", "(I)I"⟩, 3), (⟨"CordlessHouse", "runFrame", "()V"⟩, 11), (⟨"CordlessHouse", "setUpBearers", "()V"⟩, 11), (⟨"CordlessHouse", "wantsBearer", "(LCordlessHouse$Portable;)Z"⟩, 11), (⟨"CordlessHouse$Radio", "firstBearerOf", "(I)I"⟩, 11), (⟨"CordlessHouse$Radio", "lastBearerOf", "(I)I"⟩, 11), (⟨"CordlessHouse$Radio", "chooseCell", "(I)I"⟩, 11), (⟨"CordlessHouse$Radio", "reachesPlace", "(II)Z"⟩, 11), (⟨"CordlessHouse$Radio", "chooseChannel", "(II)I"⟩, 11), (⟨"CordlessHouse$Radio", "takenSlots", "(II)I"⟩, 11), (⟨"CordlessHouse$Radio", "addBearer", "(III)V"⟩, 11)]
theorem lw_r1 : ∀ q ∈ lw_privs_1, lw_okq q := List.forall_mem_cons.mpr ⟨lw_p0, List.forall_mem_cons.mpr ⟨lw_p1, List.forall_mem_cons.mpr ⟨lw_p2, List.forall_mem_cons.mpr ⟨lw_p3, List.forall_mem_cons.mpr ⟨lw_p4, List.forall_mem_cons.mpr ⟨lw_p5, List.forall_mem_cons.mpr ⟨lw_p6, List.forall_mem_cons.mpr ⟨lw_p7, List.forall_mem_cons.mpr ⟨lw_p8, List.forall_mem_cons.mpr ⟨lw_p9, List.forall_mem_cons.mpr ⟨lw_p10, List.forall_mem_cons.mpr ⟨lw_p11, List.forall_mem_cons.mpr ⟨lw_p12, List.forall_mem_cons.mpr ⟨lw_p13, List.forall_mem_cons.mpr ⟨lw_p14, List.forall_mem_cons.mpr ⟨lw_p15, fun _ h => absurd h List.not_mem_nil⟩⟩⟩⟩⟩⟩⟩⟩⟩⟩⟩⟩⟩⟩⟩⟩
theorem lw_p16 : lw_okq (⟨"CordlessHouse$Radio", "comesUp", "(III)Z"⟩, 11) := ⟨⟨by decide +kernel, by decide +kernel⟩, List.mem_of_getElem? (i := 18) (by decide +kernel), List.mem_of_getElem? (i := 415) (by decide +kernel), List.mem_of_getElem? (i := 416) (by decide +kernel)⟩
theorem lw_p17 : lw_okq (⟨"CordlessHouse", "dropHandedOver", "()V"⟩, 11) := ⟨⟨by decide +kernel, by decide +kernel⟩, List.mem_of_getElem? (i := 10) (by decide +kernel), List.mem_of_getElem? (i := 423) (by decide +kernel), List.mem_of_getElem? (i := 424) (by decide +kernel)⟩
theorem lw_p18 : lw_okq (⟨"CordlessHouse", "endCallsWithoutBearer", "()V"⟩, 11) := ⟨⟨by decide +kernel, by decide +kernel⟩, List.mem_of_getElem? (i := 10) (by decide +kernel), List.mem_of_getElem? (i := 431) (by decide +kernel), List.mem_of_getElem? (i := 432) (by decide +kernel)⟩
theorem lw_p19 : lw_okq (⟨"CordlessHouse", "advanceCalls", "()V"⟩, 11) := ⟨⟨by decide +kernel, by decide +kernel⟩, List.mem_of_getElem? (i := 10) (by decide +kernel), List.mem_of_getElem? (i := 435) (by decide +kernel), List.mem_of_getElem? (i := 436) (by decide +kernel)⟩
theorem lw_p20 : lw_okq (⟨"CordlessHouse", "advance", "(LCordlessHouse$Portable;)Z"⟩, 11) := ⟨⟨by decide +kernel, by decide +kernel⟩, List.mem_of_getElem? (i := 10) (by decide +kernel), List.mem_of_getElem? (i := 443) (by decide +kernel), List.mem_of_getElem? (i := 444) (by decide +kernel)⟩
theorem lw_p21 : lw_okq (⟨"CordlessHouse", "isProven", "(LCordlessHouse$Portable;)Z"⟩, 11) := ⟨⟨by decide +kernel, by decide +kernel⟩, List.mem_of_getElem? (i := 10) (by decide +kernel), List.mem_of_getElem? (i := 447) (by decide +kernel), List.mem_of_getElem? (i := 448) (by decide +kernel)⟩
theorem lw_p22 : lw_okq (⟨"CordlessHouse", "pagePartner", "(LCordlessHouse$Portable;)Z"⟩, 11) := ⟨⟨by decide +kernel, by decide +kernel⟩, List.mem_of_getElem? (i := 10) (by decide +kernel), List.mem_of_getElem? (i := 456) (by decide +kernel), List.mem_of_getElem? (i := 457) (by decide +kernel)⟩
theorem lw_p23 : lw_okq (⟨"CordlessHouse", "carryUp", "()V"⟩, 11) := ⟨⟨by decide +kernel, by decide +kernel⟩, List.mem_of_getElem? (i := 10) (by decide +kernel), List.mem_of_getElem? (i := 463) (by decide +kernel), List.mem_of_getElem? (i := 464) (by decide +kernel)⟩
theorem lw_p24 : lw_okq (⟨"CordlessHouse", "canTalk", "(LCordlessHouse$Portable;)Z"⟩, 11) := ⟨⟨by decide +kernel, by decide +kernel⟩, List.mem_of_getElem? (i := 10) (by decide +kernel), List.mem_of_getElem? (i := 467) (by decide +kernel), List.mem_of_getElem? (i := 468) (by decide +kernel)⟩
theorem lw_p25 : lw_okq (⟨"CordlessHouse", "sendUp", "(LCordlessHouse$Portable;)V"⟩, 11) := ⟨⟨by decide +kernel, by decide +kernel⟩, List.mem_of_getElem? (i := 10) (by decide +kernel), List.mem_of_getElem? (i := 471) (by decide +kernel), List.mem_of_getElem? (i := 472) (by decide +kernel)⟩
theorem lw_p26 : lw_okq (⟨"CordlessHouse", "carryDown", "()V"⟩, 11) := ⟨⟨by decide +kernel, by decide +kernel⟩, List.mem_of_getElem? (i := 10) (by decide +kernel), List.mem_of_getElem? (i := 479) (by decide +kernel), List.mem_of_getElem? (i := 480) (by decide +kernel)⟩
theorem lw_p27 : lw_okq (⟨"CordlessHouse", "sendDown", "(LCordlessHouse$Portable;)V"⟩, 11) := ⟨⟨by decide +kernel, by decide +kernel⟩, List.mem_of_getElem? (i := 10) (by decide +kernel), List.mem_of_getElem? (i := 483) (by decide +kernel), List.mem_of_getElem? (i := 484) (by decide +kernel)⟩
theorem lw_p28 : lw_okq (⟨"CordlessHouse", "endOldCalls", "()V"⟩, 11) := ⟨⟨by decide +kernel, by decide +kernel⟩, List.mem_of_getElem? (i := 10) (by decide +kernel), List.mem_of_getElem? (i := 495) (by decide +kernel), List.mem_of_getElem? (i := 496) (by decide +kernel)⟩
theorem lw_p29 : lw_okq (⟨"CordlessHouseModel", "refuse", "(I)I"⟩, 35) := ⟨⟨by decide +kernel, by decide +kernel⟩, List.mem_of_getElem? (i := 546) (by decide +kernel), List.mem_of_getElem? (i := 666) (by decide +kernel), List.mem_of_getElem? (i := 667) (by decide +kernel)⟩
theorem lw_p30 : lw_okq (⟨"CordlessHouseModel", "isPortable", "(I)Z"⟩, 35) := ⟨⟨by decide +kernel, by decide +kernel⟩, List.mem_of_getElem? (i := 546) (by decide +kernel), List.mem_of_getElem? (i := 686) (by decide +kernel), List.mem_of_getElem? (i := 687) (by decide +kernel)⟩
theorem lw_p31 : lw_okq (⟨"CordlessHouseModel", "ends", "(I)V"⟩, 35) := ⟨⟨by decide +kernel, by decide +kernel⟩, List.mem_of_getElem? (i := 546) (by decide +kernel), List.mem_of_getElem? (i := 706) (by decide +kernel), List.mem_of_getElem? (i := 707) (by decide +kernel)⟩
def lw_privs_2 : List (MethodName × Nat) := [(⟨"CordlessHouse$Radio", "comesUp", "(III)Z"⟩, 11), (⟨"CordlessHouse", "dropHandedOver", "()V"⟩, 11), (⟨"CordlessHouse", "endCallsWithoutBearer", "()V"⟩, 11), (⟨"CordlessHouse", "advanceCalls", "()V"⟩, 11), (⟨"CordlessHouse", "advance", "(LCordlessHouse$Portable;)Z"⟩, 11), (⟨"CordlessHouse", "isProven", "(LCordlessHouse$Portable;)Z"⟩, 11), (⟨"CordlessHouse", "pagePartner", "(LCordlessHouse$Portable;)Z"⟩, 11), (⟨"CordlessHouse", "carryUp", "()V"⟩, 11), (⟨"CordlessHouse", "canTalk", "(LCordlessHouse$Portable;)Z"⟩, 11), (⟨"CordlessHouse", "sendUp", "(LCordlessHouse$Portable;)V"⟩, 11), (⟨"CordlessHouse", "carryDown", "()V"⟩, 11), (⟨"CordlessHouse", "sendDown", "(LCordlessHouse$Portable;)V"⟩, 11), (⟨"CordlessHouse", "endOldCalls", "()V"⟩, 11), (⟨"CordlessHouseModel", "refuse", "(I)I"⟩, 35), (⟨"CordlessHouseModel", "isPortable", "(I)Z"⟩, 35), (⟨"CordlessHouseModel", "ends", "(I)V"⟩, 35)]
theorem lw_r2 : ∀ q ∈ lw_privs_2, lw_okq q := List.forall_mem_cons.mpr ⟨lw_p16, List.forall_mem_cons.mpr ⟨lw_p17, List.forall_mem_cons.mpr ⟨lw_p18, List.forall_mem_cons.mpr ⟨lw_p19, List.forall_mem_cons.mpr ⟨lw_p20, List.forall_mem_cons.mpr ⟨lw_p21, List.forall_mem_cons.mpr ⟨lw_p22, List.forall_mem_cons.mpr ⟨lw_p23, List.forall_mem_cons.mpr ⟨lw_p24, List.forall_mem_cons.mpr ⟨lw_p25, List.forall_mem_cons.mpr ⟨lw_p26, List.forall_mem_cons.mpr ⟨lw_p27, List.forall_mem_cons.mpr ⟨lw_p28, List.forall_mem_cons.mpr ⟨lw_p29, List.forall_mem_cons.mpr ⟨lw_p30, List.forall_mem_cons.mpr ⟨lw_p31, fun _ h => absurd h List.not_mem_nil⟩⟩⟩⟩⟩⟩⟩⟩⟩⟩⟩⟩⟩⟩⟩⟩
theorem lw_p32 : lw_okq (⟨"CordlessHouseModel", "idle", "(I)V"⟩, 35) := ⟨⟨by decide +kernel, by decide +kernel⟩, List.mem_of_getElem? (i := 546) (by decide +kernel), List.mem_of_getElem? (i := 713) (by decide +kernel), List.mem_of_getElem? (i := 714) (by decide +kernel)⟩
theorem lw_p33 : lw_okq (⟨"CordlessHouseModel", "dropBearer", "(I)V"⟩, 35) := ⟨⟨by decide +kernel, by decide +kernel⟩, List.mem_of_getElem? (i := 546) (by decide +kernel), List.mem_of_getElem? (i := 717) (by decide +kernel), List.mem_of_getElem? (i := 718) (by decide +kernel)⟩
theorem lw_p34 : lw_okq (⟨"CordlessHouseModel", "isCell", "(I)Z"⟩, 35) := ⟨⟨by decide +kernel, by decide +kernel⟩, List.mem_of_getElem? (i := 546) (by decide +kernel), List.mem_of_getElem? (i := 729) (by decide +kernel), List.mem_of_getElem? (i := 730) (by decide +kernel)⟩
theorem lw_p35 : lw_okq (⟨"CordlessHouseModel", "levelOf", "(III)I"⟩, 35) := ⟨⟨by decide +kernel, by decide +kernel⟩, List.mem_of_getElem? (i := 546) (by decide +kernel), List.mem_of_getElem? (i := 733) (by decide +kernel), List.mem_of_getElem? (i := 734) (by decide +kernel)⟩
theorem lw_p36 : lw_okq (⟨"CordlessHouseModel", "othersSending", "(III)I"⟩, 35) := ⟨⟨by decide +kernel, by decide +kernel⟩, List.mem_of_getElem? (i := 546) (by decide +kernel), List.mem_of_getElem? (i := 737) (by decide +kernel), List.mem_of_getElem? (i := 738) (by decide +kernel)⟩
theorem lw_p37 : lw_okq (⟨"CordlessHouseModel", "reaches", "(II)Z"⟩, 35) := ⟨⟨by decide +kernel, by decide +kernel⟩, List.mem_of_getElem? (i := 546) (by decide +kernel), List.mem_of_getElem? (i := 741) (by decide +kernel), List.mem_of_getElem? (i := 742) (by decide +kernel)⟩
theorem lw_p38 : lw_okq (⟨"CordlessHouseModel", "sends", "(II)Z"⟩, 35) := ⟨⟨by decide +kernel, by decide +kernel⟩, List.mem_of_getElem? (i := 546) (by decide +kernel), List.mem_of_getElem? (i := 745) (by decide +kernel), List.mem_of_getElem? (i := 746) (by decide +kernel)⟩
theorem lw_p39 : lw_okq (⟨"CordlessHouseModel", "othersTalking", "(III)I"⟩, 35) := ⟨⟨by decide +kernel, by decide +kernel⟩, List.mem_of_getElem? (i := 546) (by decide +kernel), List.mem_of_getElem? (i := 749) (by decide +kernel), List.mem_of_getElem? (i := 750) (by decide +kernel)⟩
theorem lw_p40 : lw_okq (⟨"CordlessHouseModel", "isHeardAt", "(III)Z"⟩, 35) := ⟨⟨by decide +kernel, by decide +kernel⟩, List.mem_of_getElem? (i := 546) (by decide +kernel), List.mem_of_getElem? (i := 757) (by decide +kernel), List.mem_of_getElem? (i := 758) (by decide +kernel)⟩
theorem lw_p41 : lw_okq (⟨"CordlessHouseModel", "frame", "()I"⟩, 35) := ⟨⟨by decide +kernel, by decide +kernel⟩, List.mem_of_getElem? (i := 546) (by decide +kernel), List.mem_of_getElem? (i := 766) (by decide +kernel), List.mem_of_getElem? (i := 767) (by decide +kernel)⟩
theorem lw_p42 : lw_okq (⟨"CordlessHouseModel", "setUp", "(I)V"⟩, 35) := ⟨⟨by decide +kernel, by decide +kernel⟩, List.mem_of_getElem? (i := 546) (by decide +kernel), List.mem_of_getElem? (i := 770) (by decide +kernel), List.mem_of_getElem? (i := 771) (by decide +kernel)⟩
theorem lw_p43 : lw_okq (⟨"CordlessHouseModel", "handsOver", "(I)Z"⟩, 35) := ⟨⟨by decide +kernel, by decide +kernel⟩, List.mem_of_getElem? (i := 546) (by decide +kernel), List.mem_of_getElem? (i := 774) (by decide +kernel), List.mem_of_getElem? (i := 775) (by decide +kernel)⟩
theorem lw_p44 : lw_okq (⟨"CordlessHouseModel", "bearersOf", "(I)I"⟩, 35) := ⟨⟨by decide +kernel, by decide +kernel⟩, List.mem_of_getElem? (i := 546) (by decide +kernel), List.mem_of_getElem? (i := 778) (by decide +kernel), List.mem_of_getElem? (i := 779) (by decide +kernel)⟩
theorem lw_p45 : lw_okq (⟨"CordlessHouseModel", "bearerOf", "(I)I"⟩, 35) := ⟨⟨by decide +kernel, by decide +kernel⟩, List.mem_of_getElem? (i := 546) (by decide +kernel), List.mem_of_getElem? (i := 782) (by decide +kernel), List.mem_of_getElem? (i := 783) (by decide +kernel)⟩
theorem lw_p46 : lw_okq (⟨"CordlessHouseModel", "isSlotTaken", "(III)Z"⟩, 35) := ⟨⟨by decide +kernel, by decide +kernel⟩, List.mem_of_getElem? (i := 546) (by decide +kernel), List.mem_of_getElem? (i := 786) (by decide +kernel), List.mem_of_getElem? (i := 787) (by decide +kernel)⟩
theorem lw_p47 : lw_okq (⟨"CordlessHouseModel", "send", "()V"⟩, 35) := ⟨⟨by decide +kernel, by decide +kernel⟩, List.mem_of_getElem? (i := 546) (by decide +kernel), List.mem_of_getElem? (i := 790) (by decide +kernel), List.mem_of_getElem? (i := 791) (by decide +kernel)⟩
def lw_privs_3 : List (MethodName × Nat) := [(⟨"CordlessHouseModel", "idle", "(I)V"⟩, 35), (⟨"CordlessHouseModel", "dropBearer", "(I)V"⟩, 35), (⟨"CordlessHouseModel", "isCell", "(I)Z"⟩, 35), (⟨"CordlessHouseModel", "levelOf", "(III)I"⟩, 35), (⟨"CordlessHouseModel", "othersSending", "(III)I"⟩, 35), (⟨"CordlessHouseModel", "reaches", "(II)Z"⟩, 35), (⟨"CordlessHouseModel", "sends", "(II)Z"⟩, 35), (⟨"CordlessHouseModel", "othersTalking", "(III)I"⟩, 35), (⟨"CordlessHouseModel", "isHeardAt", "(III)Z"⟩, 35), (⟨"CordlessHouseModel", "frame", "()I"⟩, 35), (⟨"CordlessHouseModel", "setUp", "(I)V"⟩, 35), (⟨"CordlessHouseModel", "handsOver", "(I)Z"⟩, 35), (⟨"CordlessHouseModel", "bearersOf", "(I)I"⟩, 35), (⟨"CordlessHouseModel", "bearerOf", "(I)I"⟩, 35), (⟨"CordlessHouseModel", "isSlotTaken", "(III)Z"⟩, 35), (⟨"CordlessHouseModel", "send", "()V"⟩, 35)]
theorem lw_r3 : ∀ q ∈ lw_privs_3, lw_okq q := List.forall_mem_cons.mpr ⟨lw_p32, List.forall_mem_cons.mpr ⟨lw_p33, List.forall_mem_cons.mpr ⟨lw_p34, List.forall_mem_cons.mpr ⟨lw_p35, List.forall_mem_cons.mpr ⟨lw_p36, List.forall_mem_cons.mpr ⟨lw_p37, List.forall_mem_cons.mpr ⟨lw_p38, List.forall_mem_cons.mpr ⟨lw_p39, List.forall_mem_cons.mpr ⟨lw_p40, List.forall_mem_cons.mpr ⟨lw_p41, List.forall_mem_cons.mpr ⟨lw_p42, List.forall_mem_cons.mpr ⟨lw_p43, List.forall_mem_cons.mpr ⟨lw_p44, List.forall_mem_cons.mpr ⟨lw_p45, List.forall_mem_cons.mpr ⟨lw_p46, List.forall_mem_cons.mpr ⟨lw_p47, fun _ h => absurd h List.not_mem_nil⟩⟩⟩⟩⟩⟩⟩⟩⟩⟩⟩⟩⟩⟩⟩⟩
theorem lw_p48 : lw_okq (⟨"CordlessHouseModel", "isHeardBy", "(III)Z"⟩, 35) := ⟨⟨by decide +kernel, by decide +kernel⟩, List.mem_of_getElem? (i := 546) (by decide +kernel), List.mem_of_getElem? (i := 794) (by decide +kernel), List.mem_of_getElem? (i := 795) (by decide +kernel)⟩
theorem lw_p49 : lw_okq (⟨"CordlessHouseModel", "goOrStay", "()V"⟩, 35) := ⟨⟨by decide +kernel, by decide +kernel⟩, List.mem_of_getElem? (i := 546) (by decide +kernel), List.mem_of_getElem? (i := 798) (by decide +kernel), List.mem_of_getElem? (i := 799) (by decide +kernel)⟩
theorem lw_p50 : lw_okq (⟨"CordlessHouseModel", "callOf", "(I)V"⟩, 35) := ⟨⟨by decide +kernel, by decide +kernel⟩, List.mem_of_getElem? (i := 546) (by decide +kernel), List.mem_of_getElem? (i := 802) (by decide +kernel), List.mem_of_getElem? (i := 803) (by decide +kernel)⟩
theorem lw_p51 : lw_okq (⟨"CordlessHouseModel", "isGood", "(I)Z"⟩, 35) := ⟨⟨by decide +kernel, by decide +kernel⟩, List.mem_of_getElem? (i := 546) (by decide +kernel), List.mem_of_getElem? (i := 806) (by decide +kernel), List.mem_of_getElem? (i := 807) (by decide +kernel)⟩
theorem lw_p52 : lw_okq (⟨"CordlessHouseModel", "up", "(I)V"⟩, 35) := ⟨⟨by decide +kernel, by decide +kernel⟩, List.mem_of_getElem? (i := 546) (by decide +kernel), List.mem_of_getElem? (i := 816) (by decide +kernel), List.mem_of_getElem? (i := 817) (by decide +kernel)⟩
theorem lw_p53 : lw_okq (⟨"CordlessHouseModel", "down", "(I)I"⟩, 35) := ⟨⟨by decide +kernel, by decide +kernel⟩, List.mem_of_getElem? (i := 546) (by decide +kernel), List.mem_of_getElem? (i := 820) (by decide +kernel), List.mem_of_getElem? (i := 821) (by decide +kernel)⟩
def lw_privs_4 : List (MethodName × Nat) := [(⟨"CordlessHouseModel", "isHeardBy", "(III)Z"⟩, 35), (⟨"CordlessHouseModel", "goOrStay", "()V"⟩, 35), (⟨"CordlessHouseModel", "callOf", "(I)V"⟩, 35), (⟨"CordlessHouseModel", "isGood", "(I)Z"⟩, 35), (⟨"CordlessHouseModel", "up", "(I)V"⟩, 35), (⟨"CordlessHouseModel", "down", "(I)I"⟩, 35)]
theorem lw_r4 : ∀ q ∈ lw_privs_4, lw_okq q := List.forall_mem_cons.mpr ⟨lw_p48, List.forall_mem_cons.mpr ⟨lw_p49, List.forall_mem_cons.mpr ⟨lw_p50, List.forall_mem_cons.mpr ⟨lw_p51, List.forall_mem_cons.mpr ⟨lw_p52, List.forall_mem_cons.mpr ⟨lw_p53, fun _ h => absurd h List.not_mem_nil⟩⟩⟩⟩⟩⟩
def lw_privs : List (MethodName × Nat) := lw_privs_1 ++ (lw_privs_2 ++ (lw_privs_3 ++ (lw_privs_4)))
def lw_tbl : List Cond := k2_sels lw_privs ++ tables_1
theorem lw_privs_ok : ∀ q ∈ lw_privs, lw_okq q := by
  show ∀ q ∈ lw_privs_1 ++ (lw_privs_2 ++ (lw_privs_3 ++ (lw_privs_4))), lw_okq q
  exact List.forall_mem_append.mpr ⟨lw_r1, List.forall_mem_append.mpr ⟨lw_r2, List.forall_mem_append.mpr ⟨lw_r3, lw_r4⟩⟩⟩

def RX0 : String := "CordlessHouse$Bearer"
def TX0 : u_T := fun k => match k with
  | 0 => ("CordlessHouse$Bearer", "portable", "I", false)
  | 1 => ("CordlessHouse$Bearer", "cell", "I", false)
  | 2 => ("CordlessHouse$Bearer", "channel", "I", false)
  | 3 => ("CordlessHouse$Bearer", "fails", "I", false)
  | _ => ("CordlessHouse$Bearer", "good", "Z", false)
def tyX0 : Nat → FieldType := fun k => match k with
  | 0 => .int
  | 1 => .int
  | 2 => .int
  | 3 => .int
  | _ => .boolean
abbrev wsX00 : List Cond := u_ws RX0 TX0 5
theorem nmX0 : ∀ a, a < 5 → ∀ b, b < 5 → a ≠ b → (TX0 a).2.1 ≠ (TX0 b).2.1 := by decide +kernel
theorem tyX0_ok : ∀ k, k < 5 → parseFieldDescriptor (TX0 k).2.2.1 = some (tyX0 k) := by decide +kernel
abbrev cX0_init : ByteArray := prog_2_method_1_code
def yX0_init : MethodName := ⟨RX0, "<init>", "()V"⟩
def RX1 : String := "CordlessHouse$Blocks"
def TX1 : u_T := fun k => match k with
  | 0 => ("CordlessHouse$Blocks", "ring", "[J", true)
  | 1 => ("CordlessHouse$Blocks", "first", "I", false)
  | _ => ("CordlessHouse$Blocks", "size", "I", false)
def tyX1 : Nat → FieldType := fun k => match k with
  | 0 => .array .long
  | 1 => .int
  | _ => .int
abbrev wsX10 : List Cond := u_ws RX1 TX1 3
theorem nmX1 : ∀ a, a < 3 → ∀ b, b < 3 → a ≠ b → (TX1 a).2.1 ≠ (TX1 b).2.1 := by decide +kernel
theorem tyX1_ok : ∀ k, k < 3 → parseFieldDescriptor (TX1 k).2.2.1 = some (tyX1 k) := by decide +kernel
abbrev cX1_init : ByteArray := prog_3_method_1_code
def yX1_init : MethodName := ⟨RX1, "<init>", "(I)V"⟩
abbrev cX1_isFull : ByteArray := prog_3_method_2_code
def yX1_isFull : MethodName := ⟨RX1, "isFull", "()Z"⟩
abbrev cX1_put : ByteArray := prog_3_method_3_code
def yX1_put : MethodName := ⟨RX1, "put", "(J)Z"⟩
abbrev cX1_take : ByteArray := prog_3_method_4_code
def yX1_take : MethodName := ⟨RX1, "take", "()J"⟩
abbrev cX1_at : ByteArray := prog_3_method_5_code
def yX1_at : MethodName := ⟨RX1, "at", "(I)J"⟩
abbrev cX1_clear : ByteArray := prog_3_method_6_code
def yX1_clear : MethodName := ⟨RX1, "clear", "()V"⟩
abbrev cX1_wrap : ByteArray := prog_3_method_7_code
def yX1_wrap : MethodName := ⟨RX1, "wrap", "(I)I"⟩
def RX2 : String := "CordlessHouse$Portable"
def TX2 : u_T := fun k => match k with
  | 0 => ("CordlessHouse$Portable", "number", "I", true)
  | 1 => ("CordlessHouse$Portable", "key", "J", true)
  | 2 => ("CordlessHouse$Portable", "exchangeKey", "J", false)
  | 3 => ("CordlessHouse$Portable", "entered", "Z", false)
  | 4 => ("CordlessHouse$Portable", "state", "I", false)
  | 5 => ("CordlessHouse$Portable", "partner", "I", false)
  | 6 => ("CordlessHouse$Portable", "since", "I", false)
  | 7 => ("CordlessHouse$Portable", "ready", "I", false)
  | 8 => ("CordlessHouse$Portable", "heardInAll", "I", false)
  | 9 => ("CordlessHouse$Portable", "said", "LCordlessHouse$Blocks;", true)
  | 10 => ("CordlessHouse$Portable", "atExchange", "LCordlessHouse$Blocks;", true)
  | _ => ("CordlessHouse$Portable", "kept", "LCordlessHouse$Blocks;", true)
def tyX2 : Nat → FieldType := fun k => match k with
  | 0 => .int
  | 1 => .long
  | 2 => .long
  | 3 => .boolean
  | 4 => .int
  | 5 => .int
  | 6 => .int
  | 7 => .int
  | 8 => .int
  | 9 => .object "CordlessHouse$Blocks"
  | 10 => .object "CordlessHouse$Blocks"
  | _ => .object "CordlessHouse$Blocks"
abbrev wsX20 : List Cond := u_ws RX2 TX2 12
theorem nmX2 : ∀ a, a < 12 → ∀ b, b < 12 → a ≠ b → (TX2 a).2.1 ≠ (TX2 b).2.1 := by decide +kernel
theorem tyX2_ok : ∀ k, k < 12 → parseFieldDescriptor (TX2 k).2.2.1 = some (tyX2 k) := by decide +kernel
abbrev cX2_init : ByteArray := prog_4_method_1_code
def yX2_init : MethodName := ⟨RX2, "<init>", "(IJ)V"⟩
abbrev cX2_begin : ByteArray := prog_4_method_2_code
def yX2_begin : MethodName := ⟨RX2, "begin", "(III)V"⟩
abbrev cX2_becomeIdle : ByteArray := prog_4_method_3_code
def yX2_becomeIdle : MethodName := ⟨RX2, "becomeIdle", "()V"⟩
abbrev cX2_keep : ByteArray := prog_4_method_4_code
def yX2_keep : MethodName := ⟨RX2, "keep", "(J)V"⟩
abbrev cX2_calls : ByteArray := prog_4_method_5_code
def yX2_calls : MethodName := ⟨RX2, "calls", "()Z"⟩
abbrev cX2_isCalled : ByteArray := prog_4_method_6_code
def yX2_isCalled : MethodName := ⟨RX2, "isCalled", "()Z"⟩
abbrev cX2_isPending : ByteArray := prog_4_method_7_code
def yX2_isPending : MethodName := ⟨RX2, "isPending", "()Z"⟩
def RX3 : String := "CordlessHouse$Radio"
def TX3 : u_T := fun k => match k with
  | 0 => ("CordlessHouse$Radio", "cellCount", "I", false)
  | 1 => ("CordlessHouse$Radio", "portableCount", "I", false)
  | 2 => ("CordlessHouse$Radio", "bearerCount", "I", false)
  | 3 => ("CordlessHouse$Radio", "bearersMade", "I", false)
  | 4 => ("CordlessHouse$Radio", "beaconOf", "[I", true)
  | 5 => ("CordlessHouse$Radio", "placeOf", "[I", true)
  | 6 => ("CordlessHouse$Radio", "reachOf", "[I", true)
  | 7 => ("CordlessHouse$Radio", "noiseOn", "[I", true)
  | 8 => ("CordlessHouse$Radio", "cellsOn", "[I", true)
  | 9 => ("CordlessHouse$Radio", "portablesOn", "[I", true)
  | _ => ("CordlessHouse$Radio", "bearers", "[LCordlessHouse$Bearer;", true)
def tyX3 : Nat → FieldType := fun k => match k with
  | 0 => .int
  | 1 => .int
  | 2 => .int
  | 3 => .int
  | 4 => .array .int
  | 5 => .array .int
  | 6 => .array .int
  | 7 => .array .int
  | 8 => .array .int
  | 9 => .array .int
  | _ => .array (.object "CordlessHouse$Bearer")
abbrev wsX30 : List Cond := u_ws RX3 TX3 11
theorem nmX3 : ∀ a, a < 11 → ∀ b, b < 11 → a ≠ b → (TX3 a).2.1 ≠ (TX3 b).2.1 := by decide +kernel
theorem tyX3_ok : ∀ k, k < 11 → parseFieldDescriptor (TX3 k).2.2.1 = some (tyX3 k) := by decide +kernel
abbrev cX3_init : ByteArray := prog_5_method_1_code
def yX3_init : MethodName := ⟨RX3, "<init>", "()V"⟩
abbrev cX3_hasCell : ByteArray := prog_5_method_2_code
def yX3_hasCell : MethodName := ⟨RX3, "hasCell", "(I)Z"⟩
abbrev cX3_hasPortable : ByteArray := prog_5_method_3_code
def yX3_hasPortable : MethodName := ⟨RX3, "hasPortable", "(I)Z"⟩
abbrev cX3_addCell : ByteArray := prog_5_method_4_code
def yX3_addCell : MethodName := ⟨RX3, "addCell", "(I)I"⟩
abbrev cX3_addPortable : ByteArray := prog_5_method_5_code
def yX3_addPortable : MethodName := ⟨RX3, "addPortable", "(I)I"⟩
abbrev cX3_changeNoise : ByteArray := prog_5_method_6_code
def yX3_changeNoise : MethodName := ⟨RX3, "changeNoise", "(IIZ)Z"⟩
abbrev cX3_noiseBits : ByteArray := prog_5_method_7_code
def yX3_noiseBits : MethodName := ⟨RX3, "noiseBits", "(II)I"⟩
abbrev cX3_otherCells : ByteArray := prog_5_method_8_code
def yX3_otherCells : MethodName := ⟨RX3, "otherCells", "(II)I"⟩
abbrev cX3_otherPortables : ByteArray := prog_5_method_9_code
def yX3_otherPortables : MethodName := ⟨RX3, "otherPortables", "(II)I"⟩
abbrev cX3_levelOn : ByteArray := prog_5_method_10_code
def yX3_levelOn : MethodName := ⟨RX3, "levelOn", "(IIII)I"⟩
abbrev cX3_reachesPlace : ByteArray := prog_5_method_11_code
def yX3_reachesPlace : MethodName := ⟨RX3, "reachesPlace", "(II)Z"⟩
abbrev cX3_comesDown : ByteArray := prog_5_method_12_code
def yX3_comesDown : MethodName := ⟨RX3, "comesDown", "(III)Z"⟩
abbrev cX3_comesUp : ByteArray := prog_5_method_13_code
def yX3_comesUp : MethodName := ⟨RX3, "comesUp", "(III)Z"⟩
abbrev cX3_bearersOf : ByteArray := prog_5_method_14_code
def yX3_bearersOf : MethodName := ⟨RX3, "bearersOf", "(I)I"⟩
abbrev cX3_firstBearerOf : ByteArray := prog_5_method_15_code
def yX3_firstBearerOf : MethodName := ⟨RX3, "firstBearerOf", "(I)I"⟩
abbrev cX3_lastBearerOf : ByteArray := prog_5_method_16_code
def yX3_lastBearerOf : MethodName := ⟨RX3, "lastBearerOf", "(I)I"⟩
abbrev cX3_handsOver : ByteArray := prog_5_method_17_code
def yX3_handsOver : MethodName := ⟨RX3, "handsOver", "(I)Z"⟩
abbrev cX3_hasGoodBearer : ByteArray := prog_5_method_18_code
def yX3_hasGoodBearer : MethodName := ⟨RX3, "hasGoodBearer", "(I)Z"⟩
abbrev cX3_setUp : ByteArray := prog_5_method_19_code
def yX3_setUp : MethodName := ⟨RX3, "setUp", "(I)V"⟩
abbrev cX3_chooseCell : ByteArray := prog_5_method_20_code
def yX3_chooseCell : MethodName := ⟨RX3, "chooseCell", "(I)I"⟩
abbrev cX3_chooseChannel : ByteArray := prog_5_method_21_code
def yX3_chooseChannel : MethodName := ⟨RX3, "chooseChannel", "(II)I"⟩
abbrev cX3_takenSlots : ByteArray := prog_5_method_22_code
def yX3_takenSlots : MethodName := ⟨RX3, "takenSlots", "(II)I"⟩
abbrev cX3_addBearer : ByteArray := prog_5_method_23_code
def yX3_addBearer : MethodName := ⟨RX3, "addBearer", "(III)V"⟩
abbrev cX3_sendAll : ByteArray := prog_5_method_24_code
def yX3_sendAll : MethodName := ⟨RX3, "sendAll", "()V"⟩
abbrev cX3_dropFailed : ByteArray := prog_5_method_25_code
def yX3_dropFailed : MethodName := ⟨RX3, "dropFailed", "()V"⟩
abbrev cX3_dropFirstForSecond : ByteArray := prog_5_method_26_code
def yX3_dropFirstForSecond : MethodName := ⟨RX3, "dropFirstForSecond", "(I)Z"⟩
abbrev cX3_dropBearersOf : ByteArray := prog_5_method_27_code
def yX3_dropBearersOf : MethodName := ⟨RX3, "dropBearersOf", "(I)V"⟩
abbrev cX3_dropBearer : ByteArray := prog_5_method_28_code
def yX3_dropBearer : MethodName := ⟨RX3, "dropBearer", "(I)V"⟩
def RX4 : String := "CordlessHouse"
def TX4 : u_T := fun k => match k with
  | 0 => ("CordlessHouse", "radio", "LCordlessHouse$Radio;", true)
  | 1 => ("CordlessHouse", "portables", "[LCordlessHouse$Portable;", true)
  | 2 => ("CordlessHouse", "refusals", "[I", true)
  | 3 => ("CordlessHouse", "time", "I", false)
  | 4 => ("CordlessHouse", "callsActive", "I", false)
  | 5 => ("CordlessHouse", "callsEnded", "I", false)
  | 6 => ("CordlessHouse", "handovers", "I", false)
  | 7 => ("CordlessHouse", "blocksUp", "I", false)
  | 8 => ("CordlessHouse", "blocksHeard", "I", false)
  | 9 => ("CordlessHouse", "airUp", "J", false)
  | _ => ("CordlessHouse", "airDown", "J", false)
def tyX4 : Nat → FieldType := fun k => match k with
  | 0 => .object "CordlessHouse$Radio"
  | 1 => .array (.object "CordlessHouse$Portable")
  | 2 => .array .int
  | 3 => .int
  | 4 => .int
  | 5 => .int
  | 6 => .int
  | 7 => .int
  | 8 => .int
  | 9 => .long
  | _ => .long
abbrev wsX40 : List Cond := u_ws RX4 TX4 11
theorem nmX4 : ∀ a, a < 11 → ∀ b, b < 11 → a ≠ b → (TX4 a).2.1 ≠ (TX4 b).2.1 := by decide +kernel
theorem tyX4_ok : ∀ k, k < 11 → parseFieldDescriptor (TX4 k).2.2.1 = some (tyX4 k) := by decide +kernel
abbrev cX4_init : ByteArray := prog_1_method_1_code
def yX4_init : MethodName := ⟨RX4, "<init>", "()V"⟩
abbrev cX4_cell : ByteArray := prog_1_method_2_code
def yX4_cell : MethodName := ⟨RX4, "cell", "(I)I"⟩
abbrev cX4_portable : ByteArray := prog_1_method_3_code
def yX4_portable : MethodName := ⟨RX4, "portable", "(IJ)I"⟩
abbrev cX4_reach : ByteArray := prog_1_method_4_code
def yX4_reach : MethodName := ⟨RX4, "reach", "(II)I"⟩
abbrev cX4_noise : ByteArray := prog_1_method_5_code
def yX4_noise : MethodName := ⟨RX4, "noise", "(IIZ)Z"⟩
abbrev cX4_go : ByteArray := prog_1_method_6_code
def yX4_go : MethodName := ⟨RX4, "go", "(II)I"⟩
abbrev cX4_enter : ByteArray := prog_1_method_7_code
def yX4_enter : MethodName := ⟨RX4, "enter", "(IJ)I"⟩
abbrev cX4_dial : ByteArray := prog_1_method_8_code
def yX4_dial : MethodName := ⟨RX4, "dial", "(II)I"⟩
abbrev cX4_answer : ByteArray := prog_1_method_9_code
def yX4_answer : MethodName := ⟨RX4, "answer", "(I)I"⟩
abbrev cX4_hang : ByteArray := prog_1_method_10_code
def yX4_hang : MethodName := ⟨RX4, "hang", "(I)I"⟩
abbrev cX4_say : ByteArray := prog_1_method_11_code
def yX4_say : MethodName := ⟨RX4, "say", "(IJ)I"⟩
abbrev cX4_frames : ByteArray := prog_1_method_12_code
def yX4_frames : MethodName := ⟨RX4, "frames", "(I)I"⟩
abbrev cX4_heard : ByteArray := prog_1_method_13_code
def yX4_heard : MethodName := ⟨RX4, "heard", "(II)J"⟩
abbrev cX4_portableOf : ByteArray := prog_1_method_14_code
def yX4_portableOf : MethodName := ⟨RX4, "portableOf", "(II)I"⟩
abbrev cX4_bearer : ByteArray := prog_1_method_15_code
def yX4_bearer : MethodName := ⟨RX4, "bearer", "(II)I"⟩
abbrev cX4_level : ByteArray := prog_1_method_16_code
def yX4_level : MethodName := ⟨RX4, "level", "(III)I"⟩
abbrev cX4_beacon : ByteArray := prog_1_method_17_code
def yX4_beacon : MethodName := ⟨RX4, "beacon", "(II)Z"⟩
abbrev cX4_mix : ByteArray := prog_1_method_18_code
def yX4_mix : MethodName := ⟨RX4, "mix", "(JJ)J"⟩
abbrev cX4_air : ByteArray := prog_1_method_19_code
def yX4_air : MethodName := ⟨RX4, "air", "(I)J"⟩
abbrev cX4_count : ByteArray := prog_1_method_20_code
def yX4_count : MethodName := ⟨RX4, "count", "(I)I"⟩
abbrev cX4_isPlace : ByteArray := prog_1_method_21_code
def yX4_isPlace : MethodName := ⟨RX4, "isPlace", "(I)Z"⟩
abbrev cX4_isChannel : ByteArray := prog_1_method_22_code
def yX4_isChannel : MethodName := ⟨RX4, "isChannel", "(I)Z"⟩
abbrev cX4_mixOf : ByteArray := prog_1_method_23_code
def yX4_mixOf : MethodName := ⟨RX4, "mixOf", "(JJ)J"⟩
abbrev cX4_refuse : ByteArray := prog_1_method_24_code
def yX4_refuse : MethodName := ⟨RX4, "refuse", "(I)I"⟩
abbrev cX4_find : ByteArray := prog_1_method_25_code
def yX4_find : MethodName := ⟨RX4, "find", "(I)LCordlessHouse$Portable;"⟩
abbrev cX4_runFrame : ByteArray := prog_1_method_26_code
def yX4_runFrame : MethodName := ⟨RX4, "runFrame", "()V"⟩
abbrev cX4_setUpBearers : ByteArray := prog_1_method_27_code
def yX4_setUpBearers : MethodName := ⟨RX4, "setUpBearers", "()V"⟩
abbrev cX4_wantsBearer : ByteArray := prog_1_method_28_code
def yX4_wantsBearer : MethodName := ⟨RX4, "wantsBearer", "(LCordlessHouse$Portable;)Z"⟩
abbrev cX4_dropHandedOver : ByteArray := prog_1_method_29_code
def yX4_dropHandedOver : MethodName := ⟨RX4, "dropHandedOver", "()V"⟩
abbrev cX4_endCallsWithoutBearer : ByteArray := prog_1_method_30_code
def yX4_endCallsWithoutBearer : MethodName := ⟨RX4, "endCallsWithoutBearer", "()V"⟩
abbrev cX4_advanceCalls : ByteArray := prog_1_method_31_code
def yX4_advanceCalls : MethodName := ⟨RX4, "advanceCalls", "()V"⟩
abbrev cX4_advance : ByteArray := prog_1_method_32_code
def yX4_advance : MethodName := ⟨RX4, "advance", "(LCordlessHouse$Portable;)Z"⟩
abbrev cX4_pagePartner : ByteArray := prog_1_method_33_code
def yX4_pagePartner : MethodName := ⟨RX4, "pagePartner", "(LCordlessHouse$Portable;)Z"⟩
abbrev cX4_startRinging : ByteArray := prog_1_method_34_code
def yX4_startRinging : MethodName := ⟨RX4, "startRinging", "(LCordlessHouse$Portable;)Z"⟩
abbrev cX4_isProven : ByteArray := prog_1_method_35_code
def yX4_isProven : MethodName := ⟨RX4, "isProven", "(LCordlessHouse$Portable;)Z"⟩
abbrev cX4_carryUp : ByteArray := prog_1_method_36_code
def yX4_carryUp : MethodName := ⟨RX4, "carryUp", "()V"⟩
abbrev cX4_sendUp : ByteArray := prog_1_method_37_code
def yX4_sendUp : MethodName := ⟨RX4, "sendUp", "(LCordlessHouse$Portable;)V"⟩
abbrev cX4_carryDown : ByteArray := prog_1_method_38_code
def yX4_carryDown : MethodName := ⟨RX4, "carryDown", "()V"⟩
abbrev cX4_sendDown : ByteArray := prog_1_method_39_code
def yX4_sendDown : MethodName := ⟨RX4, "sendDown", "(LCordlessHouse$Portable;)V"⟩
abbrev cX4_canTalk : ByteArray := prog_1_method_40_code
def yX4_canTalk : MethodName := ⟨RX4, "canTalk", "(LCordlessHouse$Portable;)Z"⟩
abbrev cX4_endOldCalls : ByteArray := prog_1_method_41_code
def yX4_endOldCalls : MethodName := ⟨RX4, "endOldCalls", "()V"⟩
abbrev cX4_endCall : ByteArray := prog_1_method_42_code
def yX4_endCall : MethodName := ⟨RX4, "endCall", "(LCordlessHouse$Portable;)V"⟩
abbrev cX4_isOneCall : ByteArray := prog_1_method_43_code
def yX4_isOneCall : MethodName := ⟨RX4, "isOneCall", "(LCordlessHouse$Portable;LCordlessHouse$Portable;)Z"⟩
abbrev cX4_release : ByteArray := prog_1_method_44_code
def yX4_release : MethodName := ⟨RX4, "release", "(LCordlessHouse$Portable;)V"⟩
def RX5 : String := "CordlessHouseModel"
def TX5 : u_T := fun k => match k with
  | 0 => ("CordlessHouseModel", "cells", "I", false)
  | 1 => ("CordlessHouseModel", "beacons", "[I", true)
  | 2 => ("CordlessHouseModel", "portables", "I", false)
  | 3 => ("CordlessHouseModel", "places", "[I", true)
  | 4 => ("CordlessHouseModel", "keys", "[J", true)
  | 5 => ("CordlessHouseModel", "entered", "[Z", true)
  | 6 => ("CordlessHouseModel", "exchangeKeys", "[J", true)
  | 7 => ("CordlessHouseModel", "state", "[I", true)
  | 8 => ("CordlessHouseModel", "partner", "[I", true)
  | 9 => ("CordlessHouseModel", "since", "[I", true)
  | 10 => ("CordlessHouseModel", "reach", "[I", true)
  | 11 => ("CordlessHouseModel", "noisy", "[Z", true)
  | 12 => ("CordlessHouseModel", "bearers", "I", false)
  | 13 => ("CordlessHouseModel", "of", "[I", true)
  | 14 => ("CordlessHouseModel", "at", "[I", true)
  | 15 => ("CordlessHouseModel", "channel", "[I", true)
  | 16 => ("CordlessHouseModel", "fails", "[I", true)
  | 17 => ("CordlessHouseModel", "good", "[Z", true)
  | 18 => ("CordlessHouseModel", "says", "[I", true)
  | 19 => ("CordlessHouseModel", "saying", "[J", true)
  | 20 => ("CordlessHouseModel", "waits", "[I", true)
  | 21 => ("CordlessHouseModel", "waiting", "[J", true)
  | 22 => ("CordlessHouseModel", "heardMany", "[I", true)
  | 23 => ("CordlessHouseModel", "hearing", "[J", true)
  | 24 => ("CordlessHouseModel", "upAir", "J", false)
  | 25 => ("CordlessHouseModel", "downAir", "J", false)
  | 26 => ("CordlessHouseModel", "time", "I", false)
  | 27 => ("CordlessHouseModel", "made", "I", false)
  | 28 => ("CordlessHouseModel", "actives", "I", false)
  | 29 => ("CordlessHouseModel", "ended", "I", false)
  | 30 => ("CordlessHouseModel", "handovers", "I", false)
  | 31 => ("CordlessHouseModel", "ups", "I", false)
  | 32 => ("CordlessHouseModel", "refused", "[I", true)
  | 33 => ("CordlessHouseModel", "began", "[I", true)
  | _ => ("CordlessHouseModel", "waited", "[I", true)
def tyX5 : Nat → FieldType := fun k => match k with
  | 0 => .int
  | 1 => .array .int
  | 2 => .int
  | 3 => .array .int
  | 4 => .array .long
  | 5 => .array .boolean
  | 6 => .array .long
  | 7 => .array .int
  | 8 => .array .int
  | 9 => .array .int
  | 10 => .array .int
  | 11 => .array .boolean
  | 12 => .int
  | 13 => .array .int
  | 14 => .array .int
  | 15 => .array .int
  | 16 => .array .int
  | 17 => .array .boolean
  | 18 => .array .int
  | 19 => .array .long
  | 20 => .array .int
  | 21 => .array .long
  | 22 => .array .int
  | 23 => .array .long
  | 24 => .long
  | 25 => .long
  | 26 => .int
  | 27 => .int
  | 28 => .int
  | 29 => .int
  | 30 => .int
  | 31 => .int
  | 32 => .array .int
  | 33 => .array .int
  | _ => .array .int
abbrev wsX50 : List Cond := u_ws RX5 TX5 35
theorem nmX5 : ∀ a, a < 35 → ∀ b, b < 35 → a ≠ b → (TX5 a).2.1 ≠ (TX5 b).2.1 := by decide +kernel
theorem tyX5_ok : ∀ k, k < 35 → parseFieldDescriptor (TX5 k).2.2.1 = some (tyX5 k) := by decide +kernel
abbrev cX5_init : ByteArray := prog_7_method_1_code
def yX5_init : MethodName := ⟨RX5, "<init>", "()V"⟩
abbrev cX5_in : ByteArray := prog_7_method_3_code
def yX5_in : MethodName := ⟨RX5, "in", "(III)Z"⟩
abbrev cX5_refuse : ByteArray := prog_7_method_4_code
def yX5_refuse : MethodName := ⟨RX5, "refuse", "(I)I"⟩
abbrev cX5_isCell : ByteArray := prog_7_method_5_code
def yX5_isCell : MethodName := ⟨RX5, "isCell", "(I)Z"⟩
abbrev cX5_isPortable : ByteArray := prog_7_method_6_code
def yX5_isPortable : MethodName := ⟨RX5, "isPortable", "(I)Z"⟩
abbrev cX5_cell : ByteArray := prog_7_method_7_code
def yX5_cell : MethodName := ⟨RX5, "cell", "(I)I"⟩
abbrev cX5_portable : ByteArray := prog_7_method_8_code
def yX5_portable : MethodName := ⟨RX5, "portable", "(IJ)I"⟩
abbrev cX5_reach : ByteArray := prog_7_method_9_code
def yX5_reach : MethodName := ⟨RX5, "reach", "(II)I"⟩
abbrev cX5_noise : ByteArray := prog_7_method_10_code
def yX5_noise : MethodName := ⟨RX5, "noise", "(IIZ)Z"⟩
abbrev cX5_go : ByteArray := prog_7_method_11_code
def yX5_go : MethodName := ⟨RX5, "go", "(II)I"⟩
abbrev cX5_enter : ByteArray := prog_7_method_12_code
def yX5_enter : MethodName := ⟨RX5, "enter", "(IJ)I"⟩
abbrev cX5_dial : ByteArray := prog_7_method_13_code
def yX5_dial : MethodName := ⟨RX5, "dial", "(II)I"⟩
abbrev cX5_answer : ByteArray := prog_7_method_14_code
def yX5_answer : MethodName := ⟨RX5, "answer", "(I)I"⟩
abbrev cX5_dropBearer : ByteArray := prog_7_method_15_code
def yX5_dropBearer : MethodName := ⟨RX5, "dropBearer", "(I)V"⟩
abbrev cX5_idle : ByteArray := prog_7_method_16_code
def yX5_idle : MethodName := ⟨RX5, "idle", "(I)V"⟩
abbrev cX5_isCaller : ByteArray := prog_7_method_17_code
def yX5_isCaller : MethodName := ⟨RX5, "isCaller", "(I)Z"⟩
abbrev cX5_ends : ByteArray := prog_7_method_18_code
def yX5_ends : MethodName := ⟨RX5, "ends", "(I)V"⟩
abbrev cX5_hang : ByteArray := prog_7_method_19_code
def yX5_hang : MethodName := ⟨RX5, "hang", "(I)I"⟩
abbrev cX5_say : ByteArray := prog_7_method_20_code
def yX5_say : MethodName := ⟨RX5, "say", "(IJ)I"⟩
abbrev cX5_reaches : ByteArray := prog_7_method_21_code
def yX5_reaches : MethodName := ⟨RX5, "reaches", "(II)Z"⟩
abbrev cX5_sends : ByteArray := prog_7_method_22_code
def yX5_sends : MethodName := ⟨RX5, "sends", "(II)Z"⟩
abbrev cX5_othersSending : ByteArray := prog_7_method_23_code
def yX5_othersSending : MethodName := ⟨RX5, "othersSending", "(III)I"⟩
abbrev cX5_othersTalking : ByteArray := prog_7_method_24_code
def yX5_othersTalking : MethodName := ⟨RX5, "othersTalking", "(III)I"⟩
abbrev cX5_isHeardAt : ByteArray := prog_7_method_25_code
def yX5_isHeardAt : MethodName := ⟨RX5, "isHeardAt", "(III)Z"⟩
abbrev cX5_isHeardBy : ByteArray := prog_7_method_26_code
def yX5_isHeardBy : MethodName := ⟨RX5, "isHeardBy", "(III)Z"⟩
abbrev cX5_levelOf : ByteArray := prog_7_method_27_code
def yX5_levelOf : MethodName := ⟨RX5, "levelOf", "(III)I"⟩
abbrev cX5_level : ByteArray := prog_7_method_28_code
def yX5_level : MethodName := ⟨RX5, "level", "(III)I"⟩
abbrev cX5_beacon : ByteArray := prog_7_method_29_code
def yX5_beacon : MethodName := ⟨RX5, "beacon", "(II)Z"⟩
abbrev cX5_bearersOf : ByteArray := prog_7_method_30_code
def yX5_bearersOf : MethodName := ⟨RX5, "bearersOf", "(I)I"⟩
abbrev cX5_bearerOf : ByteArray := prog_7_method_31_code
def yX5_bearerOf : MethodName := ⟨RX5, "bearerOf", "(I)I"⟩
abbrev cX5_handsOver : ByteArray := prog_7_method_32_code
def yX5_handsOver : MethodName := ⟨RX5, "handsOver", "(I)Z"⟩
abbrev cX5_isSlotTaken : ByteArray := prog_7_method_33_code
def yX5_isSlotTaken : MethodName := ⟨RX5, "isSlotTaken", "(III)Z"⟩
abbrev cX5_setUp : ByteArray := prog_7_method_34_code
def yX5_setUp : MethodName := ⟨RX5, "setUp", "(I)V"⟩
abbrev cX5_send : ByteArray := prog_7_method_35_code
def yX5_send : MethodName := ⟨RX5, "send", "()V"⟩
abbrev cX5_goOrStay : ByteArray := prog_7_method_36_code
def yX5_goOrStay : MethodName := ⟨RX5, "goOrStay", "()V"⟩
abbrev cX5_isGood : ByteArray := prog_7_method_37_code
def yX5_isGood : MethodName := ⟨RX5, "isGood", "(I)Z"⟩
abbrev cX5_callOf : ByteArray := prog_7_method_38_code
def yX5_callOf : MethodName := ⟨RX5, "callOf", "(I)V"⟩
abbrev cX5_up : ByteArray := prog_7_method_39_code
def yX5_up : MethodName := ⟨RX5, "up", "(I)V"⟩
abbrev cX5_down : ByteArray := prog_7_method_40_code
def yX5_down : MethodName := ⟨RX5, "down", "(I)I"⟩
abbrev cX5_frame : ByteArray := prog_7_method_41_code
def yX5_frame : MethodName := ⟨RX5, "frame", "()I"⟩
abbrev cX5_frames : ByteArray := prog_7_method_42_code
def yX5_frames : MethodName := ⟨RX5, "frames", "(I)I"⟩
abbrev cX5_heard : ByteArray := prog_7_method_43_code
def yX5_heard : MethodName := ⟨RX5, "heard", "(II)J"⟩
abbrev cX5_portableOf : ByteArray := prog_7_method_44_code
def yX5_portableOf : MethodName := ⟨RX5, "portableOf", "(II)I"⟩
abbrev cX5_bearer : ByteArray := prog_7_method_45_code
def yX5_bearer : MethodName := ⟨RX5, "bearer", "(II)I"⟩
abbrev cX5_mix : ByteArray := prog_7_method_46_code
def yX5_mix : MethodName := ⟨RX5, "mix", "(JJ)J"⟩
abbrev cX5_air : ByteArray := prog_7_method_47_code
def yX5_air : MethodName := ⟨RX5, "air", "(I)J"⟩
abbrev cX5_count : ByteArray := prog_7_method_48_code
def yX5_count : MethodName := ⟨RX5, "count", "(I)I"⟩
def RJ6 : String := "java/lang/Integer"
abbrev cJ6_bitCount_0f7a4 : ByteArray := prog_8_method_49_code
def yJ6_bitCount_0f7a4 : MethodName := ⟨RJ6, "bitCount", "(I)I"⟩
def RJ9 : String := "java/lang/Math"
abbrev cJ9_max_7cf53 : ByteArray := prog_9_method_65_code
def yJ9_max_7cf53 : MethodName := ⟨RJ9, "max", "(II)I"⟩
def RL : String := "CordlessHouseLaw"
abbrev cL_law : ByteArray := code
def yL_law : MethodName := ⟨RL, "law", "([I)Z"⟩
abbrev vwCl : List vw_C := [(RX0, TX0, 5), (RX1, TX1, 3), (RX2, TX2, 12), (RX3, TX3, 11), (RX4, TX4, 11), (RX5, TX5, 35)]
