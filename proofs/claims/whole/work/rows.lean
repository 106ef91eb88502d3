section
-- ===== PART A: goes FIRST, ahead of the names: the tables' words, and 'selects' of the private methods out of them =====
/-- a private method of a class that the tables say can be made, by its rows of tables_1 -/
def lw_okq (q : MethodName × Nat) : Prop := (q.1.cls ≠ "java/lang/invoke/MethodHandle" ∧ q.1.cls ≠ "java/lang/invoke/VarHandle") ∧ Cond.instantiable q.1.cls q.2 ∈ tables_1 ∧ Cond.privateMethod q.1 ∈ tables_1 ∧ Cond.instanceMethod q.1 ∈ tables_1
theorem lw_p0 : lw_okq (⟨"CordlessHouse", "refuse", "(I)I"⟩, 11) := ⟨⟨by decide +kernel, by decide +kernel⟩, List.mem_of_getElem? (i := 10) (by decide +kernel), List.mem_of_getElem? (i := 138) (by decide +kernel), List.mem_of_getElem? (i := 139) (by decide +kernel)⟩
theorem lw_p1 : lw_okq (⟨"CordlessHouse", "find", "(I)LCordlessHouse$Portable;"⟩, 11) := ⟨⟨by decide +kernel, by decide +kernel⟩, List.mem_of_getElem? (i := 10) (by decide +kernel), List.mem_of_getElem? (i := 257) (by decide +kernel), List.mem_of_getElem? (i := 258) (by decide +kernel)⟩
theorem lw_p2 : lw_okq (⟨"CordlessHouse", "endCall", "(LCordlessHouse$Portable;)V"⟩, 11) := ⟨⟨by decide +kernel, by decide +kernel⟩, List.mem_of_getElem? (i := 10) (by decide +kernel), List.mem_of_getElem? (i := 277) (by decide +kernel), List.mem_of_getElem? (i := 278) (by decide +kernel)⟩
theorem lw_p3 : lw_okq (⟨"CordlessHouse", "release", "(LCordlessHouse$Portable;)V"⟩, 11) := ⟨⟨by decide +kernel, by decide +kernel⟩, List.mem_of_getElem? (i := 10) (by decide +kernel), List.mem_of_getElem? (i := 292) (by decide +kernel), List.mem_of_getElem? (i := 293) (by decide +kernel)⟩
theorem lw_p4 : lw_okq (⟨"CordlessHouse$Radio", "dropBearer", "(I)V"⟩, 11) := ⟨⟨by decide +kernel, by decide +kernel⟩, List.mem_of_getElem? (i := 18) (by decide +kernel), List.mem_of_getElem? (i := 308) (by decide +kernel), List.mem_of_getElem? (i := 309) (by decide +kernel)⟩
theorem lw_p5 : lw_okq (⟨"CordlessHouse$Blocks", "wrap", "(I)I"⟩, 3) := ⟨⟨by decide +kernel, by decide +kernel⟩, List.mem_of_getElem? (i := 162) (by decide +kernel), List.mem_of_getElem? (i := 324) (by decide +kernel), List.mem_of_getElem? (i := 325) (by decide +kernel)⟩
theorem lw_p6 : lw_okq (⟨"CordlessHouse", "runFrame", "()V"⟩, 11) := ⟨⟨by decide +kernel, by decide +kernel⟩, List.mem_of_getElem? (i := 10) (by decide +kernel), List.mem_of_getElem? (i := 333) (by decide +kernel), List.mem_of_getElem? (i := 334) (by decide +kernel)⟩
theorem lw_p7 : lw_okq (⟨"CordlessHouse", "setUpBearers", "()V"⟩, 11) := ⟨⟨by decide +kernel, by decide +kernel⟩, List.mem_of_getElem? (i := 10) (by decide +kernel), List.mem_of_getElem? (i := 337) (by decide +kernel), List.mem_of_getElem? (i := 338) (by decide +kernel)⟩
theorem lw_p8 : lw_okq (⟨"CordlessHouse", "wantsBearer", "(LCordlessHouse$Portable;)Z"⟩, 11) := ⟨⟨by decide +kernel, by decide +kernel⟩, List.mem_of_getElem? (i := 10) (by decide +kernel), List.mem_of_getElem? (i := 341) (by decide +kernel), List.mem_of_getElem? (i := 342) (by decide +kernel)⟩
theorem lw_p9 : lw_okq (⟨"CordlessHouse$Radio", "firstBearerOf", "(I)I"⟩, 11) := ⟨⟨by decide +kernel, by decide +kernel⟩, List.mem_of_getElem? (i := 18) (by decide +kernel), List.mem_of_getElem? (i := 353) (by decide +kernel), List.mem_of_getElem? (i := 354) (by decide +kernel)⟩
theorem lw_p10 : lw_okq (⟨"CordlessHouse$Radio", "lastBearerOf", "(I)I"⟩, 11) := ⟨⟨by decide +kernel, by decide +kernel⟩, List.mem_of_getElem? (i := 18) (by decide +kernel), List.mem_of_getElem? (i := 357) (by decide +kernel), List.mem_of_getElem? (i := 358) (by decide +kernel)⟩
theorem lw_p11 : lw_okq (⟨"CordlessHouse$Radio", "chooseCell", "(I)I"⟩, 11) := ⟨⟨by decide +kernel, by decide +kernel⟩, List.mem_of_getElem? (i := 18) (by decide +kernel), List.mem_of_getElem? (i := 365) (by decide +kernel), List.mem_of_getElem? (i := 366) (by decide +kernel)⟩
theorem lw_p12 : lw_okq (⟨"CordlessHouse$Radio", "reachesPlace", "(II)Z"⟩, 11) := ⟨⟨by decide +kernel, by decide +kernel⟩, List.mem_of_getElem? (i := 18) (by decide +kernel), List.mem_of_getElem? (i := 373) (by decide +kernel), List.mem_of_getElem? (i := 374) (by decide +kernel)⟩
theorem lw_p13 : lw_okq (⟨"CordlessHouse$Radio", "chooseChannel", "(II)I"⟩, 11) := ⟨⟨by decide +kernel, by decide +kernel⟩, List.mem_of_getElem? (i := 18) (by decide +kernel), List.mem_of_getElem? (i := 377) (by decide +kernel), List.mem_of_getElem? (i := 378) (by decide +kernel)⟩
theorem lw_p14 : lw_okq (⟨"CordlessHouse$Radio", "takenSlots", "(II)I"⟩, 11) := ⟨⟨by decide +kernel, by decide +kernel⟩, List.mem_of_getElem? (i := 18) (by decide +kernel), List.mem_of_getElem? (i := 381) (by decide +kernel), List.mem_of_getElem? (i := 382) (by decide +kernel)⟩
theorem lw_p15 : lw_okq (⟨"CordlessHouse$Radio", "addBearer", "(III)V"⟩, 11) := ⟨⟨by decide +kernel, by decide +kernel⟩, List.mem_of_getElem? (i := 18) (by decide +kernel), List.mem_of_getElem? (i := 407) (by decide +kernel), List.mem_of_getElem? (i := 408) (by decide +kernel)⟩
def lw_privs_1 : List (MethodName × Nat) := [(⟨"CordlessHouse", "refuse", "(I)I"⟩, 11), (⟨"CordlessHouse", "find", "(I)LCordlessHouse$Portable;"⟩, 11), (⟨"CordlessHouse", "endCall", "(LCordlessHouse$Portable;)V"⟩, 11), (⟨"CordlessHouse", "release", "(LCordlessHouse$Portable;)V"⟩, 11), (⟨"CordlessHouse$Radio", "dropBearer", "(I)V"⟩, 11), (⟨"CordlessHouse$Blocks", "wrap", "(I)I"⟩, 3), (⟨"CordlessHouse", "runFrame", "()V"⟩, 11), (⟨"CordlessHouse", "setUpBearers", "()V"⟩, 11), (⟨"CordlessHouse", "wantsBearer", "(LCordlessHouse$Portable;)Z"⟩, 11), (⟨"CordlessHouse$Radio", "firstBearerOf", "(I)I"⟩, 11), (⟨"CordlessHouse$Radio", "lastBearerOf", "(I)I"⟩, 11), (⟨"CordlessHouse$Radio", "chooseCell", "(I)I"⟩, 11), (⟨"CordlessHouse$Radio", "reachesPlace", "(II)Z"⟩, 11), (⟨"CordlessHouse$Radio", "chooseChannel", "(II)I"⟩, 11), (⟨"CordlessHouse$Radio", "takenSlots", "(II)I"⟩, 11), (⟨"CordlessHouse$Radio", "addBearer", "(III)V"⟩, 11)]
theorem lw_r1 : ∀ q ∈ lw_privs_1, lw_okq q := List.forall_mem_cons.mpr ⟨lw_p0, List.forall_mem_cons.mpr ⟨lw_p1, List.forall_mem_cons.mpr ⟨lw_p2, List.forall_mem_cons.mpr ⟨lw_p3, List.forall_mem_cons.mpr ⟨lw_p4, List.forall_mem_cons.mpr ⟨lw_p5, List.forall_mem_cons.mpr ⟨lw_p6, List.forall_mem_cons.mpr ⟨lw_p7, List.forall_mem_cons.mpr ⟨lw_p8, List.forall_mem_cons.mpr ⟨lw_p9, List.forall_mem_cons.mpr ⟨lw_p10, List.forall_mem_cons.mpr ⟨lw_p11, List.forall_mem_cons.mpr ⟨lw_p12, List.forall_mem_cons.mpr ⟨lw_p13, List.forall_mem_cons.mpr ⟨lw_p14, List.forall_mem_cons.mpr ⟨lw_p15, fun _ h => absurd h List.not_mem_nil⟩⟩⟩⟩⟩⟩⟩⟩⟩⟩⟩⟩⟩⟩⟩⟩
theorem lw_p16 : lw_okq (⟨"CordlessHouse$Radio", "comesUp", "(III)Z"⟩, 11) := ⟨⟨by decide +kernel, by decide +kernel⟩, List.mem_of_getElem? (i := 18) (by decide +kernel), List.mem_of_getElem? (i := 415) (by decide +kernel), List.mem_of_getElem? (i := 416) (by decide +kernel)⟩
theorem lw_p17 : lw_okq (⟨"CordlessHouse", "dropHandedOver", "()V"⟩, 11) := ⟨⟨by decide +kernel, by decide +kernel⟩, List.mem_of_getElem? (i := 10) (by decide +kernel), List.mem_of_getElem? (i := 423) (by decide +kernel), List.mem_of_getElem? (i := 424) (by decide +kernel)⟩
theorem lw_p18 : lw_okq (⟨"CordlessHouse", "endCallsWithoutBearer", "()V"⟩, 11) := ⟨⟨by decide +kernel, by decide +kernel⟩, List.mem_of_getElem? (i := 10) (by decide +kernel), List.mem_of_getElem? (i := 431) (by decide +kernel), List.mem_of_getElem? (i := 432) (by decide +kernel)⟩
theorem lw_p19 : lw_okq (⟨"CordlessHouse", "advanceCalls", "()V"⟩, 11) := ⟨⟨by decide +kernel, by decide +kernel⟩, List.mem_of_getElem? (i := 10) (by decide +kernel), List.mem_of_getElem? (i := 435) (by decide +kernel), List.mem_of_getElem? (i := 436) (by decide +kernel)⟩
theorem lw_p20 : lw_okq (⟨"CordlessHouse", "advance", "(LCordlessHouse$Portable;)Z"⟩, 11) := ⟨⟨by decide +kernel, by decide +kernel⟩, List.mem_of_getElem? (i := 10) (by decide +kernel), List.mem_of_getElem? (i := 443) (by decide +kernel), List.mem_of_getElem? (i := 444) (by decide +kernel)⟩
theorem lw_p21 : lw_okq (⟨"CordlessHouse", "isProven", "(LCordlessHouse$Portable;)Z"⟩, 11) := ⟨⟨by decide +kernel, by decide +kernel⟩, List.mem_of_getElem? (i := 10) (by decide +kernel), List.mem_of_getElem? (i := 447) (by decide +kernel), List.mem_of_getElem? (i := 448) (by decide +kernel)⟩
theorem lw_p22 : lw_okq (⟨"CordlessHouse", "pagePartner", "(LCordlessHouse$Portable;)Z"⟩, 11) := ⟨⟨by decide +kernel, by decide +kernel⟩, List.mem_of_getElem? (i := 10) (by decide +kernel), List.mem_of_getElem? (i := 456) (by decide +kernel), List.mem_of_getElem? (i := 457) (by decide +kernel)⟩
theorem lw_p23 : lw_okq (⟨"CordlessHouse", "carryUp", "()V"⟩, 11) := ⟨⟨by decide +kernel, by decide +kernel⟩, List.mem_of_getElem? (i := 10) (by decide +kernel), List.mem_of_getElem? (i := 463) (by decide +kernel), List.mem_of_getElem? (i := 464) (by decide +kernel)⟩
theorem lw_p24 : lw_okq (⟨"CordlessHouse", "canTalk", "(LCordlessHouse$Portable;)Z"⟩, 11) := ⟨⟨by decide +kernel, by decide +kernel⟩, List.mem_of_getElem? (i := 10) (by decide +kernel), List.mem_of_getElem? (i := 467) (by decide +kernel), List.mem_of_getElem? (i := 468) (by decide +kernel)⟩
theorem lw_p25 : lw_okq (⟨"CordlessHouse", "sendUp", "(LCordlessHouse$Portable;)V"⟩, 11) := ⟨⟨by decide +kernel, by decide +kernel⟩, List.mem_of_getElem? (i := 10) (by decide +kernel), List.mem_of_getElem? (i := 471) (by decide +kernel), List.mem_of_getElem? (i := 472) (by decide +kernel)⟩
theorem lw_p26 : lw_okq (⟨"CordlessHouse", "carryDown", "()V"⟩, 11) := ⟨⟨by decide +kernel, by decide +kernel⟩, List.mem_of_getElem? (i := 10) (by decide +kernel), List.mem_of_getElem? (i := 479) (by decide +kernel), List.mem_of_getElem? (i := 480) (by decide +kernel)⟩
theorem lw_p27 : lw_okq (⟨"CordlessHouse", "sendDown", "(LCordlessHouse$Portable;)V"⟩, 11) := ⟨⟨by decide +kernel, by decide +kernel⟩, List.mem_of_getElem? (i := 10) (by decide +kernel), List.mem_of_getElem? (i := 483) (by decide +kernel), List.mem_of_getElem? (i := 484) (by decide +kernel)⟩
theorem lw_p28 : lw_okq (⟨"CordlessHouse", "endOldCalls", "()V"⟩, 11) := ⟨⟨by decide +kernel, by decide +kernel⟩, List.mem_of_getElem? (i := 10) (by decide +kernel), List.mem_of_getElem? (i := 495) (by decide +kernel), List.mem_of_getElem? (i := 496) (by decide +kernel)⟩
theorem lw_p29 : lw_okq (⟨"CordlessHouseModel", "refuse", "(I)I"⟩, 35) := ⟨⟨by decide +kernel, by decide +kernel⟩, List.mem_of_getElem? (i := 546) (by decide +kernel), List.mem_of_getElem? (i := 666) (by decide +kernel), List.mem_of_getElem? (i := 667) (by decide +kernel)⟩
theorem lw_p30 : lw_okq (⟨"CordlessHouseModel", "isPortable", "(I)Z"⟩, 35) := ⟨⟨by decide +kernel, by decide +kernel⟩, List.mem_of_getElem? (i := 546) (by decide +kernel), List.mem_of_getElem? (i := 686) (by decide +kernel), List.mem_of_getElem? (i := 687) (by decide +kernel)⟩
theorem lw_p31 : lw_okq (⟨"CordlessHouseModel", "ends", "(I)V"⟩, 35) := ⟨⟨by decide +kernel, by decide +kernel⟩, List.mem_of_getElem? (i := 546) (by decide +kernel), List.mem_of_getElem? (i := 706) (by decide +kernel), List.mem_of_getElem? (i := 707) (by decide +kernel)⟩
def lw_privs_2 : List (MethodName × Nat) := [(⟨"CordlessHouse$Radio", "comesUp", "(III)Z"⟩, 11), (⟨"CordlessHouse", "dropHandedOver", "()V"⟩, 11), (⟨"CordlessHouse", "endCallsWithoutBearer", "()V"⟩, 11), (⟨"CordlessHouse", "advanceCalls", "()V"⟩, 11), (⟨"CordlessHouse", "advance", "(LCordlessHouse$Portable;)Z"⟩, 11), (⟨"CordlessHouse", "isProven", "(LCordlessHouse$Portable;)Z"⟩, 11), (⟨"CordlessHouse", "pagePartner", "(LCordlessHouse$Portable;)Z"⟩, 11), (⟨"CordlessHouse", "carryUp", "()V"⟩, 11), (⟨"CordlessHouse", "canTalk", "(LCordlessHouse$Portable;)Z"⟩, 11), (⟨"CordlessHouse", "sendUp", "(LCordlessHouse$Portable;)V"⟩, 11), (⟨"CordlessHouse", "carryDown", "()V"⟩, 11), (⟨"CordlessHouse", "sendDown", "(LCordlessHouse$Portable;)V"⟩, 11), (⟨"CordlessHouse", "endOldCalls", "()V"⟩, 11), (⟨"CordlessHouseModel", "refuse", "(I)I"⟩, 35), (⟨"CordlessHouseModel", "isPortable", "(I)Z"⟩, 35), (⟨"CordlessHouseModel", "ends", "(I)V"⟩, 35)]
theorem lw_r2 : ∀ q ∈ lw_privs_2, lw_okq q := List.forall_mem_cons.mpr ⟨lw_p16, List.forall_mem_cons.mpr ⟨lw_p17, List.forall_mem_cons.mpr ⟨lw_p18, List.forall_mem_cons.mpr ⟨lw_p19, List.forall_mem_cons.mpr ⟨lw_p20, List.forall_mem_cons.mpr ⟨lw_p21, List.forall_mem_cons.mpr ⟨lw_p22, List.forall_mem_cons.mpr ⟨lw_p23, List.forall_mem_cons.mpr ⟨lw_p24, List.forall_mem_cons.mpr ⟨lw_p25, List.forall_mem_cons.mpr ⟨lw_p26, List.forall_mem_cons.mpr ⟨lw_p27, List.forall_mem_cons.mpr ⟨lw_p28, List.forall_mem_cons.mpr ⟨lw_p29, List.forall_mem_cons.mpr ⟨lw_p30, List.forall_mem_cons.mpr ⟨lw_p31, fun _ h => absurd h List.not_mem_nil⟩⟩⟩⟩⟩⟩⟩⟩⟩⟩⟩⟩⟩⟩⟩⟩
theorem lw_p32 : lw_okq (⟨"CordlessHouseModel", "idle", "(I)V"⟩, 35) := ⟨⟨by decide +kernel, by decide +kernel⟩, List.mem_of_getElem? (i := 546) (by decide +kernel), List.mem_of_getElem? (i := 713) (by decide +kernel), List.mem_of_getElem? (i := 714) (by decide +kernel)⟩
theorem lw_p33 : lw_okq (⟨"CordlessHouseModel", "dropBearer", "(I)V"⟩, 35) := ⟨⟨by decide +kernel, by decide +kernel⟩, List.mem_of_getElem? (i := 546) (by decide +kernel), List.mem_of_getElem? (i := 717) (by decide +kernel), List.mem_of_getElem? (i := 718) (by decide +kernel)⟩
theorem lw_p34 : lw_okq (⟨"CordlessHouseModel", "isCell", "(I)Z"⟩, 35) := ⟨⟨by decide +kernel, by decide +kernel⟩, List.mem_of_getElem? (i := 546) (by decide +kernel), List.mem_of_getElem? (i := 729) (by decide +kernel), List.mem_of_getElem? (i := 730) (by decide +kernel)⟩
theorem lw_p35 : lw_okq (⟨"CordlessHouseModel", "levelOf", "(III)I"⟩, 35) := ⟨⟨by decide +kernel, by decide +kernel⟩, List.mem_of_getElem? (i := 546) (by decide +kernel), List.mem_of_getElem? (i := 733) (by decide +kernel), List.mem_of_getElem? (i := 734) (by decide +kernel)⟩
theorem lw_p36 : lw_okq (⟨"CordlessHouseModel", "othersSending", "(III)I"⟩, 35) := ⟨⟨by decide +kernel, by decide +kernel⟩, List.mem_of_getElem? (i := 546) (by decide +kernel), List.mem_of_getElem? (i := 737) (by decide +kernel), List.mem_of_getElem? (i := 738) (by decide +kernel)⟩
theorem lw_p37 : lw_okq (⟨"CordlessHouseModel", "reaches", "(II)Z"⟩, 35) := ⟨⟨by decide +kernel, by decide +kernel⟩, List.mem_of_getElem? (i := 546) (by decide +kernel), List.mem_of_getElem? (i := 741) (by decide +kernel), List.mem_of_getElem? (i := 742) (by decide +kernel)⟩
theorem lw_p38 : lw_okq (⟨"CordlessHouseModel", "sends", "(II)Z"⟩, 35) := ⟨⟨by decide +kernel, by decide +kernel⟩, List.mem_of_getElem? (i := 546) (by decide +kernel), List.mem_of_getElem? (i := 745) (by decide +kernel), List.mem_of_getElem? (i := 746) (by decide +kernel)⟩
theorem lw_p39 : lw_okq (⟨"CordlessHouseModel", "othersTalking", "(III)I"⟩, 35) := ⟨⟨by decide +kernel, by decide +kernel⟩, List.mem_of_getElem? (i := 546) (by decide +kernel), List.mem_of_getElem? (i := 749) (by decide +kernel), List.mem_of_getElem? (i := 750) (by decide +kernel)⟩
theorem lw_p40 : lw_okq (⟨"CordlessHouseModel", "isHeardAt", "(III)Z"⟩, 35) := ⟨⟨by decide +kernel, by decide +kernel⟩, List.mem_of_getElem? (i := 546) (by decide +kernel), List.mem_of_getElem? (i := 757) (by decide +kernel), List.mem_of_getElem? (i := 758) (by decide +kernel)⟩
theorem lw_p41 : lw_okq (⟨"CordlessHouseModel", "frame", "()I"⟩, 35) := ⟨⟨by decide +kernel, by decide +kernel⟩, List.mem_of_getElem? (i := 546) (by decide +kernel), List.mem_of_getElem? (i := 766) (by decide +kernel), List.mem_of_getElem? (i := 767) (by decide +kernel)⟩
theorem lw_p42 : lw_okq (⟨"CordlessHouseModel", "setUp", "(I)V"⟩, 35) := ⟨⟨by decide +kernel, by decide +kernel⟩, List.mem_of_getElem? (i := 546) (by decide +kernel), List.mem_of_getElem? (i := 770) (by decide +kernel), List.mem_of_getElem? (i := 771) (by decide +kernel)⟩
theorem lw_p43 : lw_okq (⟨"CordlessHouseModel", "handsOver", "(I)Z"⟩, 35) := ⟨⟨by decide +kernel, by decide +kernel⟩, List.mem_of_getElem? (i := 546) (by decide +kernel), List.mem_of_getElem? (i := 774) (by decide +kernel), List.mem_of_getElem? (i := 775) (by decide +kernel)⟩
theorem lw_p44 : lw_okq (⟨"CordlessHouseModel", "bearersOf", "(I)I"⟩, 35) := ⟨⟨by decide +kernel, by decide +kernel⟩, List.mem_of_getElem? (i := 546) (by decide +kernel), List.mem_of_getElem? (i := 778) (by decide +kernel), List.mem_of_getElem? (i := 779) (by decide +kernel)⟩
theorem lw_p45 : lw_okq (⟨"CordlessHouseModel", "bearerOf", "(I)I"⟩, 35) := ⟨⟨by decide +kernel, by decide +kernel⟩, List.mem_of_getElem? (i := 546) (by decide +kernel), List.mem_of_getElem? (i := 782) (by decide +kernel), List.mem_of_getElem? (i := 783) (by decide +kernel)⟩
theorem lw_p46 : lw_okq (⟨"CordlessHouseModel", "isSlotTaken", "(III)Z"⟩, 35) := ⟨⟨by decide +kernel, by decide +kernel⟩, List.mem_of_getElem? (i := 546) (by decide +kernel), List.mem_of_getElem? (i := 786) (by decide +kernel), List.mem_of_getElem? (i := 787) (by decide +kernel)⟩
theorem lw_p47 : lw_okq (⟨"CordlessHouseModel", "send", "()V"⟩, 35) := ⟨⟨by decide +kernel, by decide +kernel⟩, List.mem_of_getElem? (i := 546) (by decide +kernel), List.mem_of_getElem? (i := 790) (by decide +kernel), List.mem_of_getElem? (i := 791) (by decide +kernel)⟩
def lw_privs_3 : List (MethodName × Nat) := [(⟨"CordlessHouseModel", "idle", "(I)V"⟩, 35), (⟨"CordlessHouseModel", "dropBearer", "(I)V"⟩, 35), (⟨"CordlessHouseModel", "isCell", "(I)Z"⟩, 35), (⟨"CordlessHouseModel", "levelOf", "(III)I"⟩, 35), (⟨"CordlessHouseModel", "othersSending", "(III)I"⟩, 35), (⟨"CordlessHouseModel", "reaches", "(II)Z"⟩, 35), (⟨"CordlessHouseModel", "sends", "(II)Z"⟩, 35), (⟨"CordlessHouseModel", "othersTalking", "(III)I"⟩, 35), (⟨"CordlessHouseModel", "isHeardAt", "(III)Z"⟩, 35), (⟨"CordlessHouseModel", "frame", "()I"⟩, 35), (⟨"CordlessHouseModel", "setUp", "(I)V"⟩, 35), (⟨"CordlessHouseModel", "handsOver", "(I)Z"⟩, 35), (⟨"CordlessHouseModel", "bearersOf", "(I)I"⟩, 35), (⟨"CordlessHouseModel", "bearerOf", "(I)I"⟩, 35), (⟨"CordlessHouseModel", "isSlotTaken", "(III)Z"⟩, 35), (⟨"CordlessHouseModel", "send", "()V"⟩, 35)]
theorem lw_r3 : ∀ q ∈ lw_privs_3, lw_okq q := List.forall_mem_cons.mpr ⟨lw_p32, List.forall_mem_cons.mpr ⟨lw_p33, List.forall_mem_cons.mpr ⟨lw_p34, List.forall_mem_cons.mpr ⟨lw_p35, List.forall_mem_cons.mpr ⟨lw_p36, List.forall_mem_cons.mpr ⟨lw_p37, List.forall_mem_cons.mpr ⟨lw_p38, List.forall_mem_cons.mpr ⟨lw_p39, List.forall_mem_cons.mpr ⟨lw_p40, List.forall_mem_cons.mpr ⟨lw_p41, List.forall_mem_cons.mpr ⟨lw_p42, List.forall_mem_cons.mpr ⟨lw_p43, List.forall_mem_cons.mpr ⟨lw_p44, List.forall_mem_cons.mpr ⟨lw_p45, List.forall_mem_cons.mpr ⟨lw_p46, List.forall_mem_cons.mpr ⟨lw_p47, fun _ h => absurd h List.not_mem_nil⟩⟩⟩⟩⟩⟩⟩⟩⟩⟩⟩⟩⟩⟩⟩⟩
theorem lw_p48 : lw_okq (⟨"CordlessHouseModel", "isHeardBy", "(III)Z"⟩, 35) := ⟨⟨by decide +kernel, by decide +kernel⟩, List.mem_of_getElem? (i := 546) (by decide +kernel), List.mem_of_getElem? (i := 794) (by decide +kernel), List.mem_of_getElem? (i := 795) (by decide +kernel)⟩
theorem lw_p49 : lw_okq (⟨"CordlessHouseModel", "goOrStay", "()V"⟩, 35) := ⟨⟨by decide +kernel, by decide +kernel⟩, List.mem_of_getElem? (i := 546) (by decide +kernel), List.mem_of_getElem? (i := 798) (by decide +kernel), List.mem_of_getElem? (i := 799) (by decide +kernel)⟩
theorem lw_p50 : lw_okq (⟨"CordlessHouseModel", "callOf", "(I)V"⟩, 35) := ⟨⟨by decide +kernel, by decide +kernel⟩, List.mem_of_getElem? (i := 546) (by decide +kernel), List.mem_of_getElem? (i := 802) (by decide +kernel), List.mem_of_getElem? (i := 803) (by decide +kernel)⟩
theorem lw_p51 : lw_okq (⟨"CordlessHouseModel", "isGood", "(I)Z"⟩, 35) := ⟨⟨by decide +kernel, by decide +kernel⟩, List.mem_of_getElem? (i := 546) (by decide +kernel), List.mem_of_getElem? (i := 806) (by decide +kernel), List.mem_of_getElem? (i := 807) (by decide +kernel)⟩
theorem lw_p52 : lw_okq (⟨"CordlessHouseModel", "up", "(I)V"⟩, 35) := ⟨⟨by decide +kernel, by decide +kernel⟩, List.mem_of_getElem? (i := 546) (by decide +kernel), List.mem_of_getElem? (i := 816) (by decide +kernel), List.mem_of_getElem? (i := 817) (by decide +kernel)⟩
theorem lw_p53 : lw_okq (⟨"CordlessHouseModel", "down", "(I)I"⟩, 35) := ⟨⟨by decide +kernel, by decide +kernel⟩, List.mem_of_getElem? (i := 546) (by decide +kernel), List.mem_of_getElem? (i := 820) (by decide +kernel), List.mem_of_getElem? (i := 821) (by decide +kernel)⟩
def lw_privs_4 : List (MethodName × Nat) := [(⟨"CordlessHouseModel", "isHeardBy", "(III)Z"⟩, 35), (⟨"CordlessHouseModel", "goOrStay", "()V"⟩, 35), (⟨"CordlessHouseModel", "callOf", "(I)V"⟩, 35), (⟨"CordlessHouseModel", "isGood", "(I)Z"⟩, 35), (⟨"CordlessHouseModel", "up", "(I)V"⟩, 35), (⟨"CordlessHouseModel", "down", "(I)I"⟩, 35)]
theorem lw_r4 : ∀ q ∈ lw_privs_4, lw_okq q := List.forall_mem_cons.mpr ⟨lw_p48, List.forall_mem_cons.mpr ⟨lw_p49, List.forall_mem_cons.mpr ⟨lw_p50, List.forall_mem_cons.mpr ⟨lw_p51, List.forall_mem_cons.mpr ⟨lw_p52, List.forall_mem_cons.mpr ⟨lw_p53, fun _ h => absurd h List.not_mem_nil⟩⟩⟩⟩⟩⟩
def lw_privs : List (MethodName × Nat) := lw_privs_1 ++ (lw_privs_2 ++ (lw_privs_3 ++ (lw_privs_4)))
def lw_tbl : List Cond := k2_sels lw_privs ++ tables_1
theorem lw_privs_ok : ∀ q ∈ lw_privs, lw_okq q := by
  show ∀ q ∈ lw_privs_1 ++ (lw_privs_2 ++ (lw_privs_3 ++ (lw_privs_4))), lw_okq q
  exact List.forall_mem_append.mpr ⟨lw_r1, List.forall_mem_append.mpr ⟨lw_r2, List.forall_mem_append.mpr ⟨lw_r3, lw_r4⟩⟩⟩

def RX0 : String := "CordlessHouse$Bearer"
def TX0 : u_T := fun k => match k with
  | 0 => ("CordlessHouse$Bearer", "portable", "I", false)
  | 1 => ("CordlessHouse$Bearer", "cell", "I", false)
  | 2 => ("CordlessHouse$Bearer", "channel", "I", false)
  | 3 => ("CordlessHouse$Bearer", "fails", "I", false)
  | _ => ("CordlessHouse$Bearer", "good", "Z", false)
def tyX0 : Nat → FieldType := fun k => match k with
  | 0 => .int
  | 1 => .int
  | 2 => .int
  | 3 => .int
  | _ => .boolean
abbrev wsX00 : List Cond := u_ws RX0 TX0 5
theorem nmX0 : ∀ a, a < 5 → ∀ b, b < 5 → a ≠ b → (TX0 a).2.1 ≠ (TX0 b).2.1 := by decide +kernel
theorem tyX0_ok : ∀ k, k < 5 → parseFieldDescriptor (TX0 k).2.2.1 = some (tyX0 k) := by decide +kernel
abbrev cX0_init : ByteArray := prog_2_method_1_code
def yX0_init : MethodName := ⟨RX0, "<init>", "()V"⟩
def RX1 : String := "CordlessHouse$Blocks"
def TX1 : u_T := fun k => match k with
  | 0 => ("CordlessHouse$Blocks", "ring", "[J", true)
  | 1 => ("CordlessHouse$Blocks", "first", "I", false)
  | _ => ("CordlessHouse$Blocks", "size", "I", false)
def tyX1 : Nat → FieldType := fun k => match k with
  | 0 => .array .long
  | 1 => .int
  | _ => .int
abbrev wsX10 : List Cond := u_ws RX1 TX1 3
theorem nmX1 : ∀ a, a < 3 → ∀ b, b < 3 → a ≠ b → (TX1 a).2.1 ≠ (TX1 b).2.1 := by decide +kernel
theorem tyX1_ok : ∀ k, k < 3 → parseFieldDescriptor (TX1 k).2.2.1 = some (tyX1 k) := by decide +kernel
abbrev cX1_init : ByteArray := prog_3_method_1_code
def yX1_init : MethodName := ⟨RX1, "<init>", "(I)V"⟩
abbrev cX1_isFull : ByteArray := prog_3_method_2_code
def yX1_isFull : MethodName := ⟨RX1, "isFull", "()Z"⟩
abbrev cX1_put : ByteArray := prog_3_method_3_code
def yX1_put : MethodName := ⟨RX1, "put", "(J)Z"⟩
abbrev cX1_take : ByteArray := prog_3_method_4_code
def yX1_take : MethodName := ⟨RX1, "take", "()J"⟩
abbrev cX1_at : ByteArray := prog_3_method_5_code
def yX1_at : MethodName := ⟨RX1, "at", "(I)J"⟩
abbrev cX1_clear : ByteArray := prog_3_method_6_code
def yX1_clear : MethodName := ⟨RX1, "clear", "()V"⟩
abbrev cX1_wrap : ByteArray := prog_3_method_7_code
def yX1_wrap : MethodName := ⟨RX1, "wrap", "(I)I"⟩
def RX2 : String := "CordlessHouse$Portable"
def TX2 : u_T := fun k => match k with
  | 0 => ("CordlessHouse$Portable", "number", "I", true)
  | 1 => ("CordlessHouse$Portable", "key", "J", true)
  | 2 => ("CordlessHouse$Portable", "exchangeKey", "J", false)
  | 3 => ("CordlessHouse$Portable", "entered", "Z", false)
  | 4 => ("CordlessHouse$Portable", "state", "I", false)
  | 5 => ("CordlessHouse$Portable", "partner", "I", false)
  | 6 => ("CordlessHouse$Portable", "since", "I", false)
  | 7 => ("CordlessHouse$Portable", "ready", "I", false)
  | 8 => ("CordlessHouse$Portable", "heardInAll", "I", false)
  | 9 => ("CordlessHouse$Portable", "said", "LCordlessHouse$Blocks;", true)
  | 10 => ("CordlessHouse$Portable", "atExchange", "LCordlessHouse$Blocks;", true)
  | _ => ("CordlessHouse$Portable", "kept", "LCordlessHouse$Blocks;", true)
def tyX2 : Nat → FieldType := fun k => match k with
  | 0 => .int
  | 1 => .long
  | 2 => .long
  | 3 => .boolean
  | 4 => .int
  | 5 => .int
  | 6 => .int
  | 7 => .int
  | 8 => .int
  | 9 => .object "CordlessHouse$Blocks"
  | 10 => .object "CordlessHouse$Blocks"
  | _ => .object "CordlessHouse$Blocks"
abbrev wsX20 : List Cond := u_ws RX2 TX2 12
theorem nmX2 : ∀ a, a < 12 → ∀ b, b < 12 → a ≠ b → (TX2 a).2.1 ≠ (TX2 b).2.1 := by decide +kernel
theorem tyX2_ok : ∀ k, k < 12 → parseFieldDescriptor (TX2 k).2.2.1 = some (tyX2 k) := by decide +kernel
abbrev cX2_init : ByteArray := prog_4_method_1_code
def yX2_init : MethodName := ⟨RX2, "<init>", "(IJ)V"⟩
abbrev cX2_begin : ByteArray := prog_4_method_2_code
def yX2_begin : MethodName := ⟨RX2, "begin", "(III)V"⟩
abbrev cX2_becomeIdle : ByteArray := prog_4_method_3_code
def yX2_becomeIdle : MethodName := ⟨RX2, "becomeIdle", "()V"⟩
abbrev cX2_keep : ByteArray := prog_4_method_4_code
def yX2_keep : MethodName := ⟨RX2, "keep", "(J)V"⟩
abbrev cX2_calls : ByteArray := prog_4_method_5_code
def yX2_calls : MethodName := ⟨RX2, "calls", "()Z"⟩
abbrev cX2_isCalled : ByteArray := prog_4_method_6_code
def yX2_isCalled : MethodName := ⟨RX2, "isCalled", "()Z"⟩
abbrev cX2_isPending : ByteArray := prog_4_method_7_code
def yX2_isPending : MethodName := ⟨RX2, "isPending", "()Z"⟩
def RX3 : String := "CordlessHouse$Radio"
def TX3 : u_T := fun k => match k with
  | 0 => ("CordlessHouse$Radio", "cellCount", "I", false)
  | 1 => ("CordlessHouse$Radio", "portableCount", "I", false)
  | 2 => ("CordlessHouse$Radio", "bearerCount", "I", false)
  | 3 => ("CordlessHouse$Radio", "bearersMade", "I", false)
  | 4 => ("CordlessHouse$Radio", "beaconOf", "[I", true)
  | 5 => ("CordlessHouse$Radio", "placeOf", "[I", true)
  | 6 => ("CordlessHouse$Radio", "reachOf", "[I", true)
  | 7 => ("CordlessHouse$Radio", "noiseOn", "[I", true)
  | 8 => ("CordlessHouse$Radio", "cellsOn", "[I", true)
  | 9 => ("CordlessHouse$Radio", "portablesOn", "[I", true)
  | _ => ("CordlessHouse$Radio", "bearers", "[LCordlessHouse$Bearer;", true)
def tyX3 : Nat → FieldType := fun k => match k with
  | 0 => .int
  | 1 => .int
  | 2 => .int
  | 3 => .int
  | 4 => .array .int
  | 5 => .array .int
  | 6 => .array .int
  | 7 => .array .int
  | 8 => .array .int
  | 9 => .array .int
  | _ => .array (.object "CordlessHouse$Bearer")
abbrev wsX30 : List Cond := u_ws RX3 TX3 11
theorem nmX3 : ∀ a, a < 11 → ∀ b, b < 11 → a ≠ b → (TX3 a).2.1 ≠ (TX3 b).2.1 := by decide +kernel
theorem tyX3_ok : ∀ k, k < 11 → parseFieldDescriptor (TX3 k).2.2.1 = some (tyX3 k) := by decide +kernel
abbrev cX3_init : ByteArray := prog_5_method_1_code
def yX3_init : MethodName := ⟨RX3, "<init>", "()V"⟩
abbrev cX3_hasCell : ByteArray := prog_5_method_2_code
def yX3_hasCell : MethodName := ⟨RX3, "hasCell", "(I)Z"⟩
abbrev cX3_hasPortable : ByteArray := prog_5_method_3_code
def yX3_hasPortable : MethodName := ⟨RX3, "hasPortable", "(I)Z"⟩
abbrev cX3_addCell : ByteArray := prog_5_method_4_code
def yX3_addCell : MethodName := ⟨RX3, "addCell", "(I)I"⟩
abbrev cX3_addPortable : ByteArray := prog_5_method_5_code
def yX3_addPortable : MethodName := ⟨RX3, "addPortable", "(I)I"⟩
abbrev cX3_changeNoise : ByteArray := prog_5_method_6_code
def yX3_changeNoise : MethodName := ⟨RX3, "changeNoise", "(IIZ)Z"⟩
abbrev cX3_noiseBits : ByteArray := prog_5_method_7_code
def yX3_noiseBits : MethodName := ⟨RX3, "noiseBits", "(II)I"⟩
abbrev cX3_otherCells : ByteArray := prog_5_method_8_code
def yX3_otherCells : MethodName := ⟨RX3, "otherCells", "(II)I"⟩
abbrev cX3_otherPortables : ByteArray := prog_5_method_9_code
def yX3_otherPortables : MethodName := ⟨RX3, "otherPortables", "(II)I"⟩
abbrev cX3_levelOn : ByteArray := prog_5_method_10_code
def yX3_levelOn : MethodName := ⟨RX3, "levelOn", "(IIII)I"⟩
abbrev cX3_reachesPlace : ByteArray := prog_5_method_11_code
def yX3_reachesPlace : MethodName := ⟨RX3, "reachesPlace", "(II)Z"⟩
abbrev cX3_comesDown : ByteArray := prog_5_method_12_code
def yX3_comesDown : MethodName := ⟨RX3, "comesDown", "(III)Z"⟩
abbrev cX3_comesUp : ByteArray := prog_5_method_13_code
def yX3_comesUp : MethodName := ⟨RX3, "comesUp", "(III)Z"⟩
abbrev cX3_bearersOf : ByteArray := prog_5_method_14_code
def yX3_bearersOf : MethodName := ⟨RX3, "bearersOf", "(I)I"⟩
abbrev cX3_firstBearerOf : ByteArray := prog_5_method_15_code
def yX3_firstBearerOf : MethodName := ⟨RX3, "firstBearerOf", "(I)I"⟩
abbrev cX3_lastBearerOf : ByteArray := prog_5_method_16_code
def yX3_lastBearerOf : MethodName := ⟨RX3, "lastBearerOf", "(I)I"⟩
abbrev cX3_handsOver : ByteArray := prog_5_method_17_code
def yX3_handsOver : MethodName := ⟨RX3, "handsOver", "(I)Z"⟩
abbrev cX3_hasGoodBearer : ByteArray := prog_5_method_18_code
def yX3_hasGoodBearer : MethodName := ⟨RX3, "hasGoodBearer", "(I)Z"⟩
abbrev cX3_setUp : ByteArray := prog_5_method_19_code
def yX3_setUp : MethodName := ⟨RX3, "setUp", "(I)V"⟩
abbrev cX3_chooseCell : ByteArray := prog_5_method_20_code
def yX3_chooseCell : MethodName := ⟨RX3, "chooseCell", "(I)I"⟩
abbrev cX3_chooseChannel : ByteArray := prog_5_method_21_code
def yX3_chooseChannel : MethodName := ⟨RX3, "chooseChannel", "(II)I"⟩
abbrev cX3_takenSlots : ByteArray := prog_5_method_22_code
def yX3_takenSlots : MethodName := ⟨RX3, "takenSlots", "(II)I"⟩
abbrev cX3_addBearer : ByteArray := prog_5_method_23_code
def yX3_addBearer : MethodName := ⟨RX3, "addBearer", "(III)V"⟩
abbrev cX3_sendAll : ByteArray := prog_5_method_24_code
def yX3_sendAll : MethodName := ⟨RX3, "sendAll", "()V"⟩
abbrev cX3_dropFailed : ByteArray := prog_5_method_25_code
def yX3_dropFailed : MethodName := ⟨RX3, "dropFailed", "()V"⟩
abbrev cX3_dropFirstForSecond : ByteArray := prog_5_method_26_code
def yX3_dropFirstForSecond : MethodName := ⟨RX3, "dropFirstForSecond", "(I)Z"⟩
abbrev cX3_dropBearersOf : ByteArray := prog_5_method_27_code
def yX3_dropBearersOf : MethodName := ⟨RX3, "dropBearersOf", "(I)V"⟩
abbrev cX3_dropBearer : ByteArray := prog_5_method_28_code
def yX3_dropBearer : MethodName := ⟨RX3, "dropBearer", "(I)V"⟩
def RX4 : String := "CordlessHouse"
def TX4 : u_T := fun k => match k with
  | 0 => ("CordlessHouse", "radio", "LCordlessHouse$Radio;", true)
  | 1 => ("CordlessHouse", "portables", "[LCordlessHouse$Portable;", true)
  | 2 => ("CordlessHouse", "refusals", "[I", true)
  | 3 => ("CordlessHouse", "time", "I", false)
  | 4 => ("CordlessHouse", "callsActive", "I", false)
  | 5 => ("CordlessHouse", "callsEnded", "I", false)
  | 6 => ("CordlessHouse", "handovers", "I", false)
  | 7 => ("CordlessHouse", "blocksUp", "I", false)
  | 8 => ("CordlessHouse", "blocksHeard", "I", false)
  | 9 => ("CordlessHouse", "airUp", "J", false)
  | _ => ("CordlessHouse", "airDown", "J", false)
def tyX4 : Nat → FieldType := fun k => match k with
  | 0 => .object "CordlessHouse$Radio"
  | 1 => .array (.object "CordlessHouse$Portable")
  | 2 => .array .int
  | 3 => .int
  | 4 => .int
  | 5 => .int
  | 6 => .int
  | 7 => .int
  | 8 => .int
  | 9 => .long
  | _ => .long
abbrev wsX40 : List Cond := u_ws RX4 TX4 11
theorem nmX4 : ∀ a, a < 11 → ∀ b, b < 11 → a ≠ b → (TX4 a).2.1 ≠ (TX4 b).2.1 := by decide +kernel
theorem tyX4_ok : ∀ k, k < 11 → parseFieldDescriptor (TX4 k).2.2.1 = some (tyX4 k) := by decide +kernel
abbrev cX4_init : ByteArray := prog_1_method_1_code
def yX4_init : MethodName := ⟨RX4, "<init>", "()V"⟩
abbrev cX4_cell : ByteArray := prog_1_method_2_code
def yX4_cell : MethodName := ⟨RX4, "cell", "(I)I"⟩
abbrev cX4_portable : ByteArray := prog_1_method_3_code
def yX4_portable : MethodName := ⟨RX4, "portable", "(IJ)I"⟩
abbrev cX4_reach : ByteArray := prog_1_method_4_code
def yX4_reach : MethodName := ⟨RX4, "reach", "(II)I"⟩
abbrev cX4_noise : ByteArray := prog_1_method_5_code
def yX4_noise : MethodName := ⟨RX4, "noise", "(IIZ)Z"⟩
abbrev cX4_go : ByteArray := prog_1_method_6_code
def yX4_go : MethodName := ⟨RX4, "go", "(II)I"⟩
abbrev cX4_enter : ByteArray := prog_1_method_7_code
def yX4_enter : MethodName := ⟨RX4, "enter", "(IJ)I"⟩
abbrev cX4_dial : ByteArray := prog_1_method_8_code
def yX4_dial : MethodName := ⟨RX4, "dial", "(II)I"⟩
abbrev cX4_answer : ByteArray := prog_1_method_9_code
def yX4_answer : MethodName := ⟨RX4, "answer", "(I)I"⟩
abbrev cX4_hang : ByteArray := prog_1_method_10_code
def yX4_hang : MethodName := ⟨RX4, "hang", "(I)I"⟩
abbrev cX4_say : ByteArray := prog_1_method_11_code
def yX4_say : MethodName := ⟨RX4, "say", "(IJ)I"⟩
abbrev cX4_frames : ByteArray := prog_1_method_12_code
def yX4_frames : MethodName := ⟨RX4, "frames", "(I)I"⟩
abbrev cX4_heard : ByteArray := prog_1_method_13_code
def yX4_heard : MethodName := ⟨RX4, "heard", "(II)J"⟩
abbrev cX4_portableOf : ByteArray := prog_1_method_14_code
def yX4_portableOf : MethodName := ⟨RX4, "portableOf", "(II)I"⟩
abbrev cX4_bearer : ByteArray := prog_1_method_15_code
def yX4_bearer : MethodName := ⟨RX4, "bearer", "(II)I"⟩
abbrev cX4_level : ByteArray := prog_1_method_16_code
def yX4_level : MethodName := ⟨RX4, "level", "(III)I"⟩
abbrev cX4_beacon : ByteArray := prog_1_method_17_code
def yX4_beacon : MethodName := ⟨RX4, "beacon", "(II)Z"⟩
abbrev cX4_mix : ByteArray := prog_1_method_18_code
def yX4_mix : MethodName := ⟨RX4, "mix", "(JJ)J"⟩
abbrev cX4_air : ByteArray := prog_1_method_19_code
def yX4_air : MethodName := ⟨RX4, "air", "(I)J"⟩
abbrev cX4_count : ByteArray := prog_1_method_20_code
def yX4_count : MethodName := ⟨RX4, "count", "(I)I"⟩
abbrev cX4_isPlace : ByteArray := prog_1_method_21_code
def yX4_isPlace : MethodName := ⟨RX4, "isPlace", "(I)Z"⟩
abbrev cX4_isChannel : ByteArray := prog_1_method_22_code
def yX4_isChannel : MethodName := ⟨RX4, "isChannel", "(I)Z"⟩
abbrev cX4_mixOf : ByteArray := prog_1_method_23_code
def yX4_mixOf : MethodName := ⟨RX4, "mixOf", "(JJ)J"⟩
abbrev cX4_refuse : ByteArray := prog_1_method_24_code
def yX4_refuse : MethodName := ⟨RX4, "refuse", "(I)I"⟩
abbrev cX4_find : ByteArray := prog_1_method_25_code
def yX4_find : MethodName := ⟨RX4, "find", "(I)LCordlessHouse$Portable;"⟩
abbrev cX4_runFrame : ByteArray := prog_1_method_26_code
def yX4_runFrame : MethodName := ⟨RX4, "runFrame", "()V"⟩
abbrev cX4_setUpBearers : ByteArray := prog_1_method_27_code
def yX4_setUpBearers : MethodName := ⟨RX4, "setUpBearers", "()V"⟩
abbrev cX4_wantsBearer : ByteArray := prog_1_method_28_code
def yX4_wantsBearer : MethodName := ⟨RX4, "wantsBearer", "(LCordlessHouse$Portable;)Z"⟩
abbrev cX4_dropHandedOver : ByteArray := prog_1_method_29_code
def yX4_dropHandedOver : MethodName := ⟨RX4, "dropHandedOver", "()V"⟩
abbrev cX4_endCallsWithoutBearer : ByteArray := prog_1_method_30_code
def yX4_endCallsWithoutBearer : MethodName := ⟨RX4, "endCallsWithoutBearer", "()V"⟩
abbrev cX4_advanceCalls : ByteArray := prog_1_method_31_code
def yX4_advanceCalls : MethodName := ⟨RX4, "advanceCalls", "()V"⟩
abbrev cX4_advance : ByteArray := prog_1_method_32_code
def yX4_advance : MethodName := ⟨RX4, "advance", "(LCordlessHouse$Portable;)Z"⟩
abbrev cX4_pagePartner : ByteArray := prog_1_method_33_code
def yX4_pagePartner : MethodName := ⟨RX4, "pagePartner", "(LCordlessHouse$Portable;)Z"⟩
abbrev cX4_startRinging : ByteArray := prog_1_method_34_code
def yX4_startRinging : MethodName := ⟨RX4, "startRinging", "(LCordlessHouse$Portable;)Z"⟩
abbrev cX4_isProven : ByteArray := prog_1_method_35_code
def yX4_isProven : MethodName := ⟨RX4, "isProven", "(LCordlessHouse$Portable;)Z"⟩
abbrev cX4_carryUp : ByteArray := prog_1_method_36_code
def yX4_carryUp : MethodName := ⟨RX4, "carryUp", "()V"⟩
abbrev cX4_sendUp : ByteArray := prog_1_method_37_code
def yX4_sendUp : MethodName := ⟨RX4, "sendUp", "(LCordlessHouse$Portable;)V"⟩
abbrev cX4_carryDown : ByteArray := prog_1_method_38_code
def yX4_carryDown : MethodName := ⟨RX4, "carryDown", "()V"⟩
abbrev cX4_sendDown : ByteArray := prog_1_method_39_code
def yX4_sendDown : MethodName := ⟨RX4, "sendDown", "(LCordlessHouse$Portable;)V"⟩
abbrev cX4_canTalk : ByteArray := prog_1_method_40_code
def yX4_canTalk : MethodName := ⟨RX4, "canTalk", "(LCordlessHouse$Portable;)Z"⟩
abbrev cX4_endOldCalls : ByteArray := prog_1_method_41_code
def yX4_endOldCalls : MethodName := ⟨RX4, "endOldCalls", "()V"⟩
abbrev cX4_endCall : ByteArray := prog_1_method_42_code
def yX4_endCall : MethodName := ⟨RX4, "endCall", "(LCordlessHouse$Portable;)V"⟩
abbrev cX4_isOneCall : ByteArray := prog_1_method_43_code
def yX4_isOneCall : MethodName := ⟨RX4, "isOneCall", "(LCordlessHouse$Portable;LCordlessHouse$Portable;)Z"⟩
abbrev cX4_release : ByteArray := prog_1_method_44_code
def yX4_release : MethodName := ⟨RX4, "release", "(LCordlessHouse$Portable;)V"⟩
def RX5 : String := "CordlessHouseModel"
def TX5 : u_T := fun k => match k with
  | 0 => ("CordlessHouseModel", "cells", "I", false)
  | 1 => ("CordlessHouseModel", "beacons", "[I", true)
  | 2 => ("CordlessHouseModel", "portables", "I", false)
  | 3 => ("CordlessHouseModel", "places", "[I", true)
  | 4 => ("CordlessHouseModel", "keys", "[J", true)
  | 5 => ("CordlessHouseModel", "entered", "[Z", true)
  | 6 => ("CordlessHouseModel", "exchangeKeys", "[J", true)
  | 7 => ("CordlessHouseModel", "state", "[I", true)
  | 8 => ("CordlessHouseModel", "partner", "[I", true)
  | 9 => ("CordlessHouseModel", "since", "[I", true)
  | 10 => ("CordlessHouseModel", "reach", "[I", true)
  | 11 => ("CordlessHouseModel", "noisy", "[Z", true)
  | 12 => ("CordlessHouseModel", "bearers", "I", false)
  | 13 => ("CordlessHouseModel", "of", "[I", true)
  | 14 => ("CordlessHouseModel", "at", "[I", true)
  | 15 => ("CordlessHouseModel", "channel", "[I", true)
  | 16 => ("CordlessHouseModel", "fails", "[I", true)
  | 17 => ("CordlessHouseModel", "good", "[Z", true)
  | 18 => ("CordlessHouseModel", "says", "[I", true)
  | 19 => ("CordlessHouseModel", "saying", "[J", true)
  | 20 => ("CordlessHouseModel", "waits", "[I", true)
  | 21 => ("CordlessHouseModel", "waiting", "[J", true)
  | 22 => ("CordlessHouseModel", "heardMany", "[I", true)
  | 23 => ("CordlessHouseModel", "hearing", "[J", true)
  | 24 => ("CordlessHouseModel", "upAir", "J", false)
  | 25 => ("CordlessHouseModel", "downAir", "J", false)
  | 26 => ("CordlessHouseModel", "time", "I", false)
  | 27 => ("CordlessHouseModel", "made", "I", false)
  | 28 => ("CordlessHouseModel", "actives", "I", false)
  | 29 => ("CordlessHouseModel", "ended", "I", false)
  | 30 => ("CordlessHouseModel", "handovers", "I", false)
  | 31 => ("CordlessHouseModel", "ups", "I", false)
  | 32 => ("CordlessHouseModel", "refused", "[I", true)
  | 33 => ("CordlessHouseModel", "began", "[I", true)
  | _ => ("CordlessHouseModel", "waited", "[I", true)
def tyX5 : Nat → FieldType := fun k => match k with
  | 0 => .int
  | 1 => .array .int
  | 2 => .int
  | 3 => .array .int
  | 4 => .array .long
  | 5 => .array .boolean
  | 6 => .array .long
  | 7 => .array .int
  | 8 => .array .int
  | 9 => .array .int
  | 10 => .array .int
  | 11 => .array .boolean
  | 12 => .int
  | 13 => .array .int
  | 14 => .array .int
  | 15 => .array .int
  | 16 => .array .int
  | 17 => .array .boolean
  | 18 => .array .int
  | 19 => .array .long
  | 20 => .array .int
  | 21 => .array .long
  | 22 => .array .int
  | 23 => .array .long
  | 24 => .long
  | 25 => .long
  | 26 => .int
  | 27 => .int
  | 28 => .int
  | 29 => .int
  | 30 => .int
  | 31 => .int
  | 32 => .array .int
  | 33 => .array .int
  | _ => .array .int
abbrev wsX50 : List Cond := u_ws RX5 TX5 35
theorem nmX5 : ∀ a, a < 35 → ∀ b, b < 35 → a ≠ b → (TX5 a).2.1 ≠ (TX5 b).2.1 := by decide +kernel
theorem tyX5_ok : ∀ k, k < 35 → parseFieldDescriptor (TX5 k).2.2.1 = some (tyX5 k) := by decide +kernel
abbrev cX5_init : ByteArray := prog_7_method_1_code
def yX5_init : MethodName := ⟨RX5, "<init>", "()V"⟩
abbrev cX5_in : ByteArray := prog_7_method_3_code
def yX5_in : MethodName := ⟨RX5, "in", "(III)Z"⟩
abbrev cX5_refuse : ByteArray := prog_7_method_4_code
def yX5_refuse : MethodName := ⟨RX5, "refuse", "(I)I"⟩
abbrev cX5_isCell : ByteArray := prog_7_method_5_code
def yX5_isCell : MethodName := ⟨RX5, "isCell", "(I)Z"⟩
abbrev cX5_isPortable : ByteArray := prog_7_method_6_code
def yX5_isPortable : MethodName := ⟨RX5, "isPortable", "(I)Z"⟩
abbrev cX5_cell : ByteArray := prog_7_method_7_code
def yX5_cell : MethodName := ⟨RX5, "cell", "(I)I"⟩
abbrev cX5_portable : ByteArray := prog_7_method_8_code
def yX5_portable : MethodName := ⟨RX5, "portable", "(IJ)I"⟩
abbrev cX5_reach : ByteArray := prog_7_method_9_code
def yX5_reach : MethodName := ⟨RX5, "reach", "(II)I"⟩
abbrev cX5_noise : ByteArray := prog_7_method_10_code
def yX5_noise : MethodName := ⟨RX5, "noise", "(IIZ)Z"⟩
abbrev cX5_go : ByteArray := prog_7_method_11_code
def yX5_go : MethodName := ⟨RX5, "go", "(II)I"⟩
abbrev cX5_enter : ByteArray := prog_7_method_12_code
def yX5_enter : MethodName := ⟨RX5, "enter", "(IJ)I"⟩
abbrev cX5_dial : ByteArray := prog_7_method_13_code
def yX5_dial : MethodName := ⟨RX5, "dial", "(II)I"⟩
abbrev cX5_answer : ByteArray := prog_7_method_14_code
def yX5_answer : MethodName := ⟨RX5, "answer", "(I)I"⟩
abbrev cX5_dropBearer : ByteArray := prog_7_method_15_code
def yX5_dropBearer : MethodName := ⟨RX5, "dropBearer", "(I)V"⟩
abbrev cX5_idle : ByteArray := prog_7_method_16_code
def yX5_idle : MethodName := ⟨RX5, "idle", "(I)V"⟩
abbrev cX5_isCaller : ByteArray := prog_7_method_17_code
def yX5_isCaller : MethodName := ⟨RX5, "isCaller", "(I)Z"⟩
abbrev cX5_ends : ByteArray := prog_7_method_18_code
def yX5_ends : MethodName := ⟨RX5, "ends", "(I)V"⟩
abbrev cX5_hang : ByteArray := prog_7_method_19_code
def yX5_hang : MethodName := ⟨RX5, "hang", "(I)I"⟩
abbrev cX5_say : ByteArray := prog_7_method_20_code
def yX5_say : MethodName := ⟨RX5, "say", "(IJ)I"⟩
abbrev cX5_reaches : ByteArray := prog_7_method_21_code
def yX5_reaches : MethodName := ⟨RX5, "reaches", "(II)Z"⟩
abbrev cX5_sends : ByteArray := prog_7_method_22_code
def yX5_sends : MethodName := ⟨RX5, "sends", "(II)Z"⟩
abbrev cX5_othersSending : ByteArray := prog_7_method_23_code
def yX5_othersSending : MethodName := ⟨RX5, "othersSending", "(III)I"⟩
abbrev cX5_othersTalking : ByteArray := prog_7_method_24_code
def yX5_othersTalking : MethodName := ⟨RX5, "othersTalking", "(III)I"⟩
abbrev cX5_isHeardAt : ByteArray := prog_7_method_25_code
def yX5_isHeardAt : MethodName := ⟨RX5, "isHeardAt", "(III)Z"⟩
abbrev cX5_isHeardBy : ByteArray := prog_7_method_26_code
def yX5_isHeardBy : MethodName := ⟨RX5, "isHeardBy", "(III)Z"⟩
abbrev cX5_levelOf : ByteArray := prog_7_method_27_code
def yX5_levelOf : MethodName := ⟨RX5, "levelOf", "(III)I"⟩
abbrev cX5_level : ByteArray := prog_7_method_28_code
def yX5_level : MethodName := ⟨RX5, "level", "(III)I"⟩
abbrev cX5_beacon : ByteArray := prog_7_method_29_code
def yX5_beacon : MethodName := ⟨RX5, "beacon", "(II)Z"⟩
abbrev cX5_bearersOf : ByteArray := prog_7_method_30_code
def yX5_bearersOf : MethodName := ⟨RX5, "bearersOf", "(I)I"⟩
abbrev cX5_bearerOf : ByteArray := prog_7_method_31_code
def yX5_bearerOf : MethodName := ⟨RX5, "bearerOf", "(I)I"⟩
abbrev cX5_handsOver : ByteArray := prog_7_method_32_code
def yX5_handsOver : MethodName := ⟨RX5, "handsOver", "(I)Z"⟩
abbrev cX5_isSlotTaken : ByteArray := prog_7_method_33_code
def yX5_isSlotTaken : MethodName := ⟨RX5, "isSlotTaken", "(III)Z"⟩
abbrev cX5_setUp : ByteArray := prog_7_method_34_code
def yX5_setUp : MethodName := ⟨RX5, "setUp", "(I)V"⟩
abbrev cX5_send : ByteArray := prog_7_method_35_code
def yX5_send : MethodName := ⟨RX5, "send", "()V"⟩
abbrev cX5_goOrStay : ByteArray := prog_7_method_36_code
def yX5_goOrStay : MethodName := ⟨RX5, "goOrStay", "()V"⟩
abbrev cX5_isGood : ByteArray := prog_7_method_37_code
def yX5_isGood : MethodName := ⟨RX5, "isGood", "(I)Z"⟩
abbrev cX5_callOf : ByteArray := prog_7_method_38_code
def yX5_callOf : MethodName := ⟨RX5, "callOf", "(I)V"⟩
abbrev cX5_up : ByteArray := prog_7_method_39_code
def yX5_up : MethodName := ⟨RX5, "up", "(I)V"⟩
abbrev cX5_down : ByteArray := prog_7_method_40_code
def yX5_down : MethodName := ⟨RX5, "down", "(I)I"⟩
abbrev cX5_frame : ByteArray := prog_7_method_41_code
def yX5_frame : MethodName := ⟨RX5, "frame", "()I"⟩
abbrev cX5_frames : ByteArray := prog_7_method_42_code
def yX5_frames : MethodName := ⟨RX5, "frames", "(I)I"⟩
abbrev cX5_heard : ByteArray := prog_7_method_43_code
def yX5_heard : MethodName := ⟨RX5, "heard", "(II)J"⟩
abbrev cX5_portableOf : ByteArray := prog_7_method_44_code
def yX5_portableOf : MethodName := ⟨RX5, "portableOf", "(II)I"⟩
abbrev cX5_bearer : ByteArray := prog_7_method_45_code
def yX5_bearer : MethodName := ⟨RX5, "bearer", "(II)I"⟩
abbrev cX5_mix : ByteArray := prog_7_method_46_code
def yX5_mix : MethodName := ⟨RX5, "mix", "(JJ)J"⟩
abbrev cX5_air : ByteArray := prog_7_method_47_code
def yX5_air : MethodName := ⟨RX5, "air", "(I)J"⟩
abbrev cX5_count : ByteArray := prog_7_method_48_code
def yX5_count : MethodName := ⟨RX5, "count", "(I)I"⟩
def RJ6 : String := "java/lang/Integer"
abbrev cJ6_bitCount_0f7a4 : ByteArray := prog_8_method_49_code
def yJ6_bitCount_0f7a4 : MethodName := ⟨RJ6, "bitCount", "(I)I"⟩
def RJ9 : String := "java/lang/Math"
abbrev cJ9_max_7cf53 : ByteArray := prog_9_method_65_code
def yJ9_max_7cf53 : MethodName := ⟨RJ9, "max", "(II)I"⟩
def RL : String := "CordlessHouseLaw"
abbrev cL_law : ByteArray := code
def yL_law : MethodName := ⟨RL, "law", "([I)Z"⟩
abbrev vwCl : List vw_C := [(RX0, TX0, 5), (RX1, TX1, 3), (RX2, TX2, 12), (RX3, TX3, 11), (RX4, TX4, 11), (RX5, TX5, 35)]
end
section
theorem dX0_init_0 : decode cX0_init 0 = .ok (.aload_n 0, 1) := by decide +kernel
theorem dX0_init_1 : decode cX0_init 1 = .ok (.invokespecial 1, 3) := by decide +kernel
theorem dX0_init_4 : decode cX0_init 4 = .ok (.return_, 1) := by decide +kernel
theorem dX1_init_0 : decode cX1_init 0 = .ok (.aload_n 0, 1) := by decide +kernel
theorem dX1_init_1 : decode cX1_init 1 = .ok (.invokespecial 1, 3) := by decide +kernel
theorem dX1_init_4 : decode cX1_init 4 = .ok (.aload_n 0, 1) := by decide +kernel
theorem dX1_init_5 : decode cX1_init 5 = .ok (.iload_n 1, 1) := by decide +kernel
theorem dX1_init_6 : decode cX1_init 6 = .ok (.iconst 1, 1) := by decide +kernel
theorem dX1_init_7 : decode cX1_init 7 = .ok (.invokestatic 7, 3) := by decide +kernel
theorem dX1_init_10 : decode cX1_init 10 = .ok (.newarray .long, 2) := by decide +kernel
theorem dX1_init_12 : decode cX1_init 12 = .ok (.putfield 13, 3) := by decide +kernel
theorem dX1_init_15 : decode cX1_init 15 = .ok (.return_, 1) := by decide +kernel
theorem dX1_isFull_0 : decode cX1_isFull 0 = .ok (.aload_n 0, 1) := by decide +kernel
theorem dX1_isFull_1 : decode cX1_isFull 1 = .ok (.getfield 19, 3) := by decide +kernel
theorem dX1_isFull_4 : decode cX1_isFull 4 = .ok (.aload_n 0, 1) := by decide +kernel
theorem dX1_isFull_5 : decode cX1_isFull 5 = .ok (.getfield 13, 3) := by decide +kernel
theorem dX1_isFull_8 : decode cX1_isFull 8 = .ok (.arraylength, 1) := by decide +kernel
theorem dX1_isFull_9 : decode cX1_isFull 9 = .ok (.if_icmp .lt 7, 3) := by decide +kernel
theorem dX1_isFull_12 : decode cX1_isFull 12 = .ok (.iconst 1, 1) := by decide +kernel
theorem dX1_isFull_13 : decode cX1_isFull 13 = .ok (.goto 4, 3) := by decide +kernel
theorem dX1_isFull_16 : decode cX1_isFull 16 = .ok (.iconst 0, 1) := by decide +kernel
theorem dX1_isFull_17 : decode cX1_isFull 17 = .ok (.ireturn, 1) := by decide +kernel
theorem dX1_put_0 : decode cX1_put 0 = .ok (.aload_n 0, 1) := by decide +kernel
theorem dX1_put_1 : decode cX1_put 1 = .ok (.invokevirtual 23, 3) := by decide +kernel
theorem dX1_put_4 : decode cX1_put 4 = .ok (.ifCond .eq 5, 3) := by decide +kernel
theorem dX1_put_7 : decode cX1_put 7 = .ok (.iconst 0, 1) := by decide +kernel
theorem dX1_put_8 : decode cX1_put 8 = .ok (.ireturn, 1) := by decide +kernel
theorem dX1_put_9 : decode cX1_put 9 = .ok (.aload_n 0, 1) := by decide +kernel
theorem dX1_put_10 : decode cX1_put 10 = .ok (.getfield 13, 3) := by decide +kernel
theorem dX1_put_13 : decode cX1_put 13 = .ok (.aload_n 0, 1) := by decide +kernel
theorem dX1_put_14 : decode cX1_put 14 = .ok (.aload_n 0, 1) := by decide +kernel
theorem dX1_put_15 : decode cX1_put 15 = .ok (.getfield 27, 3) := by decide +kernel
theorem dX1_put_18 : decode cX1_put 18 = .ok (.aload_n 0, 1) := by decide +kernel
theorem dX1_put_19 : decode cX1_put 19 = .ok (.getfield 19, 3) := by decide +kernel
theorem dX1_put_22 : decode cX1_put 22 = .ok (.iadd, 1) := by decide +kernel
theorem dX1_put_23 : decode cX1_put 23 = .ok (.invokevirtual 30, 3) := by decide +kernel
theorem dX1_put_26 : decode cX1_put 26 = .ok (.lload_n 1, 1) := by decide +kernel
theorem dX1_put_27 : decode cX1_put 27 = .ok (.lastore, 1) := by decide +kernel
theorem dX1_put_28 : decode cX1_put 28 = .ok (.aload_n 0, 1) := by decide +kernel
theorem dX1_put_29 : decode cX1_put 29 = .ok (.dup, 1) := by decide +kernel
theorem dX1_put_30 : decode cX1_put 30 = .ok (.getfield 19, 3) := by decide +kernel
theorem dX1_put_33 : decode cX1_put 33 = .ok (.iconst 1, 1) := by decide +kernel
theorem dX1_put_34 : decode cX1_put 34 = .ok (.iadd, 1) := by decide +kernel
theorem dX1_put_35 : decode cX1_put 35 = .ok (.putfield 19, 3) := by decide +kernel
theorem dX1_put_38 : decode cX1_put 38 = .ok (.iconst 1, 1) := by decide +kernel
theorem dX1_put_39 : decode cX1_put 39 = .ok (.ireturn, 1) := by decide +kernel
theorem dX1_take_0 : decode cX1_take 0 = .ok (.aload_n 0, 1) := by decide +kernel
theorem dX1_take_1 : decode cX1_take 1 = .ok (.getfield 19, 3) := by decide +kernel
theorem dX1_take_4 : decode cX1_take 4 = .ok (.ifCond .ne 5, 3) := by decide +kernel
theorem dX1_take_7 : decode cX1_take 7 = .ok (.lconst 0, 1) := by decide +kernel
theorem dX1_take_8 : decode cX1_take 8 = .ok (.lreturn, 1) := by decide +kernel
theorem dX1_take_9 : decode cX1_take 9 = .ok (.aload_n 0, 1) := by decide +kernel
theorem dX1_take_10 : decode cX1_take 10 = .ok (.getfield 13, 3) := by decide +kernel
theorem dX1_take_13 : decode cX1_take 13 = .ok (.aload_n 0, 1) := by decide +kernel
theorem dX1_take_14 : decode cX1_take 14 = .ok (.getfield 27, 3) := by decide +kernel
theorem dX1_take_17 : decode cX1_take 17 = .ok (.laload, 1) := by decide +kernel
theorem dX1_take_18 : decode cX1_take 18 = .ok (.lstore_n 1, 1) := by decide +kernel
theorem dX1_take_19 : decode cX1_take 19 = .ok (.aload_n 0, 1) := by decide +kernel
theorem dX1_take_20 : decode cX1_take 20 = .ok (.aload_n 0, 1) := by decide +kernel
theorem dX1_take_21 : decode cX1_take 21 = .ok (.aload_n 0, 1) := by decide +kernel
theorem dX1_take_22 : decode cX1_take 22 = .ok (.getfield 27, 3) := by decide +kernel
theorem dX1_take_25 : decode cX1_take 25 = .ok (.iconst 1, 1) := by decide +kernel
theorem dX1_take_26 : decode cX1_take 26 = .ok (.iadd, 1) := by decide +kernel
theorem dX1_take_27 : decode cX1_take 27 = .ok (.invokevirtual 30, 3) := by decide +kernel
theorem dX1_take_30 : decode cX1_take 30 = .ok (.putfield 27, 3) := by decide +kernel
theorem dX1_take_33 : decode cX1_take 33 = .ok (.aload_n 0, 1) := by decide +kernel
theorem dX1_take_34 : decode cX1_take 34 = .ok (.dup, 1) := by decide +kernel
theorem dX1_take_35 : decode cX1_take 35 = .ok (.getfield 19, 3) := by decide +kernel
theorem dX1_take_38 : decode cX1_take 38 = .ok (.iconst 1, 1) := by decide +kernel
theorem dX1_take_39 : decode cX1_take 39 = .ok (.isub, 1) := by decide +kernel
theorem dX1_take_40 : decode cX1_take 40 = .ok (.putfield 19, 3) := by decide +kernel
theorem dX1_take_43 : decode cX1_take 43 = .ok (.lload_n 1, 1) := by decide +kernel
theorem dX1_take_44 : decode cX1_take 44 = .ok (.lreturn, 1) := by decide +kernel
theorem dX1_at_0 : decode cX1_at 0 = .ok (.iload_n 1, 1) := by decide +kernel
theorem dX1_at_1 : decode cX1_at 1 = .ok (.ifCond .lt 29, 3) := by decide +kernel
theorem dX1_at_4 : decode cX1_at 4 = .ok (.iload_n 1, 1) := by decide +kernel
theorem dX1_at_5 : decode cX1_at 5 = .ok (.aload_n 0, 1) := by decide +kernel
theorem dX1_at_6 : decode cX1_at 6 = .ok (.getfield 19, 3) := by decide +kernel
theorem dX1_at_9 : decode cX1_at 9 = .ok (.if_icmp .ge 21, 3) := by decide +kernel
theorem dX1_at_12 : decode cX1_at 12 = .ok (.aload_n 0, 1) := by decide +kernel
theorem dX1_at_13 : decode cX1_at 13 = .ok (.getfield 13, 3) := by decide +kernel
theorem dX1_at_16 : decode cX1_at 16 = .ok (.aload_n 0, 1) := by decide +kernel
theorem dX1_at_17 : decode cX1_at 17 = .ok (.aload_n 0, 1) := by decide +kernel
theorem dX1_at_18 : decode cX1_at 18 = .ok (.getfield 27, 3) := by decide +kernel
theorem dX1_at_21 : decode cX1_at 21 = .ok (.iload_n 1, 1) := by decide +kernel
theorem dX1_at_22 : decode cX1_at 22 = .ok (.iadd, 1) := by decide +kernel
theorem dX1_at_23 : decode cX1_at 23 = .ok (.invokevirtual 30, 3) := by decide +kernel
theorem dX1_at_26 : decode cX1_at 26 = .ok (.laload, 1) := by decide +kernel
theorem dX1_at_27 : decode cX1_at 27 = .ok (.goto 4, 3) := by decide +kernel
theorem dX1_at_30 : decode cX1_at 30 = .ok (.lconst 0, 1) := by decide +kernel
theorem dX1_at_31 : decode cX1_at 31 = .ok (.lreturn, 1) := by decide +kernel
theorem dX1_clear_0 : decode cX1_clear 0 = .ok (.aload_n 0, 1) := by decide +kernel
theorem dX1_clear_1 : decode cX1_clear 1 = .ok (.iconst 0, 1) := by decide +kernel
theorem dX1_clear_2 : decode cX1_clear 2 = .ok (.putfield 27, 3) := by decide +kernel
theorem dX1_clear_5 : decode cX1_clear 5 = .ok (.aload_n 0, 1) := by decide +kernel
theorem dX1_clear_6 : decode cX1_clear 6 = .ok (.iconst 0, 1) := by decide +kernel
theorem dX1_clear_7 : decode cX1_clear 7 = .ok (.putfield 19, 3) := by decide +kernel
theorem dX1_clear_10 : decode cX1_clear 10 = .ok (.return_, 1) := by decide +kernel
theorem dX1_wrap_0 : decode cX1_wrap 0 = .ok (.iload_n 1, 1) := by decide +kernel
theorem dX1_wrap_1 : decode cX1_wrap 1 = .ok (.aload_n 0, 1) := by decide +kernel
theorem dX1_wrap_2 : decode cX1_wrap 2 = .ok (.getfield 13, 3) := by decide +kernel
theorem dX1_wrap_5 : decode cX1_wrap 5 = .ok (.arraylength, 1) := by decide +kernel
theorem dX1_wrap_6 : decode cX1_wrap 6 = .ok (.if_icmp .ge 7, 3) := by decide +kernel
theorem dX1_wrap_9 : decode cX1_wrap 9 = .ok (.iload_n 1, 1) := by decide +kernel
theorem dX1_wrap_10 : decode cX1_wrap 10 = .ok (.goto 10, 3) := by decide +kernel
theorem dX1_wrap_13 : decode cX1_wrap 13 = .ok (.iload_n 1, 1) := by decide +kernel
theorem dX1_wrap_14 : decode cX1_wrap 14 = .ok (.aload_n 0, 1) := by decide +kernel
theorem dX1_wrap_15 : decode cX1_wrap 15 = .ok (.getfield 13, 3) := by decide +kernel
theorem dX1_wrap_18 : decode cX1_wrap 18 = .ok (.arraylength, 1) := by decide +kernel
theorem dX1_wrap_19 : decode cX1_wrap 19 = .ok (.isub, 1) := by decide +kernel
theorem dX1_wrap_20 : decode cX1_wrap 20 = .ok (.ireturn, 1) := by decide +kernel
theorem dX2_init_0 : decode cX2_init 0 = .ok (.aload_n 0, 1) := by decide +kernel
theorem dX2_init_1 : decode cX2_init 1 = .ok (.invokespecial 3, 3) := by decide +kernel
theorem dX2_init_4 : decode cX2_init 4 = .ok (.aload_n 0, 1) := by decide +kernel
theorem dX2_init_5 : decode cX2_init 5 = .ok (.iconst 0, 1) := by decide +kernel
theorem dX2_init_6 : decode cX2_init 6 = .ok (.putfield 9, 3) := by decide +kernel
theorem dX2_init_9 : decode cX2_init 9 = .ok (.aload_n 0, 1) := by decide +kernel
theorem dX2_init_10 : decode cX2_init 10 = .ok (.bipush (-9), 2) := by decide +kernel
theorem dX2_init_12 : decode cX2_init 12 = .ok (.putfield 15, 3) := by decide +kernel
theorem dX2_init_15 : decode cX2_init 15 = .ok (.aload_n 0, 1) := by decide +kernel
theorem dX2_init_16 : decode cX2_init 16 = .ok (.new 18, 3) := by decide +kernel
theorem dX2_init_19 : decode cX2_init 19 = .ok (.dup, 1) := by decide +kernel
theorem dX2_init_20 : decode cX2_init 20 = .ok (.bipush 8, 2) := by decide +kernel
theorem dX2_init_22 : decode cX2_init 22 = .ok (.invokespecial 20, 3) := by decide +kernel
theorem dX2_init_25 : decode cX2_init 25 = .ok (.putfield 23, 3) := by decide +kernel
theorem dX2_init_28 : decode cX2_init 28 = .ok (.aload_n 0, 1) := by decide +kernel
theorem dX2_init_29 : decode cX2_init 29 = .ok (.new 18, 3) := by decide +kernel
theorem dX2_init_32 : decode cX2_init 32 = .ok (.dup, 1) := by decide +kernel
theorem dX2_init_33 : decode cX2_init 33 = .ok (.bipush 16, 2) := by decide +kernel
theorem dX2_init_35 : decode cX2_init 35 = .ok (.invokespecial 20, 3) := by decide +kernel
theorem dX2_init_38 : decode cX2_init 38 = .ok (.putfield 27, 3) := by decide +kernel
theorem dX2_init_41 : decode cX2_init 41 = .ok (.aload_n 0, 1) := by decide +kernel
theorem dX2_init_42 : decode cX2_init 42 = .ok (.new 18, 3) := by decide +kernel
theorem dX2_init_45 : decode cX2_init 45 = .ok (.dup, 1) := by decide +kernel
theorem dX2_init_46 : decode cX2_init 46 = .ok (.bipush 20, 2) := by decide +kernel
theorem dX2_init_48 : decode cX2_init 48 = .ok (.invokespecial 20, 3) := by decide +kernel
theorem dX2_init_51 : decode cX2_init 51 = .ok (.putfield 30, 3) := by decide +kernel
theorem dX2_init_54 : decode cX2_init 54 = .ok (.aload_n 0, 1) := by decide +kernel
theorem dX2_init_55 : decode cX2_init 55 = .ok (.iload_n 1, 1) := by decide +kernel
theorem dX2_init_56 : decode cX2_init 56 = .ok (.putfield 33, 3) := by decide +kernel
theorem dX2_init_59 : decode cX2_init 59 = .ok (.aload_n 0, 1) := by decide +kernel
theorem dX2_init_60 : decode cX2_init 60 = .ok (.lload_n 2, 1) := by decide +kernel
theorem dX2_init_61 : decode cX2_init 61 = .ok (.putfield 36, 3) := by decide +kernel
theorem dX2_init_64 : decode cX2_init 64 = .ok (.return_, 1) := by decide +kernel
theorem dX2_begin_0 : decode cX2_begin 0 = .ok (.aload_n 0, 1) := by decide +kernel
theorem dX2_begin_1 : decode cX2_begin 1 = .ok (.iload_n 1, 1) := by decide +kernel
theorem dX2_begin_2 : decode cX2_begin 2 = .ok (.putfield 9, 3) := by decide +kernel
theorem dX2_begin_5 : decode cX2_begin 5 = .ok (.aload_n 0, 1) := by decide +kernel
theorem dX2_begin_6 : decode cX2_begin 6 = .ok (.iload_n 2, 1) := by decide +kernel
theorem dX2_begin_7 : decode cX2_begin 7 = .ok (.putfield 15, 3) := by decide +kernel
theorem dX2_begin_10 : decode cX2_begin 10 = .ok (.aload_n 0, 1) := by decide +kernel
theorem dX2_begin_11 : decode cX2_begin 11 = .ok (.iload_n 3, 1) := by decide +kernel
theorem dX2_begin_12 : decode cX2_begin 12 = .ok (.putfield 40, 3) := by decide +kernel
theorem dX2_begin_15 : decode cX2_begin 15 = .ok (.return_, 1) := by decide +kernel
theorem dX2_becomeIdle_0 : decode cX2_becomeIdle 0 = .ok (.aload_n 0, 1) := by decide +kernel
theorem dX2_becomeIdle_1 : decode cX2_becomeIdle 1 = .ok (.iconst 0, 1) := by decide +kernel
theorem dX2_becomeIdle_2 : decode cX2_becomeIdle 2 = .ok (.putfield 9, 3) := by decide +kernel
theorem dX2_becomeIdle_5 : decode cX2_becomeIdle 5 = .ok (.aload_n 0, 1) := by decide +kernel
theorem dX2_becomeIdle_6 : decode cX2_becomeIdle 6 = .ok (.bipush (-9), 2) := by decide +kernel
theorem dX2_becomeIdle_8 : decode cX2_becomeIdle 8 = .ok (.putfield 15, 3) := by decide +kernel
theorem dX2_becomeIdle_11 : decode cX2_becomeIdle 11 = .ok (.aload_n 0, 1) := by decide +kernel
theorem dX2_becomeIdle_12 : decode cX2_becomeIdle 12 = .ok (.getfield 23, 3) := by decide +kernel
theorem dX2_becomeIdle_15 : decode cX2_becomeIdle 15 = .ok (.invokevirtual 43, 3) := by decide +kernel
theorem dX2_becomeIdle_18 : decode cX2_becomeIdle 18 = .ok (.aload_n 0, 1) := by decide +kernel
theorem dX2_becomeIdle_19 : decode cX2_becomeIdle 19 = .ok (.getfield 27, 3) := by decide +kernel
theorem dX2_becomeIdle_22 : decode cX2_becomeIdle 22 = .ok (.invokevirtual 43, 3) := by decide +kernel
theorem dX2_becomeIdle_25 : decode cX2_becomeIdle 25 = .ok (.return_, 1) := by decide +kernel
theorem dX2_keep_0 : decode cX2_keep 0 = .ok (.aload_n 0, 1) := by decide +kernel
theorem dX2_keep_1 : decode cX2_keep 1 = .ok (.getfield 30, 3) := by decide +kernel
theorem dX2_keep_4 : decode cX2_keep 4 = .ok (.invokevirtual 46, 3) := by decide +kernel
theorem dX2_keep_7 : decode cX2_keep 7 = .ok (.ifCond .eq 11, 3) := by decide +kernel
theorem dX2_keep_10 : decode cX2_keep 10 = .ok (.aload_n 0, 1) := by decide +kernel
theorem dX2_keep_11 : decode cX2_keep 11 = .ok (.getfield 30, 3) := by decide +kernel
theorem dX2_keep_14 : decode cX2_keep 14 = .ok (.invokevirtual 50, 3) := by decide +kernel
theorem dX2_keep_17 : decode cX2_keep 17 = .ok (.pop2, 1) := by decide +kernel
theorem dX2_keep_18 : decode cX2_keep 18 = .ok (.aload_n 0, 1) := by decide +kernel
theorem dX2_keep_19 : decode cX2_keep 19 = .ok (.getfield 30, 3) := by decide +kernel
theorem dX2_keep_22 : decode cX2_keep 22 = .ok (.lload_n 1, 1) := by decide +kernel
theorem dX2_keep_23 : decode cX2_keep 23 = .ok (.invokevirtual 54, 3) := by decide +kernel
theorem dX2_keep_26 : decode cX2_keep 26 = .ok (.pop, 1) := by decide +kernel
theorem dX2_keep_27 : decode cX2_keep 27 = .ok (.aload_n 0, 1) := by decide +kernel
theorem dX2_keep_28 : decode cX2_keep 28 = .ok (.dup, 1) := by decide +kernel
theorem dX2_keep_29 : decode cX2_keep 29 = .ok (.getfield 58, 3) := by decide +kernel
theorem dX2_keep_32 : decode cX2_keep 32 = .ok (.iconst 1, 1) := by decide +kernel
theorem dX2_keep_33 : decode cX2_keep 33 = .ok (.iadd, 1) := by decide +kernel
theorem dX2_keep_34 : decode cX2_keep 34 = .ok (.putfield 58, 3) := by decide +kernel
theorem dX2_keep_37 : decode cX2_keep 37 = .ok (.return_, 1) := by decide +kernel
theorem dX2_calls_0 : decode cX2_calls 0 = .ok (.aload_n 0, 1) := by decide +kernel
theorem dX2_calls_1 : decode cX2_calls 1 = .ok (.getfield 9, 3) := by decide +kernel
theorem dX2_calls_4 : decode cX2_calls 4 = .ok (.iconst 1, 1) := by decide +kernel
theorem dX2_calls_5 : decode cX2_calls 5 = .ok (.if_icmp .eq 19, 3) := by decide +kernel
theorem dX2_calls_8 : decode cX2_calls 8 = .ok (.aload_n 0, 1) := by decide +kernel
theorem dX2_calls_9 : decode cX2_calls 9 = .ok (.getfield 9, 3) := by decide +kernel
theorem dX2_calls_12 : decode cX2_calls 12 = .ok (.iconst 2, 1) := by decide +kernel
theorem dX2_calls_13 : decode cX2_calls 13 = .ok (.if_icmp .eq 11, 3) := by decide +kernel
theorem dX2_calls_16 : decode cX2_calls 16 = .ok (.aload_n 0, 1) := by decide +kernel
theorem dX2_calls_17 : decode cX2_calls 17 = .ok (.getfield 9, 3) := by decide +kernel
theorem dX2_calls_20 : decode cX2_calls 20 = .ok (.iconst 3, 1) := by decide +kernel
theorem dX2_calls_21 : decode cX2_calls 21 = .ok (.if_icmp .ne 7, 3) := by decide +kernel
theorem dX2_calls_24 : decode cX2_calls 24 = .ok (.iconst 1, 1) := by decide +kernel
theorem dX2_calls_25 : decode cX2_calls 25 = .ok (.goto 4, 3) := by decide +kernel
theorem dX2_calls_28 : decode cX2_calls 28 = .ok (.iconst 0, 1) := by decide +kernel
theorem dX2_calls_29 : decode cX2_calls 29 = .ok (.ireturn, 1) := by decide +kernel
theorem dX2_isCalled_0 : decode cX2_isCalled 0 = .ok (.aload_n 0, 1) := by decide +kernel
theorem dX2_isCalled_1 : decode cX2_isCalled 1 = .ok (.getfield 9, 3) := by decide +kernel
theorem dX2_isCalled_4 : decode cX2_isCalled 4 = .ok (.iconst 4, 1) := by decide +kernel
theorem dX2_isCalled_5 : decode cX2_isCalled 5 = .ok (.if_icmp .eq 20, 3) := by decide +kernel
theorem dX2_isCalled_8 : decode cX2_isCalled 8 = .ok (.aload_n 0, 1) := by decide +kernel
theorem dX2_isCalled_9 : decode cX2_isCalled 9 = .ok (.getfield 9, 3) := by decide +kernel
theorem dX2_isCalled_12 : decode cX2_isCalled 12 = .ok (.iconst 5, 1) := by decide +kernel
theorem dX2_isCalled_13 : decode cX2_isCalled 13 = .ok (.if_icmp .eq 12, 3) := by decide +kernel
theorem dX2_isCalled_16 : decode cX2_isCalled 16 = .ok (.aload_n 0, 1) := by decide +kernel
theorem dX2_isCalled_17 : decode cX2_isCalled 17 = .ok (.getfield 9, 3) := by decide +kernel
theorem dX2_isCalled_20 : decode cX2_isCalled 20 = .ok (.bipush 6, 2) := by decide +kernel
theorem dX2_isCalled_22 : decode cX2_isCalled 22 = .ok (.if_icmp .ne 7, 3) := by decide +kernel
theorem dX2_isCalled_25 : decode cX2_isCalled 25 = .ok (.iconst 1, 1) := by decide +kernel
theorem dX2_isCalled_26 : decode cX2_isCalled 26 = .ok (.goto 4, 3) := by decide +kernel
theorem dX2_isCalled_29 : decode cX2_isCalled 29 = .ok (.iconst 0, 1) := by decide +kernel
theorem dX2_isCalled_30 : decode cX2_isCalled 30 = .ok (.ireturn, 1) := by decide +kernel
theorem dX2_isPending_0 : decode cX2_isPending 0 = .ok (.aload_n 0, 1) := by decide +kernel
theorem dX2_isPending_1 : decode cX2_isPending 1 = .ok (.invokevirtual 61, 3) := by decide +kernel
theorem dX2_isPending_4 : decode cX2_isPending 4 = .ok (.ifCond .ne 10, 3) := by decide +kernel
theorem dX2_isPending_7 : decode cX2_isPending 7 = .ok (.aload_n 0, 1) := by decide +kernel
theorem dX2_isPending_8 : decode cX2_isPending 8 = .ok (.invokevirtual 64, 3) := by decide +kernel
theorem dX2_isPending_11 : decode cX2_isPending 11 = .ok (.ifCond .eq 7, 3) := by decide +kernel
theorem dX2_isPending_14 : decode cX2_isPending 14 = .ok (.iconst 1, 1) := by decide +kernel
theorem dX2_isPending_15 : decode cX2_isPending 15 = .ok (.goto 4, 3) := by decide +kernel
theorem dX2_isPending_18 : decode cX2_isPending 18 = .ok (.iconst 0, 1) := by decide +kernel
theorem dX2_isPending_19 : decode cX2_isPending 19 = .ok (.ireturn, 1) := by decide +kernel
theorem dX3_init_0 : decode cX3_init 0 = .ok (.aload_n 0, 1) := by decide +kernel
theorem dX3_init_1 : decode cX3_init 1 = .ok (.invokespecial 3, 3) := by decide +kernel
theorem dX3_init_4 : decode cX3_init 4 = .ok (.aload_n 0, 1) := by decide +kernel
theorem dX3_init_5 : decode cX3_init 5 = .ok (.iconst 4, 1) := by decide +kernel
theorem dX3_init_6 : decode cX3_init 6 = .ok (.newarray .int, 2) := by decide +kernel
theorem dX3_init_8 : decode cX3_init 8 = .ok (.putfield 9, 3) := by decide +kernel
theorem dX3_init_11 : decode cX3_init 11 = .ok (.aload_n 0, 1) := by decide +kernel
theorem dX3_init_12 : decode cX3_init 12 = .ok (.bipush 8, 2) := by decide +kernel
theorem dX3_init_14 : decode cX3_init 14 = .ok (.newarray .int, 2) := by decide +kernel
theorem dX3_init_16 : decode cX3_init 16 = .ok (.putfield 15, 3) := by decide +kernel
theorem dX3_init_19 : decode cX3_init 19 = .ok (.aload_n 0, 1) := by decide +kernel
theorem dX3_init_20 : decode cX3_init 20 = .ok (.bipush 16, 2) := by decide +kernel
theorem dX3_init_22 : decode cX3_init 22 = .ok (.newarray .int, 2) := by decide +kernel
theorem dX3_init_24 : decode cX3_init 24 = .ok (.putfield 18, 3) := by decide +kernel
theorem dX3_init_27 : decode cX3_init 27 = .ok (.aload_n 0, 1) := by decide +kernel
theorem dX3_init_28 : decode cX3_init 28 = .ok (.bipush 120, 2) := by decide +kernel
theorem dX3_init_30 : decode cX3_init 30 = .ok (.newarray .int, 2) := by decide +kernel
theorem dX3_init_32 : decode cX3_init 32 = .ok (.putfield 21, 3) := by decide +kernel
theorem dX3_init_35 : decode cX3_init 35 = .ok (.aload_n 0, 1) := by decide +kernel
theorem dX3_init_36 : decode cX3_init 36 = .ok (.bipush 120, 2) := by decide +kernel
theorem dX3_init_38 : decode cX3_init 38 = .ok (.newarray .int, 2) := by decide +kernel
theorem dX3_init_40 : decode cX3_init 40 = .ok (.putfield 24, 3) := by decide +kernel
theorem dX3_init_43 : decode cX3_init 43 = .ok (.aload_n 0, 1) := by decide +kernel
theorem dX3_init_44 : decode cX3_init 44 = .ok (.bipush 120, 2) := by decide +kernel
theorem dX3_init_46 : decode cX3_init 46 = .ok (.newarray .int, 2) := by decide +kernel
theorem dX3_init_48 : decode cX3_init 48 = .ok (.putfield 27, 3) := by decide +kernel
theorem dX3_init_51 : decode cX3_init 51 = .ok (.aload_n 0, 1) := by decide +kernel
theorem dX3_init_52 : decode cX3_init 52 = .ok (.bipush 16, 2) := by decide +kernel
theorem dX3_init_54 : decode cX3_init 54 = .ok (.anewarray 30, 3) := by decide +kernel
theorem dX3_init_57 : decode cX3_init 57 = .ok (.putfield 32, 3) := by decide +kernel
theorem dX3_init_60 : decode cX3_init 60 = .ok (.iconst 0, 1) := by decide +kernel
theorem dX3_init_61 : decode cX3_init 61 = .ok (.istore_n 1, 1) := by decide +kernel
theorem dX3_init_62 : decode cX3_init 62 = .ok (.iload_n 1, 1) := by decide +kernel
theorem dX3_init_63 : decode cX3_init 63 = .ok (.bipush 16, 2) := by decide +kernel
theorem dX3_init_65 : decode cX3_init 65 = .ok (.if_icmp .ge 22, 3) := by decide +kernel
theorem dX3_init_68 : decode cX3_init 68 = .ok (.aload_n 0, 1) := by decide +kernel
theorem dX3_init_69 : decode cX3_init 69 = .ok (.getfield 32, 3) := by decide +kernel
theorem dX3_init_72 : decode cX3_init 72 = .ok (.iload_n 1, 1) := by decide +kernel
theorem dX3_init_73 : decode cX3_init 73 = .ok (.new 30, 3) := by decide +kernel
theorem dX3_init_76 : decode cX3_init 76 = .ok (.dup, 1) := by decide +kernel
theorem dX3_init_77 : decode cX3_init 77 = .ok (.invokespecial 36, 3) := by decide +kernel
theorem dX3_init_80 : decode cX3_init 80 = .ok (.aastore, 1) := by decide +kernel
theorem dX3_init_81 : decode cX3_init 81 = .ok (.iinc 1 1, 3) := by decide +kernel
theorem dX3_init_84 : decode cX3_init 84 = .ok (.goto (-22), 3) := by decide +kernel
theorem dX3_init_87 : decode cX3_init 87 = .ok (.return_, 1) := by decide +kernel
theorem dX3_hasCell_0 : decode cX3_hasCell 0 = .ok (.iload_n 1, 1) := by decide +kernel
theorem dX3_hasCell_1 : decode cX3_hasCell 1 = .ok (.ifCond .lt 15, 3) := by decide +kernel
theorem dX3_hasCell_4 : decode cX3_hasCell 4 = .ok (.iload_n 1, 1) := by decide +kernel
theorem dX3_hasCell_5 : decode cX3_hasCell 5 = .ok (.aload_n 0, 1) := by decide +kernel
theorem dX3_hasCell_6 : decode cX3_hasCell 6 = .ok (.getfield 37, 3) := by decide +kernel
theorem dX3_hasCell_9 : decode cX3_hasCell 9 = .ok (.if_icmp .ge 7, 3) := by decide +kernel
theorem dX3_hasCell_12 : decode cX3_hasCell 12 = .ok (.iconst 1, 1) := by decide +kernel
theorem dX3_hasCell_13 : decode cX3_hasCell 13 = .ok (.goto 4, 3) := by decide +kernel
theorem dX3_hasCell_16 : decode cX3_hasCell 16 = .ok (.iconst 0, 1) := by decide +kernel
theorem dX3_hasCell_17 : decode cX3_hasCell 17 = .ok (.ireturn, 1) := by decide +kernel
theorem dX3_hasPortable_0 : decode cX3_hasPortable 0 = .ok (.iload_n 1, 1) := by decide +kernel
theorem dX3_hasPortable_1 : decode cX3_hasPortable 1 = .ok (.ifCond .lt 15, 3) := by decide +kernel
theorem dX3_hasPortable_4 : decode cX3_hasPortable 4 = .ok (.iload_n 1, 1) := by decide +kernel
theorem dX3_hasPortable_5 : decode cX3_hasPortable 5 = .ok (.aload_n 0, 1) := by decide +kernel
theorem dX3_hasPortable_6 : decode cX3_hasPortable 6 = .ok (.getfield 41, 3) := by decide +kernel
theorem dX3_hasPortable_9 : decode cX3_hasPortable 9 = .ok (.if_icmp .ge 7, 3) := by decide +kernel
theorem dX3_hasPortable_12 : decode cX3_hasPortable 12 = .ok (.iconst 1, 1) := by decide +kernel
theorem dX3_hasPortable_13 : decode cX3_hasPortable 13 = .ok (.goto 4, 3) := by decide +kernel
theorem dX3_hasPortable_16 : decode cX3_hasPortable 16 = .ok (.iconst 0, 1) := by decide +kernel
theorem dX3_hasPortable_17 : decode cX3_hasPortable 17 = .ok (.ireturn, 1) := by decide +kernel
theorem dX3_addCell_0 : decode cX3_addCell 0 = .ok (.aload_n 0, 1) := by decide +kernel
theorem dX3_addCell_1 : decode cX3_addCell 1 = .ok (.getfield 37, 3) := by decide +kernel
theorem dX3_addCell_4 : decode cX3_addCell 4 = .ok (.istore_n 2, 1) := by decide +kernel
theorem dX3_addCell_5 : decode cX3_addCell 5 = .ok (.aload_n 0, 1) := by decide +kernel
theorem dX3_addCell_6 : decode cX3_addCell 6 = .ok (.getfield 9, 3) := by decide +kernel
theorem dX3_addCell_9 : decode cX3_addCell 9 = .ok (.iload_n 2, 1) := by decide +kernel
theorem dX3_addCell_10 : decode cX3_addCell 10 = .ok (.iload_n 1, 1) := by decide +kernel
theorem dX3_addCell_11 : decode cX3_addCell 11 = .ok (.iastore, 1) := by decide +kernel
theorem dX3_addCell_12 : decode cX3_addCell 12 = .ok (.aload_n 0, 1) := by decide +kernel
theorem dX3_addCell_13 : decode cX3_addCell 13 = .ok (.getfield 24, 3) := by decide +kernel
theorem dX3_addCell_16 : decode cX3_addCell 16 = .ok (.iload_n 1, 1) := by decide +kernel
theorem dX3_addCell_17 : decode cX3_addCell 17 = .ok (.dup2, 1) := by decide +kernel
theorem dX3_addCell_18 : decode cX3_addCell 18 = .ok (.iaload, 1) := by decide +kernel
theorem dX3_addCell_19 : decode cX3_addCell 19 = .ok (.iconst 1, 1) := by decide +kernel
theorem dX3_addCell_20 : decode cX3_addCell 20 = .ok (.iload_n 2, 1) := by decide +kernel
theorem dX3_addCell_21 : decode cX3_addCell 21 = .ok (.ishl, 1) := by decide +kernel
theorem dX3_addCell_22 : decode cX3_addCell 22 = .ok (.ior, 1) := by decide +kernel
theorem dX3_addCell_23 : decode cX3_addCell 23 = .ok (.iastore, 1) := by decide +kernel
theorem dX3_addCell_24 : decode cX3_addCell 24 = .ok (.aload_n 0, 1) := by decide +kernel
theorem dX3_addCell_25 : decode cX3_addCell 25 = .ok (.dup, 1) := by decide +kernel
theorem dX3_addCell_26 : decode cX3_addCell 26 = .ok (.getfield 37, 3) := by decide +kernel
theorem dX3_addCell_29 : decode cX3_addCell 29 = .ok (.iconst 1, 1) := by decide +kernel
theorem dX3_addCell_30 : decode cX3_addCell 30 = .ok (.iadd, 1) := by decide +kernel
theorem dX3_addCell_31 : decode cX3_addCell 31 = .ok (.putfield 37, 3) := by decide +kernel
theorem dX3_addCell_34 : decode cX3_addCell 34 = .ok (.iload_n 2, 1) := by decide +kernel
theorem dX3_addCell_35 : decode cX3_addCell 35 = .ok (.ireturn, 1) := by decide +kernel
theorem dX3_addPortable_0 : decode cX3_addPortable 0 = .ok (.aload_n 0, 1) := by decide +kernel
theorem dX3_addPortable_1 : decode cX3_addPortable 1 = .ok (.getfield 41, 3) := by decide +kernel
theorem dX3_addPortable_4 : decode cX3_addPortable 4 = .ok (.istore_n 2, 1) := by decide +kernel
theorem dX3_addPortable_5 : decode cX3_addPortable 5 = .ok (.aload_n 0, 1) := by decide +kernel
theorem dX3_addPortable_6 : decode cX3_addPortable 6 = .ok (.getfield 15, 3) := by decide +kernel
theorem dX3_addPortable_9 : decode cX3_addPortable 9 = .ok (.iload_n 2, 1) := by decide +kernel
theorem dX3_addPortable_10 : decode cX3_addPortable 10 = .ok (.iload_n 1, 1) := by decide +kernel
theorem dX3_addPortable_11 : decode cX3_addPortable 11 = .ok (.iastore, 1) := by decide +kernel
theorem dX3_addPortable_12 : decode cX3_addPortable 12 = .ok (.aload_n 0, 1) := by decide +kernel
theorem dX3_addPortable_13 : decode cX3_addPortable 13 = .ok (.dup, 1) := by decide +kernel
theorem dX3_addPortable_14 : decode cX3_addPortable 14 = .ok (.getfield 41, 3) := by decide +kernel
theorem dX3_addPortable_17 : decode cX3_addPortable 17 = .ok (.iconst 1, 1) := by decide +kernel
theorem dX3_addPortable_18 : decode cX3_addPortable 18 = .ok (.iadd, 1) := by decide +kernel
theorem dX3_addPortable_19 : decode cX3_addPortable 19 = .ok (.putfield 41, 3) := by decide +kernel
theorem dX3_addPortable_22 : decode cX3_addPortable 22 = .ok (.iload_n 2, 1) := by decide +kernel
theorem dX3_addPortable_23 : decode cX3_addPortable 23 = .ok (.ireturn, 1) := by decide +kernel
theorem dX3_changeNoise_0 : decode cX3_changeNoise 0 = .ok (.iconst 1, 1) := by decide +kernel
theorem dX3_changeNoise_1 : decode cX3_changeNoise 1 = .ok (.iload_n 1, 1) := by decide +kernel
theorem dX3_changeNoise_2 : decode cX3_changeNoise 2 = .ok (.ishl, 1) := by decide +kernel
theorem dX3_changeNoise_3 : decode cX3_changeNoise 3 = .ok (.istore 4, 2) := by decide +kernel
theorem dX3_changeNoise_5 : decode cX3_changeNoise 5 = .ok (.aload_n 0, 1) := by decide +kernel
theorem dX3_changeNoise_6 : decode cX3_changeNoise 6 = .ok (.getfield 21, 3) := by decide +kernel
theorem dX3_changeNoise_9 : decode cX3_changeNoise 9 = .ok (.iload_n 2, 1) := by decide +kernel
theorem dX3_changeNoise_10 : decode cX3_changeNoise 10 = .ok (.iaload, 1) := by decide +kernel
theorem dX3_changeNoise_11 : decode cX3_changeNoise 11 = .ok (.iload 4, 2) := by decide +kernel
theorem dX3_changeNoise_13 : decode cX3_changeNoise 13 = .ok (.iand, 1) := by decide +kernel
theorem dX3_changeNoise_14 : decode cX3_changeNoise 14 = .ok (.ifCond .eq 7, 3) := by decide +kernel
theorem dX3_changeNoise_17 : decode cX3_changeNoise 17 = .ok (.iconst 1, 1) := by decide +kernel
theorem dX3_changeNoise_18 : decode cX3_changeNoise 18 = .ok (.goto 4, 3) := by decide +kernel
theorem dX3_changeNoise_21 : decode cX3_changeNoise 21 = .ok (.iconst 0, 1) := by decide +kernel
theorem dX3_changeNoise_22 : decode cX3_changeNoise 22 = .ok (.istore 5, 2) := by decide +kernel
theorem dX3_changeNoise_24 : decode cX3_changeNoise 24 = .ok (.iload 5, 2) := by decide +kernel
theorem dX3_changeNoise_26 : decode cX3_changeNoise 26 = .ok (.iload_n 3, 1) := by decide +kernel
theorem dX3_changeNoise_27 : decode cX3_changeNoise 27 = .ok (.if_icmp .eq 14, 3) := by decide +kernel
theorem dX3_changeNoise_30 : decode cX3_changeNoise 30 = .ok (.aload_n 0, 1) := by decide +kernel
theorem dX3_changeNoise_31 : decode cX3_changeNoise 31 = .ok (.getfield 21, 3) := by decide +kernel
theorem dX3_changeNoise_34 : decode cX3_changeNoise 34 = .ok (.iload_n 2, 1) := by decide +kernel
theorem dX3_changeNoise_35 : decode cX3_changeNoise 35 = .ok (.dup2, 1) := by decide +kernel
theorem dX3_changeNoise_36 : decode cX3_changeNoise 36 = .ok (.iaload, 1) := by decide +kernel
theorem dX3_changeNoise_37 : decode cX3_changeNoise 37 = .ok (.iload 4, 2) := by decide +kernel
theorem dX3_changeNoise_39 : decode cX3_changeNoise 39 = .ok (.ixor, 1) := by decide +kernel
theorem dX3_changeNoise_40 : decode cX3_changeNoise 40 = .ok (.iastore, 1) := by decide +kernel
theorem dX3_changeNoise_41 : decode cX3_changeNoise 41 = .ok (.iload 5, 2) := by decide +kernel
theorem dX3_changeNoise_43 : decode cX3_changeNoise 43 = .ok (.iload_n 3, 1) := by decide +kernel
theorem dX3_changeNoise_44 : decode cX3_changeNoise 44 = .ok (.if_icmp .eq 7, 3) := by decide +kernel
theorem dX3_changeNoise_47 : decode cX3_changeNoise 47 = .ok (.iconst 1, 1) := by decide +kernel
theorem dX3_changeNoise_48 : decode cX3_changeNoise 48 = .ok (.goto 4, 3) := by decide +kernel
theorem dX3_changeNoise_51 : decode cX3_changeNoise 51 = .ok (.iconst 0, 1) := by decide +kernel
theorem dX3_changeNoise_52 : decode cX3_changeNoise 52 = .ok (.ireturn, 1) := by decide +kernel
theorem dX3_noiseBits_0 : decode cX3_noiseBits 0 = .ok (.iconst 1, 1) := by decide +kernel
theorem dX3_noiseBits_1 : decode cX3_noiseBits 1 = .ok (.aload_n 0, 1) := by decide +kernel
theorem dX3_noiseBits_2 : decode cX3_noiseBits 2 = .ok (.getfield 15, 3) := by decide +kernel
theorem dX3_noiseBits_5 : decode cX3_noiseBits 5 = .ok (.iload_n 1, 1) := by decide +kernel
theorem dX3_noiseBits_6 : decode cX3_noiseBits 6 = .ok (.iaload, 1) := by decide +kernel
theorem dX3_noiseBits_7 : decode cX3_noiseBits 7 = .ok (.ishl, 1) := by decide +kernel
theorem dX3_noiseBits_8 : decode cX3_noiseBits 8 = .ok (.iconst 1, 1) := by decide +kernel
theorem dX3_noiseBits_9 : decode cX3_noiseBits 9 = .ok (.bipush 16, 2) := by decide +kernel
theorem dX3_noiseBits_11 : decode cX3_noiseBits 11 = .ok (.iload_n 2, 1) := by decide +kernel
theorem dX3_noiseBits_12 : decode cX3_noiseBits 12 = .ok (.iadd, 1) := by decide +kernel
theorem dX3_noiseBits_13 : decode cX3_noiseBits 13 = .ok (.ishl, 1) := by decide +kernel
theorem dX3_noiseBits_14 : decode cX3_noiseBits 14 = .ok (.ior, 1) := by decide +kernel
theorem dX3_noiseBits_15 : decode cX3_noiseBits 15 = .ok (.ireturn, 1) := by decide +kernel
theorem dX3_otherCells_0 : decode cX3_otherCells 0 = .ok (.aload_n 0, 1) := by decide +kernel
theorem dX3_otherCells_1 : decode cX3_otherCells 1 = .ok (.getfield 18, 3) := by decide +kernel
theorem dX3_otherCells_4 : decode cX3_otherCells 4 = .ok (.aload_n 0, 1) := by decide +kernel
theorem dX3_otherCells_5 : decode cX3_otherCells 5 = .ok (.getfield 15, 3) := by decide +kernel
theorem dX3_otherCells_8 : decode cX3_otherCells 8 = .ok (.iload_n 1, 1) := by decide +kernel
theorem dX3_otherCells_9 : decode cX3_otherCells 9 = .ok (.iaload, 1) := by decide +kernel
theorem dX3_otherCells_10 : decode cX3_otherCells 10 = .ok (.iaload, 1) := by decide +kernel
theorem dX3_otherCells_11 : decode cX3_otherCells 11 = .ok (.iconst 1, 1) := by decide +kernel
theorem dX3_otherCells_12 : decode cX3_otherCells 12 = .ok (.iload_n 2, 1) := by decide +kernel
theorem dX3_otherCells_13 : decode cX3_otherCells 13 = .ok (.ishl, 1) := by decide +kernel
theorem dX3_otherCells_14 : decode cX3_otherCells 14 = .ok (.iconst (-1), 1) := by decide +kernel
theorem dX3_otherCells_15 : decode cX3_otherCells 15 = .ok (.ixor, 1) := by decide +kernel
theorem dX3_otherCells_16 : decode cX3_otherCells 16 = .ok (.iand, 1) := by decide +kernel
theorem dX3_otherCells_17 : decode cX3_otherCells 17 = .ok (.ireturn, 1) := by decide +kernel
theorem dX3_otherPortables_0 : decode cX3_otherPortables 0 = .ok (.iconst 0, 1) := by decide +kernel
theorem dX3_otherPortables_1 : decode cX3_otherPortables 1 = .ok (.istore_n 3, 1) := by decide +kernel
theorem dX3_otherPortables_2 : decode cX3_otherPortables 2 = .ok (.iconst 0, 1) := by decide +kernel
theorem dX3_otherPortables_3 : decode cX3_otherPortables 3 = .ok (.istore 4, 2) := by decide +kernel
theorem dX3_otherPortables_5 : decode cX3_otherPortables 5 = .ok (.iload 4, 2) := by decide +kernel
theorem dX3_otherPortables_7 : decode cX3_otherPortables 7 = .ok (.aload_n 0, 1) := by decide +kernel
theorem dX3_otherPortables_8 : decode cX3_otherPortables 8 = .ok (.getfield 41, 3) := by decide +kernel
theorem dX3_otherPortables_11 : decode cX3_otherPortables 11 = .ok (.if_icmp .ge 37, 3) := by decide +kernel
theorem dX3_otherPortables_14 : decode cX3_otherPortables 14 = .ok (.iload 4, 2) := by decide +kernel
theorem dX3_otherPortables_16 : decode cX3_otherPortables 16 = .ok (.iload_n 1, 1) := by decide +kernel
theorem dX3_otherPortables_17 : decode cX3_otherPortables 17 = .ok (.if_icmp .eq 25, 3) := by decide +kernel
theorem dX3_otherPortables_20 : decode cX3_otherPortables 20 = .ok (.aload_n 0, 1) := by decide +kernel
theorem dX3_otherPortables_21 : decode cX3_otherPortables 21 = .ok (.iload_n 2, 1) := by decide +kernel
theorem dX3_otherPortables_22 : decode cX3_otherPortables 22 = .ok (.aload_n 0, 1) := by decide +kernel
theorem dX3_otherPortables_23 : decode cX3_otherPortables 23 = .ok (.getfield 15, 3) := by decide +kernel
theorem dX3_otherPortables_26 : decode cX3_otherPortables 26 = .ok (.iload 4, 2) := by decide +kernel
theorem dX3_otherPortables_28 : decode cX3_otherPortables 28 = .ok (.iaload, 1) := by decide +kernel
theorem dX3_otherPortables_29 : decode cX3_otherPortables 29 = .ok (.invokevirtual 44, 3) := by decide +kernel
theorem dX3_otherPortables_32 : decode cX3_otherPortables 32 = .ok (.ifCond .eq 10, 3) := by decide +kernel
theorem dX3_otherPortables_35 : decode cX3_otherPortables 35 = .ok (.iload_n 3, 1) := by decide +kernel
theorem dX3_otherPortables_36 : decode cX3_otherPortables 36 = .ok (.iconst 1, 1) := by decide +kernel
theorem dX3_otherPortables_37 : decode cX3_otherPortables 37 = .ok (.iload 4, 2) := by decide +kernel
theorem dX3_otherPortables_39 : decode cX3_otherPortables 39 = .ok (.ishl, 1) := by decide +kernel
theorem dX3_otherPortables_40 : decode cX3_otherPortables 40 = .ok (.ior, 1) := by decide +kernel
theorem dX3_otherPortables_41 : decode cX3_otherPortables 41 = .ok (.istore_n 3, 1) := by decide +kernel
theorem dX3_otherPortables_42 : decode cX3_otherPortables 42 = .ok (.iinc 4 1, 3) := by decide +kernel
theorem dX3_otherPortables_45 : decode cX3_otherPortables 45 = .ok (.goto (-40), 3) := by decide +kernel
theorem dX3_otherPortables_48 : decode cX3_otherPortables 48 = .ok (.iload_n 3, 1) := by decide +kernel
theorem dX3_otherPortables_49 : decode cX3_otherPortables 49 = .ok (.ireturn, 1) := by decide +kernel
theorem dX3_levelOn_0 : decode cX3_levelOn 0 = .ok (.iconst 4, 1) := by decide +kernel
theorem dX3_levelOn_1 : decode cX3_levelOn 1 = .ok (.aload_n 0, 1) := by decide +kernel
theorem dX3_levelOn_2 : decode cX3_levelOn 2 = .ok (.getfield 21, 3) := by decide +kernel
theorem dX3_levelOn_5 : decode cX3_levelOn 5 = .ok (.iload_n 1, 1) := by decide +kernel
theorem dX3_levelOn_6 : decode cX3_levelOn 6 = .ok (.iaload, 1) := by decide +kernel
theorem dX3_levelOn_7 : decode cX3_levelOn 7 = .ok (.iload_n 2, 1) := by decide +kernel
theorem dX3_levelOn_8 : decode cX3_levelOn 8 = .ok (.iand, 1) := by decide +kernel
theorem dX3_levelOn_9 : decode cX3_levelOn 9 = .ok (.invokestatic 48, 3) := by decide +kernel
theorem dX3_levelOn_12 : decode cX3_levelOn 12 = .ok (.imul, 1) := by decide +kernel
theorem dX3_levelOn_13 : decode cX3_levelOn 13 = .ok (.aload_n 0, 1) := by decide +kernel
theorem dX3_levelOn_14 : decode cX3_levelOn 14 = .ok (.getfield 24, 3) := by decide +kernel
theorem dX3_levelOn_17 : decode cX3_levelOn 17 = .ok (.iload_n 1, 1) := by decide +kernel
theorem dX3_levelOn_18 : decode cX3_levelOn 18 = .ok (.iaload, 1) := by decide +kernel
theorem dX3_levelOn_19 : decode cX3_levelOn 19 = .ok (.iload_n 3, 1) := by decide +kernel
theorem dX3_levelOn_20 : decode cX3_levelOn 20 = .ok (.iand, 1) := by decide +kernel
theorem dX3_levelOn_21 : decode cX3_levelOn 21 = .ok (.invokestatic 48, 3) := by decide +kernel
theorem dX3_levelOn_24 : decode cX3_levelOn 24 = .ok (.iadd, 1) := by decide +kernel
theorem dX3_levelOn_25 : decode cX3_levelOn 25 = .ok (.aload_n 0, 1) := by decide +kernel
theorem dX3_levelOn_26 : decode cX3_levelOn 26 = .ok (.getfield 27, 3) := by decide +kernel
theorem dX3_levelOn_29 : decode cX3_levelOn 29 = .ok (.iload_n 1, 1) := by decide +kernel
theorem dX3_levelOn_30 : decode cX3_levelOn 30 = .ok (.iaload, 1) := by decide +kernel
theorem dX3_levelOn_31 : decode cX3_levelOn 31 = .ok (.iload 4, 2) := by decide +kernel
theorem dX3_levelOn_33 : decode cX3_levelOn 33 = .ok (.iand, 1) := by decide +kernel
theorem dX3_levelOn_34 : decode cX3_levelOn 34 = .ok (.invokestatic 48, 3) := by decide +kernel
theorem dX3_levelOn_37 : decode cX3_levelOn 37 = .ok (.iadd, 1) := by decide +kernel
theorem dX3_levelOn_38 : decode cX3_levelOn 38 = .ok (.ireturn, 1) := by decide +kernel
theorem dX3_reachesPlace_0 : decode cX3_reachesPlace 0 = .ok (.aload_n 0, 1) := by decide +kernel
theorem dX3_reachesPlace_1 : decode cX3_reachesPlace 1 = .ok (.getfield 18, 3) := by decide +kernel
theorem dX3_reachesPlace_4 : decode cX3_reachesPlace 4 = .ok (.iload_n 2, 1) := by decide +kernel
theorem dX3_reachesPlace_5 : decode cX3_reachesPlace 5 = .ok (.iaload, 1) := by decide +kernel
theorem dX3_reachesPlace_6 : decode cX3_reachesPlace 6 = .ok (.iconst 1, 1) := by decide +kernel
theorem dX3_reachesPlace_7 : decode cX3_reachesPlace 7 = .ok (.iload_n 1, 1) := by decide +kernel
theorem dX3_reachesPlace_8 : decode cX3_reachesPlace 8 = .ok (.ishl, 1) := by decide +kernel
theorem dX3_reachesPlace_9 : decode cX3_reachesPlace 9 = .ok (.iand, 1) := by decide +kernel
theorem dX3_reachesPlace_10 : decode cX3_reachesPlace 10 = .ok (.ifCond .eq 7, 3) := by decide +kernel
theorem dX3_reachesPlace_13 : decode cX3_reachesPlace 13 = .ok (.iconst 1, 1) := by decide +kernel
theorem dX3_reachesPlace_14 : decode cX3_reachesPlace 14 = .ok (.goto 4, 3) := by decide +kernel
theorem dX3_reachesPlace_17 : decode cX3_reachesPlace 17 = .ok (.iconst 0, 1) := by decide +kernel
theorem dX3_reachesPlace_18 : decode cX3_reachesPlace 18 = .ok (.ireturn, 1) := by decide +kernel
theorem dX3_comesDown_0 : decode cX3_comesDown 0 = .ok (.aload_n 0, 1) := by decide +kernel
theorem dX3_comesDown_1 : decode cX3_comesDown 1 = .ok (.getfield 24, 3) := by decide +kernel
theorem dX3_comesDown_4 : decode cX3_comesDown 4 = .ok (.iload_n 3, 1) := by decide +kernel
theorem dX3_comesDown_5 : decode cX3_comesDown 5 = .ok (.iaload, 1) := by decide +kernel
theorem dX3_comesDown_6 : decode cX3_comesDown 6 = .ok (.aload_n 0, 1) := by decide +kernel
theorem dX3_comesDown_7 : decode cX3_comesDown 7 = .ok (.getfield 18, 3) := by decide +kernel
theorem dX3_comesDown_10 : decode cX3_comesDown 10 = .ok (.iload_n 2, 1) := by decide +kernel
theorem dX3_comesDown_11 : decode cX3_comesDown 11 = .ok (.iaload, 1) := by decide +kernel
theorem dX3_comesDown_12 : decode cX3_comesDown 12 = .ok (.iand, 1) := by decide +kernel
theorem dX3_comesDown_13 : decode cX3_comesDown 13 = .ok (.iconst 1, 1) := by decide +kernel
theorem dX3_comesDown_14 : decode cX3_comesDown 14 = .ok (.iload_n 1, 1) := by decide +kernel
theorem dX3_comesDown_15 : decode cX3_comesDown 15 = .ok (.ishl, 1) := by decide +kernel
theorem dX3_comesDown_16 : decode cX3_comesDown 16 = .ok (.iconst (-1), 1) := by decide +kernel
theorem dX3_comesDown_17 : decode cX3_comesDown 17 = .ok (.ixor, 1) := by decide +kernel
theorem dX3_comesDown_18 : decode cX3_comesDown 18 = .ok (.iand, 1) := by decide +kernel
theorem dX3_comesDown_19 : decode cX3_comesDown 19 = .ok (.istore 4, 2) := by decide +kernel
theorem dX3_comesDown_21 : decode cX3_comesDown 21 = .ok (.aload_n 0, 1) := by decide +kernel
theorem dX3_comesDown_22 : decode cX3_comesDown 22 = .ok (.iload_n 1, 1) := by decide +kernel
theorem dX3_comesDown_23 : decode cX3_comesDown 23 = .ok (.iload_n 2, 1) := by decide +kernel
theorem dX3_comesDown_24 : decode cX3_comesDown 24 = .ok (.invokevirtual 44, 3) := by decide +kernel
theorem dX3_comesDown_27 : decode cX3_comesDown 27 = .ok (.ifCond .eq 25, 3) := by decide +kernel
theorem dX3_comesDown_30 : decode cX3_comesDown 30 = .ok (.aload_n 0, 1) := by decide +kernel
theorem dX3_comesDown_31 : decode cX3_comesDown 31 = .ok (.getfield 21, 3) := by decide +kernel
theorem dX3_comesDown_34 : decode cX3_comesDown 34 = .ok (.iload_n 3, 1) := by decide +kernel
theorem dX3_comesDown_35 : decode cX3_comesDown 35 = .ok (.iaload, 1) := by decide +kernel
theorem dX3_comesDown_36 : decode cX3_comesDown 36 = .ok (.iconst 1, 1) := by decide +kernel
theorem dX3_comesDown_37 : decode cX3_comesDown 37 = .ok (.iload_n 2, 1) := by decide +kernel
theorem dX3_comesDown_38 : decode cX3_comesDown 38 = .ok (.ishl, 1) := by decide +kernel
theorem dX3_comesDown_39 : decode cX3_comesDown 39 = .ok (.iand, 1) := by decide +kernel
theorem dX3_comesDown_40 : decode cX3_comesDown 40 = .ok (.ifCond .ne 12, 3) := by decide +kernel
theorem dX3_comesDown_43 : decode cX3_comesDown 43 = .ok (.iload 4, 2) := by decide +kernel
theorem dX3_comesDown_45 : decode cX3_comesDown 45 = .ok (.ifCond .ne 7, 3) := by decide +kernel
theorem dX3_comesDown_48 : decode cX3_comesDown 48 = .ok (.iconst 1, 1) := by decide +kernel
theorem dX3_comesDown_49 : decode cX3_comesDown 49 = .ok (.goto 4, 3) := by decide +kernel
theorem dX3_comesDown_52 : decode cX3_comesDown 52 = .ok (.iconst 0, 1) := by decide +kernel
theorem dX3_comesDown_53 : decode cX3_comesDown 53 = .ok (.ireturn, 1) := by decide +kernel
theorem dX3_comesUp_0 : decode cX3_comesUp 0 = .ok (.aload_n 0, 1) := by decide +kernel
theorem dX3_comesUp_1 : decode cX3_comesUp 1 = .ok (.iload_n 2, 1) := by decide +kernel
theorem dX3_comesUp_2 : decode cX3_comesUp 2 = .ok (.aload_n 0, 1) := by decide +kernel
theorem dX3_comesUp_3 : decode cX3_comesUp 3 = .ok (.getfield 15, 3) := by decide +kernel
theorem dX3_comesUp_6 : decode cX3_comesUp 6 = .ok (.iload_n 1, 1) := by decide +kernel
theorem dX3_comesUp_7 : decode cX3_comesUp 7 = .ok (.iaload, 1) := by decide +kernel
theorem dX3_comesUp_8 : decode cX3_comesUp 8 = .ok (.invokevirtual 44, 3) := by decide +kernel
theorem dX3_comesUp_11 : decode cX3_comesUp 11 = .ok (.ifCond .eq 39, 3) := by decide +kernel
theorem dX3_comesUp_14 : decode cX3_comesUp 14 = .ok (.aload_n 0, 1) := by decide +kernel
theorem dX3_comesUp_15 : decode cX3_comesUp 15 = .ok (.getfield 21, 3) := by decide +kernel
theorem dX3_comesUp_18 : decode cX3_comesUp 18 = .ok (.iload_n 3, 1) := by decide +kernel
theorem dX3_comesUp_19 : decode cX3_comesUp 19 = .ok (.iaload, 1) := by decide +kernel
theorem dX3_comesUp_20 : decode cX3_comesUp 20 = .ok (.iconst 1, 1) := by decide +kernel
theorem dX3_comesUp_21 : decode cX3_comesUp 21 = .ok (.bipush 16, 2) := by decide +kernel
theorem dX3_comesUp_23 : decode cX3_comesUp 23 = .ok (.iload_n 2, 1) := by decide +kernel
theorem dX3_comesUp_24 : decode cX3_comesUp 24 = .ok (.iadd, 1) := by decide +kernel
theorem dX3_comesUp_25 : decode cX3_comesUp 25 = .ok (.ishl, 1) := by decide +kernel
theorem dX3_comesUp_26 : decode cX3_comesUp 26 = .ok (.iand, 1) := by decide +kernel
theorem dX3_comesUp_27 : decode cX3_comesUp 27 = .ok (.ifCond .ne 23, 3) := by decide +kernel
theorem dX3_comesUp_30 : decode cX3_comesUp 30 = .ok (.aload_n 0, 1) := by decide +kernel
theorem dX3_comesUp_31 : decode cX3_comesUp 31 = .ok (.getfield 27, 3) := by decide +kernel
theorem dX3_comesUp_34 : decode cX3_comesUp 34 = .ok (.iload_n 3, 1) := by decide +kernel
theorem dX3_comesUp_35 : decode cX3_comesUp 35 = .ok (.iaload, 1) := by decide +kernel
theorem dX3_comesUp_36 : decode cX3_comesUp 36 = .ok (.aload_n 0, 1) := by decide +kernel
theorem dX3_comesUp_37 : decode cX3_comesUp 37 = .ok (.iload_n 1, 1) := by decide +kernel
theorem dX3_comesUp_38 : decode cX3_comesUp 38 = .ok (.iload_n 2, 1) := by decide +kernel
theorem dX3_comesUp_39 : decode cX3_comesUp 39 = .ok (.invokevirtual 54, 3) := by decide +kernel
theorem dX3_comesUp_42 : decode cX3_comesUp 42 = .ok (.iand, 1) := by decide +kernel
theorem dX3_comesUp_43 : decode cX3_comesUp 43 = .ok (.ifCond .ne 7, 3) := by decide +kernel
theorem dX3_comesUp_46 : decode cX3_comesUp 46 = .ok (.iconst 1, 1) := by decide +kernel
theorem dX3_comesUp_47 : decode cX3_comesUp 47 = .ok (.goto 4, 3) := by decide +kernel
theorem dX3_comesUp_50 : decode cX3_comesUp 50 = .ok (.iconst 0, 1) := by decide +kernel
theorem dX3_comesUp_51 : decode cX3_comesUp 51 = .ok (.ireturn, 1) := by decide +kernel
theorem dX3_bearersOf_0 : decode cX3_bearersOf 0 = .ok (.iconst 0, 1) := by decide +kernel
theorem dX3_bearersOf_1 : decode cX3_bearersOf 1 = .ok (.istore_n 2, 1) := by decide +kernel
theorem dX3_bearersOf_2 : decode cX3_bearersOf 2 = .ok (.iconst 0, 1) := by decide +kernel
theorem dX3_bearersOf_3 : decode cX3_bearersOf 3 = .ok (.istore_n 3, 1) := by decide +kernel
theorem dX3_bearersOf_4 : decode cX3_bearersOf 4 = .ok (.iload_n 3, 1) := by decide +kernel
theorem dX3_bearersOf_5 : decode cX3_bearersOf 5 = .ok (.aload_n 0, 1) := by decide +kernel
theorem dX3_bearersOf_6 : decode cX3_bearersOf 6 = .ok (.getfield 58, 3) := by decide +kernel
theorem dX3_bearersOf_9 : decode cX3_bearersOf 9 = .ok (.if_icmp .ge 25, 3) := by decide +kernel
theorem dX3_bearersOf_12 : decode cX3_bearersOf 12 = .ok (.aload_n 0, 1) := by decide +kernel
theorem dX3_bearersOf_13 : decode cX3_bearersOf 13 = .ok (.getfield 32, 3) := by decide +kernel
theorem dX3_bearersOf_16 : decode cX3_bearersOf 16 = .ok (.iload_n 3, 1) := by decide +kernel
theorem dX3_bearersOf_17 : decode cX3_bearersOf 17 = .ok (.aaload, 1) := by decide +kernel
theorem dX3_bearersOf_18 : decode cX3_bearersOf 18 = .ok (.getfield 61, 3) := by decide +kernel
theorem dX3_bearersOf_21 : decode cX3_bearersOf 21 = .ok (.iload_n 1, 1) := by decide +kernel
theorem dX3_bearersOf_22 : decode cX3_bearersOf 22 = .ok (.if_icmp .ne 6, 3) := by decide +kernel
theorem dX3_bearersOf_25 : decode cX3_bearersOf 25 = .ok (.iinc 2 1, 3) := by decide +kernel
theorem dX3_bearersOf_28 : decode cX3_bearersOf 28 = .ok (.iinc 3 1, 3) := by decide +kernel
theorem dX3_bearersOf_31 : decode cX3_bearersOf 31 = .ok (.goto (-27), 3) := by decide +kernel
theorem dX3_bearersOf_34 : decode cX3_bearersOf 34 = .ok (.iload_n 2, 1) := by decide +kernel
theorem dX3_bearersOf_35 : decode cX3_bearersOf 35 = .ok (.ireturn, 1) := by decide +kernel
theorem dX3_firstBearerOf_0 : decode cX3_firstBearerOf 0 = .ok (.iconst 0, 1) := by decide +kernel
theorem dX3_firstBearerOf_1 : decode cX3_firstBearerOf 1 = .ok (.istore_n 2, 1) := by decide +kernel
theorem dX3_firstBearerOf_2 : decode cX3_firstBearerOf 2 = .ok (.iload_n 2, 1) := by decide +kernel
theorem dX3_firstBearerOf_3 : decode cX3_firstBearerOf 3 = .ok (.aload_n 0, 1) := by decide +kernel
theorem dX3_firstBearerOf_4 : decode cX3_firstBearerOf 4 = .ok (.getfield 58, 3) := by decide +kernel
theorem dX3_firstBearerOf_7 : decode cX3_firstBearerOf 7 = .ok (.if_icmp .ge 24, 3) := by decide +kernel
theorem dX3_firstBearerOf_10 : decode cX3_firstBearerOf 10 = .ok (.aload_n 0, 1) := by decide +kernel
theorem dX3_firstBearerOf_11 : decode cX3_firstBearerOf 11 = .ok (.getfield 32, 3) := by decide +kernel
theorem dX3_firstBearerOf_14 : decode cX3_firstBearerOf 14 = .ok (.iload_n 2, 1) := by decide +kernel
theorem dX3_firstBearerOf_15 : decode cX3_firstBearerOf 15 = .ok (.aaload, 1) := by decide +kernel
theorem dX3_firstBearerOf_16 : decode cX3_firstBearerOf 16 = .ok (.getfield 61, 3) := by decide +kernel
theorem dX3_firstBearerOf_19 : decode cX3_firstBearerOf 19 = .ok (.iload_n 1, 1) := by decide +kernel
theorem dX3_firstBearerOf_20 : decode cX3_firstBearerOf 20 = .ok (.if_icmp .ne 5, 3) := by decide +kernel
theorem dX3_firstBearerOf_23 : decode cX3_firstBearerOf 23 = .ok (.iload_n 2, 1) := by decide +kernel
theorem dX3_firstBearerOf_24 : decode cX3_firstBearerOf 24 = .ok (.ireturn, 1) := by decide +kernel
theorem dX3_firstBearerOf_25 : decode cX3_firstBearerOf 25 = .ok (.iinc 2 1, 3) := by decide +kernel
theorem dX3_firstBearerOf_28 : decode cX3_firstBearerOf 28 = .ok (.goto (-26), 3) := by decide +kernel
theorem dX3_firstBearerOf_31 : decode cX3_firstBearerOf 31 = .ok (.bipush (-9), 2) := by decide +kernel
theorem dX3_firstBearerOf_33 : decode cX3_firstBearerOf 33 = .ok (.ireturn, 1) := by decide +kernel
theorem dX3_lastBearerOf_0 : decode cX3_lastBearerOf 0 = .ok (.aload_n 0, 1) := by decide +kernel
theorem dX3_lastBearerOf_1 : decode cX3_lastBearerOf 1 = .ok (.getfield 58, 3) := by decide +kernel
theorem dX3_lastBearerOf_4 : decode cX3_lastBearerOf 4 = .ok (.iconst 1, 1) := by decide +kernel
theorem dX3_lastBearerOf_5 : decode cX3_lastBearerOf 5 = .ok (.isub, 1) := by decide +kernel
theorem dX3_lastBearerOf_6 : decode cX3_lastBearerOf 6 = .ok (.istore_n 2, 1) := by decide +kernel
theorem dX3_lastBearerOf_7 : decode cX3_lastBearerOf 7 = .ok (.iload_n 2, 1) := by decide +kernel
theorem dX3_lastBearerOf_8 : decode cX3_lastBearerOf 8 = .ok (.ifCond .lt 24, 3) := by decide +kernel
theorem dX3_lastBearerOf_11 : decode cX3_lastBearerOf 11 = .ok (.aload_n 0, 1) := by decide +kernel
theorem dX3_lastBearerOf_12 : decode cX3_lastBearerOf 12 = .ok (.getfield 32, 3) := by decide +kernel
theorem dX3_lastBearerOf_15 : decode cX3_lastBearerOf 15 = .ok (.iload_n 2, 1) := by decide +kernel
theorem dX3_lastBearerOf_16 : decode cX3_lastBearerOf 16 = .ok (.aaload, 1) := by decide +kernel
theorem dX3_lastBearerOf_17 : decode cX3_lastBearerOf 17 = .ok (.getfield 61, 3) := by decide +kernel
theorem dX3_lastBearerOf_20 : decode cX3_lastBearerOf 20 = .ok (.iload_n 1, 1) := by decide +kernel
theorem dX3_lastBearerOf_21 : decode cX3_lastBearerOf 21 = .ok (.if_icmp .ne 5, 3) := by decide +kernel
theorem dX3_lastBearerOf_24 : decode cX3_lastBearerOf 24 = .ok (.iload_n 2, 1) := by decide +kernel
theorem dX3_lastBearerOf_25 : decode cX3_lastBearerOf 25 = .ok (.ireturn, 1) := by decide +kernel
theorem dX3_lastBearerOf_26 : decode cX3_lastBearerOf 26 = .ok (.iinc 2 (-1), 3) := by decide +kernel
theorem dX3_lastBearerOf_29 : decode cX3_lastBearerOf 29 = .ok (.goto (-22), 3) := by decide +kernel
theorem dX3_lastBearerOf_32 : decode cX3_lastBearerOf 32 = .ok (.bipush (-9), 2) := by decide +kernel
theorem dX3_lastBearerOf_34 : decode cX3_lastBearerOf 34 = .ok (.ireturn, 1) := by decide +kernel
theorem dX3_handsOver_0 : decode cX3_handsOver 0 = .ok (.aload_n 0, 1) := by decide +kernel
theorem dX3_handsOver_1 : decode cX3_handsOver 1 = .ok (.iload_n 1, 1) := by decide +kernel
theorem dX3_handsOver_2 : decode cX3_handsOver 2 = .ok (.invokevirtual 64, 3) := by decide +kernel
theorem dX3_handsOver_5 : decode cX3_handsOver 5 = .ok (.istore_n 2, 1) := by decide +kernel
theorem dX3_handsOver_6 : decode cX3_handsOver 6 = .ok (.iload_n 2, 1) := by decide +kernel
theorem dX3_handsOver_7 : decode cX3_handsOver 7 = .ok (.ifCond .lt 29, 3) := by decide +kernel
theorem dX3_handsOver_10 : decode cX3_handsOver 10 = .ok (.iload_n 2, 1) := by decide +kernel
theorem dX3_handsOver_11 : decode cX3_handsOver 11 = .ok (.aload_n 0, 1) := by decide +kernel
theorem dX3_handsOver_12 : decode cX3_handsOver 12 = .ok (.iload_n 1, 1) := by decide +kernel
theorem dX3_handsOver_13 : decode cX3_handsOver 13 = .ok (.invokevirtual 67, 3) := by decide +kernel
theorem dX3_handsOver_16 : decode cX3_handsOver 16 = .ok (.if_icmp .ne 20, 3) := by decide +kernel
theorem dX3_handsOver_19 : decode cX3_handsOver 19 = .ok (.aload_n 0, 1) := by decide +kernel
theorem dX3_handsOver_20 : decode cX3_handsOver 20 = .ok (.getfield 32, 3) := by decide +kernel
theorem dX3_handsOver_23 : decode cX3_handsOver 23 = .ok (.iload_n 2, 1) := by decide +kernel
theorem dX3_handsOver_24 : decode cX3_handsOver 24 = .ok (.aaload, 1) := by decide +kernel
theorem dX3_handsOver_25 : decode cX3_handsOver 25 = .ok (.getfield 70, 3) := by decide +kernel
theorem dX3_handsOver_28 : decode cX3_handsOver 28 = .ok (.iconst 3, 1) := by decide +kernel
theorem dX3_handsOver_29 : decode cX3_handsOver 29 = .ok (.if_icmp .lt 7, 3) := by decide +kernel
theorem dX3_handsOver_32 : decode cX3_handsOver 32 = .ok (.iconst 1, 1) := by decide +kernel
theorem dX3_handsOver_33 : decode cX3_handsOver 33 = .ok (.goto 4, 3) := by decide +kernel
theorem dX3_handsOver_36 : decode cX3_handsOver 36 = .ok (.iconst 0, 1) := by decide +kernel
theorem dX3_handsOver_37 : decode cX3_handsOver 37 = .ok (.ireturn, 1) := by decide +kernel
theorem dX3_hasGoodBearer_0 : decode cX3_hasGoodBearer 0 = .ok (.iconst 0, 1) := by decide +kernel
theorem dX3_hasGoodBearer_1 : decode cX3_hasGoodBearer 1 = .ok (.istore_n 2, 1) := by decide +kernel
theorem dX3_hasGoodBearer_2 : decode cX3_hasGoodBearer 2 = .ok (.iload_n 2, 1) := by decide +kernel
theorem dX3_hasGoodBearer_3 : decode cX3_hasGoodBearer 3 = .ok (.aload_n 0, 1) := by decide +kernel
theorem dX3_hasGoodBearer_4 : decode cX3_hasGoodBearer 4 = .ok (.getfield 58, 3) := by decide +kernel
theorem dX3_hasGoodBearer_7 : decode cX3_hasGoodBearer 7 = .ok (.if_icmp .ge 36, 3) := by decide +kernel
theorem dX3_hasGoodBearer_10 : decode cX3_hasGoodBearer 10 = .ok (.aload_n 0, 1) := by decide +kernel
theorem dX3_hasGoodBearer_11 : decode cX3_hasGoodBearer 11 = .ok (.getfield 32, 3) := by decide +kernel
theorem dX3_hasGoodBearer_14 : decode cX3_hasGoodBearer 14 = .ok (.iload_n 2, 1) := by decide +kernel
theorem dX3_hasGoodBearer_15 : decode cX3_hasGoodBearer 15 = .ok (.aaload, 1) := by decide +kernel
theorem dX3_hasGoodBearer_16 : decode cX3_hasGoodBearer 16 = .ok (.getfield 61, 3) := by decide +kernel
theorem dX3_hasGoodBearer_19 : decode cX3_hasGoodBearer 19 = .ok (.iload_n 1, 1) := by decide +kernel
theorem dX3_hasGoodBearer_20 : decode cX3_hasGoodBearer 20 = .ok (.if_icmp .ne 17, 3) := by decide +kernel
theorem dX3_hasGoodBearer_23 : decode cX3_hasGoodBearer 23 = .ok (.aload_n 0, 1) := by decide +kernel
theorem dX3_hasGoodBearer_24 : decode cX3_hasGoodBearer 24 = .ok (.getfield 32, 3) := by decide +kernel
theorem dX3_hasGoodBearer_27 : decode cX3_hasGoodBearer 27 = .ok (.iload_n 2, 1) := by decide +kernel
theorem dX3_hasGoodBearer_28 : decode cX3_hasGoodBearer 28 = .ok (.aaload, 1) := by decide +kernel
theorem dX3_hasGoodBearer_29 : decode cX3_hasGoodBearer 29 = .ok (.getfield 73, 3) := by decide +kernel
theorem dX3_hasGoodBearer_32 : decode cX3_hasGoodBearer 32 = .ok (.ifCond .eq 5, 3) := by decide +kernel
theorem dX3_hasGoodBearer_35 : decode cX3_hasGoodBearer 35 = .ok (.iconst 1, 1) := by decide +kernel
theorem dX3_hasGoodBearer_36 : decode cX3_hasGoodBearer 36 = .ok (.ireturn, 1) := by decide +kernel
theorem dX3_hasGoodBearer_37 : decode cX3_hasGoodBearer 37 = .ok (.iinc 2 1, 3) := by decide +kernel
theorem dX3_hasGoodBearer_40 : decode cX3_hasGoodBearer 40 = .ok (.goto (-38), 3) := by decide +kernel
theorem dX3_hasGoodBearer_43 : decode cX3_hasGoodBearer 43 = .ok (.iconst 0, 1) := by decide +kernel
theorem dX3_hasGoodBearer_44 : decode cX3_hasGoodBearer 44 = .ok (.ireturn, 1) := by decide +kernel
theorem dX3_setUp_0 : decode cX3_setUp 0 = .ok (.aload_n 0, 1) := by decide +kernel
theorem dX3_setUp_1 : decode cX3_setUp 1 = .ok (.iload_n 1, 1) := by decide +kernel
theorem dX3_setUp_2 : decode cX3_setUp 2 = .ok (.invokevirtual 77, 3) := by decide +kernel
theorem dX3_setUp_5 : decode cX3_setUp 5 = .ok (.istore_n 2, 1) := by decide +kernel
theorem dX3_setUp_6 : decode cX3_setUp 6 = .ok (.iload_n 2, 1) := by decide +kernel
theorem dX3_setUp_7 : decode cX3_setUp 7 = .ok (.ifCond .ge 4, 3) := by decide +kernel
theorem dX3_setUp_10 : decode cX3_setUp 10 = .ok (.return_, 1) := by decide +kernel
theorem dX3_setUp_11 : decode cX3_setUp 11 = .ok (.aload_n 0, 1) := by decide +kernel
theorem dX3_setUp_12 : decode cX3_setUp 12 = .ok (.iload_n 1, 1) := by decide +kernel
theorem dX3_setUp_13 : decode cX3_setUp 13 = .ok (.iload_n 2, 1) := by decide +kernel
theorem dX3_setUp_14 : decode cX3_setUp 14 = .ok (.invokevirtual 80, 3) := by decide +kernel
theorem dX3_setUp_17 : decode cX3_setUp 17 = .ok (.istore_n 3, 1) := by decide +kernel
theorem dX3_setUp_18 : decode cX3_setUp 18 = .ok (.iload_n 3, 1) := by decide +kernel
theorem dX3_setUp_19 : decode cX3_setUp 19 = .ok (.ifCond .lt 10, 3) := by decide +kernel
theorem dX3_setUp_22 : decode cX3_setUp 22 = .ok (.aload_n 0, 1) := by decide +kernel
theorem dX3_setUp_23 : decode cX3_setUp 23 = .ok (.iload_n 1, 1) := by decide +kernel
theorem dX3_setUp_24 : decode cX3_setUp 24 = .ok (.iload_n 2, 1) := by decide +kernel
theorem dX3_setUp_25 : decode cX3_setUp 25 = .ok (.iload_n 3, 1) := by decide +kernel
theorem dX3_setUp_26 : decode cX3_setUp 26 = .ok (.invokevirtual 83, 3) := by decide +kernel
theorem dX3_setUp_29 : decode cX3_setUp 29 = .ok (.return_, 1) := by decide +kernel
theorem dX3_chooseCell_0 : decode cX3_chooseCell 0 = .ok (.aload_n 0, 1) := by decide +kernel
theorem dX3_chooseCell_1 : decode cX3_chooseCell 1 = .ok (.iload_n 1, 1) := by decide +kernel
theorem dX3_chooseCell_2 : decode cX3_chooseCell 2 = .ok (.invokevirtual 64, 3) := by decide +kernel
theorem dX3_chooseCell_5 : decode cX3_chooseCell 5 = .ok (.istore_n 2, 1) := by decide +kernel
theorem dX3_chooseCell_6 : decode cX3_chooseCell 6 = .ok (.iload_n 2, 1) := by decide +kernel
theorem dX3_chooseCell_7 : decode cX3_chooseCell 7 = .ok (.ifCond .ge 8, 3) := by decide +kernel
theorem dX3_chooseCell_10 : decode cX3_chooseCell 10 = .ok (.bipush (-9), 2) := by decide +kernel
theorem dX3_chooseCell_12 : decode cX3_chooseCell 12 = .ok (.goto 12, 3) := by decide +kernel
theorem dX3_chooseCell_15 : decode cX3_chooseCell 15 = .ok (.aload_n 0, 1) := by decide +kernel
theorem dX3_chooseCell_16 : decode cX3_chooseCell 16 = .ok (.getfield 32, 3) := by decide +kernel
theorem dX3_chooseCell_19 : decode cX3_chooseCell 19 = .ok (.iload_n 2, 1) := by decide +kernel
theorem dX3_chooseCell_20 : decode cX3_chooseCell 20 = .ok (.aaload, 1) := by decide +kernel
theorem dX3_chooseCell_21 : decode cX3_chooseCell 21 = .ok (.getfield 87, 3) := by decide +kernel
theorem dX3_chooseCell_24 : decode cX3_chooseCell 24 = .ok (.istore_n 3, 1) := by decide +kernel
theorem dX3_chooseCell_25 : decode cX3_chooseCell 25 = .ok (.bipush (-9), 2) := by decide +kernel
theorem dX3_chooseCell_27 : decode cX3_chooseCell 27 = .ok (.istore 4, 2) := by decide +kernel
theorem dX3_chooseCell_29 : decode cX3_chooseCell 29 = .ok (.iconst 0, 1) := by decide +kernel
theorem dX3_chooseCell_30 : decode cX3_chooseCell 30 = .ok (.istore 5, 2) := by decide +kernel
theorem dX3_chooseCell_32 : decode cX3_chooseCell 32 = .ok (.iload 5, 2) := by decide +kernel
theorem dX3_chooseCell_34 : decode cX3_chooseCell 34 = .ok (.aload_n 0, 1) := by decide +kernel
theorem dX3_chooseCell_35 : decode cX3_chooseCell 35 = .ok (.getfield 37, 3) := by decide +kernel
theorem dX3_chooseCell_38 : decode cX3_chooseCell 38 = .ok (.if_icmp .ge 44, 3) := by decide +kernel
theorem dX3_chooseCell_41 : decode cX3_chooseCell 41 = .ok (.aload_n 0, 1) := by decide +kernel
theorem dX3_chooseCell_42 : decode cX3_chooseCell 42 = .ok (.iload 5, 2) := by decide +kernel
theorem dX3_chooseCell_44 : decode cX3_chooseCell 44 = .ok (.aload_n 0, 1) := by decide +kernel
theorem dX3_chooseCell_45 : decode cX3_chooseCell 45 = .ok (.getfield 15, 3) := by decide +kernel
theorem dX3_chooseCell_48 : decode cX3_chooseCell 48 = .ok (.iload_n 1, 1) := by decide +kernel
theorem dX3_chooseCell_49 : decode cX3_chooseCell 49 = .ok (.iaload, 1) := by decide +kernel
theorem dX3_chooseCell_50 : decode cX3_chooseCell 50 = .ok (.aload_n 0, 1) := by decide +kernel
theorem dX3_chooseCell_51 : decode cX3_chooseCell 51 = .ok (.getfield 9, 3) := by decide +kernel
theorem dX3_chooseCell_54 : decode cX3_chooseCell 54 = .ok (.iload 5, 2) := by decide +kernel
theorem dX3_chooseCell_56 : decode cX3_chooseCell 56 = .ok (.iaload, 1) := by decide +kernel
theorem dX3_chooseCell_57 : decode cX3_chooseCell 57 = .ok (.invokevirtual 90, 3) := by decide +kernel
theorem dX3_chooseCell_60 : decode cX3_chooseCell 60 = .ok (.ifCond .eq 16, 3) := by decide +kernel
theorem dX3_chooseCell_63 : decode cX3_chooseCell 63 = .ok (.iload 5, 2) := by decide +kernel
theorem dX3_chooseCell_65 : decode cX3_chooseCell 65 = .ok (.iload_n 3, 1) := by decide +kernel
theorem dX3_chooseCell_66 : decode cX3_chooseCell 66 = .ok (.if_icmp .eq 6, 3) := by decide +kernel
theorem dX3_chooseCell_69 : decode cX3_chooseCell 69 = .ok (.iload 5, 2) := by decide +kernel
theorem dX3_chooseCell_71 : decode cX3_chooseCell 71 = .ok (.ireturn, 1) := by decide +kernel
theorem dX3_chooseCell_72 : decode cX3_chooseCell 72 = .ok (.iload 5, 2) := by decide +kernel
theorem dX3_chooseCell_74 : decode cX3_chooseCell 74 = .ok (.istore 4, 2) := by decide +kernel
theorem dX3_chooseCell_76 : decode cX3_chooseCell 76 = .ok (.iinc 5 1, 3) := by decide +kernel
theorem dX3_chooseCell_79 : decode cX3_chooseCell 79 = .ok (.goto (-47), 3) := by decide +kernel
theorem dX3_chooseCell_82 : decode cX3_chooseCell 82 = .ok (.iload 4, 2) := by decide +kernel
theorem dX3_chooseCell_84 : decode cX3_chooseCell 84 = .ok (.ireturn, 1) := by decide +kernel
theorem dX3_chooseChannel_0 : decode cX3_chooseChannel 0 = .ok (.aload_n 0, 1) := by decide +kernel
theorem dX3_chooseChannel_1 : decode cX3_chooseChannel 1 = .ok (.iload_n 1, 1) := by decide +kernel
theorem dX3_chooseChannel_2 : decode cX3_chooseChannel 2 = .ok (.iload_n 2, 1) := by decide +kernel
theorem dX3_chooseChannel_3 : decode cX3_chooseChannel 3 = .ok (.invokevirtual 94, 3) := by decide +kernel
theorem dX3_chooseChannel_6 : decode cX3_chooseChannel 6 = .ok (.istore_n 3, 1) := by decide +kernel
theorem dX3_chooseChannel_7 : decode cX3_chooseChannel 7 = .ok (.aload_n 0, 1) := by decide +kernel
theorem dX3_chooseChannel_8 : decode cX3_chooseChannel 8 = .ok (.iload_n 1, 1) := by decide +kernel
theorem dX3_chooseChannel_9 : decode cX3_chooseChannel 9 = .ok (.iload_n 2, 1) := by decide +kernel
theorem dX3_chooseChannel_10 : decode cX3_chooseChannel 10 = .ok (.invokevirtual 97, 3) := by decide +kernel
theorem dX3_chooseChannel_13 : decode cX3_chooseChannel 13 = .ok (.istore 4, 2) := by decide +kernel
theorem dX3_chooseChannel_15 : decode cX3_chooseChannel 15 = .ok (.aload_n 0, 1) := by decide +kernel
theorem dX3_chooseChannel_16 : decode cX3_chooseChannel 16 = .ok (.iload_n 1, 1) := by decide +kernel
theorem dX3_chooseChannel_17 : decode cX3_chooseChannel 17 = .ok (.iload_n 2, 1) := by decide +kernel
theorem dX3_chooseChannel_18 : decode cX3_chooseChannel 18 = .ok (.invokevirtual 100, 3) := by decide +kernel
theorem dX3_chooseChannel_21 : decode cX3_chooseChannel 21 = .ok (.istore 5, 2) := by decide +kernel
theorem dX3_chooseChannel_23 : decode cX3_chooseChannel 23 = .ok (.aload_n 0, 1) := by decide +kernel
theorem dX3_chooseChannel_24 : decode cX3_chooseChannel 24 = .ok (.iload_n 1, 1) := by decide +kernel
theorem dX3_chooseChannel_25 : decode cX3_chooseChannel 25 = .ok (.iload_n 2, 1) := by decide +kernel
theorem dX3_chooseChannel_26 : decode cX3_chooseChannel 26 = .ok (.invokevirtual 54, 3) := by decide +kernel
theorem dX3_chooseChannel_29 : decode cX3_chooseChannel 29 = .ok (.istore 6, 2) := by decide +kernel
theorem dX3_chooseChannel_31 : decode cX3_chooseChannel 31 = .ok (.iconst 4, 1) := by decide +kernel
theorem dX3_chooseChannel_32 : decode cX3_chooseChannel 32 = .ok (.istore 7, 2) := by decide +kernel
theorem dX3_chooseChannel_34 : decode cX3_chooseChannel 34 = .ok (.bipush (-9), 2) := by decide +kernel
theorem dX3_chooseChannel_36 : decode cX3_chooseChannel 36 = .ok (.istore 8, 2) := by decide +kernel
theorem dX3_chooseChannel_38 : decode cX3_chooseChannel 38 = .ok (.iconst 0, 1) := by decide +kernel
theorem dX3_chooseChannel_39 : decode cX3_chooseChannel 39 = .ok (.istore 9, 2) := by decide +kernel
theorem dX3_chooseChannel_41 : decode cX3_chooseChannel 41 = .ok (.iload 9, 2) := by decide +kernel
theorem dX3_chooseChannel_43 : decode cX3_chooseChannel 43 = .ok (.bipush 120, 2) := by decide +kernel
theorem dX3_chooseChannel_45 : decode cX3_chooseChannel 45 = .ok (.if_icmp .ge 55, 3) := by decide +kernel
theorem dX3_chooseChannel_48 : decode cX3_chooseChannel 48 = .ok (.iload 7, 2) := by decide +kernel
theorem dX3_chooseChannel_50 : decode cX3_chooseChannel 50 = .ok (.ifCond .le 50, 3) := by decide +kernel
theorem dX3_chooseChannel_53 : decode cX3_chooseChannel 53 = .ok (.iload_n 3, 1) := by decide +kernel
theorem dX3_chooseChannel_54 : decode cX3_chooseChannel 54 = .ok (.iconst 1, 1) := by decide +kernel
theorem dX3_chooseChannel_55 : decode cX3_chooseChannel 55 = .ok (.iload 9, 2) := by decide +kernel
theorem dX3_chooseChannel_57 : decode cX3_chooseChannel 57 = .ok (.bipush 10, 2) := by decide +kernel
theorem dX3_chooseChannel_59 : decode cX3_chooseChannel 59 = .ok (.idiv, 1) := by decide +kernel
theorem dX3_chooseChannel_60 : decode cX3_chooseChannel 60 = .ok (.ishl, 1) := by decide +kernel
theorem dX3_chooseChannel_61 : decode cX3_chooseChannel 61 = .ok (.iand, 1) := by decide +kernel
theorem dX3_chooseChannel_62 : decode cX3_chooseChannel 62 = .ok (.ifCond .ne 32, 3) := by decide +kernel
theorem dX3_chooseChannel_65 : decode cX3_chooseChannel 65 = .ok (.aload_n 0, 1) := by decide +kernel
theorem dX3_chooseChannel_66 : decode cX3_chooseChannel 66 = .ok (.iload 9, 2) := by decide +kernel
theorem dX3_chooseChannel_68 : decode cX3_chooseChannel 68 = .ok (.iload 4, 2) := by decide +kernel
theorem dX3_chooseChannel_70 : decode cX3_chooseChannel 70 = .ok (.iload 5, 2) := by decide +kernel
theorem dX3_chooseChannel_72 : decode cX3_chooseChannel 72 = .ok (.iload 6, 2) := by decide +kernel
theorem dX3_chooseChannel_74 : decode cX3_chooseChannel 74 = .ok (.invokevirtual 103, 3) := by decide +kernel
theorem dX3_chooseChannel_77 : decode cX3_chooseChannel 77 = .ok (.istore 10, 2) := by decide +kernel
theorem dX3_chooseChannel_79 : decode cX3_chooseChannel 79 = .ok (.iload 10, 2) := by decide +kernel
theorem dX3_chooseChannel_81 : decode cX3_chooseChannel 81 = .ok (.iload 7, 2) := by decide +kernel
theorem dX3_chooseChannel_83 : decode cX3_chooseChannel 83 = .ok (.if_icmp .ge 11, 3) := by decide +kernel
theorem dX3_chooseChannel_86 : decode cX3_chooseChannel 86 = .ok (.iload 10, 2) := by decide +kernel
theorem dX3_chooseChannel_88 : decode cX3_chooseChannel 88 = .ok (.istore 7, 2) := by decide +kernel
theorem dX3_chooseChannel_90 : decode cX3_chooseChannel 90 = .ok (.iload 9, 2) := by decide +kernel
theorem dX3_chooseChannel_92 : decode cX3_chooseChannel 92 = .ok (.istore 8, 2) := by decide +kernel
theorem dX3_chooseChannel_94 : decode cX3_chooseChannel 94 = .ok (.iinc 9 1, 3) := by decide +kernel
theorem dX3_chooseChannel_97 : decode cX3_chooseChannel 97 = .ok (.goto (-56), 3) := by decide +kernel
theorem dX3_chooseChannel_100 : decode cX3_chooseChannel 100 = .ok (.iload 8, 2) := by decide +kernel
theorem dX3_chooseChannel_102 : decode cX3_chooseChannel 102 = .ok (.ireturn, 1) := by decide +kernel
end
section
theorem dX3_takenSlots_0 : decode cX3_takenSlots 0 = .ok (.iconst 1, 1) := by decide +kernel
theorem dX3_takenSlots_1 : decode cX3_takenSlots 1 = .ok (.aload_n 0, 1) := by decide +kernel
theorem dX3_takenSlots_2 : decode cX3_takenSlots 2 = .ok (.getfield 9, 3) := by decide +kernel
theorem dX3_takenSlots_5 : decode cX3_takenSlots 5 = .ok (.iload_n 2, 1) := by decide +kernel
theorem dX3_takenSlots_6 : decode cX3_takenSlots 6 = .ok (.iaload, 1) := by decide +kernel
theorem dX3_takenSlots_7 : decode cX3_takenSlots 7 = .ok (.bipush 10, 2) := by decide +kernel
theorem dX3_takenSlots_9 : decode cX3_takenSlots 9 = .ok (.idiv, 1) := by decide +kernel
theorem dX3_takenSlots_10 : decode cX3_takenSlots 10 = .ok (.ishl, 1) := by decide +kernel
theorem dX3_takenSlots_11 : decode cX3_takenSlots 11 = .ok (.istore_n 3, 1) := by decide +kernel
theorem dX3_takenSlots_12 : decode cX3_takenSlots 12 = .ok (.iconst 0, 1) := by decide +kernel
theorem dX3_takenSlots_13 : decode cX3_takenSlots 13 = .ok (.istore 4, 2) := by decide +kernel
theorem dX3_takenSlots_15 : decode cX3_takenSlots 15 = .ok (.iload 4, 2) := by decide +kernel
theorem dX3_takenSlots_17 : decode cX3_takenSlots 17 = .ok (.aload_n 0, 1) := by decide +kernel
theorem dX3_takenSlots_18 : decode cX3_takenSlots 18 = .ok (.getfield 58, 3) := by decide +kernel
theorem dX3_takenSlots_21 : decode cX3_takenSlots 21 = .ok (.if_icmp .ge 55, 3) := by decide +kernel
theorem dX3_takenSlots_24 : decode cX3_takenSlots 24 = .ok (.aload_n 0, 1) := by decide +kernel
theorem dX3_takenSlots_25 : decode cX3_takenSlots 25 = .ok (.getfield 32, 3) := by decide +kernel
theorem dX3_takenSlots_28 : decode cX3_takenSlots 28 = .ok (.iload 4, 2) := by decide +kernel
theorem dX3_takenSlots_30 : decode cX3_takenSlots 30 = .ok (.aaload, 1) := by decide +kernel
theorem dX3_takenSlots_31 : decode cX3_takenSlots 31 = .ok (.getfield 61, 3) := by decide +kernel
theorem dX3_takenSlots_34 : decode cX3_takenSlots 34 = .ok (.iload_n 1, 1) := by decide +kernel
theorem dX3_takenSlots_35 : decode cX3_takenSlots 35 = .ok (.if_icmp .eq 17, 3) := by decide +kernel
theorem dX3_takenSlots_38 : decode cX3_takenSlots 38 = .ok (.aload_n 0, 1) := by decide +kernel
theorem dX3_takenSlots_39 : decode cX3_takenSlots 39 = .ok (.getfield 32, 3) := by decide +kernel
theorem dX3_takenSlots_42 : decode cX3_takenSlots 42 = .ok (.iload 4, 2) := by decide +kernel
theorem dX3_takenSlots_44 : decode cX3_takenSlots 44 = .ok (.aaload, 1) := by decide +kernel
theorem dX3_takenSlots_45 : decode cX3_takenSlots 45 = .ok (.getfield 87, 3) := by decide +kernel
theorem dX3_takenSlots_48 : decode cX3_takenSlots 48 = .ok (.iload_n 2, 1) := by decide +kernel
theorem dX3_takenSlots_49 : decode cX3_takenSlots 49 = .ok (.if_icmp .ne 21, 3) := by decide +kernel
theorem dX3_takenSlots_52 : decode cX3_takenSlots 52 = .ok (.iload_n 3, 1) := by decide +kernel
theorem dX3_takenSlots_53 : decode cX3_takenSlots 53 = .ok (.iconst 1, 1) := by decide +kernel
theorem dX3_takenSlots_54 : decode cX3_takenSlots 54 = .ok (.aload_n 0, 1) := by decide +kernel
theorem dX3_takenSlots_55 : decode cX3_takenSlots 55 = .ok (.getfield 32, 3) := by decide +kernel
theorem dX3_takenSlots_58 : decode cX3_takenSlots 58 = .ok (.iload 4, 2) := by decide +kernel
theorem dX3_takenSlots_60 : decode cX3_takenSlots 60 = .ok (.aaload, 1) := by decide +kernel
theorem dX3_takenSlots_61 : decode cX3_takenSlots 61 = .ok (.getfield 107, 3) := by decide +kernel
theorem dX3_takenSlots_64 : decode cX3_takenSlots 64 = .ok (.bipush 10, 2) := by decide +kernel
theorem dX3_takenSlots_66 : decode cX3_takenSlots 66 = .ok (.idiv, 1) := by decide +kernel
theorem dX3_takenSlots_67 : decode cX3_takenSlots 67 = .ok (.ishl, 1) := by decide +kernel
theorem dX3_takenSlots_68 : decode cX3_takenSlots 68 = .ok (.ior, 1) := by decide +kernel
theorem dX3_takenSlots_69 : decode cX3_takenSlots 69 = .ok (.istore_n 3, 1) := by decide +kernel
theorem dX3_takenSlots_70 : decode cX3_takenSlots 70 = .ok (.iinc 4 1, 3) := by decide +kernel
theorem dX3_takenSlots_73 : decode cX3_takenSlots 73 = .ok (.goto (-58), 3) := by decide +kernel
theorem dX3_takenSlots_76 : decode cX3_takenSlots 76 = .ok (.iload_n 3, 1) := by decide +kernel
theorem dX3_takenSlots_77 : decode cX3_takenSlots 77 = .ok (.ireturn, 1) := by decide +kernel
theorem dX3_addBearer_0 : decode cX3_addBearer 0 = .ok (.aload_n 0, 1) := by decide +kernel
theorem dX3_addBearer_1 : decode cX3_addBearer 1 = .ok (.getfield 58, 3) := by decide +kernel
theorem dX3_addBearer_4 : decode cX3_addBearer 4 = .ok (.bipush 16, 2) := by decide +kernel
theorem dX3_addBearer_6 : decode cX3_addBearer 6 = .ok (.if_icmp .lt 4, 3) := by decide +kernel
theorem dX3_addBearer_9 : decode cX3_addBearer 9 = .ok (.return_, 1) := by decide +kernel
theorem dX3_addBearer_10 : decode cX3_addBearer 10 = .ok (.aload_n 0, 1) := by decide +kernel
theorem dX3_addBearer_11 : decode cX3_addBearer 11 = .ok (.getfield 32, 3) := by decide +kernel
theorem dX3_addBearer_14 : decode cX3_addBearer 14 = .ok (.aload_n 0, 1) := by decide +kernel
theorem dX3_addBearer_15 : decode cX3_addBearer 15 = .ok (.getfield 58, 3) := by decide +kernel
theorem dX3_addBearer_18 : decode cX3_addBearer 18 = .ok (.aaload, 1) := by decide +kernel
theorem dX3_addBearer_19 : decode cX3_addBearer 19 = .ok (.astore 4, 2) := by decide +kernel
theorem dX3_addBearer_21 : decode cX3_addBearer 21 = .ok (.aload 4, 2) := by decide +kernel
theorem dX3_addBearer_23 : decode cX3_addBearer 23 = .ok (.iload_n 1, 1) := by decide +kernel
theorem dX3_addBearer_24 : decode cX3_addBearer 24 = .ok (.putfield 61, 3) := by decide +kernel
theorem dX3_addBearer_27 : decode cX3_addBearer 27 = .ok (.aload 4, 2) := by decide +kernel
theorem dX3_addBearer_29 : decode cX3_addBearer 29 = .ok (.iload_n 2, 1) := by decide +kernel
theorem dX3_addBearer_30 : decode cX3_addBearer 30 = .ok (.putfield 87, 3) := by decide +kernel
theorem dX3_addBearer_33 : decode cX3_addBearer 33 = .ok (.aload 4, 2) := by decide +kernel
theorem dX3_addBearer_35 : decode cX3_addBearer 35 = .ok (.iload_n 3, 1) := by decide +kernel
theorem dX3_addBearer_36 : decode cX3_addBearer 36 = .ok (.putfield 107, 3) := by decide +kernel
theorem dX3_addBearer_39 : decode cX3_addBearer 39 = .ok (.aload 4, 2) := by decide +kernel
theorem dX3_addBearer_41 : decode cX3_addBearer 41 = .ok (.iconst 0, 1) := by decide +kernel
theorem dX3_addBearer_42 : decode cX3_addBearer 42 = .ok (.putfield 70, 3) := by decide +kernel
theorem dX3_addBearer_45 : decode cX3_addBearer 45 = .ok (.aload 4, 2) := by decide +kernel
theorem dX3_addBearer_47 : decode cX3_addBearer 47 = .ok (.iconst 0, 1) := by decide +kernel
theorem dX3_addBearer_48 : decode cX3_addBearer 48 = .ok (.putfield 73, 3) := by decide +kernel
theorem dX3_addBearer_51 : decode cX3_addBearer 51 = .ok (.aload_n 0, 1) := by decide +kernel
theorem dX3_addBearer_52 : decode cX3_addBearer 52 = .ok (.getfield 24, 3) := by decide +kernel
theorem dX3_addBearer_55 : decode cX3_addBearer 55 = .ok (.iload_n 3, 1) := by decide +kernel
theorem dX3_addBearer_56 : decode cX3_addBearer 56 = .ok (.dup2, 1) := by decide +kernel
theorem dX3_addBearer_57 : decode cX3_addBearer 57 = .ok (.iaload, 1) := by decide +kernel
theorem dX3_addBearer_58 : decode cX3_addBearer 58 = .ok (.iconst 1, 1) := by decide +kernel
theorem dX3_addBearer_59 : decode cX3_addBearer 59 = .ok (.iload_n 2, 1) := by decide +kernel
theorem dX3_addBearer_60 : decode cX3_addBearer 60 = .ok (.ishl, 1) := by decide +kernel
theorem dX3_addBearer_61 : decode cX3_addBearer 61 = .ok (.ior, 1) := by decide +kernel
theorem dX3_addBearer_62 : decode cX3_addBearer 62 = .ok (.iastore, 1) := by decide +kernel
theorem dX3_addBearer_63 : decode cX3_addBearer 63 = .ok (.aload_n 0, 1) := by decide +kernel
theorem dX3_addBearer_64 : decode cX3_addBearer 64 = .ok (.getfield 27, 3) := by decide +kernel
theorem dX3_addBearer_67 : decode cX3_addBearer 67 = .ok (.iload_n 3, 1) := by decide +kernel
theorem dX3_addBearer_68 : decode cX3_addBearer 68 = .ok (.dup2, 1) := by decide +kernel
theorem dX3_addBearer_69 : decode cX3_addBearer 69 = .ok (.iaload, 1) := by decide +kernel
theorem dX3_addBearer_70 : decode cX3_addBearer 70 = .ok (.iconst 1, 1) := by decide +kernel
theorem dX3_addBearer_71 : decode cX3_addBearer 71 = .ok (.iload_n 1, 1) := by decide +kernel
theorem dX3_addBearer_72 : decode cX3_addBearer 72 = .ok (.ishl, 1) := by decide +kernel
theorem dX3_addBearer_73 : decode cX3_addBearer 73 = .ok (.ior, 1) := by decide +kernel
theorem dX3_addBearer_74 : decode cX3_addBearer 74 = .ok (.iastore, 1) := by decide +kernel
theorem dX3_addBearer_75 : decode cX3_addBearer 75 = .ok (.aload_n 0, 1) := by decide +kernel
theorem dX3_addBearer_76 : decode cX3_addBearer 76 = .ok (.dup, 1) := by decide +kernel
theorem dX3_addBearer_77 : decode cX3_addBearer 77 = .ok (.getfield 58, 3) := by decide +kernel
theorem dX3_addBearer_80 : decode cX3_addBearer 80 = .ok (.iconst 1, 1) := by decide +kernel
theorem dX3_addBearer_81 : decode cX3_addBearer 81 = .ok (.iadd, 1) := by decide +kernel
theorem dX3_addBearer_82 : decode cX3_addBearer 82 = .ok (.putfield 58, 3) := by decide +kernel
theorem dX3_addBearer_85 : decode cX3_addBearer 85 = .ok (.aload_n 0, 1) := by decide +kernel
theorem dX3_addBearer_86 : decode cX3_addBearer 86 = .ok (.dup, 1) := by decide +kernel
theorem dX3_addBearer_87 : decode cX3_addBearer 87 = .ok (.getfield 110, 3) := by decide +kernel
theorem dX3_addBearer_90 : decode cX3_addBearer 90 = .ok (.iconst 1, 1) := by decide +kernel
theorem dX3_addBearer_91 : decode cX3_addBearer 91 = .ok (.iadd, 1) := by decide +kernel
theorem dX3_addBearer_92 : decode cX3_addBearer 92 = .ok (.putfield 110, 3) := by decide +kernel
theorem dX3_addBearer_95 : decode cX3_addBearer 95 = .ok (.return_, 1) := by decide +kernel
theorem dX3_sendAll_0 : decode cX3_sendAll 0 = .ok (.iconst 0, 1) := by decide +kernel
theorem dX3_sendAll_1 : decode cX3_sendAll 1 = .ok (.istore_n 1, 1) := by decide +kernel
theorem dX3_sendAll_2 : decode cX3_sendAll 2 = .ok (.iload_n 1, 1) := by decide +kernel
theorem dX3_sendAll_3 : decode cX3_sendAll 3 = .ok (.aload_n 0, 1) := by decide +kernel
theorem dX3_sendAll_4 : decode cX3_sendAll 4 = .ok (.getfield 58, 3) := by decide +kernel
theorem dX3_sendAll_7 : decode cX3_sendAll 7 = .ok (.if_icmp .ge 89, 3) := by decide +kernel
theorem dX3_sendAll_10 : decode cX3_sendAll 10 = .ok (.aload_n 0, 1) := by decide +kernel
theorem dX3_sendAll_11 : decode cX3_sendAll 11 = .ok (.getfield 32, 3) := by decide +kernel
theorem dX3_sendAll_14 : decode cX3_sendAll 14 = .ok (.iload_n 1, 1) := by decide +kernel
theorem dX3_sendAll_15 : decode cX3_sendAll 15 = .ok (.aaload, 1) := by decide +kernel
theorem dX3_sendAll_16 : decode cX3_sendAll 16 = .ok (.astore_n 2, 1) := by decide +kernel
theorem dX3_sendAll_17 : decode cX3_sendAll 17 = .ok (.aload_n 2, 1) := by decide +kernel
theorem dX3_sendAll_18 : decode cX3_sendAll 18 = .ok (.aload_n 0, 1) := by decide +kernel
theorem dX3_sendAll_19 : decode cX3_sendAll 19 = .ok (.aload_n 2, 1) := by decide +kernel
theorem dX3_sendAll_20 : decode cX3_sendAll 20 = .ok (.getfield 87, 3) := by decide +kernel
theorem dX3_sendAll_23 : decode cX3_sendAll 23 = .ok (.aload_n 0, 1) := by decide +kernel
theorem dX3_sendAll_24 : decode cX3_sendAll 24 = .ok (.getfield 15, 3) := by decide +kernel
theorem dX3_sendAll_27 : decode cX3_sendAll 27 = .ok (.aload_n 2, 1) := by decide +kernel
theorem dX3_sendAll_28 : decode cX3_sendAll 28 = .ok (.getfield 61, 3) := by decide +kernel
theorem dX3_sendAll_31 : decode cX3_sendAll 31 = .ok (.iaload, 1) := by decide +kernel
theorem dX3_sendAll_32 : decode cX3_sendAll 32 = .ok (.aload_n 2, 1) := by decide +kernel
theorem dX3_sendAll_33 : decode cX3_sendAll 33 = .ok (.getfield 107, 3) := by decide +kernel
theorem dX3_sendAll_36 : decode cX3_sendAll 36 = .ok (.invokevirtual 90, 3) := by decide +kernel
theorem dX3_sendAll_39 : decode cX3_sendAll 39 = .ok (.ifCond .eq 26, 3) := by decide +kernel
theorem dX3_sendAll_42 : decode cX3_sendAll 42 = .ok (.aload_n 0, 1) := by decide +kernel
theorem dX3_sendAll_43 : decode cX3_sendAll 43 = .ok (.aload_n 2, 1) := by decide +kernel
theorem dX3_sendAll_44 : decode cX3_sendAll 44 = .ok (.getfield 61, 3) := by decide +kernel
theorem dX3_sendAll_47 : decode cX3_sendAll 47 = .ok (.aload_n 2, 1) := by decide +kernel
theorem dX3_sendAll_48 : decode cX3_sendAll 48 = .ok (.getfield 87, 3) := by decide +kernel
theorem dX3_sendAll_51 : decode cX3_sendAll 51 = .ok (.aload_n 2, 1) := by decide +kernel
theorem dX3_sendAll_52 : decode cX3_sendAll 52 = .ok (.getfield 107, 3) := by decide +kernel
theorem dX3_sendAll_55 : decode cX3_sendAll 55 = .ok (.invokevirtual 113, 3) := by decide +kernel
theorem dX3_sendAll_58 : decode cX3_sendAll 58 = .ok (.ifCond .eq 7, 3) := by decide +kernel
theorem dX3_sendAll_61 : decode cX3_sendAll 61 = .ok (.iconst 1, 1) := by decide +kernel
theorem dX3_sendAll_62 : decode cX3_sendAll 62 = .ok (.goto 4, 3) := by decide +kernel
theorem dX3_sendAll_65 : decode cX3_sendAll 65 = .ok (.iconst 0, 1) := by decide +kernel
theorem dX3_sendAll_66 : decode cX3_sendAll 66 = .ok (.putfield 73, 3) := by decide +kernel
theorem dX3_sendAll_69 : decode cX3_sendAll 69 = .ok (.aload_n 2, 1) := by decide +kernel
theorem dX3_sendAll_70 : decode cX3_sendAll 70 = .ok (.aload_n 2, 1) := by decide +kernel
theorem dX3_sendAll_71 : decode cX3_sendAll 71 = .ok (.getfield 73, 3) := by decide +kernel
theorem dX3_sendAll_74 : decode cX3_sendAll 74 = .ok (.ifCond .eq 7, 3) := by decide +kernel
theorem dX3_sendAll_77 : decode cX3_sendAll 77 = .ok (.iconst 0, 1) := by decide +kernel
theorem dX3_sendAll_78 : decode cX3_sendAll 78 = .ok (.goto 9, 3) := by decide +kernel
theorem dX3_sendAll_81 : decode cX3_sendAll 81 = .ok (.aload_n 2, 1) := by decide +kernel
theorem dX3_sendAll_82 : decode cX3_sendAll 82 = .ok (.getfield 70, 3) := by decide +kernel
theorem dX3_sendAll_85 : decode cX3_sendAll 85 = .ok (.iconst 1, 1) := by decide +kernel
theorem dX3_sendAll_86 : decode cX3_sendAll 86 = .ok (.iadd, 1) := by decide +kernel
theorem dX3_sendAll_87 : decode cX3_sendAll 87 = .ok (.putfield 70, 3) := by decide +kernel
theorem dX3_sendAll_90 : decode cX3_sendAll 90 = .ok (.iinc 1 1, 3) := by decide +kernel
theorem dX3_sendAll_93 : decode cX3_sendAll 93 = .ok (.goto (-91), 3) := by decide +kernel
theorem dX3_sendAll_96 : decode cX3_sendAll 96 = .ok (.return_, 1) := by decide +kernel
theorem dX3_dropFailed_0 : decode cX3_dropFailed 0 = .ok (.aload_n 0, 1) := by decide +kernel
theorem dX3_dropFailed_1 : decode cX3_dropFailed 1 = .ok (.getfield 58, 3) := by decide +kernel
theorem dX3_dropFailed_4 : decode cX3_dropFailed 4 = .ok (.iconst 1, 1) := by decide +kernel
theorem dX3_dropFailed_5 : decode cX3_dropFailed 5 = .ok (.isub, 1) := by decide +kernel
theorem dX3_dropFailed_6 : decode cX3_dropFailed 6 = .ok (.istore_n 1, 1) := by decide +kernel
theorem dX3_dropFailed_7 : decode cX3_dropFailed 7 = .ok (.iload_n 1, 1) := by decide +kernel
theorem dX3_dropFailed_8 : decode cX3_dropFailed 8 = .ok (.ifCond .lt 28, 3) := by decide +kernel
theorem dX3_dropFailed_11 : decode cX3_dropFailed 11 = .ok (.aload_n 0, 1) := by decide +kernel
theorem dX3_dropFailed_12 : decode cX3_dropFailed 12 = .ok (.getfield 32, 3) := by decide +kernel
theorem dX3_dropFailed_15 : decode cX3_dropFailed 15 = .ok (.iload_n 1, 1) := by decide +kernel
theorem dX3_dropFailed_16 : decode cX3_dropFailed 16 = .ok (.aaload, 1) := by decide +kernel
theorem dX3_dropFailed_17 : decode cX3_dropFailed 17 = .ok (.getfield 70, 3) := by decide +kernel
theorem dX3_dropFailed_20 : decode cX3_dropFailed 20 = .ok (.bipush 8, 2) := by decide +kernel
theorem dX3_dropFailed_22 : decode cX3_dropFailed 22 = .ok (.if_icmp .lt 8, 3) := by decide +kernel
theorem dX3_dropFailed_25 : decode cX3_dropFailed 25 = .ok (.aload_n 0, 1) := by decide +kernel
theorem dX3_dropFailed_26 : decode cX3_dropFailed 26 = .ok (.iload_n 1, 1) := by decide +kernel
theorem dX3_dropFailed_27 : decode cX3_dropFailed 27 = .ok (.invokevirtual 116, 3) := by decide +kernel
theorem dX3_dropFailed_30 : decode cX3_dropFailed 30 = .ok (.iinc 1 (-1), 3) := by decide +kernel
theorem dX3_dropFailed_33 : decode cX3_dropFailed 33 = .ok (.goto (-26), 3) := by decide +kernel
theorem dX3_dropFailed_36 : decode cX3_dropFailed 36 = .ok (.return_, 1) := by decide +kernel
theorem dX3_dropFirstForSecond_0 : decode cX3_dropFirstForSecond 0 = .ok (.aload_n 0, 1) := by decide +kernel
theorem dX3_dropFirstForSecond_1 : decode cX3_dropFirstForSecond 1 = .ok (.iload_n 1, 1) := by decide +kernel
theorem dX3_dropFirstForSecond_2 : decode cX3_dropFirstForSecond 2 = .ok (.invokevirtual 64, 3) := by decide +kernel
theorem dX3_dropFirstForSecond_5 : decode cX3_dropFirstForSecond 5 = .ok (.istore_n 2, 1) := by decide +kernel
theorem dX3_dropFirstForSecond_6 : decode cX3_dropFirstForSecond 6 = .ok (.aload_n 0, 1) := by decide +kernel
theorem dX3_dropFirstForSecond_7 : decode cX3_dropFirstForSecond 7 = .ok (.iload_n 1, 1) := by decide +kernel
theorem dX3_dropFirstForSecond_8 : decode cX3_dropFirstForSecond 8 = .ok (.invokevirtual 67, 3) := by decide +kernel
theorem dX3_dropFirstForSecond_11 : decode cX3_dropFirstForSecond 11 = .ok (.istore_n 3, 1) := by decide +kernel
theorem dX3_dropFirstForSecond_12 : decode cX3_dropFirstForSecond 12 = .ok (.iload_n 2, 1) := by decide +kernel
theorem dX3_dropFirstForSecond_13 : decode cX3_dropFirstForSecond 13 = .ok (.ifCond .lt 20, 3) := by decide +kernel
theorem dX3_dropFirstForSecond_16 : decode cX3_dropFirstForSecond 16 = .ok (.iload_n 2, 1) := by decide +kernel
theorem dX3_dropFirstForSecond_17 : decode cX3_dropFirstForSecond 17 = .ok (.iload_n 3, 1) := by decide +kernel
theorem dX3_dropFirstForSecond_18 : decode cX3_dropFirstForSecond 18 = .ok (.if_icmp .eq 15, 3) := by decide +kernel
theorem dX3_dropFirstForSecond_21 : decode cX3_dropFirstForSecond 21 = .ok (.aload_n 0, 1) := by decide +kernel
theorem dX3_dropFirstForSecond_22 : decode cX3_dropFirstForSecond 22 = .ok (.getfield 32, 3) := by decide +kernel
theorem dX3_dropFirstForSecond_25 : decode cX3_dropFirstForSecond 25 = .ok (.iload_n 3, 1) := by decide +kernel
theorem dX3_dropFirstForSecond_26 : decode cX3_dropFirstForSecond 26 = .ok (.aaload, 1) := by decide +kernel
theorem dX3_dropFirstForSecond_27 : decode cX3_dropFirstForSecond 27 = .ok (.getfield 73, 3) := by decide +kernel
theorem dX3_dropFirstForSecond_30 : decode cX3_dropFirstForSecond 30 = .ok (.ifCond .ne 5, 3) := by decide +kernel
theorem dX3_dropFirstForSecond_33 : decode cX3_dropFirstForSecond 33 = .ok (.iconst 0, 1) := by decide +kernel
theorem dX3_dropFirstForSecond_34 : decode cX3_dropFirstForSecond 34 = .ok (.ireturn, 1) := by decide +kernel
theorem dX3_dropFirstForSecond_35 : decode cX3_dropFirstForSecond 35 = .ok (.aload_n 0, 1) := by decide +kernel
theorem dX3_dropFirstForSecond_36 : decode cX3_dropFirstForSecond 36 = .ok (.iload_n 2, 1) := by decide +kernel
theorem dX3_dropFirstForSecond_37 : decode cX3_dropFirstForSecond 37 = .ok (.invokevirtual 116, 3) := by decide +kernel
theorem dX3_dropFirstForSecond_40 : decode cX3_dropFirstForSecond 40 = .ok (.iconst 1, 1) := by decide +kernel
theorem dX3_dropFirstForSecond_41 : decode cX3_dropFirstForSecond 41 = .ok (.ireturn, 1) := by decide +kernel
theorem dX3_dropBearersOf_0 : decode cX3_dropBearersOf 0 = .ok (.aload_n 0, 1) := by decide +kernel
theorem dX3_dropBearersOf_1 : decode cX3_dropBearersOf 1 = .ok (.getfield 58, 3) := by decide +kernel
theorem dX3_dropBearersOf_4 : decode cX3_dropBearersOf 4 = .ok (.iconst 1, 1) := by decide +kernel
theorem dX3_dropBearersOf_5 : decode cX3_dropBearersOf 5 = .ok (.isub, 1) := by decide +kernel
theorem dX3_dropBearersOf_6 : decode cX3_dropBearersOf 6 = .ok (.istore_n 2, 1) := by decide +kernel
theorem dX3_dropBearersOf_7 : decode cX3_dropBearersOf 7 = .ok (.iload_n 2, 1) := by decide +kernel
theorem dX3_dropBearersOf_8 : decode cX3_dropBearersOf 8 = .ok (.ifCond .lt 27, 3) := by decide +kernel
theorem dX3_dropBearersOf_11 : decode cX3_dropBearersOf 11 = .ok (.aload_n 0, 1) := by decide +kernel
theorem dX3_dropBearersOf_12 : decode cX3_dropBearersOf 12 = .ok (.getfield 32, 3) := by decide +kernel
theorem dX3_dropBearersOf_15 : decode cX3_dropBearersOf 15 = .ok (.iload_n 2, 1) := by decide +kernel
theorem dX3_dropBearersOf_16 : decode cX3_dropBearersOf 16 = .ok (.aaload, 1) := by decide +kernel
theorem dX3_dropBearersOf_17 : decode cX3_dropBearersOf 17 = .ok (.getfield 61, 3) := by decide +kernel
theorem dX3_dropBearersOf_20 : decode cX3_dropBearersOf 20 = .ok (.iload_n 1, 1) := by decide +kernel
theorem dX3_dropBearersOf_21 : decode cX3_dropBearersOf 21 = .ok (.if_icmp .ne 8, 3) := by decide +kernel
theorem dX3_dropBearersOf_24 : decode cX3_dropBearersOf 24 = .ok (.aload_n 0, 1) := by decide +kernel
theorem dX3_dropBearersOf_25 : decode cX3_dropBearersOf 25 = .ok (.iload_n 2, 1) := by decide +kernel
theorem dX3_dropBearersOf_26 : decode cX3_dropBearersOf 26 = .ok (.invokevirtual 116, 3) := by decide +kernel
theorem dX3_dropBearersOf_29 : decode cX3_dropBearersOf 29 = .ok (.iinc 2 (-1), 3) := by decide +kernel
theorem dX3_dropBearersOf_32 : decode cX3_dropBearersOf 32 = .ok (.goto (-25), 3) := by decide +kernel
theorem dX3_dropBearersOf_35 : decode cX3_dropBearersOf 35 = .ok (.return_, 1) := by decide +kernel
theorem dX3_dropBearer_0 : decode cX3_dropBearer 0 = .ok (.aload_n 0, 1) := by decide +kernel
theorem dX3_dropBearer_1 : decode cX3_dropBearer 1 = .ok (.getfield 32, 3) := by decide +kernel
theorem dX3_dropBearer_4 : decode cX3_dropBearer 4 = .ok (.iload_n 1, 1) := by decide +kernel
theorem dX3_dropBearer_5 : decode cX3_dropBearer 5 = .ok (.aaload, 1) := by decide +kernel
theorem dX3_dropBearer_6 : decode cX3_dropBearer 6 = .ok (.astore_n 2, 1) := by decide +kernel
theorem dX3_dropBearer_7 : decode cX3_dropBearer 7 = .ok (.aload_n 0, 1) := by decide +kernel
theorem dX3_dropBearer_8 : decode cX3_dropBearer 8 = .ok (.getfield 24, 3) := by decide +kernel
theorem dX3_dropBearer_11 : decode cX3_dropBearer 11 = .ok (.aload_n 2, 1) := by decide +kernel
theorem dX3_dropBearer_12 : decode cX3_dropBearer 12 = .ok (.getfield 107, 3) := by decide +kernel
theorem dX3_dropBearer_15 : decode cX3_dropBearer 15 = .ok (.dup2, 1) := by decide +kernel
theorem dX3_dropBearer_16 : decode cX3_dropBearer 16 = .ok (.iaload, 1) := by decide +kernel
theorem dX3_dropBearer_17 : decode cX3_dropBearer 17 = .ok (.iconst 1, 1) := by decide +kernel
theorem dX3_dropBearer_18 : decode cX3_dropBearer 18 = .ok (.aload_n 2, 1) := by decide +kernel
theorem dX3_dropBearer_19 : decode cX3_dropBearer 19 = .ok (.getfield 87, 3) := by decide +kernel
theorem dX3_dropBearer_22 : decode cX3_dropBearer 22 = .ok (.ishl, 1) := by decide +kernel
theorem dX3_dropBearer_23 : decode cX3_dropBearer 23 = .ok (.iconst (-1), 1) := by decide +kernel
theorem dX3_dropBearer_24 : decode cX3_dropBearer 24 = .ok (.ixor, 1) := by decide +kernel
theorem dX3_dropBearer_25 : decode cX3_dropBearer 25 = .ok (.iand, 1) := by decide +kernel
theorem dX3_dropBearer_26 : decode cX3_dropBearer 26 = .ok (.iastore, 1) := by decide +kernel
theorem dX3_dropBearer_27 : decode cX3_dropBearer 27 = .ok (.aload_n 0, 1) := by decide +kernel
theorem dX3_dropBearer_28 : decode cX3_dropBearer 28 = .ok (.getfield 27, 3) := by decide +kernel
theorem dX3_dropBearer_31 : decode cX3_dropBearer 31 = .ok (.aload_n 2, 1) := by decide +kernel
theorem dX3_dropBearer_32 : decode cX3_dropBearer 32 = .ok (.getfield 107, 3) := by decide +kernel
theorem dX3_dropBearer_35 : decode cX3_dropBearer 35 = .ok (.dup2, 1) := by decide +kernel
theorem dX3_dropBearer_36 : decode cX3_dropBearer 36 = .ok (.iaload, 1) := by decide +kernel
theorem dX3_dropBearer_37 : decode cX3_dropBearer 37 = .ok (.iconst 1, 1) := by decide +kernel
theorem dX3_dropBearer_38 : decode cX3_dropBearer 38 = .ok (.aload_n 2, 1) := by decide +kernel
theorem dX3_dropBearer_39 : decode cX3_dropBearer 39 = .ok (.getfield 61, 3) := by decide +kernel
theorem dX3_dropBearer_42 : decode cX3_dropBearer 42 = .ok (.ishl, 1) := by decide +kernel
theorem dX3_dropBearer_43 : decode cX3_dropBearer 43 = .ok (.iconst (-1), 1) := by decide +kernel
theorem dX3_dropBearer_44 : decode cX3_dropBearer 44 = .ok (.ixor, 1) := by decide +kernel
theorem dX3_dropBearer_45 : decode cX3_dropBearer 45 = .ok (.iand, 1) := by decide +kernel
theorem dX3_dropBearer_46 : decode cX3_dropBearer 46 = .ok (.iastore, 1) := by decide +kernel
theorem dX3_dropBearer_47 : decode cX3_dropBearer 47 = .ok (.aload_n 0, 1) := by decide +kernel
theorem dX3_dropBearer_48 : decode cX3_dropBearer 48 = .ok (.dup, 1) := by decide +kernel
theorem dX3_dropBearer_49 : decode cX3_dropBearer 49 = .ok (.getfield 58, 3) := by decide +kernel
theorem dX3_dropBearer_52 : decode cX3_dropBearer 52 = .ok (.iconst 1, 1) := by decide +kernel
theorem dX3_dropBearer_53 : decode cX3_dropBearer 53 = .ok (.isub, 1) := by decide +kernel
theorem dX3_dropBearer_54 : decode cX3_dropBearer 54 = .ok (.putfield 58, 3) := by decide +kernel
theorem dX3_dropBearer_57 : decode cX3_dropBearer 57 = .ok (.iload_n 1, 1) := by decide +kernel
theorem dX3_dropBearer_58 : decode cX3_dropBearer 58 = .ok (.istore_n 3, 1) := by decide +kernel
theorem dX3_dropBearer_59 : decode cX3_dropBearer 59 = .ok (.iload_n 3, 1) := by decide +kernel
theorem dX3_dropBearer_60 : decode cX3_dropBearer 60 = .ok (.aload_n 0, 1) := by decide +kernel
theorem dX3_dropBearer_61 : decode cX3_dropBearer 61 = .ok (.getfield 58, 3) := by decide +kernel
theorem dX3_dropBearer_64 : decode cX3_dropBearer 64 = .ok (.if_icmp .ge 23, 3) := by decide +kernel
theorem dX3_dropBearer_67 : decode cX3_dropBearer 67 = .ok (.aload_n 0, 1) := by decide +kernel
theorem dX3_dropBearer_68 : decode cX3_dropBearer 68 = .ok (.getfield 32, 3) := by decide +kernel
theorem dX3_dropBearer_71 : decode cX3_dropBearer 71 = .ok (.iload_n 3, 1) := by decide +kernel
theorem dX3_dropBearer_72 : decode cX3_dropBearer 72 = .ok (.aload_n 0, 1) := by decide +kernel
theorem dX3_dropBearer_73 : decode cX3_dropBearer 73 = .ok (.getfield 32, 3) := by decide +kernel
theorem dX3_dropBearer_76 : decode cX3_dropBearer 76 = .ok (.iload_n 3, 1) := by decide +kernel
theorem dX3_dropBearer_77 : decode cX3_dropBearer 77 = .ok (.iconst 1, 1) := by decide +kernel
theorem dX3_dropBearer_78 : decode cX3_dropBearer 78 = .ok (.iadd, 1) := by decide +kernel
theorem dX3_dropBearer_79 : decode cX3_dropBearer 79 = .ok (.aaload, 1) := by decide +kernel
theorem dX3_dropBearer_80 : decode cX3_dropBearer 80 = .ok (.aastore, 1) := by decide +kernel
theorem dX3_dropBearer_81 : decode cX3_dropBearer 81 = .ok (.iinc 3 1, 3) := by decide +kernel
theorem dX3_dropBearer_84 : decode cX3_dropBearer 84 = .ok (.goto (-25), 3) := by decide +kernel
theorem dX3_dropBearer_87 : decode cX3_dropBearer 87 = .ok (.aload_n 0, 1) := by decide +kernel
theorem dX3_dropBearer_88 : decode cX3_dropBearer 88 = .ok (.getfield 32, 3) := by decide +kernel
theorem dX3_dropBearer_91 : decode cX3_dropBearer 91 = .ok (.aload_n 0, 1) := by decide +kernel
theorem dX3_dropBearer_92 : decode cX3_dropBearer 92 = .ok (.getfield 58, 3) := by decide +kernel
theorem dX3_dropBearer_95 : decode cX3_dropBearer 95 = .ok (.aload_n 2, 1) := by decide +kernel
theorem dX3_dropBearer_96 : decode cX3_dropBearer 96 = .ok (.aastore, 1) := by decide +kernel
theorem dX3_dropBearer_97 : decode cX3_dropBearer 97 = .ok (.return_, 1) := by decide +kernel
theorem dX4_init_0 : decode cX4_init 0 = .ok (.aload_n 0, 1) := by decide +kernel
theorem dX4_init_1 : decode cX4_init 1 = .ok (.invokespecial 3, 3) := by decide +kernel
theorem dX4_init_4 : decode cX4_init 4 = .ok (.aload_n 0, 1) := by decide +kernel
theorem dX4_init_5 : decode cX4_init 5 = .ok (.new 9, 3) := by decide +kernel
theorem dX4_init_8 : decode cX4_init 8 = .ok (.dup, 1) := by decide +kernel
theorem dX4_init_9 : decode cX4_init 9 = .ok (.invokespecial 11, 3) := by decide +kernel
theorem dX4_init_12 : decode cX4_init 12 = .ok (.putfield 12, 3) := by decide +kernel
theorem dX4_init_15 : decode cX4_init 15 = .ok (.aload_n 0, 1) := by decide +kernel
theorem dX4_init_16 : decode cX4_init 16 = .ok (.bipush 8, 2) := by decide +kernel
theorem dX4_init_18 : decode cX4_init 18 = .ok (.anewarray 16, 3) := by decide +kernel
theorem dX4_init_21 : decode cX4_init 21 = .ok (.putfield 18, 3) := by decide +kernel
theorem dX4_init_24 : decode cX4_init 24 = .ok (.aload_n 0, 1) := by decide +kernel
theorem dX4_init_25 : decode cX4_init 25 = .ok (.bipush 7, 2) := by decide +kernel
theorem dX4_init_27 : decode cX4_init 27 = .ok (.newarray .int, 2) := by decide +kernel
theorem dX4_init_29 : decode cX4_init 29 = .ok (.putfield 22, 3) := by decide +kernel
theorem dX4_init_32 : decode cX4_init 32 = .ok (.return_, 1) := by decide +kernel
theorem dX4_cell_0 : decode cX4_cell 0 = .ok (.iload_n 1, 1) := by decide +kernel
theorem dX4_cell_1 : decode cX4_cell 1 = .ok (.invokestatic 26, 3) := by decide +kernel
theorem dX4_cell_4 : decode cX4_cell 4 = .ok (.ifCond .ne 9, 3) := by decide +kernel
theorem dX4_cell_7 : decode cX4_cell 7 = .ok (.aload_n 0, 1) := by decide +kernel
theorem dX4_cell_8 : decode cX4_cell 8 = .ok (.iconst (-1), 1) := by decide +kernel
theorem dX4_cell_9 : decode cX4_cell 9 = .ok (.invokevirtual 30, 3) := by decide +kernel
theorem dX4_cell_12 : decode cX4_cell 12 = .ok (.ireturn, 1) := by decide +kernel
theorem dX4_cell_13 : decode cX4_cell 13 = .ok (.aload_n 0, 1) := by decide +kernel
theorem dX4_cell_14 : decode cX4_cell 14 = .ok (.getfield 12, 3) := by decide +kernel
theorem dX4_cell_17 : decode cX4_cell 17 = .ok (.getfield 34, 3) := by decide +kernel
theorem dX4_cell_20 : decode cX4_cell 20 = .ok (.iconst 4, 1) := by decide +kernel
theorem dX4_cell_21 : decode cX4_cell 21 = .ok (.if_icmp .lt 10, 3) := by decide +kernel
theorem dX4_cell_24 : decode cX4_cell 24 = .ok (.aload_n 0, 1) := by decide +kernel
theorem dX4_cell_25 : decode cX4_cell 25 = .ok (.bipush (-6), 2) := by decide +kernel
theorem dX4_cell_27 : decode cX4_cell 27 = .ok (.invokevirtual 30, 3) := by decide +kernel
theorem dX4_cell_30 : decode cX4_cell 30 = .ok (.ireturn, 1) := by decide +kernel
theorem dX4_cell_31 : decode cX4_cell 31 = .ok (.aload_n 0, 1) := by decide +kernel
theorem dX4_cell_32 : decode cX4_cell 32 = .ok (.getfield 12, 3) := by decide +kernel
theorem dX4_cell_35 : decode cX4_cell 35 = .ok (.iload_n 1, 1) := by decide +kernel
theorem dX4_cell_36 : decode cX4_cell 36 = .ok (.invokevirtual 38, 3) := by decide +kernel
theorem dX4_cell_39 : decode cX4_cell 39 = .ok (.ireturn, 1) := by decide +kernel
theorem dX4_portable_0 : decode cX4_portable 0 = .ok (.iload_n 1, 1) := by decide +kernel
theorem dX4_portable_1 : decode cX4_portable 1 = .ok (.invokestatic 41, 3) := by decide +kernel
theorem dX4_portable_4 : decode cX4_portable 4 = .ok (.ifCond .ne 9, 3) := by decide +kernel
theorem dX4_portable_7 : decode cX4_portable 7 = .ok (.aload_n 0, 1) := by decide +kernel
theorem dX4_portable_8 : decode cX4_portable 8 = .ok (.iconst (-1), 1) := by decide +kernel
theorem dX4_portable_9 : decode cX4_portable 9 = .ok (.invokevirtual 30, 3) := by decide +kernel
theorem dX4_portable_12 : decode cX4_portable 12 = .ok (.ireturn, 1) := by decide +kernel
theorem dX4_portable_13 : decode cX4_portable 13 = .ok (.aload_n 0, 1) := by decide +kernel
theorem dX4_portable_14 : decode cX4_portable 14 = .ok (.getfield 12, 3) := by decide +kernel
theorem dX4_portable_17 : decode cX4_portable 17 = .ok (.getfield 44, 3) := by decide +kernel
theorem dX4_portable_20 : decode cX4_portable 20 = .ok (.bipush 8, 2) := by decide +kernel
theorem dX4_portable_22 : decode cX4_portable 22 = .ok (.if_icmp .lt 10, 3) := by decide +kernel
theorem dX4_portable_25 : decode cX4_portable 25 = .ok (.aload_n 0, 1) := by decide +kernel
theorem dX4_portable_26 : decode cX4_portable 26 = .ok (.bipush (-6), 2) := by decide +kernel
theorem dX4_portable_28 : decode cX4_portable 28 = .ok (.invokevirtual 30, 3) := by decide +kernel
theorem dX4_portable_31 : decode cX4_portable 31 = .ok (.ireturn, 1) := by decide +kernel
theorem dX4_portable_32 : decode cX4_portable 32 = .ok (.aload_n 0, 1) := by decide +kernel
theorem dX4_portable_33 : decode cX4_portable 33 = .ok (.getfield 12, 3) := by decide +kernel
theorem dX4_portable_36 : decode cX4_portable 36 = .ok (.iload_n 1, 1) := by decide +kernel
theorem dX4_portable_37 : decode cX4_portable 37 = .ok (.invokevirtual 47, 3) := by decide +kernel
theorem dX4_portable_40 : decode cX4_portable 40 = .ok (.istore 4, 2) := by decide +kernel
theorem dX4_portable_42 : decode cX4_portable 42 = .ok (.aload_n 0, 1) := by decide +kernel
theorem dX4_portable_43 : decode cX4_portable 43 = .ok (.getfield 18, 3) := by decide +kernel
theorem dX4_portable_46 : decode cX4_portable 46 = .ok (.iload 4, 2) := by decide +kernel
theorem dX4_portable_48 : decode cX4_portable 48 = .ok (.new 16, 3) := by decide +kernel
theorem dX4_portable_51 : decode cX4_portable 51 = .ok (.dup, 1) := by decide +kernel
theorem dX4_portable_52 : decode cX4_portable 52 = .ok (.iload 4, 2) := by decide +kernel
theorem dX4_portable_54 : decode cX4_portable 54 = .ok (.lload_n 2, 1) := by decide +kernel
theorem dX4_portable_55 : decode cX4_portable 55 = .ok (.invokespecial 50, 3) := by decide +kernel
theorem dX4_portable_58 : decode cX4_portable 58 = .ok (.aastore, 1) := by decide +kernel
theorem dX4_portable_59 : decode cX4_portable 59 = .ok (.iload 4, 2) := by decide +kernel
theorem dX4_portable_61 : decode cX4_portable 61 = .ok (.ireturn, 1) := by decide +kernel
theorem dX4_reach_0 : decode cX4_reach 0 = .ok (.iload_n 1, 1) := by decide +kernel
theorem dX4_reach_1 : decode cX4_reach 1 = .ok (.invokestatic 41, 3) := by decide +kernel
theorem dX4_reach_4 : decode cX4_reach 4 = .ok (.ifCond .ne 9, 3) := by decide +kernel
theorem dX4_reach_7 : decode cX4_reach 7 = .ok (.aload_n 0, 1) := by decide +kernel
theorem dX4_reach_8 : decode cX4_reach 8 = .ok (.iconst (-1), 1) := by decide +kernel
theorem dX4_reach_9 : decode cX4_reach 9 = .ok (.invokevirtual 30, 3) := by decide +kernel
theorem dX4_reach_12 : decode cX4_reach 12 = .ok (.ireturn, 1) := by decide +kernel
theorem dX4_reach_13 : decode cX4_reach 13 = .ok (.iload_n 2, 1) := by decide +kernel
theorem dX4_reach_14 : decode cX4_reach 14 = .ok (.ifCond .ge 10, 3) := by decide +kernel
theorem dX4_reach_17 : decode cX4_reach 17 = .ok (.aload_n 0, 1) := by decide +kernel
theorem dX4_reach_18 : decode cX4_reach 18 = .ok (.bipush (-4), 2) := by decide +kernel
theorem dX4_reach_20 : decode cX4_reach 20 = .ok (.invokevirtual 30, 3) := by decide +kernel
theorem dX4_reach_23 : decode cX4_reach 23 = .ok (.ireturn, 1) := by decide +kernel
theorem dX4_reach_24 : decode cX4_reach 24 = .ok (.iload_n 2, 1) := by decide +kernel
theorem dX4_reach_25 : decode cX4_reach 25 = .ok (.bipush 15, 2) := by decide +kernel
theorem dX4_reach_27 : decode cX4_reach 27 = .ok (.if_icmp .le 10, 3) := by decide +kernel
theorem dX4_reach_30 : decode cX4_reach 30 = .ok (.aload_n 0, 1) := by decide +kernel
theorem dX4_reach_31 : decode cX4_reach 31 = .ok (.bipush (-6), 2) := by decide +kernel
theorem dX4_reach_33 : decode cX4_reach 33 = .ok (.invokevirtual 30, 3) := by decide +kernel
theorem dX4_reach_36 : decode cX4_reach 36 = .ok (.ireturn, 1) := by decide +kernel
theorem dX4_reach_37 : decode cX4_reach 37 = .ok (.aload_n 0, 1) := by decide +kernel
theorem dX4_reach_38 : decode cX4_reach 38 = .ok (.getfield 12, 3) := by decide +kernel
theorem dX4_reach_41 : decode cX4_reach 41 = .ok (.getfield 53, 3) := by decide +kernel
theorem dX4_reach_44 : decode cX4_reach 44 = .ok (.iload_n 1, 1) := by decide +kernel
theorem dX4_reach_45 : decode cX4_reach 45 = .ok (.iaload, 1) := by decide +kernel
theorem dX4_reach_46 : decode cX4_reach 46 = .ok (.istore_n 3, 1) := by decide +kernel
theorem dX4_reach_47 : decode cX4_reach 47 = .ok (.aload_n 0, 1) := by decide +kernel
theorem dX4_reach_48 : decode cX4_reach 48 = .ok (.getfield 12, 3) := by decide +kernel
theorem dX4_reach_51 : decode cX4_reach 51 = .ok (.getfield 53, 3) := by decide +kernel
theorem dX4_reach_54 : decode cX4_reach 54 = .ok (.iload_n 1, 1) := by decide +kernel
theorem dX4_reach_55 : decode cX4_reach 55 = .ok (.iload_n 2, 1) := by decide +kernel
theorem dX4_reach_56 : decode cX4_reach 56 = .ok (.iastore, 1) := by decide +kernel
theorem dX4_reach_57 : decode cX4_reach 57 = .ok (.iload_n 3, 1) := by decide +kernel
theorem dX4_reach_58 : decode cX4_reach 58 = .ok (.ireturn, 1) := by decide +kernel
theorem dX4_noise_0 : decode cX4_noise 0 = .ok (.iload_n 1, 1) := by decide +kernel
theorem dX4_noise_1 : decode cX4_noise 1 = .ok (.invokestatic 41, 3) := by decide +kernel
theorem dX4_noise_4 : decode cX4_noise 4 = .ok (.ifCond .ne 23, 3) := by decide +kernel
theorem dX4_noise_7 : decode cX4_noise 7 = .ok (.iload_n 1, 1) := by decide +kernel
theorem dX4_noise_8 : decode cX4_noise 8 = .ok (.bipush 16, 2) := by decide +kernel
theorem dX4_noise_10 : decode cX4_noise 10 = .ok (.if_icmp .lt 21, 3) := by decide +kernel
theorem dX4_noise_13 : decode cX4_noise 13 = .ok (.aload_n 0, 1) := by decide +kernel
theorem dX4_noise_14 : decode cX4_noise 14 = .ok (.getfield 12, 3) := by decide +kernel
theorem dX4_noise_17 : decode cX4_noise 17 = .ok (.iload_n 1, 1) := by decide +kernel
theorem dX4_noise_18 : decode cX4_noise 18 = .ok (.bipush 16, 2) := by decide +kernel
theorem dX4_noise_20 : decode cX4_noise 20 = .ok (.isub, 1) := by decide +kernel
theorem dX4_noise_21 : decode cX4_noise 21 = .ok (.invokevirtual 56, 3) := by decide +kernel
theorem dX4_noise_24 : decode cX4_noise 24 = .ok (.ifCond .eq 7, 3) := by decide +kernel
theorem dX4_noise_27 : decode cX4_noise 27 = .ok (.iconst 1, 1) := by decide +kernel
theorem dX4_noise_28 : decode cX4_noise 28 = .ok (.goto 4, 3) := by decide +kernel
theorem dX4_noise_31 : decode cX4_noise 31 = .ok (.iconst 0, 1) := by decide +kernel
theorem dX4_noise_32 : decode cX4_noise 32 = .ok (.istore 4, 2) := by decide +kernel
theorem dX4_noise_34 : decode cX4_noise 34 = .ok (.iload 4, 2) := by decide +kernel
theorem dX4_noise_36 : decode cX4_noise 36 = .ok (.ifCond .eq 27, 3) := by decide +kernel
theorem dX4_noise_39 : decode cX4_noise 39 = .ok (.iload_n 2, 1) := by decide +kernel
theorem dX4_noise_40 : decode cX4_noise 40 = .ok (.invokestatic 26, 3) := by decide +kernel
theorem dX4_noise_43 : decode cX4_noise 43 = .ok (.ifCond .eq 20, 3) := by decide +kernel
theorem dX4_noise_46 : decode cX4_noise 46 = .ok (.aload_n 0, 1) := by decide +kernel
theorem dX4_noise_47 : decode cX4_noise 47 = .ok (.getfield 12, 3) := by decide +kernel
theorem dX4_noise_50 : decode cX4_noise 50 = .ok (.iload_n 1, 1) := by decide +kernel
theorem dX4_noise_51 : decode cX4_noise 51 = .ok (.iload_n 2, 1) := by decide +kernel
theorem dX4_noise_52 : decode cX4_noise 52 = .ok (.iload_n 3, 1) := by decide +kernel
theorem dX4_noise_53 : decode cX4_noise 53 = .ok (.invokevirtual 59, 3) := by decide +kernel
theorem dX4_noise_56 : decode cX4_noise 56 = .ok (.ifCond .eq 7, 3) := by decide +kernel
theorem dX4_noise_59 : decode cX4_noise 59 = .ok (.iconst 1, 1) := by decide +kernel
theorem dX4_noise_60 : decode cX4_noise 60 = .ok (.goto 4, 3) := by decide +kernel
theorem dX4_noise_63 : decode cX4_noise 63 = .ok (.iconst 0, 1) := by decide +kernel
theorem dX4_noise_64 : decode cX4_noise 64 = .ok (.ireturn, 1) := by decide +kernel
theorem dX4_go_0 : decode cX4_go 0 = .ok (.aload_n 0, 1) := by decide +kernel
theorem dX4_go_1 : decode cX4_go 1 = .ok (.getfield 12, 3) := by decide +kernel
theorem dX4_go_4 : decode cX4_go 4 = .ok (.iload_n 1, 1) := by decide +kernel
theorem dX4_go_5 : decode cX4_go 5 = .ok (.invokevirtual 63, 3) := by decide +kernel
theorem dX4_go_8 : decode cX4_go 8 = .ok (.ifCond .eq 10, 3) := by decide +kernel
theorem dX4_go_11 : decode cX4_go 11 = .ok (.iload_n 2, 1) := by decide +kernel
theorem dX4_go_12 : decode cX4_go 12 = .ok (.invokestatic 41, 3) := by decide +kernel
theorem dX4_go_15 : decode cX4_go 15 = .ok (.ifCond .ne 9, 3) := by decide +kernel
theorem dX4_go_18 : decode cX4_go 18 = .ok (.aload_n 0, 1) := by decide +kernel
theorem dX4_go_19 : decode cX4_go 19 = .ok (.iconst (-1), 1) := by decide +kernel
theorem dX4_go_20 : decode cX4_go 20 = .ok (.invokevirtual 30, 3) := by decide +kernel
theorem dX4_go_23 : decode cX4_go 23 = .ok (.ireturn, 1) := by decide +kernel
theorem dX4_go_24 : decode cX4_go 24 = .ok (.aload_n 0, 1) := by decide +kernel
theorem dX4_go_25 : decode cX4_go 25 = .ok (.getfield 12, 3) := by decide +kernel
theorem dX4_go_28 : decode cX4_go 28 = .ok (.getfield 66, 3) := by decide +kernel
theorem dX4_go_31 : decode cX4_go 31 = .ok (.iload_n 1, 1) := by decide +kernel
theorem dX4_go_32 : decode cX4_go 32 = .ok (.iaload, 1) := by decide +kernel
theorem dX4_go_33 : decode cX4_go 33 = .ok (.istore_n 3, 1) := by decide +kernel
theorem dX4_go_34 : decode cX4_go 34 = .ok (.aload_n 0, 1) := by decide +kernel
theorem dX4_go_35 : decode cX4_go 35 = .ok (.getfield 12, 3) := by decide +kernel
theorem dX4_go_38 : decode cX4_go 38 = .ok (.getfield 66, 3) := by decide +kernel
theorem dX4_go_41 : decode cX4_go 41 = .ok (.iload_n 1, 1) := by decide +kernel
theorem dX4_go_42 : decode cX4_go 42 = .ok (.iload_n 2, 1) := by decide +kernel
theorem dX4_go_43 : decode cX4_go 43 = .ok (.iastore, 1) := by decide +kernel
theorem dX4_go_44 : decode cX4_go 44 = .ok (.iload_n 3, 1) := by decide +kernel
theorem dX4_go_45 : decode cX4_go 45 = .ok (.ireturn, 1) := by decide +kernel
theorem dX4_enter_0 : decode cX4_enter 0 = .ok (.aload_n 0, 1) := by decide +kernel
theorem dX4_enter_1 : decode cX4_enter 1 = .ok (.iload_n 1, 1) := by decide +kernel
theorem dX4_enter_2 : decode cX4_enter 2 = .ok (.invokevirtual 69, 3) := by decide +kernel
theorem dX4_enter_5 : decode cX4_enter 5 = .ok (.astore 4, 2) := by decide +kernel
theorem dX4_enter_7 : decode cX4_enter 7 = .ok (.aload 4, 2) := by decide +kernel
theorem dX4_enter_9 : decode cX4_enter 9 = .ok (.ifnonnull 9, 3) := by decide +kernel
theorem dX4_enter_12 : decode cX4_enter 12 = .ok (.aload_n 0, 1) := by decide +kernel
theorem dX4_enter_13 : decode cX4_enter 13 = .ok (.iconst (-1), 1) := by decide +kernel
theorem dX4_enter_14 : decode cX4_enter 14 = .ok (.invokevirtual 30, 3) := by decide +kernel
theorem dX4_enter_17 : decode cX4_enter 17 = .ok (.ireturn, 1) := by decide +kernel
theorem dX4_enter_18 : decode cX4_enter 18 = .ok (.aload 4, 2) := by decide +kernel
theorem dX4_enter_20 : decode cX4_enter 20 = .ok (.getfield 73, 3) := by decide +kernel
theorem dX4_enter_23 : decode cX4_enter 23 = .ok (.ifCond .eq 10, 3) := by decide +kernel
theorem dX4_enter_26 : decode cX4_enter 26 = .ok (.aload_n 0, 1) := by decide +kernel
theorem dX4_enter_27 : decode cX4_enter 27 = .ok (.bipush (-2), 2) := by decide +kernel
theorem dX4_enter_29 : decode cX4_enter 29 = .ok (.invokevirtual 30, 3) := by decide +kernel
theorem dX4_enter_32 : decode cX4_enter 32 = .ok (.ireturn, 1) := by decide +kernel
theorem dX4_enter_33 : decode cX4_enter 33 = .ok (.aload 4, 2) := by decide +kernel
theorem dX4_enter_35 : decode cX4_enter 35 = .ok (.lload_n 2, 1) := by decide +kernel
theorem dX4_enter_36 : decode cX4_enter 36 = .ok (.putfield 76, 3) := by decide +kernel
theorem dX4_enter_39 : decode cX4_enter 39 = .ok (.aload 4, 2) := by decide +kernel
theorem dX4_enter_41 : decode cX4_enter 41 = .ok (.iconst 1, 1) := by decide +kernel
theorem dX4_enter_42 : decode cX4_enter 42 = .ok (.putfield 80, 3) := by decide +kernel
theorem dX4_enter_45 : decode cX4_enter 45 = .ok (.iconst 1, 1) := by decide +kernel
theorem dX4_enter_46 : decode cX4_enter 46 = .ok (.ireturn, 1) := by decide +kernel
theorem dX4_dial_0 : decode cX4_dial 0 = .ok (.aload_n 0, 1) := by decide +kernel
theorem dX4_dial_1 : decode cX4_dial 1 = .ok (.iload_n 1, 1) := by decide +kernel
theorem dX4_dial_2 : decode cX4_dial 2 = .ok (.invokevirtual 69, 3) := by decide +kernel
theorem dX4_dial_5 : decode cX4_dial 5 = .ok (.astore_n 3, 1) := by decide +kernel
theorem dX4_dial_6 : decode cX4_dial 6 = .ok (.aload_n 0, 1) := by decide +kernel
theorem dX4_dial_7 : decode cX4_dial 7 = .ok (.iload_n 2, 1) := by decide +kernel
theorem dX4_dial_8 : decode cX4_dial 8 = .ok (.invokevirtual 69, 3) := by decide +kernel
theorem dX4_dial_11 : decode cX4_dial 11 = .ok (.astore 4, 2) := by decide +kernel
theorem dX4_dial_13 : decode cX4_dial 13 = .ok (.aload_n 3, 1) := by decide +kernel
theorem dX4_dial_14 : decode cX4_dial 14 = .ok (.ifnull 13, 3) := by decide +kernel
theorem dX4_dial_17 : decode cX4_dial 17 = .ok (.aload 4, 2) := by decide +kernel
theorem dX4_dial_19 : decode cX4_dial 19 = .ok (.ifnull 8, 3) := by decide +kernel
theorem dX4_dial_22 : decode cX4_dial 22 = .ok (.iload_n 1, 1) := by decide +kernel
theorem dX4_dial_23 : decode cX4_dial 23 = .ok (.iload_n 2, 1) := by decide +kernel
theorem dX4_dial_24 : decode cX4_dial 24 = .ok (.if_icmp .ne 9, 3) := by decide +kernel
theorem dX4_dial_27 : decode cX4_dial 27 = .ok (.aload_n 0, 1) := by decide +kernel
theorem dX4_dial_28 : decode cX4_dial 28 = .ok (.iconst (-1), 1) := by decide +kernel
theorem dX4_dial_29 : decode cX4_dial 29 = .ok (.invokevirtual 30, 3) := by decide +kernel
theorem dX4_dial_32 : decode cX4_dial 32 = .ok (.ireturn, 1) := by decide +kernel
theorem dX4_dial_33 : decode cX4_dial 33 = .ok (.aload_n 3, 1) := by decide +kernel
theorem dX4_dial_34 : decode cX4_dial 34 = .ok (.getfield 73, 3) := by decide +kernel
theorem dX4_dial_37 : decode cX4_dial 37 = .ok (.ifCond .eq 10, 3) := by decide +kernel
theorem dX4_dial_40 : decode cX4_dial 40 = .ok (.aload_n 0, 1) := by decide +kernel
theorem dX4_dial_41 : decode cX4_dial 41 = .ok (.bipush (-2), 2) := by decide +kernel
theorem dX4_dial_43 : decode cX4_dial 43 = .ok (.invokevirtual 30, 3) := by decide +kernel
theorem dX4_dial_46 : decode cX4_dial 46 = .ok (.ireturn, 1) := by decide +kernel
theorem dX4_dial_47 : decode cX4_dial 47 = .ok (.aload_n 3, 1) := by decide +kernel
theorem dX4_dial_48 : decode cX4_dial 48 = .ok (.getfield 80, 3) := by decide +kernel
theorem dX4_dial_51 : decode cX4_dial 51 = .ok (.ifCond .eq 11, 3) := by decide +kernel
theorem dX4_dial_54 : decode cX4_dial 54 = .ok (.aload 4, 2) := by decide +kernel
theorem dX4_dial_56 : decode cX4_dial 56 = .ok (.getfield 80, 3) := by decide +kernel
theorem dX4_dial_59 : decode cX4_dial 59 = .ok (.ifCond .ne 10, 3) := by decide +kernel
theorem dX4_dial_62 : decode cX4_dial 62 = .ok (.aload_n 0, 1) := by decide +kernel
theorem dX4_dial_63 : decode cX4_dial 63 = .ok (.bipush (-3), 2) := by decide +kernel
theorem dX4_dial_65 : decode cX4_dial 65 = .ok (.invokevirtual 30, 3) := by decide +kernel
theorem dX4_dial_68 : decode cX4_dial 68 = .ok (.ireturn, 1) := by decide +kernel
theorem dX4_dial_69 : decode cX4_dial 69 = .ok (.aload_n 3, 1) := by decide +kernel
theorem dX4_dial_70 : decode cX4_dial 70 = .ok (.iconst 1, 1) := by decide +kernel
theorem dX4_dial_71 : decode cX4_dial 71 = .ok (.iload_n 2, 1) := by decide +kernel
theorem dX4_dial_72 : decode cX4_dial 72 = .ok (.aload_n 0, 1) := by decide +kernel
theorem dX4_dial_73 : decode cX4_dial 73 = .ok (.getfield 84, 3) := by decide +kernel
theorem dX4_dial_76 : decode cX4_dial 76 = .ok (.invokevirtual 87, 3) := by decide +kernel
theorem dX4_dial_79 : decode cX4_dial 79 = .ok (.iconst 1, 1) := by decide +kernel
theorem dX4_dial_80 : decode cX4_dial 80 = .ok (.ireturn, 1) := by decide +kernel
theorem dX4_answer_0 : decode cX4_answer 0 = .ok (.aload_n 0, 1) := by decide +kernel
theorem dX4_answer_1 : decode cX4_answer 1 = .ok (.iload_n 1, 1) := by decide +kernel
theorem dX4_answer_2 : decode cX4_answer 2 = .ok (.invokevirtual 69, 3) := by decide +kernel
theorem dX4_answer_5 : decode cX4_answer 5 = .ok (.astore_n 2, 1) := by decide +kernel
theorem dX4_answer_6 : decode cX4_answer 6 = .ok (.aload_n 2, 1) := by decide +kernel
theorem dX4_answer_7 : decode cX4_answer 7 = .ok (.ifnonnull 9, 3) := by decide +kernel
theorem dX4_answer_10 : decode cX4_answer 10 = .ok (.aload_n 0, 1) := by decide +kernel
theorem dX4_answer_11 : decode cX4_answer 11 = .ok (.iconst (-1), 1) := by decide +kernel
theorem dX4_answer_12 : decode cX4_answer 12 = .ok (.invokevirtual 30, 3) := by decide +kernel
theorem dX4_answer_15 : decode cX4_answer 15 = .ok (.ireturn, 1) := by decide +kernel
theorem dX4_answer_16 : decode cX4_answer 16 = .ok (.aload_n 0, 1) := by decide +kernel
theorem dX4_answer_17 : decode cX4_answer 17 = .ok (.aload_n 2, 1) := by decide +kernel
theorem dX4_answer_18 : decode cX4_answer 18 = .ok (.getfield 91, 3) := by decide +kernel
theorem dX4_answer_21 : decode cX4_answer 21 = .ok (.invokevirtual 69, 3) := by decide +kernel
theorem dX4_answer_24 : decode cX4_answer 24 = .ok (.astore_n 3, 1) := by decide +kernel
theorem dX4_answer_25 : decode cX4_answer 25 = .ok (.aload_n 2, 1) := by decide +kernel
theorem dX4_answer_26 : decode cX4_answer 26 = .ok (.getfield 73, 3) := by decide +kernel
theorem dX4_answer_29 : decode cX4_answer 29 = .ok (.bipush 6, 2) := by decide +kernel
theorem dX4_answer_31 : decode cX4_answer 31 = .ok (.if_icmp .ne 7, 3) := by decide +kernel
theorem dX4_answer_34 : decode cX4_answer 34 = .ok (.aload_n 3, 1) := by decide +kernel
theorem dX4_answer_35 : decode cX4_answer 35 = .ok (.ifnonnull 10, 3) := by decide +kernel
theorem dX4_answer_38 : decode cX4_answer 38 = .ok (.aload_n 0, 1) := by decide +kernel
theorem dX4_answer_39 : decode cX4_answer 39 = .ok (.bipush (-2), 2) := by decide +kernel
theorem dX4_answer_41 : decode cX4_answer 41 = .ok (.invokevirtual 30, 3) := by decide +kernel
theorem dX4_answer_44 : decode cX4_answer 44 = .ok (.ireturn, 1) := by decide +kernel
theorem dX4_answer_45 : decode cX4_answer 45 = .ok (.aload_n 2, 1) := by decide +kernel
theorem dX4_answer_46 : decode cX4_answer 46 = .ok (.bipush 7, 2) := by decide +kernel
theorem dX4_answer_48 : decode cX4_answer 48 = .ok (.putfield 73, 3) := by decide +kernel
theorem dX4_answer_51 : decode cX4_answer 51 = .ok (.aload_n 3, 1) := by decide +kernel
theorem dX4_answer_52 : decode cX4_answer 52 = .ok (.bipush 7, 2) := by decide +kernel
theorem dX4_answer_54 : decode cX4_answer 54 = .ok (.putfield 73, 3) := by decide +kernel
theorem dX4_answer_57 : decode cX4_answer 57 = .ok (.aload_n 0, 1) := by decide +kernel
theorem dX4_answer_58 : decode cX4_answer 58 = .ok (.dup, 1) := by decide +kernel
theorem dX4_answer_59 : decode cX4_answer 59 = .ok (.getfield 94, 3) := by decide +kernel
theorem dX4_answer_62 : decode cX4_answer 62 = .ok (.iconst 1, 1) := by decide +kernel
theorem dX4_answer_63 : decode cX4_answer 63 = .ok (.iadd, 1) := by decide +kernel
theorem dX4_answer_64 : decode cX4_answer 64 = .ok (.putfield 94, 3) := by decide +kernel
theorem dX4_answer_67 : decode cX4_answer 67 = .ok (.iconst 1, 1) := by decide +kernel
theorem dX4_answer_68 : decode cX4_answer 68 = .ok (.ireturn, 1) := by decide +kernel
theorem dX4_hang_0 : decode cX4_hang 0 = .ok (.aload_n 0, 1) := by decide +kernel
theorem dX4_hang_1 : decode cX4_hang 1 = .ok (.iload_n 1, 1) := by decide +kernel
theorem dX4_hang_2 : decode cX4_hang 2 = .ok (.invokevirtual 69, 3) := by decide +kernel
theorem dX4_hang_5 : decode cX4_hang 5 = .ok (.astore_n 2, 1) := by decide +kernel
theorem dX4_hang_6 : decode cX4_hang 6 = .ok (.aload_n 2, 1) := by decide +kernel
theorem dX4_hang_7 : decode cX4_hang 7 = .ok (.ifnonnull 9, 3) := by decide +kernel
theorem dX4_hang_10 : decode cX4_hang 10 = .ok (.aload_n 0, 1) := by decide +kernel
theorem dX4_hang_11 : decode cX4_hang 11 = .ok (.iconst (-1), 1) := by decide +kernel
theorem dX4_hang_12 : decode cX4_hang 12 = .ok (.invokevirtual 30, 3) := by decide +kernel
theorem dX4_hang_15 : decode cX4_hang 15 = .ok (.ireturn, 1) := by decide +kernel
theorem dX4_hang_16 : decode cX4_hang 16 = .ok (.aload_n 2, 1) := by decide +kernel
theorem dX4_hang_17 : decode cX4_hang 17 = .ok (.getfield 73, 3) := by decide +kernel
theorem dX4_hang_20 : decode cX4_hang 20 = .ok (.ifCond .ne 10, 3) := by decide +kernel
theorem dX4_hang_23 : decode cX4_hang 23 = .ok (.aload_n 0, 1) := by decide +kernel
theorem dX4_hang_24 : decode cX4_hang 24 = .ok (.bipush (-2), 2) := by decide +kernel
theorem dX4_hang_26 : decode cX4_hang 26 = .ok (.invokevirtual 30, 3) := by decide +kernel
theorem dX4_hang_29 : decode cX4_hang 29 = .ok (.ireturn, 1) := by decide +kernel
theorem dX4_hang_30 : decode cX4_hang 30 = .ok (.aload_n 0, 1) := by decide +kernel
theorem dX4_hang_31 : decode cX4_hang 31 = .ok (.aload_n 2, 1) := by decide +kernel
theorem dX4_hang_32 : decode cX4_hang 32 = .ok (.invokevirtual 97, 3) := by decide +kernel
theorem dX4_hang_35 : decode cX4_hang 35 = .ok (.iconst 1, 1) := by decide +kernel
theorem dX4_hang_36 : decode cX4_hang 36 = .ok (.ireturn, 1) := by decide +kernel
theorem dX4_say_0 : decode cX4_say 0 = .ok (.aload_n 0, 1) := by decide +kernel
theorem dX4_say_1 : decode cX4_say 1 = .ok (.iload_n 1, 1) := by decide +kernel
theorem dX4_say_2 : decode cX4_say 2 = .ok (.invokevirtual 69, 3) := by decide +kernel
theorem dX4_say_5 : decode cX4_say 5 = .ok (.astore 4, 2) := by decide +kernel
theorem dX4_say_7 : decode cX4_say 7 = .ok (.aload 4, 2) := by decide +kernel
theorem dX4_say_9 : decode cX4_say 9 = .ok (.ifnonnull 9, 3) := by decide +kernel
theorem dX4_say_12 : decode cX4_say 12 = .ok (.aload_n 0, 1) := by decide +kernel
theorem dX4_say_13 : decode cX4_say 13 = .ok (.iconst (-1), 1) := by decide +kernel
theorem dX4_say_14 : decode cX4_say 14 = .ok (.invokevirtual 30, 3) := by decide +kernel
theorem dX4_say_17 : decode cX4_say 17 = .ok (.ireturn, 1) := by decide +kernel
theorem dX4_say_18 : decode cX4_say 18 = .ok (.aload 4, 2) := by decide +kernel
theorem dX4_say_20 : decode cX4_say 20 = .ok (.getfield 73, 3) := by decide +kernel
theorem dX4_say_23 : decode cX4_say 23 = .ok (.bipush 7, 2) := by decide +kernel
theorem dX4_say_25 : decode cX4_say 25 = .ok (.if_icmp .eq 10, 3) := by decide +kernel
theorem dX4_say_28 : decode cX4_say 28 = .ok (.aload_n 0, 1) := by decide +kernel
theorem dX4_say_29 : decode cX4_say 29 = .ok (.bipush (-2), 2) := by decide +kernel
theorem dX4_say_31 : decode cX4_say 31 = .ok (.invokevirtual 30, 3) := by decide +kernel
theorem dX4_say_34 : decode cX4_say 34 = .ok (.ireturn, 1) := by decide +kernel
theorem dX4_say_35 : decode cX4_say 35 = .ok (.aload 4, 2) := by decide +kernel
theorem dX4_say_37 : decode cX4_say 37 = .ok (.getfield 101, 3) := by decide +kernel
theorem dX4_say_40 : decode cX4_say 40 = .ok (.lload_n 2, 1) := by decide +kernel
theorem dX4_say_41 : decode cX4_say 41 = .ok (.invokevirtual 105, 3) := by decide +kernel
theorem dX4_say_44 : decode cX4_say 44 = .ok (.ifCond .ne 10, 3) := by decide +kernel
theorem dX4_say_47 : decode cX4_say 47 = .ok (.aload_n 0, 1) := by decide +kernel
theorem dX4_say_48 : decode cX4_say 48 = .ok (.bipush (-6), 2) := by decide +kernel
theorem dX4_say_50 : decode cX4_say 50 = .ok (.invokevirtual 30, 3) := by decide +kernel
theorem dX4_say_53 : decode cX4_say 53 = .ok (.ireturn, 1) := by decide +kernel
theorem dX4_say_54 : decode cX4_say 54 = .ok (.aload 4, 2) := by decide +kernel
theorem dX4_say_56 : decode cX4_say 56 = .ok (.getfield 101, 3) := by decide +kernel
theorem dX4_say_59 : decode cX4_say 59 = .ok (.getfield 111, 3) := by decide +kernel
theorem dX4_say_62 : decode cX4_say 62 = .ok (.ireturn, 1) := by decide +kernel
theorem dX4_frames_0 : decode cX4_frames 0 = .ok (.iload_n 1, 1) := by decide +kernel
theorem dX4_frames_1 : decode cX4_frames 1 = .ok (.iconst 1, 1) := by decide +kernel
theorem dX4_frames_2 : decode cX4_frames 2 = .ok (.if_icmp .ge 10, 3) := by decide +kernel
theorem dX4_frames_5 : decode cX4_frames 5 = .ok (.aload_n 0, 1) := by decide +kernel
theorem dX4_frames_6 : decode cX4_frames 6 = .ok (.bipush (-4), 2) := by decide +kernel
theorem dX4_frames_8 : decode cX4_frames 8 = .ok (.invokevirtual 30, 3) := by decide +kernel
theorem dX4_frames_11 : decode cX4_frames 11 = .ok (.ireturn, 1) := by decide +kernel
theorem dX4_frames_12 : decode cX4_frames 12 = .ok (.iload_n 1, 1) := by decide +kernel
theorem dX4_frames_13 : decode cX4_frames 13 = .ok (.sipush 1000, 3) := by decide +kernel
theorem dX4_frames_16 : decode cX4_frames 16 = .ok (.if_icmp .gt 14, 3) := by decide +kernel
theorem dX4_frames_19 : decode cX4_frames 19 = .ok (.aload_n 0, 1) := by decide +kernel
theorem dX4_frames_20 : decode cX4_frames 20 = .ok (.getfield 84, 3) := by decide +kernel
theorem dX4_frames_23 : decode cX4_frames 23 = .ok (.iload_n 1, 1) := by decide +kernel
theorem dX4_frames_24 : decode cX4_frames 24 = .ok (.iadd, 1) := by decide +kernel
theorem dX4_frames_25 : decode cX4_frames 25 = .ok (.ldc 114, 2) := by decide +kernel
theorem dX4_frames_27 : decode cX4_frames 27 = .ok (.if_icmp .le 10, 3) := by decide +kernel
theorem dX4_frames_30 : decode cX4_frames 30 = .ok (.aload_n 0, 1) := by decide +kernel
theorem dX4_frames_31 : decode cX4_frames 31 = .ok (.bipush (-6), 2) := by decide +kernel
theorem dX4_frames_33 : decode cX4_frames 33 = .ok (.invokevirtual 30, 3) := by decide +kernel
theorem dX4_frames_36 : decode cX4_frames 36 = .ok (.ireturn, 1) := by decide +kernel
theorem dX4_frames_37 : decode cX4_frames 37 = .ok (.aload_n 0, 1) := by decide +kernel
theorem dX4_frames_38 : decode cX4_frames 38 = .ok (.getfield 115, 3) := by decide +kernel
theorem dX4_frames_41 : decode cX4_frames 41 = .ok (.istore_n 2, 1) := by decide +kernel
theorem dX4_frames_42 : decode cX4_frames 42 = .ok (.iconst 0, 1) := by decide +kernel
theorem dX4_frames_43 : decode cX4_frames 43 = .ok (.istore_n 3, 1) := by decide +kernel
theorem dX4_frames_44 : decode cX4_frames 44 = .ok (.iload_n 3, 1) := by decide +kernel
theorem dX4_frames_45 : decode cX4_frames 45 = .ok (.iload_n 1, 1) := by decide +kernel
theorem dX4_frames_46 : decode cX4_frames 46 = .ok (.if_icmp .ge 13, 3) := by decide +kernel
theorem dX4_frames_49 : decode cX4_frames 49 = .ok (.aload_n 0, 1) := by decide +kernel
theorem dX4_frames_50 : decode cX4_frames 50 = .ok (.invokevirtual 118, 3) := by decide +kernel
theorem dX4_frames_53 : decode cX4_frames 53 = .ok (.iinc 3 1, 3) := by decide +kernel
theorem dX4_frames_56 : decode cX4_frames 56 = .ok (.goto (-12), 3) := by decide +kernel
theorem dX4_frames_59 : decode cX4_frames 59 = .ok (.aload_n 0, 1) := by decide +kernel
theorem dX4_frames_60 : decode cX4_frames 60 = .ok (.getfield 115, 3) := by decide +kernel
theorem dX4_frames_63 : decode cX4_frames 63 = .ok (.iload_n 2, 1) := by decide +kernel
theorem dX4_frames_64 : decode cX4_frames 64 = .ok (.isub, 1) := by decide +kernel
theorem dX4_frames_65 : decode cX4_frames 65 = .ok (.ireturn, 1) := by decide +kernel
theorem dX4_heard_0 : decode cX4_heard 0 = .ok (.aload_n 0, 1) := by decide +kernel
theorem dX4_heard_1 : decode cX4_heard 1 = .ok (.iload_n 1, 1) := by decide +kernel
theorem dX4_heard_2 : decode cX4_heard 2 = .ok (.invokevirtual 69, 3) := by decide +kernel
theorem dX4_heard_5 : decode cX4_heard 5 = .ok (.astore_n 3, 1) := by decide +kernel
theorem dX4_heard_6 : decode cX4_heard 6 = .ok (.aload_n 3, 1) := by decide +kernel
theorem dX4_heard_7 : decode cX4_heard 7 = .ok (.ifnonnull 7, 3) := by decide +kernel
theorem dX4_heard_10 : decode cX4_heard 10 = .ok (.lconst 0, 1) := by decide +kernel
theorem dX4_heard_11 : decode cX4_heard 11 = .ok (.goto 11, 3) := by decide +kernel
theorem dX4_heard_14 : decode cX4_heard 14 = .ok (.aload_n 3, 1) := by decide +kernel
theorem dX4_heard_15 : decode cX4_heard 15 = .ok (.getfield 121, 3) := by decide +kernel
theorem dX4_heard_18 : decode cX4_heard 18 = .ok (.iload_n 2, 1) := by decide +kernel
theorem dX4_heard_19 : decode cX4_heard 19 = .ok (.invokevirtual 124, 3) := by decide +kernel
theorem dX4_heard_22 : decode cX4_heard 22 = .ok (.lreturn, 1) := by decide +kernel
theorem dX4_portableOf_0 : decode cX4_portableOf 0 = .ok (.aload_n 0, 1) := by decide +kernel
theorem dX4_portableOf_1 : decode cX4_portableOf 1 = .ok (.iload_n 1, 1) := by decide +kernel
theorem dX4_portableOf_2 : decode cX4_portableOf 2 = .ok (.invokevirtual 69, 3) := by decide +kernel
theorem dX4_portableOf_5 : decode cX4_portableOf 5 = .ok (.astore_n 3, 1) := by decide +kernel
theorem dX4_portableOf_6 : decode cX4_portableOf 6 = .ok (.aload_n 3, 1) := by decide +kernel
theorem dX4_portableOf_7 : decode cX4_portableOf 7 = .ok (.ifnonnull 6, 3) := by decide +kernel
theorem dX4_portableOf_10 : decode cX4_portableOf 10 = .ok (.bipush (-9), 2) := by decide +kernel
theorem dX4_portableOf_12 : decode cX4_portableOf 12 = .ok (.ireturn, 1) := by decide +kernel
theorem dX4_portableOf_13 : decode cX4_portableOf 13 = .ok (.iload_n 2, 1) := by decide +kernel
theorem dX4_portableOf_14 : decode cX4_portableOf 14 = .ok (.tableswitch 155 0 9 #[54, 59, 69, 74, 83, 100, 108, 116, 121, 134], 54) := by decide +kernel
theorem dX4_portableOf_68 : decode cX4_portableOf 68 = .ok (.aload_n 3, 1) := by decide +kernel
theorem dX4_portableOf_69 : decode cX4_portableOf 69 = .ok (.getfield 73, 3) := by decide +kernel
theorem dX4_portableOf_72 : decode cX4_portableOf 72 = .ok (.ireturn, 1) := by decide +kernel
theorem dX4_portableOf_73 : decode cX4_portableOf 73 = .ok (.aload_n 0, 1) := by decide +kernel
theorem dX4_portableOf_74 : decode cX4_portableOf 74 = .ok (.getfield 12, 3) := by decide +kernel
theorem dX4_portableOf_77 : decode cX4_portableOf 77 = .ok (.getfield 66, 3) := by decide +kernel
theorem dX4_portableOf_80 : decode cX4_portableOf 80 = .ok (.iload_n 1, 1) := by decide +kernel
theorem dX4_portableOf_81 : decode cX4_portableOf 81 = .ok (.iaload, 1) := by decide +kernel
theorem dX4_portableOf_82 : decode cX4_portableOf 82 = .ok (.ireturn, 1) := by decide +kernel
theorem dX4_portableOf_83 : decode cX4_portableOf 83 = .ok (.aload_n 3, 1) := by decide +kernel
theorem dX4_portableOf_84 : decode cX4_portableOf 84 = .ok (.getfield 91, 3) := by decide +kernel
theorem dX4_portableOf_87 : decode cX4_portableOf 87 = .ok (.ireturn, 1) := by decide +kernel
theorem dX4_portableOf_88 : decode cX4_portableOf 88 = .ok (.aload_n 0, 1) := by decide +kernel
theorem dX4_portableOf_89 : decode cX4_portableOf 89 = .ok (.getfield 12, 3) := by decide +kernel
theorem dX4_portableOf_92 : decode cX4_portableOf 92 = .ok (.iload_n 1, 1) := by decide +kernel
theorem dX4_portableOf_93 : decode cX4_portableOf 93 = .ok (.invokevirtual 128, 3) := by decide +kernel
theorem dX4_portableOf_96 : decode cX4_portableOf 96 = .ok (.ireturn, 1) := by decide +kernel
theorem dX4_portableOf_97 : decode cX4_portableOf 97 = .ok (.aload_n 0, 1) := by decide +kernel
theorem dX4_portableOf_98 : decode cX4_portableOf 98 = .ok (.getfield 12, 3) := by decide +kernel
theorem dX4_portableOf_101 : decode cX4_portableOf 101 = .ok (.iload_n 1, 1) := by decide +kernel
theorem dX4_portableOf_102 : decode cX4_portableOf 102 = .ok (.invokevirtual 131, 3) := by decide +kernel
theorem dX4_portableOf_105 : decode cX4_portableOf 105 = .ok (.ifCond .eq 7, 3) := by decide +kernel
theorem dX4_portableOf_108 : decode cX4_portableOf 108 = .ok (.iconst 1, 1) := by decide +kernel
theorem dX4_portableOf_109 : decode cX4_portableOf 109 = .ok (.goto 4, 3) := by decide +kernel
theorem dX4_portableOf_112 : decode cX4_portableOf 112 = .ok (.iconst 0, 1) := by decide +kernel
theorem dX4_portableOf_113 : decode cX4_portableOf 113 = .ok (.ireturn, 1) := by decide +kernel
theorem dX4_portableOf_114 : decode cX4_portableOf 114 = .ok (.aload_n 3, 1) := by decide +kernel
theorem dX4_portableOf_115 : decode cX4_portableOf 115 = .ok (.getfield 101, 3) := by decide +kernel
theorem dX4_portableOf_118 : decode cX4_portableOf 118 = .ok (.getfield 111, 3) := by decide +kernel
theorem dX4_portableOf_121 : decode cX4_portableOf 121 = .ok (.ireturn, 1) := by decide +kernel
theorem dX4_portableOf_122 : decode cX4_portableOf 122 = .ok (.aload_n 3, 1) := by decide +kernel
theorem dX4_portableOf_123 : decode cX4_portableOf 123 = .ok (.getfield 134, 3) := by decide +kernel
theorem dX4_portableOf_126 : decode cX4_portableOf 126 = .ok (.getfield 111, 3) := by decide +kernel
theorem dX4_portableOf_129 : decode cX4_portableOf 129 = .ok (.ireturn, 1) := by decide +kernel
theorem dX4_portableOf_130 : decode cX4_portableOf 130 = .ok (.aload_n 3, 1) := by decide +kernel
theorem dX4_portableOf_131 : decode cX4_portableOf 131 = .ok (.getfield 137, 3) := by decide +kernel
theorem dX4_portableOf_134 : decode cX4_portableOf 134 = .ok (.ireturn, 1) := by decide +kernel
theorem dX4_portableOf_135 : decode cX4_portableOf 135 = .ok (.aload_n 3, 1) := by decide +kernel
theorem dX4_portableOf_136 : decode cX4_portableOf 136 = .ok (.getfield 80, 3) := by decide +kernel
theorem dX4_portableOf_139 : decode cX4_portableOf 139 = .ok (.ifCond .eq 7, 3) := by decide +kernel
theorem dX4_portableOf_142 : decode cX4_portableOf 142 = .ok (.iconst 1, 1) := by decide +kernel
theorem dX4_portableOf_143 : decode cX4_portableOf 143 = .ok (.goto 4, 3) := by decide +kernel
theorem dX4_portableOf_146 : decode cX4_portableOf 146 = .ok (.iconst 0, 1) := by decide +kernel
theorem dX4_portableOf_147 : decode cX4_portableOf 147 = .ok (.ireturn, 1) := by decide +kernel
theorem dX4_portableOf_148 : decode cX4_portableOf 148 = .ok (.aload_n 3, 1) := by decide +kernel
theorem dX4_portableOf_149 : decode cX4_portableOf 149 = .ok (.invokevirtual 140, 3) := by decide +kernel
theorem dX4_portableOf_152 : decode cX4_portableOf 152 = .ok (.ifCond .eq 15, 3) := by decide +kernel
theorem dX4_portableOf_155 : decode cX4_portableOf 155 = .ok (.aload_n 0, 1) := by decide +kernel
theorem dX4_portableOf_156 : decode cX4_portableOf 156 = .ok (.getfield 84, 3) := by decide +kernel
theorem dX4_portableOf_159 : decode cX4_portableOf 159 = .ok (.aload_n 3, 1) := by decide +kernel
theorem dX4_portableOf_160 : decode cX4_portableOf 160 = .ok (.getfield 144, 3) := by decide +kernel
theorem dX4_portableOf_163 : decode cX4_portableOf 163 = .ok (.isub, 1) := by decide +kernel
theorem dX4_portableOf_164 : decode cX4_portableOf 164 = .ok (.goto 4, 3) := by decide +kernel
theorem dX4_portableOf_167 : decode cX4_portableOf 167 = .ok (.iconst 0, 1) := by decide +kernel
theorem dX4_portableOf_168 : decode cX4_portableOf 168 = .ok (.ireturn, 1) := by decide +kernel
theorem dX4_portableOf_169 : decode cX4_portableOf 169 = .ok (.bipush (-9), 2) := by decide +kernel
theorem dX4_portableOf_171 : decode cX4_portableOf 171 = .ok (.ireturn, 1) := by decide +kernel
theorem dX4_bearer_0 : decode cX4_bearer 0 = .ok (.iload_n 1, 1) := by decide +kernel
theorem dX4_bearer_1 : decode cX4_bearer 1 = .ok (.ifCond .lt 14, 3) := by decide +kernel
theorem dX4_bearer_4 : decode cX4_bearer 4 = .ok (.iload_n 1, 1) := by decide +kernel
theorem dX4_bearer_5 : decode cX4_bearer 5 = .ok (.aload_n 0, 1) := by decide +kernel
theorem dX4_bearer_6 : decode cX4_bearer 6 = .ok (.getfield 12, 3) := by decide +kernel
theorem dX4_bearer_9 : decode cX4_bearer 9 = .ok (.getfield 147, 3) := by decide +kernel
theorem dX4_bearer_12 : decode cX4_bearer 12 = .ok (.if_icmp .lt 6, 3) := by decide +kernel
theorem dX4_bearer_15 : decode cX4_bearer 15 = .ok (.bipush (-9), 2) := by decide +kernel
theorem dX4_bearer_17 : decode cX4_bearer 17 = .ok (.ireturn, 1) := by decide +kernel
theorem dX4_bearer_18 : decode cX4_bearer 18 = .ok (.aload_n 0, 1) := by decide +kernel
theorem dX4_bearer_19 : decode cX4_bearer 19 = .ok (.getfield 12, 3) := by decide +kernel
theorem dX4_bearer_22 : decode cX4_bearer 22 = .ok (.getfield 150, 3) := by decide +kernel
theorem dX4_bearer_25 : decode cX4_bearer 25 = .ok (.iload_n 1, 1) := by decide +kernel
theorem dX4_bearer_26 : decode cX4_bearer 26 = .ok (.aaload, 1) := by decide +kernel
theorem dX4_bearer_27 : decode cX4_bearer 27 = .ok (.astore_n 3, 1) := by decide +kernel
theorem dX4_bearer_28 : decode cX4_bearer 28 = .ok (.iload_n 2, 1) := by decide +kernel
theorem dX4_bearer_29 : decode cX4_bearer 29 = .ok (.tableswitch 68 0 4 #[35, 40, 45, 50, 55], 35) := by decide +kernel
theorem dX4_bearer_64 : decode cX4_bearer 64 = .ok (.aload_n 3, 1) := by decide +kernel
theorem dX4_bearer_65 : decode cX4_bearer 65 = .ok (.getfield 154, 3) := by decide +kernel
theorem dX4_bearer_68 : decode cX4_bearer 68 = .ok (.ireturn, 1) := by decide +kernel
theorem dX4_bearer_69 : decode cX4_bearer 69 = .ok (.aload_n 3, 1) := by decide +kernel
theorem dX4_bearer_70 : decode cX4_bearer 70 = .ok (.getfield 159, 3) := by decide +kernel
theorem dX4_bearer_73 : decode cX4_bearer 73 = .ok (.ireturn, 1) := by decide +kernel
theorem dX4_bearer_74 : decode cX4_bearer 74 = .ok (.aload_n 3, 1) := by decide +kernel
theorem dX4_bearer_75 : decode cX4_bearer 75 = .ok (.getfield 162, 3) := by decide +kernel
theorem dX4_bearer_78 : decode cX4_bearer 78 = .ok (.ireturn, 1) := by decide +kernel
theorem dX4_bearer_79 : decode cX4_bearer 79 = .ok (.aload_n 3, 1) := by decide +kernel
theorem dX4_bearer_80 : decode cX4_bearer 80 = .ok (.getfield 165, 3) := by decide +kernel
theorem dX4_bearer_83 : decode cX4_bearer 83 = .ok (.ireturn, 1) := by decide +kernel
theorem dX4_bearer_84 : decode cX4_bearer 84 = .ok (.aload_n 3, 1) := by decide +kernel
theorem dX4_bearer_85 : decode cX4_bearer 85 = .ok (.getfield 168, 3) := by decide +kernel
theorem dX4_bearer_88 : decode cX4_bearer 88 = .ok (.ifCond .eq 7, 3) := by decide +kernel
theorem dX4_bearer_91 : decode cX4_bearer 91 = .ok (.iconst 1, 1) := by decide +kernel
theorem dX4_bearer_92 : decode cX4_bearer 92 = .ok (.goto 4, 3) := by decide +kernel
theorem dX4_bearer_95 : decode cX4_bearer 95 = .ok (.iconst 0, 1) := by decide +kernel
theorem dX4_bearer_96 : decode cX4_bearer 96 = .ok (.ireturn, 1) := by decide +kernel
theorem dX4_bearer_97 : decode cX4_bearer 97 = .ok (.bipush (-9), 2) := by decide +kernel
theorem dX4_bearer_99 : decode cX4_bearer 99 = .ok (.ireturn, 1) := by decide +kernel
theorem dX4_level_0 : decode cX4_level 0 = .ok (.aload_n 0, 1) := by decide +kernel
theorem dX4_level_1 : decode cX4_level 1 = .ok (.getfield 12, 3) := by decide +kernel
theorem dX4_level_4 : decode cX4_level 4 = .ok (.iload_n 1, 1) := by decide +kernel
theorem dX4_level_5 : decode cX4_level 5 = .ok (.invokevirtual 63, 3) := by decide +kernel
theorem dX4_level_8 : decode cX4_level 8 = .ok (.ifCond .eq 21, 3) := by decide +kernel
theorem dX4_level_11 : decode cX4_level 11 = .ok (.aload_n 0, 1) := by decide +kernel
theorem dX4_level_12 : decode cX4_level 12 = .ok (.getfield 12, 3) := by decide +kernel
theorem dX4_level_15 : decode cX4_level 15 = .ok (.iload_n 2, 1) := by decide +kernel
theorem dX4_level_16 : decode cX4_level 16 = .ok (.invokevirtual 56, 3) := by decide +kernel
theorem dX4_level_19 : decode cX4_level 19 = .ok (.ifCond .eq 10, 3) := by decide +kernel
theorem dX4_level_22 : decode cX4_level 22 = .ok (.iload_n 3, 1) := by decide +kernel
theorem dX4_level_23 : decode cX4_level 23 = .ok (.invokestatic 26, 3) := by decide +kernel
theorem dX4_level_26 : decode cX4_level 26 = .ok (.ifCond .ne 9, 3) := by decide +kernel
theorem dX4_level_29 : decode cX4_level 29 = .ok (.aload_n 0, 1) := by decide +kernel
theorem dX4_level_30 : decode cX4_level 30 = .ok (.iconst (-1), 1) := by decide +kernel
theorem dX4_level_31 : decode cX4_level 31 = .ok (.invokevirtual 30, 3) := by decide +kernel
theorem dX4_level_34 : decode cX4_level 34 = .ok (.ireturn, 1) := by decide +kernel
theorem dX4_level_35 : decode cX4_level 35 = .ok (.aload_n 0, 1) := by decide +kernel
theorem dX4_level_36 : decode cX4_level 36 = .ok (.getfield 12, 3) := by decide +kernel
theorem dX4_level_39 : decode cX4_level 39 = .ok (.iload_n 3, 1) := by decide +kernel
theorem dX4_level_40 : decode cX4_level 40 = .ok (.aload_n 0, 1) := by decide +kernel
theorem dX4_level_41 : decode cX4_level 41 = .ok (.getfield 12, 3) := by decide +kernel
theorem dX4_level_44 : decode cX4_level 44 = .ok (.iload_n 1, 1) := by decide +kernel
theorem dX4_level_45 : decode cX4_level 45 = .ok (.iload_n 2, 1) := by decide +kernel
theorem dX4_level_46 : decode cX4_level 46 = .ok (.invokevirtual 171, 3) := by decide +kernel
theorem dX4_level_49 : decode cX4_level 49 = .ok (.aload_n 0, 1) := by decide +kernel
theorem dX4_level_50 : decode cX4_level 50 = .ok (.getfield 12, 3) := by decide +kernel
theorem dX4_level_53 : decode cX4_level 53 = .ok (.iload_n 1, 1) := by decide +kernel
theorem dX4_level_54 : decode cX4_level 54 = .ok (.iload_n 2, 1) := by decide +kernel
theorem dX4_level_55 : decode cX4_level 55 = .ok (.invokevirtual 175, 3) := by decide +kernel
theorem dX4_level_58 : decode cX4_level 58 = .ok (.aload_n 0, 1) := by decide +kernel
theorem dX4_level_59 : decode cX4_level 59 = .ok (.getfield 12, 3) := by decide +kernel
theorem dX4_level_62 : decode cX4_level 62 = .ok (.iload_n 1, 1) := by decide +kernel
theorem dX4_level_63 : decode cX4_level 63 = .ok (.iload_n 2, 1) := by decide +kernel
theorem dX4_level_64 : decode cX4_level 64 = .ok (.invokevirtual 178, 3) := by decide +kernel
theorem dX4_level_67 : decode cX4_level 67 = .ok (.invokevirtual 181, 3) := by decide +kernel
theorem dX4_level_70 : decode cX4_level 70 = .ok (.ireturn, 1) := by decide +kernel
end
section
theorem dX4_beacon_0 : decode cX4_beacon 0 = .ok (.aload_n 0, 1) := by decide +kernel
theorem dX4_beacon_1 : decode cX4_beacon 1 = .ok (.getfield 12, 3) := by decide +kernel
theorem dX4_beacon_4 : decode cX4_beacon 4 = .ok (.iload_n 1, 1) := by decide +kernel
theorem dX4_beacon_5 : decode cX4_beacon 5 = .ok (.invokevirtual 56, 3) := by decide +kernel
theorem dX4_beacon_8 : decode cX4_beacon 8 = .ok (.ifCond .eq 35, 3) := by decide +kernel
theorem dX4_beacon_11 : decode cX4_beacon 11 = .ok (.iload_n 2, 1) := by decide +kernel
theorem dX4_beacon_12 : decode cX4_beacon 12 = .ok (.invokestatic 41, 3) := by decide +kernel
theorem dX4_beacon_15 : decode cX4_beacon 15 = .ok (.ifCond .eq 28, 3) := by decide +kernel
theorem dX4_beacon_18 : decode cX4_beacon 18 = .ok (.aload_n 0, 1) := by decide +kernel
theorem dX4_beacon_19 : decode cX4_beacon 19 = .ok (.getfield 12, 3) := by decide +kernel
theorem dX4_beacon_22 : decode cX4_beacon 22 = .ok (.iload_n 1, 1) := by decide +kernel
theorem dX4_beacon_23 : decode cX4_beacon 23 = .ok (.iload_n 2, 1) := by decide +kernel
theorem dX4_beacon_24 : decode cX4_beacon 24 = .ok (.aload_n 0, 1) := by decide +kernel
theorem dX4_beacon_25 : decode cX4_beacon 25 = .ok (.getfield 12, 3) := by decide +kernel
theorem dX4_beacon_28 : decode cX4_beacon 28 = .ok (.getfield 185, 3) := by decide +kernel
theorem dX4_beacon_31 : decode cX4_beacon 31 = .ok (.iload_n 1, 1) := by decide +kernel
theorem dX4_beacon_32 : decode cX4_beacon 32 = .ok (.iaload, 1) := by decide +kernel
theorem dX4_beacon_33 : decode cX4_beacon 33 = .ok (.invokevirtual 188, 3) := by decide +kernel
theorem dX4_beacon_36 : decode cX4_beacon 36 = .ok (.ifCond .eq 7, 3) := by decide +kernel
theorem dX4_beacon_39 : decode cX4_beacon 39 = .ok (.iconst 1, 1) := by decide +kernel
theorem dX4_beacon_40 : decode cX4_beacon 40 = .ok (.goto 4, 3) := by decide +kernel
theorem dX4_beacon_43 : decode cX4_beacon 43 = .ok (.iconst 0, 1) := by decide +kernel
theorem dX4_beacon_44 : decode cX4_beacon 44 = .ok (.ireturn, 1) := by decide +kernel
theorem dX4_mix_0 : decode cX4_mix 0 = .ok (.lload_n 1, 1) := by decide +kernel
theorem dX4_mix_1 : decode cX4_mix 1 = .ok (.lload_n 3, 1) := by decide +kernel
theorem dX4_mix_2 : decode cX4_mix 2 = .ok (.invokestatic 192, 3) := by decide +kernel
theorem dX4_mix_5 : decode cX4_mix 5 = .ok (.lreturn, 1) := by decide +kernel
theorem dX4_air_0 : decode cX4_air 0 = .ok (.iload_n 1, 1) := by decide +kernel
theorem dX4_air_1 : decode cX4_air 1 = .ok (.lookupswitch 37 #[(0, 27), (1, 32)], 27) := by decide +kernel
theorem dX4_air_28 : decode cX4_air 28 = .ok (.aload_n 0, 1) := by decide +kernel
theorem dX4_air_29 : decode cX4_air 29 = .ok (.getfield 196, 3) := by decide +kernel
theorem dX4_air_32 : decode cX4_air 32 = .ok (.lreturn, 1) := by decide +kernel
theorem dX4_air_33 : decode cX4_air 33 = .ok (.aload_n 0, 1) := by decide +kernel
theorem dX4_air_34 : decode cX4_air 34 = .ok (.getfield 199, 3) := by decide +kernel
theorem dX4_air_37 : decode cX4_air 37 = .ok (.lreturn, 1) := by decide +kernel
theorem dX4_air_38 : decode cX4_air 38 = .ok (.lconst 0, 1) := by decide +kernel
theorem dX4_air_39 : decode cX4_air 39 = .ok (.lreturn, 1) := by decide +kernel
theorem dX4_count_0 : decode cX4_count 0 = .ok (.iload_n 1, 1) := by decide +kernel
theorem dX4_count_1 : decode cX4_count 1 = .ok (.tableswitch 108 0 8 #[51, 56, 64, 72, 80, 88, 93, 98, 103], 51) := by decide +kernel
theorem dX4_count_52 : decode cX4_count 52 = .ok (.aload_n 0, 1) := by decide +kernel
theorem dX4_count_53 : decode cX4_count 53 = .ok (.getfield 84, 3) := by decide +kernel
theorem dX4_count_56 : decode cX4_count 56 = .ok (.ireturn, 1) := by decide +kernel
theorem dX4_count_57 : decode cX4_count 57 = .ok (.aload_n 0, 1) := by decide +kernel
theorem dX4_count_58 : decode cX4_count 58 = .ok (.getfield 12, 3) := by decide +kernel
theorem dX4_count_61 : decode cX4_count 61 = .ok (.getfield 34, 3) := by decide +kernel
theorem dX4_count_64 : decode cX4_count 64 = .ok (.ireturn, 1) := by decide +kernel
theorem dX4_count_65 : decode cX4_count 65 = .ok (.aload_n 0, 1) := by decide +kernel
theorem dX4_count_66 : decode cX4_count 66 = .ok (.getfield 12, 3) := by decide +kernel
theorem dX4_count_69 : decode cX4_count 69 = .ok (.getfield 44, 3) := by decide +kernel
theorem dX4_count_72 : decode cX4_count 72 = .ok (.ireturn, 1) := by decide +kernel
theorem dX4_count_73 : decode cX4_count 73 = .ok (.aload_n 0, 1) := by decide +kernel
theorem dX4_count_74 : decode cX4_count 74 = .ok (.getfield 12, 3) := by decide +kernel
theorem dX4_count_77 : decode cX4_count 77 = .ok (.getfield 147, 3) := by decide +kernel
theorem dX4_count_80 : decode cX4_count 80 = .ok (.ireturn, 1) := by decide +kernel
theorem dX4_count_81 : decode cX4_count 81 = .ok (.aload_n 0, 1) := by decide +kernel
theorem dX4_count_82 : decode cX4_count 82 = .ok (.getfield 12, 3) := by decide +kernel
theorem dX4_count_85 : decode cX4_count 85 = .ok (.getfield 202, 3) := by decide +kernel
theorem dX4_count_88 : decode cX4_count 88 = .ok (.ireturn, 1) := by decide +kernel
theorem dX4_count_89 : decode cX4_count 89 = .ok (.aload_n 0, 1) := by decide +kernel
theorem dX4_count_90 : decode cX4_count 90 = .ok (.getfield 94, 3) := by decide +kernel
theorem dX4_count_93 : decode cX4_count 93 = .ok (.ireturn, 1) := by decide +kernel
theorem dX4_count_94 : decode cX4_count 94 = .ok (.aload_n 0, 1) := by decide +kernel
theorem dX4_count_95 : decode cX4_count 95 = .ok (.getfield 205, 3) := by decide +kernel
theorem dX4_count_98 : decode cX4_count 98 = .ok (.ireturn, 1) := by decide +kernel
theorem dX4_count_99 : decode cX4_count 99 = .ok (.aload_n 0, 1) := by decide +kernel
theorem dX4_count_100 : decode cX4_count 100 = .ok (.getfield 208, 3) := by decide +kernel
theorem dX4_count_103 : decode cX4_count 103 = .ok (.ireturn, 1) := by decide +kernel
theorem dX4_count_104 : decode cX4_count 104 = .ok (.aload_n 0, 1) := by decide +kernel
theorem dX4_count_105 : decode cX4_count 105 = .ok (.getfield 211, 3) := by decide +kernel
theorem dX4_count_108 : decode cX4_count 108 = .ok (.ireturn, 1) := by decide +kernel
theorem dX4_count_109 : decode cX4_count 109 = .ok (.iload_n 1, 1) := by decide +kernel
theorem dX4_count_110 : decode cX4_count 110 = .ok (.bipush 11, 2) := by decide +kernel
theorem dX4_count_112 : decode cX4_count 112 = .ok (.if_icmp .lt 21, 3) := by decide +kernel
theorem dX4_count_115 : decode cX4_count 115 = .ok (.iload_n 1, 1) := by decide +kernel
theorem dX4_count_116 : decode cX4_count 116 = .ok (.bipush 16, 2) := by decide +kernel
theorem dX4_count_118 : decode cX4_count 118 = .ok (.if_icmp .gt 15, 3) := by decide +kernel
theorem dX4_count_121 : decode cX4_count 121 = .ok (.aload_n 0, 1) := by decide +kernel
theorem dX4_count_122 : decode cX4_count 122 = .ok (.getfield 22, 3) := by decide +kernel
theorem dX4_count_125 : decode cX4_count 125 = .ok (.iload_n 1, 1) := by decide +kernel
theorem dX4_count_126 : decode cX4_count 126 = .ok (.bipush 10, 2) := by decide +kernel
theorem dX4_count_128 : decode cX4_count 128 = .ok (.isub, 1) := by decide +kernel
theorem dX4_count_129 : decode cX4_count 129 = .ok (.iaload, 1) := by decide +kernel
theorem dX4_count_130 : decode cX4_count 130 = .ok (.goto 5, 3) := by decide +kernel
theorem dX4_count_133 : decode cX4_count 133 = .ok (.bipush (-9), 2) := by decide +kernel
theorem dX4_count_135 : decode cX4_count 135 = .ok (.ireturn, 1) := by decide +kernel
theorem dX4_isPlace_0 : decode cX4_isPlace 0 = .ok (.iload_n 0, 1) := by decide +kernel
theorem dX4_isPlace_1 : decode cX4_isPlace 1 = .ok (.ifCond .lt 13, 3) := by decide +kernel
theorem dX4_isPlace_4 : decode cX4_isPlace 4 = .ok (.iload_n 0, 1) := by decide +kernel
theorem dX4_isPlace_5 : decode cX4_isPlace 5 = .ok (.bipush 16, 2) := by decide +kernel
theorem dX4_isPlace_7 : decode cX4_isPlace 7 = .ok (.if_icmp .ge 7, 3) := by decide +kernel
theorem dX4_isPlace_10 : decode cX4_isPlace 10 = .ok (.iconst 1, 1) := by decide +kernel
theorem dX4_isPlace_11 : decode cX4_isPlace 11 = .ok (.goto 4, 3) := by decide +kernel
theorem dX4_isPlace_14 : decode cX4_isPlace 14 = .ok (.iconst 0, 1) := by decide +kernel
theorem dX4_isPlace_15 : decode cX4_isPlace 15 = .ok (.ireturn, 1) := by decide +kernel
theorem dX4_isChannel_0 : decode cX4_isChannel 0 = .ok (.iload_n 0, 1) := by decide +kernel
theorem dX4_isChannel_1 : decode cX4_isChannel 1 = .ok (.ifCond .lt 13, 3) := by decide +kernel
theorem dX4_isChannel_4 : decode cX4_isChannel 4 = .ok (.iload_n 0, 1) := by decide +kernel
theorem dX4_isChannel_5 : decode cX4_isChannel 5 = .ok (.bipush 120, 2) := by decide +kernel
theorem dX4_isChannel_7 : decode cX4_isChannel 7 = .ok (.if_icmp .ge 7, 3) := by decide +kernel
theorem dX4_isChannel_10 : decode cX4_isChannel 10 = .ok (.iconst 1, 1) := by decide +kernel
theorem dX4_isChannel_11 : decode cX4_isChannel 11 = .ok (.goto 4, 3) := by decide +kernel
theorem dX4_isChannel_14 : decode cX4_isChannel 14 = .ok (.iconst 0, 1) := by decide +kernel
theorem dX4_isChannel_15 : decode cX4_isChannel 15 = .ok (.ireturn, 1) := by decide +kernel
theorem dX4_mixOf_0 : decode cX4_mixOf 0 = .ok (.lload_n 0, 1) := by decide +kernel
theorem dX4_mixOf_1 : decode cX4_mixOf 1 = .ok (.lload_n 2, 1) := by decide +kernel
theorem dX4_mixOf_2 : decode cX4_mixOf 2 = .ok (.ldc2_w 214, 3) := by decide +kernel
theorem dX4_mixOf_5 : decode cX4_mixOf 5 = .ok (.lmul, 1) := by decide +kernel
theorem dX4_mixOf_6 : decode cX4_mixOf 6 = .ok (.lxor, 1) := by decide +kernel
theorem dX4_mixOf_7 : decode cX4_mixOf 7 = .ok (.lstore 4, 2) := by decide +kernel
theorem dX4_mixOf_9 : decode cX4_mixOf 9 = .ok (.lload 4, 2) := by decide +kernel
theorem dX4_mixOf_11 : decode cX4_mixOf 11 = .ok (.lload 4, 2) := by decide +kernel
theorem dX4_mixOf_13 : decode cX4_mixOf 13 = .ok (.bipush 29, 2) := by decide +kernel
theorem dX4_mixOf_15 : decode cX4_mixOf 15 = .ok (.lushr, 1) := by decide +kernel
theorem dX4_mixOf_16 : decode cX4_mixOf 16 = .ok (.lxor, 1) := by decide +kernel
theorem dX4_mixOf_17 : decode cX4_mixOf 17 = .ok (.ldc2_w 216, 3) := by decide +kernel
theorem dX4_mixOf_20 : decode cX4_mixOf 20 = .ok (.lmul, 1) := by decide +kernel
theorem dX4_mixOf_21 : decode cX4_mixOf 21 = .ok (.lstore 4, 2) := by decide +kernel
theorem dX4_mixOf_23 : decode cX4_mixOf 23 = .ok (.lload 4, 2) := by decide +kernel
theorem dX4_mixOf_25 : decode cX4_mixOf 25 = .ok (.lload 4, 2) := by decide +kernel
theorem dX4_mixOf_27 : decode cX4_mixOf 27 = .ok (.bipush 29, 2) := by decide +kernel
theorem dX4_mixOf_29 : decode cX4_mixOf 29 = .ok (.lushr, 1) := by decide +kernel
theorem dX4_mixOf_30 : decode cX4_mixOf 30 = .ok (.lxor, 1) := by decide +kernel
theorem dX4_mixOf_31 : decode cX4_mixOf 31 = .ok (.ldc2_w 216, 3) := by decide +kernel
theorem dX4_mixOf_34 : decode cX4_mixOf 34 = .ok (.lmul, 1) := by decide +kernel
theorem dX4_mixOf_35 : decode cX4_mixOf 35 = .ok (.lreturn, 1) := by decide +kernel
theorem dX4_refuse_0 : decode cX4_refuse 0 = .ok (.iload_n 1, 1) := by decide +kernel
theorem dX4_refuse_1 : decode cX4_refuse 1 = .ok (.ineg, 1) := by decide +kernel
theorem dX4_refuse_2 : decode cX4_refuse 2 = .ok (.istore_n 2, 1) := by decide +kernel
theorem dX4_refuse_3 : decode cX4_refuse 3 = .ok (.iload_n 2, 1) := by decide +kernel
theorem dX4_refuse_4 : decode cX4_refuse 4 = .ok (.ifCond .lt 22, 3) := by decide +kernel
theorem dX4_refuse_7 : decode cX4_refuse 7 = .ok (.iload_n 2, 1) := by decide +kernel
theorem dX4_refuse_8 : decode cX4_refuse 8 = .ok (.aload_n 0, 1) := by decide +kernel
theorem dX4_refuse_9 : decode cX4_refuse 9 = .ok (.getfield 22, 3) := by decide +kernel
theorem dX4_refuse_12 : decode cX4_refuse 12 = .ok (.arraylength, 1) := by decide +kernel
theorem dX4_refuse_13 : decode cX4_refuse 13 = .ok (.if_icmp .ge 13, 3) := by decide +kernel
theorem dX4_refuse_16 : decode cX4_refuse 16 = .ok (.aload_n 0, 1) := by decide +kernel
theorem dX4_refuse_17 : decode cX4_refuse 17 = .ok (.getfield 22, 3) := by decide +kernel
theorem dX4_refuse_20 : decode cX4_refuse 20 = .ok (.iload_n 2, 1) := by decide +kernel
theorem dX4_refuse_21 : decode cX4_refuse 21 = .ok (.dup2, 1) := by decide +kernel
theorem dX4_refuse_22 : decode cX4_refuse 22 = .ok (.iaload, 1) := by decide +kernel
theorem dX4_refuse_23 : decode cX4_refuse 23 = .ok (.iconst 1, 1) := by decide +kernel
theorem dX4_refuse_24 : decode cX4_refuse 24 = .ok (.iadd, 1) := by decide +kernel
theorem dX4_refuse_25 : decode cX4_refuse 25 = .ok (.iastore, 1) := by decide +kernel
theorem dX4_refuse_26 : decode cX4_refuse 26 = .ok (.iload_n 1, 1) := by decide +kernel
theorem dX4_refuse_27 : decode cX4_refuse 27 = .ok (.ireturn, 1) := by decide +kernel
theorem dX4_find_0 : decode cX4_find 0 = .ok (.aload_n 0, 1) := by decide +kernel
theorem dX4_find_1 : decode cX4_find 1 = .ok (.getfield 12, 3) := by decide +kernel
theorem dX4_find_4 : decode cX4_find 4 = .ok (.iload_n 1, 1) := by decide +kernel
theorem dX4_find_5 : decode cX4_find 5 = .ok (.invokevirtual 63, 3) := by decide +kernel
theorem dX4_find_8 : decode cX4_find 8 = .ok (.ifCond .eq 12, 3) := by decide +kernel
theorem dX4_find_11 : decode cX4_find 11 = .ok (.aload_n 0, 1) := by decide +kernel
theorem dX4_find_12 : decode cX4_find 12 = .ok (.getfield 18, 3) := by decide +kernel
theorem dX4_find_15 : decode cX4_find 15 = .ok (.iload_n 1, 1) := by decide +kernel
theorem dX4_find_16 : decode cX4_find 16 = .ok (.aaload, 1) := by decide +kernel
theorem dX4_find_17 : decode cX4_find 17 = .ok (.goto 4, 3) := by decide +kernel
theorem dX4_find_20 : decode cX4_find 20 = .ok (.aconst_null, 1) := by decide +kernel
theorem dX4_find_21 : decode cX4_find 21 = .ok (.areturn, 1) := by decide +kernel
theorem dX4_runFrame_0 : decode cX4_runFrame 0 = .ok (.aload_n 0, 1) := by decide +kernel
theorem dX4_runFrame_1 : decode cX4_runFrame 1 = .ok (.dup, 1) := by decide +kernel
theorem dX4_runFrame_2 : decode cX4_runFrame 2 = .ok (.getfield 84, 3) := by decide +kernel
theorem dX4_runFrame_5 : decode cX4_runFrame 5 = .ok (.iconst 1, 1) := by decide +kernel
theorem dX4_runFrame_6 : decode cX4_runFrame 6 = .ok (.iadd, 1) := by decide +kernel
theorem dX4_runFrame_7 : decode cX4_runFrame 7 = .ok (.putfield 84, 3) := by decide +kernel
theorem dX4_runFrame_10 : decode cX4_runFrame 10 = .ok (.aload_n 0, 1) := by decide +kernel
theorem dX4_runFrame_11 : decode cX4_runFrame 11 = .ok (.invokevirtual 218, 3) := by decide +kernel
theorem dX4_runFrame_14 : decode cX4_runFrame 14 = .ok (.aload_n 0, 1) := by decide +kernel
theorem dX4_runFrame_15 : decode cX4_runFrame 15 = .ok (.getfield 12, 3) := by decide +kernel
theorem dX4_runFrame_18 : decode cX4_runFrame 18 = .ok (.invokevirtual 221, 3) := by decide +kernel
theorem dX4_runFrame_21 : decode cX4_runFrame 21 = .ok (.aload_n 0, 1) := by decide +kernel
theorem dX4_runFrame_22 : decode cX4_runFrame 22 = .ok (.getfield 12, 3) := by decide +kernel
theorem dX4_runFrame_25 : decode cX4_runFrame 25 = .ok (.invokevirtual 224, 3) := by decide +kernel
theorem dX4_runFrame_28 : decode cX4_runFrame 28 = .ok (.aload_n 0, 1) := by decide +kernel
theorem dX4_runFrame_29 : decode cX4_runFrame 29 = .ok (.invokevirtual 227, 3) := by decide +kernel
theorem dX4_runFrame_32 : decode cX4_runFrame 32 = .ok (.aload_n 0, 1) := by decide +kernel
theorem dX4_runFrame_33 : decode cX4_runFrame 33 = .ok (.invokevirtual 230, 3) := by decide +kernel
theorem dX4_runFrame_36 : decode cX4_runFrame 36 = .ok (.aload_n 0, 1) := by decide +kernel
theorem dX4_runFrame_37 : decode cX4_runFrame 37 = .ok (.invokevirtual 233, 3) := by decide +kernel
theorem dX4_runFrame_40 : decode cX4_runFrame 40 = .ok (.aload_n 0, 1) := by decide +kernel
theorem dX4_runFrame_41 : decode cX4_runFrame 41 = .ok (.invokevirtual 236, 3) := by decide +kernel
theorem dX4_runFrame_44 : decode cX4_runFrame 44 = .ok (.aload_n 0, 1) := by decide +kernel
theorem dX4_runFrame_45 : decode cX4_runFrame 45 = .ok (.invokevirtual 239, 3) := by decide +kernel
theorem dX4_runFrame_48 : decode cX4_runFrame 48 = .ok (.aload_n 0, 1) := by decide +kernel
theorem dX4_runFrame_49 : decode cX4_runFrame 49 = .ok (.invokevirtual 242, 3) := by decide +kernel
theorem dX4_runFrame_52 : decode cX4_runFrame 52 = .ok (.return_, 1) := by decide +kernel
theorem dX4_setUpBearers_0 : decode cX4_setUpBearers 0 = .ok (.iconst 0, 1) := by decide +kernel
theorem dX4_setUpBearers_1 : decode cX4_setUpBearers 1 = .ok (.istore_n 1, 1) := by decide +kernel
theorem dX4_setUpBearers_2 : decode cX4_setUpBearers 2 = .ok (.iload_n 1, 1) := by decide +kernel
theorem dX4_setUpBearers_3 : decode cX4_setUpBearers 3 = .ok (.aload_n 0, 1) := by decide +kernel
theorem dX4_setUpBearers_4 : decode cX4_setUpBearers 4 = .ok (.getfield 12, 3) := by decide +kernel
theorem dX4_setUpBearers_7 : decode cX4_setUpBearers 7 = .ok (.getfield 44, 3) := by decide +kernel
theorem dX4_setUpBearers_10 : decode cX4_setUpBearers 10 = .ok (.if_icmp .ge 41, 3) := by decide +kernel
theorem dX4_setUpBearers_13 : decode cX4_setUpBearers 13 = .ok (.aload_n 0, 1) := by decide +kernel
theorem dX4_setUpBearers_14 : decode cX4_setUpBearers 14 = .ok (.getfield 84, 3) := by decide +kernel
theorem dX4_setUpBearers_17 : decode cX4_setUpBearers 17 = .ok (.iload_n 1, 1) := by decide +kernel
theorem dX4_setUpBearers_18 : decode cX4_setUpBearers 18 = .ok (.isub, 1) := by decide +kernel
theorem dX4_setUpBearers_19 : decode cX4_setUpBearers 19 = .ok (.iconst 4, 1) := by decide +kernel
theorem dX4_setUpBearers_20 : decode cX4_setUpBearers 20 = .ok (.irem, 1) := by decide +kernel
theorem dX4_setUpBearers_21 : decode cX4_setUpBearers 21 = .ok (.ifCond .ne 24, 3) := by decide +kernel
theorem dX4_setUpBearers_24 : decode cX4_setUpBearers 24 = .ok (.aload_n 0, 1) := by decide +kernel
theorem dX4_setUpBearers_25 : decode cX4_setUpBearers 25 = .ok (.aload_n 0, 1) := by decide +kernel
theorem dX4_setUpBearers_26 : decode cX4_setUpBearers 26 = .ok (.getfield 18, 3) := by decide +kernel
theorem dX4_setUpBearers_29 : decode cX4_setUpBearers 29 = .ok (.iload_n 1, 1) := by decide +kernel
theorem dX4_setUpBearers_30 : decode cX4_setUpBearers 30 = .ok (.aaload, 1) := by decide +kernel
theorem dX4_setUpBearers_31 : decode cX4_setUpBearers 31 = .ok (.invokevirtual 245, 3) := by decide +kernel
theorem dX4_setUpBearers_34 : decode cX4_setUpBearers 34 = .ok (.ifCond .eq 11, 3) := by decide +kernel
theorem dX4_setUpBearers_37 : decode cX4_setUpBearers 37 = .ok (.aload_n 0, 1) := by decide +kernel
theorem dX4_setUpBearers_38 : decode cX4_setUpBearers 38 = .ok (.getfield 12, 3) := by decide +kernel
theorem dX4_setUpBearers_41 : decode cX4_setUpBearers 41 = .ok (.iload_n 1, 1) := by decide +kernel
theorem dX4_setUpBearers_42 : decode cX4_setUpBearers 42 = .ok (.invokevirtual 249, 3) := by decide +kernel
theorem dX4_setUpBearers_45 : decode cX4_setUpBearers 45 = .ok (.iinc 1 1, 3) := by decide +kernel
theorem dX4_setUpBearers_48 : decode cX4_setUpBearers 48 = .ok (.goto (-46), 3) := by decide +kernel
theorem dX4_setUpBearers_51 : decode cX4_setUpBearers 51 = .ok (.return_, 1) := by decide +kernel
theorem dX4_wantsBearer_0 : decode cX4_wantsBearer 0 = .ok (.aload_n 1, 1) := by decide +kernel
theorem dX4_wantsBearer_1 : decode cX4_wantsBearer 1 = .ok (.getfield 73, 3) := by decide +kernel
theorem dX4_wantsBearer_4 : decode cX4_wantsBearer 4 = .ok (.iconst 1, 1) := by decide +kernel
theorem dX4_wantsBearer_5 : decode cX4_wantsBearer 5 = .ok (.if_icmp .eq 11, 3) := by decide +kernel
theorem dX4_wantsBearer_8 : decode cX4_wantsBearer 8 = .ok (.aload_n 1, 1) := by decide +kernel
theorem dX4_wantsBearer_9 : decode cX4_wantsBearer 9 = .ok (.getfield 73, 3) := by decide +kernel
theorem dX4_wantsBearer_12 : decode cX4_wantsBearer 12 = .ok (.iconst 4, 1) := by decide +kernel
theorem dX4_wantsBearer_13 : decode cX4_wantsBearer 13 = .ok (.if_icmp .ne 7, 3) := by decide +kernel
theorem dX4_wantsBearer_16 : decode cX4_wantsBearer 16 = .ok (.iconst 1, 1) := by decide +kernel
theorem dX4_wantsBearer_17 : decode cX4_wantsBearer 17 = .ok (.goto 4, 3) := by decide +kernel
theorem dX4_wantsBearer_20 : decode cX4_wantsBearer 20 = .ok (.iconst 0, 1) := by decide +kernel
theorem dX4_wantsBearer_21 : decode cX4_wantsBearer 21 = .ok (.istore_n 2, 1) := by decide +kernel
theorem dX4_wantsBearer_22 : decode cX4_wantsBearer 22 = .ok (.iload_n 2, 1) := by decide +kernel
theorem dX4_wantsBearer_23 : decode cX4_wantsBearer 23 = .ok (.ifCond .eq 17, 3) := by decide +kernel
theorem dX4_wantsBearer_26 : decode cX4_wantsBearer 26 = .ok (.aload_n 0, 1) := by decide +kernel
theorem dX4_wantsBearer_27 : decode cX4_wantsBearer 27 = .ok (.getfield 12, 3) := by decide +kernel
theorem dX4_wantsBearer_30 : decode cX4_wantsBearer 30 = .ok (.aload_n 1, 1) := by decide +kernel
theorem dX4_wantsBearer_31 : decode cX4_wantsBearer 31 = .ok (.getfield 253, 3) := by decide +kernel
theorem dX4_wantsBearer_34 : decode cX4_wantsBearer 34 = .ok (.invokevirtual 128, 3) := by decide +kernel
theorem dX4_wantsBearer_37 : decode cX4_wantsBearer 37 = .ok (.ifCond .eq 17, 3) := by decide +kernel
theorem dX4_wantsBearer_40 : decode cX4_wantsBearer 40 = .ok (.aload_n 0, 1) := by decide +kernel
theorem dX4_wantsBearer_41 : decode cX4_wantsBearer 41 = .ok (.getfield 12, 3) := by decide +kernel
theorem dX4_wantsBearer_44 : decode cX4_wantsBearer 44 = .ok (.aload_n 1, 1) := by decide +kernel
theorem dX4_wantsBearer_45 : decode cX4_wantsBearer 45 = .ok (.getfield 253, 3) := by decide +kernel
theorem dX4_wantsBearer_48 : decode cX4_wantsBearer 48 = .ok (.invokevirtual 131, 3) := by decide +kernel
theorem dX4_wantsBearer_51 : decode cX4_wantsBearer 51 = .ok (.ifCond .eq 7, 3) := by decide +kernel
theorem dX4_wantsBearer_54 : decode cX4_wantsBearer 54 = .ok (.iconst 1, 1) := by decide +kernel
theorem dX4_wantsBearer_55 : decode cX4_wantsBearer 55 = .ok (.goto 4, 3) := by decide +kernel
theorem dX4_wantsBearer_58 : decode cX4_wantsBearer 58 = .ok (.iconst 0, 1) := by decide +kernel
theorem dX4_wantsBearer_59 : decode cX4_wantsBearer 59 = .ok (.ireturn, 1) := by decide +kernel
theorem dX4_dropHandedOver_0 : decode cX4_dropHandedOver 0 = .ok (.iconst 0, 1) := by decide +kernel
theorem dX4_dropHandedOver_1 : decode cX4_dropHandedOver 1 = .ok (.istore_n 1, 1) := by decide +kernel
theorem dX4_dropHandedOver_2 : decode cX4_dropHandedOver 2 = .ok (.iload_n 1, 1) := by decide +kernel
theorem dX4_dropHandedOver_3 : decode cX4_dropHandedOver 3 = .ok (.aload_n 0, 1) := by decide +kernel
theorem dX4_dropHandedOver_4 : decode cX4_dropHandedOver 4 = .ok (.getfield 12, 3) := by decide +kernel
theorem dX4_dropHandedOver_7 : decode cX4_dropHandedOver 7 = .ok (.getfield 44, 3) := by decide +kernel
theorem dX4_dropHandedOver_10 : decode cX4_dropHandedOver 10 = .ok (.if_icmp .ge 30, 3) := by decide +kernel
theorem dX4_dropHandedOver_13 : decode cX4_dropHandedOver 13 = .ok (.aload_n 0, 1) := by decide +kernel
theorem dX4_dropHandedOver_14 : decode cX4_dropHandedOver 14 = .ok (.getfield 12, 3) := by decide +kernel
theorem dX4_dropHandedOver_17 : decode cX4_dropHandedOver 17 = .ok (.iload_n 1, 1) := by decide +kernel
theorem dX4_dropHandedOver_18 : decode cX4_dropHandedOver 18 = .ok (.invokevirtual 256, 3) := by decide +kernel
theorem dX4_dropHandedOver_21 : decode cX4_dropHandedOver 21 = .ok (.ifCond .eq 13, 3) := by decide +kernel
theorem dX4_dropHandedOver_24 : decode cX4_dropHandedOver 24 = .ok (.aload_n 0, 1) := by decide +kernel
theorem dX4_dropHandedOver_25 : decode cX4_dropHandedOver 25 = .ok (.dup, 1) := by decide +kernel
theorem dX4_dropHandedOver_26 : decode cX4_dropHandedOver 26 = .ok (.getfield 208, 3) := by decide +kernel
theorem dX4_dropHandedOver_29 : decode cX4_dropHandedOver 29 = .ok (.iconst 1, 1) := by decide +kernel
theorem dX4_dropHandedOver_30 : decode cX4_dropHandedOver 30 = .ok (.iadd, 1) := by decide +kernel
theorem dX4_dropHandedOver_31 : decode cX4_dropHandedOver 31 = .ok (.putfield 208, 3) := by decide +kernel
theorem dX4_dropHandedOver_34 : decode cX4_dropHandedOver 34 = .ok (.iinc 1 1, 3) := by decide +kernel
theorem dX4_dropHandedOver_37 : decode cX4_dropHandedOver 37 = .ok (.goto (-35), 3) := by decide +kernel
theorem dX4_dropHandedOver_40 : decode cX4_dropHandedOver 40 = .ok (.return_, 1) := by decide +kernel
theorem dX4_endCallsWithoutBearer_0 : decode cX4_endCallsWithoutBearer 0 = .ok (.iconst 0, 1) := by decide +kernel
theorem dX4_endCallsWithoutBearer_1 : decode cX4_endCallsWithoutBearer 1 = .ok (.istore_n 1, 1) := by decide +kernel
theorem dX4_endCallsWithoutBearer_2 : decode cX4_endCallsWithoutBearer 2 = .ok (.iload_n 1, 1) := by decide +kernel
theorem dX4_endCallsWithoutBearer_3 : decode cX4_endCallsWithoutBearer 3 = .ok (.aload_n 0, 1) := by decide +kernel
theorem dX4_endCallsWithoutBearer_4 : decode cX4_endCallsWithoutBearer 4 = .ok (.getfield 12, 3) := by decide +kernel
theorem dX4_endCallsWithoutBearer_7 : decode cX4_endCallsWithoutBearer 7 = .ok (.getfield 44, 3) := by decide +kernel
theorem dX4_endCallsWithoutBearer_10 : decode cX4_endCallsWithoutBearer 10 = .ok (.if_icmp .ge 65, 3) := by decide +kernel
theorem dX4_endCallsWithoutBearer_13 : decode cX4_endCallsWithoutBearer 13 = .ok (.aload_n 0, 1) := by decide +kernel
theorem dX4_endCallsWithoutBearer_14 : decode cX4_endCallsWithoutBearer 14 = .ok (.getfield 18, 3) := by decide +kernel
theorem dX4_endCallsWithoutBearer_17 : decode cX4_endCallsWithoutBearer 17 = .ok (.iload_n 1, 1) := by decide +kernel
theorem dX4_endCallsWithoutBearer_18 : decode cX4_endCallsWithoutBearer 18 = .ok (.aaload, 1) := by decide +kernel
theorem dX4_endCallsWithoutBearer_19 : decode cX4_endCallsWithoutBearer 19 = .ok (.astore_n 2, 1) := by decide +kernel
theorem dX4_endCallsWithoutBearer_20 : decode cX4_endCallsWithoutBearer 20 = .ok (.aload_n 2, 1) := by decide +kernel
theorem dX4_endCallsWithoutBearer_21 : decode cX4_endCallsWithoutBearer 21 = .ok (.getfield 73, 3) := by decide +kernel
theorem dX4_endCallsWithoutBearer_24 : decode cX4_endCallsWithoutBearer 24 = .ok (.ifCond .eq 19, 3) := by decide +kernel
theorem dX4_endCallsWithoutBearer_27 : decode cX4_endCallsWithoutBearer 27 = .ok (.aload_n 2, 1) := by decide +kernel
theorem dX4_endCallsWithoutBearer_28 : decode cX4_endCallsWithoutBearer 28 = .ok (.getfield 73, 3) := by decide +kernel
theorem dX4_endCallsWithoutBearer_31 : decode cX4_endCallsWithoutBearer 31 = .ok (.iconst 1, 1) := by decide +kernel
theorem dX4_endCallsWithoutBearer_32 : decode cX4_endCallsWithoutBearer 32 = .ok (.if_icmp .eq 11, 3) := by decide +kernel
theorem dX4_endCallsWithoutBearer_35 : decode cX4_endCallsWithoutBearer 35 = .ok (.aload_n 2, 1) := by decide +kernel
theorem dX4_endCallsWithoutBearer_36 : decode cX4_endCallsWithoutBearer 36 = .ok (.getfield 73, 3) := by decide +kernel
theorem dX4_endCallsWithoutBearer_39 : decode cX4_endCallsWithoutBearer 39 = .ok (.iconst 4, 1) := by decide +kernel
theorem dX4_endCallsWithoutBearer_40 : decode cX4_endCallsWithoutBearer 40 = .ok (.if_icmp .ne 7, 3) := by decide +kernel
theorem dX4_endCallsWithoutBearer_43 : decode cX4_endCallsWithoutBearer 43 = .ok (.iconst 1, 1) := by decide +kernel
theorem dX4_endCallsWithoutBearer_44 : decode cX4_endCallsWithoutBearer 44 = .ok (.goto 4, 3) := by decide +kernel
theorem dX4_endCallsWithoutBearer_47 : decode cX4_endCallsWithoutBearer 47 = .ok (.iconst 0, 1) := by decide +kernel
theorem dX4_endCallsWithoutBearer_48 : decode cX4_endCallsWithoutBearer 48 = .ok (.istore_n 3, 1) := by decide +kernel
theorem dX4_endCallsWithoutBearer_49 : decode cX4_endCallsWithoutBearer 49 = .ok (.iload_n 3, 1) := by decide +kernel
theorem dX4_endCallsWithoutBearer_50 : decode cX4_endCallsWithoutBearer 50 = .ok (.ifCond .ne 19, 3) := by decide +kernel
theorem dX4_endCallsWithoutBearer_53 : decode cX4_endCallsWithoutBearer 53 = .ok (.aload_n 0, 1) := by decide +kernel
theorem dX4_endCallsWithoutBearer_54 : decode cX4_endCallsWithoutBearer 54 = .ok (.getfield 12, 3) := by decide +kernel
theorem dX4_endCallsWithoutBearer_57 : decode cX4_endCallsWithoutBearer 57 = .ok (.iload_n 1, 1) := by decide +kernel
theorem dX4_endCallsWithoutBearer_58 : decode cX4_endCallsWithoutBearer 58 = .ok (.invokevirtual 128, 3) := by decide +kernel
theorem dX4_endCallsWithoutBearer_61 : decode cX4_endCallsWithoutBearer 61 = .ok (.ifCond .ne 8, 3) := by decide +kernel
theorem dX4_endCallsWithoutBearer_64 : decode cX4_endCallsWithoutBearer 64 = .ok (.aload_n 0, 1) := by decide +kernel
theorem dX4_endCallsWithoutBearer_65 : decode cX4_endCallsWithoutBearer 65 = .ok (.aload_n 2, 1) := by decide +kernel
theorem dX4_endCallsWithoutBearer_66 : decode cX4_endCallsWithoutBearer 66 = .ok (.invokevirtual 97, 3) := by decide +kernel
theorem dX4_endCallsWithoutBearer_69 : decode cX4_endCallsWithoutBearer 69 = .ok (.iinc 1 1, 3) := by decide +kernel
theorem dX4_endCallsWithoutBearer_72 : decode cX4_endCallsWithoutBearer 72 = .ok (.goto (-70), 3) := by decide +kernel
theorem dX4_endCallsWithoutBearer_75 : decode cX4_endCallsWithoutBearer 75 = .ok (.return_, 1) := by decide +kernel
theorem dX4_advanceCalls_0 : decode cX4_advanceCalls 0 = .ok (.iconst 0, 1) := by decide +kernel
theorem dX4_advanceCalls_1 : decode cX4_advanceCalls 1 = .ok (.istore_n 1, 1) := by decide +kernel
theorem dX4_advanceCalls_2 : decode cX4_advanceCalls 2 = .ok (.iload_n 1, 1) := by decide +kernel
theorem dX4_advanceCalls_3 : decode cX4_advanceCalls 3 = .ok (.aload_n 0, 1) := by decide +kernel
theorem dX4_advanceCalls_4 : decode cX4_advanceCalls 4 = .ok (.getfield 12, 3) := by decide +kernel
theorem dX4_advanceCalls_7 : decode cX4_advanceCalls 7 = .ok (.getfield 44, 3) := by decide +kernel
theorem dX4_advanceCalls_10 : decode cX4_advanceCalls 10 = .ok (.if_icmp .ge 43, 3) := by decide +kernel
theorem dX4_advanceCalls_13 : decode cX4_advanceCalls 13 = .ok (.aload_n 0, 1) := by decide +kernel
theorem dX4_advanceCalls_14 : decode cX4_advanceCalls 14 = .ok (.getfield 12, 3) := by decide +kernel
theorem dX4_advanceCalls_17 : decode cX4_advanceCalls 17 = .ok (.iload_n 1, 1) := by decide +kernel
theorem dX4_advanceCalls_18 : decode cX4_advanceCalls 18 = .ok (.invokevirtual 259, 3) := by decide +kernel
theorem dX4_advanceCalls_21 : decode cX4_advanceCalls 21 = .ok (.ifCond .eq 26, 3) := by decide +kernel
theorem dX4_advanceCalls_24 : decode cX4_advanceCalls 24 = .ok (.aload_n 0, 1) := by decide +kernel
theorem dX4_advanceCalls_25 : decode cX4_advanceCalls 25 = .ok (.aload_n 0, 1) := by decide +kernel
theorem dX4_advanceCalls_26 : decode cX4_advanceCalls 26 = .ok (.getfield 18, 3) := by decide +kernel
theorem dX4_advanceCalls_29 : decode cX4_advanceCalls 29 = .ok (.iload_n 1, 1) := by decide +kernel
theorem dX4_advanceCalls_30 : decode cX4_advanceCalls 30 = .ok (.aaload, 1) := by decide +kernel
theorem dX4_advanceCalls_31 : decode cX4_advanceCalls 31 = .ok (.invokevirtual 262, 3) := by decide +kernel
theorem dX4_advanceCalls_34 : decode cX4_advanceCalls 34 = .ok (.ifCond .ne 13, 3) := by decide +kernel
theorem dX4_advanceCalls_37 : decode cX4_advanceCalls 37 = .ok (.aload_n 0, 1) := by decide +kernel
theorem dX4_advanceCalls_38 : decode cX4_advanceCalls 38 = .ok (.aload_n 0, 1) := by decide +kernel
theorem dX4_advanceCalls_39 : decode cX4_advanceCalls 39 = .ok (.getfield 18, 3) := by decide +kernel
theorem dX4_advanceCalls_42 : decode cX4_advanceCalls 42 = .ok (.iload_n 1, 1) := by decide +kernel
theorem dX4_advanceCalls_43 : decode cX4_advanceCalls 43 = .ok (.aaload, 1) := by decide +kernel
theorem dX4_advanceCalls_44 : decode cX4_advanceCalls 44 = .ok (.invokevirtual 97, 3) := by decide +kernel
theorem dX4_advanceCalls_47 : decode cX4_advanceCalls 47 = .ok (.iinc 1 1, 3) := by decide +kernel
theorem dX4_advanceCalls_50 : decode cX4_advanceCalls 50 = .ok (.goto (-48), 3) := by decide +kernel
theorem dX4_advanceCalls_53 : decode cX4_advanceCalls 53 = .ok (.return_, 1) := by decide +kernel
theorem dX4_advance_0 : decode cX4_advance 0 = .ok (.aload_n 1, 1) := by decide +kernel
theorem dX4_advance_1 : decode cX4_advance 1 = .ok (.getfield 73, 3) := by decide +kernel
theorem dX4_advance_4 : decode cX4_advance 4 = .ok (.tableswitch 93 1 5 #[36, 50, 93, 43, 72], 36) := by decide +kernel
theorem dX4_advance_40 : decode cX4_advance 40 = .ok (.aload_n 1, 1) := by decide +kernel
theorem dX4_advance_41 : decode cX4_advance 41 = .ok (.iconst 2, 1) := by decide +kernel
theorem dX4_advance_42 : decode cX4_advance 42 = .ok (.putfield 73, 3) := by decide +kernel
theorem dX4_advance_45 : decode cX4_advance 45 = .ok (.iconst 1, 1) := by decide +kernel
theorem dX4_advance_46 : decode cX4_advance 46 = .ok (.ireturn, 1) := by decide +kernel
theorem dX4_advance_47 : decode cX4_advance 47 = .ok (.aload_n 1, 1) := by decide +kernel
theorem dX4_advance_48 : decode cX4_advance 48 = .ok (.iconst 5, 1) := by decide +kernel
theorem dX4_advance_49 : decode cX4_advance 49 = .ok (.putfield 73, 3) := by decide +kernel
theorem dX4_advance_52 : decode cX4_advance 52 = .ok (.iconst 1, 1) := by decide +kernel
theorem dX4_advance_53 : decode cX4_advance 53 = .ok (.ireturn, 1) := by decide +kernel
theorem dX4_advance_54 : decode cX4_advance 54 = .ok (.aload_n 0, 1) := by decide +kernel
theorem dX4_advance_55 : decode cX4_advance 55 = .ok (.aload_n 1, 1) := by decide +kernel
theorem dX4_advance_56 : decode cX4_advance 56 = .ok (.invokevirtual 265, 3) := by decide +kernel
theorem dX4_advance_59 : decode cX4_advance 59 = .ok (.ifCond .eq 15, 3) := by decide +kernel
theorem dX4_advance_62 : decode cX4_advance 62 = .ok (.aload_n 0, 1) := by decide +kernel
theorem dX4_advance_63 : decode cX4_advance 63 = .ok (.aload_n 1, 1) := by decide +kernel
theorem dX4_advance_64 : decode cX4_advance 64 = .ok (.invokevirtual 268, 3) := by decide +kernel
theorem dX4_advance_67 : decode cX4_advance 67 = .ok (.ifCond .eq 7, 3) := by decide +kernel
theorem dX4_advance_70 : decode cX4_advance 70 = .ok (.iconst 1, 1) := by decide +kernel
theorem dX4_advance_71 : decode cX4_advance 71 = .ok (.goto 4, 3) := by decide +kernel
theorem dX4_advance_74 : decode cX4_advance 74 = .ok (.iconst 0, 1) := by decide +kernel
theorem dX4_advance_75 : decode cX4_advance 75 = .ok (.ireturn, 1) := by decide +kernel
theorem dX4_advance_76 : decode cX4_advance 76 = .ok (.aload_n 0, 1) := by decide +kernel
theorem dX4_advance_77 : decode cX4_advance 77 = .ok (.aload_n 1, 1) := by decide +kernel
theorem dX4_advance_78 : decode cX4_advance 78 = .ok (.invokevirtual 265, 3) := by decide +kernel
theorem dX4_advance_81 : decode cX4_advance 81 = .ok (.ifCond .eq 14, 3) := by decide +kernel
theorem dX4_advance_84 : decode cX4_advance 84 = .ok (.aload_n 1, 1) := by decide +kernel
theorem dX4_advance_85 : decode cX4_advance 85 = .ok (.invokestatic 271, 3) := by decide +kernel
theorem dX4_advance_88 : decode cX4_advance 88 = .ok (.ifCond .eq 7, 3) := by decide +kernel
theorem dX4_advance_91 : decode cX4_advance 91 = .ok (.iconst 1, 1) := by decide +kernel
theorem dX4_advance_92 : decode cX4_advance 92 = .ok (.goto 4, 3) := by decide +kernel
theorem dX4_advance_95 : decode cX4_advance 95 = .ok (.iconst 0, 1) := by decide +kernel
theorem dX4_advance_96 : decode cX4_advance 96 = .ok (.ireturn, 1) := by decide +kernel
theorem dX4_advance_97 : decode cX4_advance 97 = .ok (.iconst 1, 1) := by decide +kernel
theorem dX4_advance_98 : decode cX4_advance 98 = .ok (.ireturn, 1) := by decide +kernel
theorem dX4_pagePartner_0 : decode cX4_pagePartner 0 = .ok (.aload_n 0, 1) := by decide +kernel
theorem dX4_pagePartner_1 : decode cX4_pagePartner 1 = .ok (.aload_n 1, 1) := by decide +kernel
theorem dX4_pagePartner_2 : decode cX4_pagePartner 2 = .ok (.getfield 91, 3) := by decide +kernel
theorem dX4_pagePartner_5 : decode cX4_pagePartner 5 = .ok (.invokevirtual 69, 3) := by decide +kernel
theorem dX4_pagePartner_8 : decode cX4_pagePartner 8 = .ok (.astore_n 2, 1) := by decide +kernel
theorem dX4_pagePartner_9 : decode cX4_pagePartner 9 = .ok (.aload_n 2, 1) := by decide +kernel
theorem dX4_pagePartner_10 : decode cX4_pagePartner 10 = .ok (.ifnull 17, 3) := by decide +kernel
theorem dX4_pagePartner_13 : decode cX4_pagePartner 13 = .ok (.aload_n 2, 1) := by decide +kernel
theorem dX4_pagePartner_14 : decode cX4_pagePartner 14 = .ok (.getfield 73, 3) := by decide +kernel
theorem dX4_pagePartner_17 : decode cX4_pagePartner 17 = .ok (.ifCond .ne 10, 3) := by decide +kernel
theorem dX4_pagePartner_20 : decode cX4_pagePartner 20 = .ok (.aload_n 2, 1) := by decide +kernel
theorem dX4_pagePartner_21 : decode cX4_pagePartner 21 = .ok (.getfield 80, 3) := by decide +kernel
theorem dX4_pagePartner_24 : decode cX4_pagePartner 24 = .ok (.ifCond .ne 5, 3) := by decide +kernel
theorem dX4_pagePartner_27 : decode cX4_pagePartner 27 = .ok (.iconst 0, 1) := by decide +kernel
theorem dX4_pagePartner_28 : decode cX4_pagePartner 28 = .ok (.ireturn, 1) := by decide +kernel
theorem dX4_pagePartner_29 : decode cX4_pagePartner 29 = .ok (.aload_n 1, 1) := by decide +kernel
theorem dX4_pagePartner_30 : decode cX4_pagePartner 30 = .ok (.iconst 3, 1) := by decide +kernel
theorem dX4_pagePartner_31 : decode cX4_pagePartner 31 = .ok (.putfield 73, 3) := by decide +kernel
theorem dX4_pagePartner_34 : decode cX4_pagePartner 34 = .ok (.aload_n 2, 1) := by decide +kernel
theorem dX4_pagePartner_35 : decode cX4_pagePartner 35 = .ok (.iconst 4, 1) := by decide +kernel
theorem dX4_pagePartner_36 : decode cX4_pagePartner 36 = .ok (.aload_n 1, 1) := by decide +kernel
theorem dX4_pagePartner_37 : decode cX4_pagePartner 37 = .ok (.getfield 253, 3) := by decide +kernel
theorem dX4_pagePartner_40 : decode cX4_pagePartner 40 = .ok (.aload_n 0, 1) := by decide +kernel
theorem dX4_pagePartner_41 : decode cX4_pagePartner 41 = .ok (.getfield 84, 3) := by decide +kernel
theorem dX4_pagePartner_44 : decode cX4_pagePartner 44 = .ok (.invokevirtual 87, 3) := by decide +kernel
theorem dX4_pagePartner_47 : decode cX4_pagePartner 47 = .ok (.iconst 1, 1) := by decide +kernel
theorem dX4_pagePartner_48 : decode cX4_pagePartner 48 = .ok (.ireturn, 1) := by decide +kernel
theorem dX4_startRinging_0 : decode cX4_startRinging 0 = .ok (.aload_n 0, 1) := by decide +kernel
theorem dX4_startRinging_1 : decode cX4_startRinging 1 = .ok (.bipush 6, 2) := by decide +kernel
theorem dX4_startRinging_3 : decode cX4_startRinging 3 = .ok (.putfield 73, 3) := by decide +kernel
theorem dX4_startRinging_6 : decode cX4_startRinging 6 = .ok (.iconst 1, 1) := by decide +kernel
theorem dX4_startRinging_7 : decode cX4_startRinging 7 = .ok (.ireturn, 1) := by decide +kernel
theorem dX4_isProven_0 : decode cX4_isProven 0 = .ok (.aload_n 1, 1) := by decide +kernel
theorem dX4_isProven_1 : decode cX4_isProven 1 = .ok (.getfield 80, 3) := by decide +kernel
theorem dX4_isProven_4 : decode cX4_isProven 4 = .ok (.ifCond .eq 35, 3) := by decide +kernel
theorem dX4_isProven_7 : decode cX4_isProven 7 = .ok (.aload_n 1, 1) := by decide +kernel
theorem dX4_isProven_8 : decode cX4_isProven 8 = .ok (.getfield 274, 3) := by decide +kernel
theorem dX4_isProven_11 : decode cX4_isProven 11 = .ok (.aload_n 0, 1) := by decide +kernel
theorem dX4_isProven_12 : decode cX4_isProven 12 = .ok (.getfield 84, 3) := by decide +kernel
theorem dX4_isProven_15 : decode cX4_isProven 15 = .ok (.i2l, 1) := by decide +kernel
theorem dX4_isProven_16 : decode cX4_isProven 16 = .ok (.invokestatic 192, 3) := by decide +kernel
theorem dX4_isProven_19 : decode cX4_isProven 19 = .ok (.aload_n 1, 1) := by decide +kernel
theorem dX4_isProven_20 : decode cX4_isProven 20 = .ok (.getfield 76, 3) := by decide +kernel
theorem dX4_isProven_23 : decode cX4_isProven 23 = .ok (.aload_n 0, 1) := by decide +kernel
theorem dX4_isProven_24 : decode cX4_isProven 24 = .ok (.getfield 84, 3) := by decide +kernel
theorem dX4_isProven_27 : decode cX4_isProven 27 = .ok (.i2l, 1) := by decide +kernel
theorem dX4_isProven_28 : decode cX4_isProven 28 = .ok (.invokestatic 192, 3) := by decide +kernel
theorem dX4_isProven_31 : decode cX4_isProven 31 = .ok (.lcmp, 1) := by decide +kernel
theorem dX4_isProven_32 : decode cX4_isProven 32 = .ok (.ifCond .ne 7, 3) := by decide +kernel
theorem dX4_isProven_35 : decode cX4_isProven 35 = .ok (.iconst 1, 1) := by decide +kernel
theorem dX4_isProven_36 : decode cX4_isProven 36 = .ok (.goto 4, 3) := by decide +kernel
theorem dX4_isProven_39 : decode cX4_isProven 39 = .ok (.iconst 0, 1) := by decide +kernel
theorem dX4_isProven_40 : decode cX4_isProven 40 = .ok (.ireturn, 1) := by decide +kernel
theorem dX4_carryUp_0 : decode cX4_carryUp 0 = .ok (.iconst 0, 1) := by decide +kernel
theorem dX4_carryUp_1 : decode cX4_carryUp 1 = .ok (.istore_n 1, 1) := by decide +kernel
theorem dX4_carryUp_2 : decode cX4_carryUp 2 = .ok (.iload_n 1, 1) := by decide +kernel
theorem dX4_carryUp_3 : decode cX4_carryUp 3 = .ok (.aload_n 0, 1) := by decide +kernel
theorem dX4_carryUp_4 : decode cX4_carryUp 4 = .ok (.getfield 12, 3) := by decide +kernel
theorem dX4_carryUp_7 : decode cX4_carryUp 7 = .ok (.getfield 44, 3) := by decide +kernel
theorem dX4_carryUp_10 : decode cX4_carryUp 10 = .ok (.if_icmp .ge 30, 3) := by decide +kernel
theorem dX4_carryUp_13 : decode cX4_carryUp 13 = .ok (.aload_n 0, 1) := by decide +kernel
theorem dX4_carryUp_14 : decode cX4_carryUp 14 = .ok (.getfield 18, 3) := by decide +kernel
theorem dX4_carryUp_17 : decode cX4_carryUp 17 = .ok (.iload_n 1, 1) := by decide +kernel
theorem dX4_carryUp_18 : decode cX4_carryUp 18 = .ok (.aaload, 1) := by decide +kernel
theorem dX4_carryUp_19 : decode cX4_carryUp 19 = .ok (.aload_n 0, 1) := by decide +kernel
theorem dX4_carryUp_20 : decode cX4_carryUp 20 = .ok (.getfield 18, 3) := by decide +kernel
theorem dX4_carryUp_23 : decode cX4_carryUp 23 = .ok (.iload_n 1, 1) := by decide +kernel
theorem dX4_carryUp_24 : decode cX4_carryUp 24 = .ok (.aaload, 1) := by decide +kernel
theorem dX4_carryUp_25 : decode cX4_carryUp 25 = .ok (.getfield 134, 3) := by decide +kernel
theorem dX4_carryUp_28 : decode cX4_carryUp 28 = .ok (.getfield 111, 3) := by decide +kernel
theorem dX4_carryUp_31 : decode cX4_carryUp 31 = .ok (.putfield 277, 3) := by decide +kernel
theorem dX4_carryUp_34 : decode cX4_carryUp 34 = .ok (.iinc 1 1, 3) := by decide +kernel
theorem dX4_carryUp_37 : decode cX4_carryUp 37 = .ok (.goto (-35), 3) := by decide +kernel
theorem dX4_carryUp_40 : decode cX4_carryUp 40 = .ok (.iconst 0, 1) := by decide +kernel
theorem dX4_carryUp_41 : decode cX4_carryUp 41 = .ok (.istore_n 1, 1) := by decide +kernel
theorem dX4_carryUp_42 : decode cX4_carryUp 42 = .ok (.iload_n 1, 1) := by decide +kernel
theorem dX4_carryUp_43 : decode cX4_carryUp 43 = .ok (.aload_n 0, 1) := by decide +kernel
theorem dX4_carryUp_44 : decode cX4_carryUp 44 = .ok (.getfield 12, 3) := by decide +kernel
theorem dX4_carryUp_47 : decode cX4_carryUp 47 = .ok (.getfield 44, 3) := by decide +kernel
theorem dX4_carryUp_50 : decode cX4_carryUp 50 = .ok (.if_icmp .ge 32, 3) := by decide +kernel
theorem dX4_carryUp_53 : decode cX4_carryUp 53 = .ok (.aload_n 0, 1) := by decide +kernel
theorem dX4_carryUp_54 : decode cX4_carryUp 54 = .ok (.aload_n 0, 1) := by decide +kernel
theorem dX4_carryUp_55 : decode cX4_carryUp 55 = .ok (.getfield 18, 3) := by decide +kernel
theorem dX4_carryUp_58 : decode cX4_carryUp 58 = .ok (.iload_n 1, 1) := by decide +kernel
theorem dX4_carryUp_59 : decode cX4_carryUp 59 = .ok (.aaload, 1) := by decide +kernel
theorem dX4_carryUp_60 : decode cX4_carryUp 60 = .ok (.invokevirtual 280, 3) := by decide +kernel
theorem dX4_carryUp_63 : decode cX4_carryUp 63 = .ok (.ifCond .eq 13, 3) := by decide +kernel
theorem dX4_carryUp_66 : decode cX4_carryUp 66 = .ok (.aload_n 0, 1) := by decide +kernel
theorem dX4_carryUp_67 : decode cX4_carryUp 67 = .ok (.aload_n 0, 1) := by decide +kernel
theorem dX4_carryUp_68 : decode cX4_carryUp 68 = .ok (.getfield 18, 3) := by decide +kernel
theorem dX4_carryUp_71 : decode cX4_carryUp 71 = .ok (.iload_n 1, 1) := by decide +kernel
theorem dX4_carryUp_72 : decode cX4_carryUp 72 = .ok (.aaload, 1) := by decide +kernel
theorem dX4_carryUp_73 : decode cX4_carryUp 73 = .ok (.invokevirtual 283, 3) := by decide +kernel
theorem dX4_carryUp_76 : decode cX4_carryUp 76 = .ok (.iinc 1 1, 3) := by decide +kernel
theorem dX4_carryUp_79 : decode cX4_carryUp 79 = .ok (.goto (-37), 3) := by decide +kernel
theorem dX4_carryUp_82 : decode cX4_carryUp 82 = .ok (.return_, 1) := by decide +kernel
theorem dX4_sendUp_0 : decode cX4_sendUp 0 = .ok (.aload_n 0, 1) := by decide +kernel
theorem dX4_sendUp_1 : decode cX4_sendUp 1 = .ok (.aload_n 1, 1) := by decide +kernel
theorem dX4_sendUp_2 : decode cX4_sendUp 2 = .ok (.getfield 91, 3) := by decide +kernel
theorem dX4_sendUp_5 : decode cX4_sendUp 5 = .ok (.invokevirtual 69, 3) := by decide +kernel
theorem dX4_sendUp_8 : decode cX4_sendUp 8 = .ok (.astore_n 2, 1) := by decide +kernel
theorem dX4_sendUp_9 : decode cX4_sendUp 9 = .ok (.aload_n 2, 1) := by decide +kernel
theorem dX4_sendUp_10 : decode cX4_sendUp 10 = .ok (.ifnull 13, 3) := by decide +kernel
theorem dX4_sendUp_13 : decode cX4_sendUp 13 = .ok (.aload_n 1, 1) := by decide +kernel
theorem dX4_sendUp_14 : decode cX4_sendUp 14 = .ok (.getfield 101, 3) := by decide +kernel
theorem dX4_sendUp_17 : decode cX4_sendUp 17 = .ok (.getfield 111, 3) := by decide +kernel
theorem dX4_sendUp_20 : decode cX4_sendUp 20 = .ok (.ifCond .ne 4, 3) := by decide +kernel
theorem dX4_sendUp_23 : decode cX4_sendUp 23 = .ok (.return_, 1) := by decide +kernel
theorem dX4_sendUp_24 : decode cX4_sendUp 24 = .ok (.aload_n 0, 1) := by decide +kernel
theorem dX4_sendUp_25 : decode cX4_sendUp 25 = .ok (.aload_n 1, 1) := by decide +kernel
theorem dX4_sendUp_26 : decode cX4_sendUp 26 = .ok (.getfield 101, 3) := by decide +kernel
theorem dX4_sendUp_29 : decode cX4_sendUp 29 = .ok (.invokevirtual 286, 3) := by decide +kernel
theorem dX4_sendUp_32 : decode cX4_sendUp 32 = .ok (.aload_n 1, 1) := by decide +kernel
theorem dX4_sendUp_33 : decode cX4_sendUp 33 = .ok (.getfield 274, 3) := by decide +kernel
theorem dX4_sendUp_36 : decode cX4_sendUp 36 = .ok (.aload_n 0, 1) := by decide +kernel
theorem dX4_sendUp_37 : decode cX4_sendUp 37 = .ok (.getfield 84, 3) := by decide +kernel
theorem dX4_sendUp_40 : decode cX4_sendUp 40 = .ok (.i2l, 1) := by decide +kernel
theorem dX4_sendUp_41 : decode cX4_sendUp 41 = .ok (.invokestatic 192, 3) := by decide +kernel
theorem dX4_sendUp_44 : decode cX4_sendUp 44 = .ok (.lxor, 1) := by decide +kernel
theorem dX4_sendUp_45 : decode cX4_sendUp 45 = .ok (.putfield 196, 3) := by decide +kernel
theorem dX4_sendUp_48 : decode cX4_sendUp 48 = .ok (.aload_n 0, 1) := by decide +kernel
theorem dX4_sendUp_49 : decode cX4_sendUp 49 = .ok (.dup, 1) := by decide +kernel
theorem dX4_sendUp_50 : decode cX4_sendUp 50 = .ok (.getfield 211, 3) := by decide +kernel
theorem dX4_sendUp_53 : decode cX4_sendUp 53 = .ok (.iconst 1, 1) := by decide +kernel
theorem dX4_sendUp_54 : decode cX4_sendUp 54 = .ok (.iadd, 1) := by decide +kernel
theorem dX4_sendUp_55 : decode cX4_sendUp 55 = .ok (.putfield 211, 3) := by decide +kernel
theorem dX4_sendUp_58 : decode cX4_sendUp 58 = .ok (.aload_n 2, 1) := by decide +kernel
theorem dX4_sendUp_59 : decode cX4_sendUp 59 = .ok (.getfield 134, 3) := by decide +kernel
theorem dX4_sendUp_62 : decode cX4_sendUp 62 = .ok (.aload_n 0, 1) := by decide +kernel
theorem dX4_sendUp_63 : decode cX4_sendUp 63 = .ok (.getfield 196, 3) := by decide +kernel
theorem dX4_sendUp_66 : decode cX4_sendUp 66 = .ok (.aload_n 1, 1) := by decide +kernel
theorem dX4_sendUp_67 : decode cX4_sendUp 67 = .ok (.getfield 76, 3) := by decide +kernel
theorem dX4_sendUp_70 : decode cX4_sendUp 70 = .ok (.aload_n 0, 1) := by decide +kernel
theorem dX4_sendUp_71 : decode cX4_sendUp 71 = .ok (.getfield 84, 3) := by decide +kernel
theorem dX4_sendUp_74 : decode cX4_sendUp 74 = .ok (.i2l, 1) := by decide +kernel
theorem dX4_sendUp_75 : decode cX4_sendUp 75 = .ok (.invokestatic 192, 3) := by decide +kernel
theorem dX4_sendUp_78 : decode cX4_sendUp 78 = .ok (.lxor, 1) := by decide +kernel
theorem dX4_sendUp_79 : decode cX4_sendUp 79 = .ok (.invokevirtual 105, 3) := by decide +kernel
theorem dX4_sendUp_82 : decode cX4_sendUp 82 = .ok (.pop, 1) := by decide +kernel
theorem dX4_sendUp_83 : decode cX4_sendUp 83 = .ok (.return_, 1) := by decide +kernel
theorem dX4_carryDown_0 : decode cX4_carryDown 0 = .ok (.iconst 0, 1) := by decide +kernel
theorem dX4_carryDown_1 : decode cX4_carryDown 1 = .ok (.istore_n 1, 1) := by decide +kernel
theorem dX4_carryDown_2 : decode cX4_carryDown 2 = .ok (.iload_n 1, 1) := by decide +kernel
theorem dX4_carryDown_3 : decode cX4_carryDown 3 = .ok (.aload_n 0, 1) := by decide +kernel
theorem dX4_carryDown_4 : decode cX4_carryDown 4 = .ok (.getfield 12, 3) := by decide +kernel
theorem dX4_carryDown_7 : decode cX4_carryDown 7 = .ok (.getfield 44, 3) := by decide +kernel
theorem dX4_carryDown_10 : decode cX4_carryDown 10 = .ok (.if_icmp .ge 44, 3) := by decide +kernel
theorem dX4_carryDown_13 : decode cX4_carryDown 13 = .ok (.aload_n 0, 1) := by decide +kernel
theorem dX4_carryDown_14 : decode cX4_carryDown 14 = .ok (.aload_n 0, 1) := by decide +kernel
theorem dX4_carryDown_15 : decode cX4_carryDown 15 = .ok (.getfield 18, 3) := by decide +kernel
theorem dX4_carryDown_18 : decode cX4_carryDown 18 = .ok (.iload_n 1, 1) := by decide +kernel
theorem dX4_carryDown_19 : decode cX4_carryDown 19 = .ok (.aaload, 1) := by decide +kernel
theorem dX4_carryDown_20 : decode cX4_carryDown 20 = .ok (.invokevirtual 280, 3) := by decide +kernel
theorem dX4_carryDown_23 : decode cX4_carryDown 23 = .ok (.ifCond .eq 25, 3) := by decide +kernel
theorem dX4_carryDown_26 : decode cX4_carryDown 26 = .ok (.aload_n 0, 1) := by decide +kernel
theorem dX4_carryDown_27 : decode cX4_carryDown 27 = .ok (.getfield 18, 3) := by decide +kernel
theorem dX4_carryDown_30 : decode cX4_carryDown 30 = .ok (.iload_n 1, 1) := by decide +kernel
theorem dX4_carryDown_31 : decode cX4_carryDown 31 = .ok (.aaload, 1) := by decide +kernel
theorem dX4_carryDown_32 : decode cX4_carryDown 32 = .ok (.getfield 277, 3) := by decide +kernel
theorem dX4_carryDown_35 : decode cX4_carryDown 35 = .ok (.ifCond .le 13, 3) := by decide +kernel
theorem dX4_carryDown_38 : decode cX4_carryDown 38 = .ok (.aload_n 0, 1) := by decide +kernel
theorem dX4_carryDown_39 : decode cX4_carryDown 39 = .ok (.aload_n 0, 1) := by decide +kernel
theorem dX4_carryDown_40 : decode cX4_carryDown 40 = .ok (.getfield 18, 3) := by decide +kernel
theorem dX4_carryDown_43 : decode cX4_carryDown 43 = .ok (.iload_n 1, 1) := by decide +kernel
theorem dX4_carryDown_44 : decode cX4_carryDown 44 = .ok (.aaload, 1) := by decide +kernel
theorem dX4_carryDown_45 : decode cX4_carryDown 45 = .ok (.invokevirtual 290, 3) := by decide +kernel
theorem dX4_carryDown_48 : decode cX4_carryDown 48 = .ok (.iinc 1 1, 3) := by decide +kernel
theorem dX4_carryDown_51 : decode cX4_carryDown 51 = .ok (.goto (-49), 3) := by decide +kernel
theorem dX4_carryDown_54 : decode cX4_carryDown 54 = .ok (.return_, 1) := by decide +kernel
theorem dX4_sendDown_0 : decode cX4_sendDown 0 = .ok (.aload_n 0, 1) := by decide +kernel
theorem dX4_sendDown_1 : decode cX4_sendDown 1 = .ok (.getfield 84, 3) := by decide +kernel
theorem dX4_sendDown_4 : decode cX4_sendDown 4 = .ok (.ldc_w 293, 3) := by decide +kernel
theorem dX4_sendDown_7 : decode cX4_sendDown 7 = .ok (.iadd, 1) := by decide +kernel
theorem dX4_sendDown_8 : decode cX4_sendDown 8 = .ok (.i2l, 1) := by decide +kernel
theorem dX4_sendDown_9 : decode cX4_sendDown 9 = .ok (.lstore_n 2, 1) := by decide +kernel
theorem dX4_sendDown_10 : decode cX4_sendDown 10 = .ok (.aload_n 0, 1) := by decide +kernel
theorem dX4_sendDown_11 : decode cX4_sendDown 11 = .ok (.aload_n 1, 1) := by decide +kernel
theorem dX4_sendDown_12 : decode cX4_sendDown 12 = .ok (.getfield 134, 3) := by decide +kernel
theorem dX4_sendDown_15 : decode cX4_sendDown 15 = .ok (.invokevirtual 286, 3) := by decide +kernel
theorem dX4_sendDown_18 : decode cX4_sendDown 18 = .ok (.aload_n 1, 1) := by decide +kernel
theorem dX4_sendDown_19 : decode cX4_sendDown 19 = .ok (.getfield 76, 3) := by decide +kernel
theorem dX4_sendDown_22 : decode cX4_sendDown 22 = .ok (.lload_n 2, 1) := by decide +kernel
theorem dX4_sendDown_23 : decode cX4_sendDown 23 = .ok (.invokestatic 192, 3) := by decide +kernel
theorem dX4_sendDown_26 : decode cX4_sendDown 26 = .ok (.lxor, 1) := by decide +kernel
theorem dX4_sendDown_27 : decode cX4_sendDown 27 = .ok (.putfield 199, 3) := by decide +kernel
theorem dX4_sendDown_30 : decode cX4_sendDown 30 = .ok (.aload_n 1, 1) := by decide +kernel
theorem dX4_sendDown_31 : decode cX4_sendDown 31 = .ok (.aload_n 0, 1) := by decide +kernel
theorem dX4_sendDown_32 : decode cX4_sendDown 32 = .ok (.getfield 199, 3) := by decide +kernel
theorem dX4_sendDown_35 : decode cX4_sendDown 35 = .ok (.aload_n 1, 1) := by decide +kernel
theorem dX4_sendDown_36 : decode cX4_sendDown 36 = .ok (.getfield 274, 3) := by decide +kernel
theorem dX4_sendDown_39 : decode cX4_sendDown 39 = .ok (.lload_n 2, 1) := by decide +kernel
theorem dX4_sendDown_40 : decode cX4_sendDown 40 = .ok (.invokestatic 192, 3) := by decide +kernel
theorem dX4_sendDown_43 : decode cX4_sendDown 43 = .ok (.lxor, 1) := by decide +kernel
theorem dX4_sendDown_44 : decode cX4_sendDown 44 = .ok (.invokevirtual 294, 3) := by decide +kernel
theorem dX4_sendDown_47 : decode cX4_sendDown 47 = .ok (.aload_n 0, 1) := by decide +kernel
theorem dX4_sendDown_48 : decode cX4_sendDown 48 = .ok (.dup, 1) := by decide +kernel
theorem dX4_sendDown_49 : decode cX4_sendDown 49 = .ok (.getfield 115, 3) := by decide +kernel
theorem dX4_sendDown_52 : decode cX4_sendDown 52 = .ok (.iconst 1, 1) := by decide +kernel
theorem dX4_sendDown_53 : decode cX4_sendDown 53 = .ok (.iadd, 1) := by decide +kernel
theorem dX4_sendDown_54 : decode cX4_sendDown 54 = .ok (.putfield 115, 3) := by decide +kernel
theorem dX4_sendDown_57 : decode cX4_sendDown 57 = .ok (.return_, 1) := by decide +kernel
theorem dX4_canTalk_0 : decode cX4_canTalk 0 = .ok (.aload_n 1, 1) := by decide +kernel
theorem dX4_canTalk_1 : decode cX4_canTalk 1 = .ok (.getfield 73, 3) := by decide +kernel
theorem dX4_canTalk_4 : decode cX4_canTalk 4 = .ok (.bipush 7, 2) := by decide +kernel
theorem dX4_canTalk_6 : decode cX4_canTalk 6 = .ok (.if_icmp .ne 21, 3) := by decide +kernel
theorem dX4_canTalk_9 : decode cX4_canTalk 9 = .ok (.aload_n 0, 1) := by decide +kernel
theorem dX4_canTalk_10 : decode cX4_canTalk 10 = .ok (.getfield 12, 3) := by decide +kernel
theorem dX4_canTalk_13 : decode cX4_canTalk 13 = .ok (.aload_n 1, 1) := by decide +kernel
theorem dX4_canTalk_14 : decode cX4_canTalk 14 = .ok (.getfield 253, 3) := by decide +kernel
theorem dX4_canTalk_17 : decode cX4_canTalk 17 = .ok (.invokevirtual 259, 3) := by decide +kernel
theorem dX4_canTalk_20 : decode cX4_canTalk 20 = .ok (.ifCond .eq 7, 3) := by decide +kernel
theorem dX4_canTalk_23 : decode cX4_canTalk 23 = .ok (.iconst 1, 1) := by decide +kernel
theorem dX4_canTalk_24 : decode cX4_canTalk 24 = .ok (.goto 4, 3) := by decide +kernel
theorem dX4_canTalk_27 : decode cX4_canTalk 27 = .ok (.iconst 0, 1) := by decide +kernel
theorem dX4_canTalk_28 : decode cX4_canTalk 28 = .ok (.ireturn, 1) := by decide +kernel
theorem dX4_endOldCalls_0 : decode cX4_endOldCalls 0 = .ok (.iconst 0, 1) := by decide +kernel
theorem dX4_endOldCalls_1 : decode cX4_endOldCalls 1 = .ok (.istore_n 1, 1) := by decide +kernel
theorem dX4_endOldCalls_2 : decode cX4_endOldCalls 2 = .ok (.iload_n 1, 1) := by decide +kernel
theorem dX4_endOldCalls_3 : decode cX4_endOldCalls 3 = .ok (.aload_n 0, 1) := by decide +kernel
theorem dX4_endOldCalls_4 : decode cX4_endOldCalls 4 = .ok (.getfield 12, 3) := by decide +kernel
theorem dX4_endOldCalls_7 : decode cX4_endOldCalls 7 = .ok (.getfield 44, 3) := by decide +kernel
theorem dX4_endOldCalls_10 : decode cX4_endOldCalls 10 = .ok (.if_icmp .ge 43, 3) := by decide +kernel
theorem dX4_endOldCalls_13 : decode cX4_endOldCalls 13 = .ok (.aload_n 0, 1) := by decide +kernel
theorem dX4_endOldCalls_14 : decode cX4_endOldCalls 14 = .ok (.getfield 18, 3) := by decide +kernel
theorem dX4_endOldCalls_17 : decode cX4_endOldCalls 17 = .ok (.iload_n 1, 1) := by decide +kernel
theorem dX4_endOldCalls_18 : decode cX4_endOldCalls 18 = .ok (.aaload, 1) := by decide +kernel
theorem dX4_endOldCalls_19 : decode cX4_endOldCalls 19 = .ok (.astore_n 2, 1) := by decide +kernel
theorem dX4_endOldCalls_20 : decode cX4_endOldCalls 20 = .ok (.aload_n 2, 1) := by decide +kernel
theorem dX4_endOldCalls_21 : decode cX4_endOldCalls 21 = .ok (.invokevirtual 140, 3) := by decide +kernel
theorem dX4_endOldCalls_24 : decode cX4_endOldCalls 24 = .ok (.ifCond .eq 23, 3) := by decide +kernel
theorem dX4_endOldCalls_27 : decode cX4_endOldCalls 27 = .ok (.aload_n 0, 1) := by decide +kernel
theorem dX4_endOldCalls_28 : decode cX4_endOldCalls 28 = .ok (.getfield 84, 3) := by decide +kernel
theorem dX4_endOldCalls_31 : decode cX4_endOldCalls 31 = .ok (.aload_n 2, 1) := by decide +kernel
theorem dX4_endOldCalls_32 : decode cX4_endOldCalls 32 = .ok (.getfield 144, 3) := by decide +kernel
theorem dX4_endOldCalls_35 : decode cX4_endOldCalls 35 = .ok (.isub, 1) := by decide +kernel
theorem dX4_endOldCalls_36 : decode cX4_endOldCalls 36 = .ok (.sipush 200, 3) := by decide +kernel
theorem dX4_endOldCalls_39 : decode cX4_endOldCalls 39 = .ok (.if_icmp .le 8, 3) := by decide +kernel
theorem dX4_endOldCalls_42 : decode cX4_endOldCalls 42 = .ok (.aload_n 0, 1) := by decide +kernel
theorem dX4_endOldCalls_43 : decode cX4_endOldCalls 43 = .ok (.aload_n 2, 1) := by decide +kernel
theorem dX4_endOldCalls_44 : decode cX4_endOldCalls 44 = .ok (.invokevirtual 97, 3) := by decide +kernel
theorem dX4_endOldCalls_47 : decode cX4_endOldCalls 47 = .ok (.iinc 1 1, 3) := by decide +kernel
theorem dX4_endOldCalls_50 : decode cX4_endOldCalls 50 = .ok (.goto (-48), 3) := by decide +kernel
theorem dX4_endOldCalls_53 : decode cX4_endOldCalls 53 = .ok (.return_, 1) := by decide +kernel
theorem dX4_endCall_0 : decode cX4_endCall 0 = .ok (.aload_n 0, 1) := by decide +kernel
theorem dX4_endCall_1 : decode cX4_endCall 1 = .ok (.aload_n 1, 1) := by decide +kernel
theorem dX4_endCall_2 : decode cX4_endCall 2 = .ok (.getfield 91, 3) := by decide +kernel
theorem dX4_endCall_5 : decode cX4_endCall 5 = .ok (.invokevirtual 69, 3) := by decide +kernel
theorem dX4_endCall_8 : decode cX4_endCall 8 = .ok (.astore_n 2, 1) := by decide +kernel
theorem dX4_endCall_9 : decode cX4_endCall 9 = .ok (.aload_n 2, 1) := by decide +kernel
theorem dX4_endCall_10 : decode cX4_endCall 10 = .ok (.ifnull 16, 3) := by decide +kernel
theorem dX4_endCall_13 : decode cX4_endCall 13 = .ok (.aload_n 1, 1) := by decide +kernel
theorem dX4_endCall_14 : decode cX4_endCall 14 = .ok (.aload_n 2, 1) := by decide +kernel
theorem dX4_endCall_15 : decode cX4_endCall 15 = .ok (.invokestatic 298, 3) := by decide +kernel
theorem dX4_endCall_18 : decode cX4_endCall 18 = .ok (.ifCond .eq 8, 3) := by decide +kernel
theorem dX4_endCall_21 : decode cX4_endCall 21 = .ok (.aload_n 0, 1) := by decide +kernel
theorem dX4_endCall_22 : decode cX4_endCall 22 = .ok (.aload_n 2, 1) := by decide +kernel
theorem dX4_endCall_23 : decode cX4_endCall 23 = .ok (.invokevirtual 302, 3) := by decide +kernel
theorem dX4_endCall_26 : decode cX4_endCall 26 = .ok (.aload_n 0, 1) := by decide +kernel
theorem dX4_endCall_27 : decode cX4_endCall 27 = .ok (.aload_n 1, 1) := by decide +kernel
theorem dX4_endCall_28 : decode cX4_endCall 28 = .ok (.invokevirtual 302, 3) := by decide +kernel
theorem dX4_endCall_31 : decode cX4_endCall 31 = .ok (.aload_n 0, 1) := by decide +kernel
theorem dX4_endCall_32 : decode cX4_endCall 32 = .ok (.dup, 1) := by decide +kernel
theorem dX4_endCall_33 : decode cX4_endCall 33 = .ok (.getfield 205, 3) := by decide +kernel
theorem dX4_endCall_36 : decode cX4_endCall 36 = .ok (.iconst 1, 1) := by decide +kernel
theorem dX4_endCall_37 : decode cX4_endCall 37 = .ok (.iadd, 1) := by decide +kernel
theorem dX4_endCall_38 : decode cX4_endCall 38 = .ok (.putfield 205, 3) := by decide +kernel
theorem dX4_endCall_41 : decode cX4_endCall 41 = .ok (.return_, 1) := by decide +kernel
theorem dX4_isOneCall_0 : decode cX4_isOneCall 0 = .ok (.aload_n 1, 1) := by decide +kernel
theorem dX4_isOneCall_1 : decode cX4_isOneCall 1 = .ok (.getfield 91, 3) := by decide +kernel
theorem dX4_isOneCall_4 : decode cX4_isOneCall 4 = .ok (.aload_n 0, 1) := by decide +kernel
theorem dX4_isOneCall_5 : decode cX4_isOneCall 5 = .ok (.getfield 253, 3) := by decide +kernel
theorem dX4_isOneCall_8 : decode cX4_isOneCall 8 = .ok (.if_icmp .eq 5, 3) := by decide +kernel
theorem dX4_isOneCall_11 : decode cX4_isOneCall 11 = .ok (.iconst 0, 1) := by decide +kernel
theorem dX4_isOneCall_12 : decode cX4_isOneCall 12 = .ok (.ireturn, 1) := by decide +kernel
theorem dX4_isOneCall_13 : decode cX4_isOneCall 13 = .ok (.aload_n 0, 1) := by decide +kernel
theorem dX4_isOneCall_14 : decode cX4_isOneCall 14 = .ok (.invokevirtual 305, 3) := by decide +kernel
theorem dX4_isOneCall_17 : decode cX4_isOneCall 17 = .ok (.ifCond .eq 10, 3) := by decide +kernel
theorem dX4_isOneCall_20 : decode cX4_isOneCall 20 = .ok (.aload_n 1, 1) := by decide +kernel
theorem dX4_isOneCall_21 : decode cX4_isOneCall 21 = .ok (.invokevirtual 308, 3) := by decide +kernel
theorem dX4_isOneCall_24 : decode cX4_isOneCall 24 = .ok (.ifCond .ne 35, 3) := by decide +kernel
theorem dX4_isOneCall_27 : decode cX4_isOneCall 27 = .ok (.aload_n 0, 1) := by decide +kernel
theorem dX4_isOneCall_28 : decode cX4_isOneCall 28 = .ok (.invokevirtual 308, 3) := by decide +kernel
theorem dX4_isOneCall_31 : decode cX4_isOneCall 31 = .ok (.ifCond .eq 10, 3) := by decide +kernel
theorem dX4_isOneCall_34 : decode cX4_isOneCall 34 = .ok (.aload_n 1, 1) := by decide +kernel
theorem dX4_isOneCall_35 : decode cX4_isOneCall 35 = .ok (.invokevirtual 305, 3) := by decide +kernel
theorem dX4_isOneCall_38 : decode cX4_isOneCall 38 = .ok (.ifCond .ne 21, 3) := by decide +kernel
theorem dX4_isOneCall_41 : decode cX4_isOneCall 41 = .ok (.aload_n 0, 1) := by decide +kernel
theorem dX4_isOneCall_42 : decode cX4_isOneCall 42 = .ok (.getfield 73, 3) := by decide +kernel
theorem dX4_isOneCall_45 : decode cX4_isOneCall 45 = .ok (.bipush 7, 2) := by decide +kernel
theorem dX4_isOneCall_47 : decode cX4_isOneCall 47 = .ok (.if_icmp .ne 16, 3) := by decide +kernel
theorem dX4_isOneCall_50 : decode cX4_isOneCall 50 = .ok (.aload_n 1, 1) := by decide +kernel
theorem dX4_isOneCall_51 : decode cX4_isOneCall 51 = .ok (.getfield 73, 3) := by decide +kernel
theorem dX4_isOneCall_54 : decode cX4_isOneCall 54 = .ok (.bipush 7, 2) := by decide +kernel
theorem dX4_isOneCall_56 : decode cX4_isOneCall 56 = .ok (.if_icmp .ne 7, 3) := by decide +kernel
theorem dX4_isOneCall_59 : decode cX4_isOneCall 59 = .ok (.iconst 1, 1) := by decide +kernel
theorem dX4_isOneCall_60 : decode cX4_isOneCall 60 = .ok (.goto 4, 3) := by decide +kernel
theorem dX4_isOneCall_63 : decode cX4_isOneCall 63 = .ok (.iconst 0, 1) := by decide +kernel
theorem dX4_isOneCall_64 : decode cX4_isOneCall 64 = .ok (.ireturn, 1) := by decide +kernel
theorem dX4_release_0 : decode cX4_release 0 = .ok (.aload_n 1, 1) := by decide +kernel
theorem dX4_release_1 : decode cX4_release 1 = .ok (.invokevirtual 311, 3) := by decide +kernel
theorem dX4_release_4 : decode cX4_release 4 = .ok (.aload_n 0, 1) := by decide +kernel
theorem dX4_release_5 : decode cX4_release 5 = .ok (.getfield 12, 3) := by decide +kernel
theorem dX4_release_8 : decode cX4_release 8 = .ok (.aload_n 1, 1) := by decide +kernel
theorem dX4_release_9 : decode cX4_release 9 = .ok (.getfield 253, 3) := by decide +kernel
theorem dX4_release_12 : decode cX4_release 12 = .ok (.invokevirtual 314, 3) := by decide +kernel
theorem dX4_release_15 : decode cX4_release 15 = .ok (.return_, 1) := by decide +kernel
theorem dX5_init_0 : decode cX5_init 0 = .ok (.aload_n 0, 1) := by decide +kernel
theorem dX5_init_1 : decode cX5_init 1 = .ok (.invokespecial 1, 3) := by decide +kernel
theorem dX5_init_4 : decode cX5_init 4 = .ok (.aload_n 0, 1) := by decide +kernel
theorem dX5_init_5 : decode cX5_init 5 = .ok (.iconst 4, 1) := by decide +kernel
theorem dX5_init_6 : decode cX5_init 6 = .ok (.newarray .int, 2) := by decide +kernel
theorem dX5_init_8 : decode cX5_init 8 = .ok (.putfield 7, 3) := by decide +kernel
theorem dX5_init_11 : decode cX5_init 11 = .ok (.aload_n 0, 1) := by decide +kernel
theorem dX5_init_12 : decode cX5_init 12 = .ok (.bipush 8, 2) := by decide +kernel
theorem dX5_init_14 : decode cX5_init 14 = .ok (.newarray .int, 2) := by decide +kernel
theorem dX5_init_16 : decode cX5_init 16 = .ok (.putfield 13, 3) := by decide +kernel
theorem dX5_init_19 : decode cX5_init 19 = .ok (.aload_n 0, 1) := by decide +kernel
theorem dX5_init_20 : decode cX5_init 20 = .ok (.bipush 8, 2) := by decide +kernel
theorem dX5_init_22 : decode cX5_init 22 = .ok (.newarray .long, 2) := by decide +kernel
theorem dX5_init_24 : decode cX5_init 24 = .ok (.putfield 16, 3) := by decide +kernel
theorem dX5_init_27 : decode cX5_init 27 = .ok (.aload_n 0, 1) := by decide +kernel
theorem dX5_init_28 : decode cX5_init 28 = .ok (.bipush 8, 2) := by decide +kernel
theorem dX5_init_30 : decode cX5_init 30 = .ok (.newarray .boolean, 2) := by decide +kernel
theorem dX5_init_32 : decode cX5_init 32 = .ok (.putfield 20, 3) := by decide +kernel
theorem dX5_init_35 : decode cX5_init 35 = .ok (.aload_n 0, 1) := by decide +kernel
theorem dX5_init_36 : decode cX5_init 36 = .ok (.bipush 8, 2) := by decide +kernel
theorem dX5_init_38 : decode cX5_init 38 = .ok (.newarray .long, 2) := by decide +kernel
theorem dX5_init_40 : decode cX5_init 40 = .ok (.putfield 24, 3) := by decide +kernel
theorem dX5_init_43 : decode cX5_init 43 = .ok (.aload_n 0, 1) := by decide +kernel
theorem dX5_init_44 : decode cX5_init 44 = .ok (.bipush 8, 2) := by decide +kernel
theorem dX5_init_46 : decode cX5_init 46 = .ok (.newarray .int, 2) := by decide +kernel
theorem dX5_init_48 : decode cX5_init 48 = .ok (.putfield 27, 3) := by decide +kernel
theorem dX5_init_51 : decode cX5_init 51 = .ok (.aload_n 0, 1) := by decide +kernel
theorem dX5_init_52 : decode cX5_init 52 = .ok (.bipush 8, 2) := by decide +kernel
theorem dX5_init_54 : decode cX5_init 54 = .ok (.newarray .int, 2) := by decide +kernel
theorem dX5_init_56 : decode cX5_init 56 = .ok (.putfield 30, 3) := by decide +kernel
theorem dX5_init_59 : decode cX5_init 59 = .ok (.aload_n 0, 1) := by decide +kernel
theorem dX5_init_60 : decode cX5_init 60 = .ok (.bipush 8, 2) := by decide +kernel
theorem dX5_init_62 : decode cX5_init 62 = .ok (.newarray .int, 2) := by decide +kernel
theorem dX5_init_64 : decode cX5_init 64 = .ok (.putfield 33, 3) := by decide +kernel
theorem dX5_init_67 : decode cX5_init 67 = .ok (.aload_n 0, 1) := by decide +kernel
theorem dX5_init_68 : decode cX5_init 68 = .ok (.bipush 16, 2) := by decide +kernel
theorem dX5_init_70 : decode cX5_init 70 = .ok (.newarray .int, 2) := by decide +kernel
theorem dX5_init_72 : decode cX5_init 72 = .ok (.putfield 36, 3) := by decide +kernel
theorem dX5_init_75 : decode cX5_init 75 = .ok (.aload_n 0, 1) := by decide +kernel
theorem dX5_init_76 : decode cX5_init 76 = .ok (.sipush 2400, 3) := by decide +kernel
theorem dX5_init_79 : decode cX5_init 79 = .ok (.newarray .boolean, 2) := by decide +kernel
theorem dX5_init_81 : decode cX5_init 81 = .ok (.putfield 39, 3) := by decide +kernel
theorem dX5_init_84 : decode cX5_init 84 = .ok (.aload_n 0, 1) := by decide +kernel
theorem dX5_init_85 : decode cX5_init 85 = .ok (.bipush 16, 2) := by decide +kernel
theorem dX5_init_87 : decode cX5_init 87 = .ok (.newarray .int, 2) := by decide +kernel
theorem dX5_init_89 : decode cX5_init 89 = .ok (.putfield 42, 3) := by decide +kernel
theorem dX5_init_92 : decode cX5_init 92 = .ok (.aload_n 0, 1) := by decide +kernel
theorem dX5_init_93 : decode cX5_init 93 = .ok (.bipush 16, 2) := by decide +kernel
theorem dX5_init_95 : decode cX5_init 95 = .ok (.newarray .int, 2) := by decide +kernel
theorem dX5_init_97 : decode cX5_init 97 = .ok (.putfield 45, 3) := by decide +kernel
theorem dX5_init_100 : decode cX5_init 100 = .ok (.aload_n 0, 1) := by decide +kernel
theorem dX5_init_101 : decode cX5_init 101 = .ok (.bipush 16, 2) := by decide +kernel
theorem dX5_init_103 : decode cX5_init 103 = .ok (.newarray .int, 2) := by decide +kernel
theorem dX5_init_105 : decode cX5_init 105 = .ok (.putfield 48, 3) := by decide +kernel
theorem dX5_init_108 : decode cX5_init 108 = .ok (.aload_n 0, 1) := by decide +kernel
theorem dX5_init_109 : decode cX5_init 109 = .ok (.bipush 16, 2) := by decide +kernel
theorem dX5_init_111 : decode cX5_init 111 = .ok (.newarray .int, 2) := by decide +kernel
theorem dX5_init_113 : decode cX5_init 113 = .ok (.putfield 51, 3) := by decide +kernel
theorem dX5_init_116 : decode cX5_init 116 = .ok (.aload_n 0, 1) := by decide +kernel
theorem dX5_init_117 : decode cX5_init 117 = .ok (.bipush 16, 2) := by decide +kernel
theorem dX5_init_119 : decode cX5_init 119 = .ok (.newarray .boolean, 2) := by decide +kernel
theorem dX5_init_121 : decode cX5_init 121 = .ok (.putfield 54, 3) := by decide +kernel
theorem dX5_init_124 : decode cX5_init 124 = .ok (.aload_n 0, 1) := by decide +kernel
theorem dX5_init_125 : decode cX5_init 125 = .ok (.bipush 8, 2) := by decide +kernel
theorem dX5_init_127 : decode cX5_init 127 = .ok (.newarray .int, 2) := by decide +kernel
theorem dX5_init_129 : decode cX5_init 129 = .ok (.putfield 57, 3) := by decide +kernel
theorem dX5_init_132 : decode cX5_init 132 = .ok (.aload_n 0, 1) := by decide +kernel
theorem dX5_init_133 : decode cX5_init 133 = .ok (.bipush 64, 2) := by decide +kernel
theorem dX5_init_135 : decode cX5_init 135 = .ok (.newarray .long, 2) := by decide +kernel
theorem dX5_init_137 : decode cX5_init 137 = .ok (.putfield 60, 3) := by decide +kernel
theorem dX5_init_140 : decode cX5_init 140 = .ok (.aload_n 0, 1) := by decide +kernel
theorem dX5_init_141 : decode cX5_init 141 = .ok (.bipush 8, 2) := by decide +kernel
theorem dX5_init_143 : decode cX5_init 143 = .ok (.newarray .int, 2) := by decide +kernel
theorem dX5_init_145 : decode cX5_init 145 = .ok (.putfield 63, 3) := by decide +kernel
theorem dX5_init_148 : decode cX5_init 148 = .ok (.aload_n 0, 1) := by decide +kernel
theorem dX5_init_149 : decode cX5_init 149 = .ok (.sipush 128, 3) := by decide +kernel
theorem dX5_init_152 : decode cX5_init 152 = .ok (.newarray .long, 2) := by decide +kernel
theorem dX5_init_154 : decode cX5_init 154 = .ok (.putfield 66, 3) := by decide +kernel
theorem dX5_init_157 : decode cX5_init 157 = .ok (.aload_n 0, 1) := by decide +kernel
theorem dX5_init_158 : decode cX5_init 158 = .ok (.bipush 8, 2) := by decide +kernel
theorem dX5_init_160 : decode cX5_init 160 = .ok (.newarray .int, 2) := by decide +kernel
theorem dX5_init_162 : decode cX5_init 162 = .ok (.putfield 69, 3) := by decide +kernel
theorem dX5_init_165 : decode cX5_init 165 = .ok (.aload_n 0, 1) := by decide +kernel
theorem dX5_init_166 : decode cX5_init 166 = .ok (.sipush 160, 3) := by decide +kernel
theorem dX5_init_169 : decode cX5_init 169 = .ok (.newarray .long, 2) := by decide +kernel
theorem dX5_init_171 : decode cX5_init 171 = .ok (.putfield 72, 3) := by decide +kernel
theorem dX5_init_174 : decode cX5_init 174 = .ok (.aload_n 0, 1) := by decide +kernel
theorem dX5_init_175 : decode cX5_init 175 = .ok (.bipush 7, 2) := by decide +kernel
theorem dX5_init_177 : decode cX5_init 177 = .ok (.newarray .int, 2) := by decide +kernel
theorem dX5_init_179 : decode cX5_init 179 = .ok (.putfield 75, 3) := by decide +kernel
theorem dX5_init_182 : decode cX5_init 182 = .ok (.aload_n 0, 1) := by decide +kernel
theorem dX5_init_183 : decode cX5_init 183 = .ok (.bipush 8, 2) := by decide +kernel
theorem dX5_init_185 : decode cX5_init 185 = .ok (.newarray .int, 2) := by decide +kernel
theorem dX5_init_187 : decode cX5_init 187 = .ok (.putfield 78, 3) := by decide +kernel
theorem dX5_init_190 : decode cX5_init 190 = .ok (.aload_n 0, 1) := by decide +kernel
theorem dX5_init_191 : decode cX5_init 191 = .ok (.bipush 8, 2) := by decide +kernel
theorem dX5_init_193 : decode cX5_init 193 = .ok (.newarray .int, 2) := by decide +kernel
theorem dX5_init_195 : decode cX5_init 195 = .ok (.putfield 81, 3) := by decide +kernel
theorem dX5_init_198 : decode cX5_init 198 = .ok (.return_, 1) := by decide +kernel
theorem dX5_in_0 : decode cX5_in 0 = .ok (.iload_n 0, 1) := by decide +kernel
theorem dX5_in_1 : decode cX5_in 1 = .ok (.iload_n 1, 1) := by decide +kernel
theorem dX5_in_2 : decode cX5_in 2 = .ok (.if_icmp .lt 12, 3) := by decide +kernel
theorem dX5_in_5 : decode cX5_in 5 = .ok (.iload_n 0, 1) := by decide +kernel
theorem dX5_in_6 : decode cX5_in 6 = .ok (.iload_n 2, 1) := by decide +kernel
theorem dX5_in_7 : decode cX5_in 7 = .ok (.if_icmp .gt 7, 3) := by decide +kernel
theorem dX5_in_10 : decode cX5_in 10 = .ok (.iconst 1, 1) := by decide +kernel
theorem dX5_in_11 : decode cX5_in 11 = .ok (.goto 4, 3) := by decide +kernel
theorem dX5_in_14 : decode cX5_in 14 = .ok (.iconst 0, 1) := by decide +kernel
theorem dX5_in_15 : decode cX5_in 15 = .ok (.ireturn, 1) := by decide +kernel
theorem dX5_refuse_0 : decode cX5_refuse 0 = .ok (.aload_n 0, 1) := by decide +kernel
theorem dX5_refuse_1 : decode cX5_refuse 1 = .ok (.getfield 75, 3) := by decide +kernel
theorem dX5_refuse_4 : decode cX5_refuse 4 = .ok (.iload_n 1, 1) := by decide +kernel
theorem dX5_refuse_5 : decode cX5_refuse 5 = .ok (.ineg, 1) := by decide +kernel
theorem dX5_refuse_6 : decode cX5_refuse 6 = .ok (.dup2, 1) := by decide +kernel
theorem dX5_refuse_7 : decode cX5_refuse 7 = .ok (.iaload, 1) := by decide +kernel
theorem dX5_refuse_8 : decode cX5_refuse 8 = .ok (.iconst 1, 1) := by decide +kernel
theorem dX5_refuse_9 : decode cX5_refuse 9 = .ok (.iadd, 1) := by decide +kernel
theorem dX5_refuse_10 : decode cX5_refuse 10 = .ok (.iastore, 1) := by decide +kernel
theorem dX5_refuse_11 : decode cX5_refuse 11 = .ok (.iload_n 1, 1) := by decide +kernel
theorem dX5_refuse_12 : decode cX5_refuse 12 = .ok (.ireturn, 1) := by decide +kernel
end
section
theorem dX5_isCell_0 : decode cX5_isCell 0 = .ok (.iload_n 1, 1) := by decide +kernel
theorem dX5_isCell_1 : decode cX5_isCell 1 = .ok (.iconst 0, 1) := by decide +kernel
theorem dX5_isCell_2 : decode cX5_isCell 2 = .ok (.aload_n 0, 1) := by decide +kernel
theorem dX5_isCell_3 : decode cX5_isCell 3 = .ok (.getfield 84, 3) := by decide +kernel
theorem dX5_isCell_6 : decode cX5_isCell 6 = .ok (.iconst 1, 1) := by decide +kernel
theorem dX5_isCell_7 : decode cX5_isCell 7 = .ok (.isub, 1) := by decide +kernel
theorem dX5_isCell_8 : decode cX5_isCell 8 = .ok (.invokestatic 88, 3) := by decide +kernel
theorem dX5_isCell_11 : decode cX5_isCell 11 = .ok (.ireturn, 1) := by decide +kernel
theorem dX5_isPortable_0 : decode cX5_isPortable 0 = .ok (.iload_n 1, 1) := by decide +kernel
theorem dX5_isPortable_1 : decode cX5_isPortable 1 = .ok (.iconst 0, 1) := by decide +kernel
theorem dX5_isPortable_2 : decode cX5_isPortable 2 = .ok (.aload_n 0, 1) := by decide +kernel
theorem dX5_isPortable_3 : decode cX5_isPortable 3 = .ok (.getfield 92, 3) := by decide +kernel
theorem dX5_isPortable_6 : decode cX5_isPortable 6 = .ok (.iconst 1, 1) := by decide +kernel
theorem dX5_isPortable_7 : decode cX5_isPortable 7 = .ok (.isub, 1) := by decide +kernel
theorem dX5_isPortable_8 : decode cX5_isPortable 8 = .ok (.invokestatic 88, 3) := by decide +kernel
theorem dX5_isPortable_11 : decode cX5_isPortable 11 = .ok (.ireturn, 1) := by decide +kernel
theorem dX5_cell_0 : decode cX5_cell 0 = .ok (.iload_n 1, 1) := by decide +kernel
theorem dX5_cell_1 : decode cX5_cell 1 = .ok (.iconst 0, 1) := by decide +kernel
theorem dX5_cell_2 : decode cX5_cell 2 = .ok (.bipush 119, 2) := by decide +kernel
theorem dX5_cell_4 : decode cX5_cell 4 = .ok (.invokestatic 88, 3) := by decide +kernel
theorem dX5_cell_7 : decode cX5_cell 7 = .ok (.ifCond .ne 9, 3) := by decide +kernel
theorem dX5_cell_10 : decode cX5_cell 10 = .ok (.aload_n 0, 1) := by decide +kernel
theorem dX5_cell_11 : decode cX5_cell 11 = .ok (.iconst (-1), 1) := by decide +kernel
theorem dX5_cell_12 : decode cX5_cell 12 = .ok (.invokevirtual 95, 3) := by decide +kernel
theorem dX5_cell_15 : decode cX5_cell 15 = .ok (.ireturn, 1) := by decide +kernel
theorem dX5_cell_16 : decode cX5_cell 16 = .ok (.aload_n 0, 1) := by decide +kernel
theorem dX5_cell_17 : decode cX5_cell 17 = .ok (.getfield 84, 3) := by decide +kernel
theorem dX5_cell_20 : decode cX5_cell 20 = .ok (.iconst 4, 1) := by decide +kernel
theorem dX5_cell_21 : decode cX5_cell 21 = .ok (.if_icmp .ne 10, 3) := by decide +kernel
theorem dX5_cell_24 : decode cX5_cell 24 = .ok (.aload_n 0, 1) := by decide +kernel
theorem dX5_cell_25 : decode cX5_cell 25 = .ok (.bipush (-6), 2) := by decide +kernel
theorem dX5_cell_27 : decode cX5_cell 27 = .ok (.invokevirtual 95, 3) := by decide +kernel
theorem dX5_cell_30 : decode cX5_cell 30 = .ok (.ireturn, 1) := by decide +kernel
theorem dX5_cell_31 : decode cX5_cell 31 = .ok (.aload_n 0, 1) := by decide +kernel
theorem dX5_cell_32 : decode cX5_cell 32 = .ok (.getfield 7, 3) := by decide +kernel
theorem dX5_cell_35 : decode cX5_cell 35 = .ok (.aload_n 0, 1) := by decide +kernel
theorem dX5_cell_36 : decode cX5_cell 36 = .ok (.getfield 84, 3) := by decide +kernel
theorem dX5_cell_39 : decode cX5_cell 39 = .ok (.iload_n 1, 1) := by decide +kernel
theorem dX5_cell_40 : decode cX5_cell 40 = .ok (.iastore, 1) := by decide +kernel
theorem dX5_cell_41 : decode cX5_cell 41 = .ok (.aload_n 0, 1) := by decide +kernel
theorem dX5_cell_42 : decode cX5_cell 42 = .ok (.dup, 1) := by decide +kernel
theorem dX5_cell_43 : decode cX5_cell 43 = .ok (.getfield 84, 3) := by decide +kernel
theorem dX5_cell_46 : decode cX5_cell 46 = .ok (.iconst 1, 1) := by decide +kernel
theorem dX5_cell_47 : decode cX5_cell 47 = .ok (.iadd, 1) := by decide +kernel
theorem dX5_cell_48 : decode cX5_cell 48 = .ok (.putfield 84, 3) := by decide +kernel
theorem dX5_cell_51 : decode cX5_cell 51 = .ok (.aload_n 0, 1) := by decide +kernel
theorem dX5_cell_52 : decode cX5_cell 52 = .ok (.getfield 84, 3) := by decide +kernel
theorem dX5_cell_55 : decode cX5_cell 55 = .ok (.iconst 1, 1) := by decide +kernel
theorem dX5_cell_56 : decode cX5_cell 56 = .ok (.isub, 1) := by decide +kernel
theorem dX5_cell_57 : decode cX5_cell 57 = .ok (.ireturn, 1) := by decide +kernel
theorem dX5_portable_0 : decode cX5_portable 0 = .ok (.iload_n 1, 1) := by decide +kernel
theorem dX5_portable_1 : decode cX5_portable 1 = .ok (.iconst 0, 1) := by decide +kernel
theorem dX5_portable_2 : decode cX5_portable 2 = .ok (.bipush 15, 2) := by decide +kernel
theorem dX5_portable_4 : decode cX5_portable 4 = .ok (.invokestatic 88, 3) := by decide +kernel
theorem dX5_portable_7 : decode cX5_portable 7 = .ok (.ifCond .ne 9, 3) := by decide +kernel
theorem dX5_portable_10 : decode cX5_portable 10 = .ok (.aload_n 0, 1) := by decide +kernel
theorem dX5_portable_11 : decode cX5_portable 11 = .ok (.iconst (-1), 1) := by decide +kernel
theorem dX5_portable_12 : decode cX5_portable 12 = .ok (.invokevirtual 95, 3) := by decide +kernel
theorem dX5_portable_15 : decode cX5_portable 15 = .ok (.ireturn, 1) := by decide +kernel
theorem dX5_portable_16 : decode cX5_portable 16 = .ok (.aload_n 0, 1) := by decide +kernel
theorem dX5_portable_17 : decode cX5_portable 17 = .ok (.getfield 92, 3) := by decide +kernel
theorem dX5_portable_20 : decode cX5_portable 20 = .ok (.bipush 8, 2) := by decide +kernel
theorem dX5_portable_22 : decode cX5_portable 22 = .ok (.if_icmp .ne 10, 3) := by decide +kernel
theorem dX5_portable_25 : decode cX5_portable 25 = .ok (.aload_n 0, 1) := by decide +kernel
theorem dX5_portable_26 : decode cX5_portable 26 = .ok (.bipush (-6), 2) := by decide +kernel
theorem dX5_portable_28 : decode cX5_portable 28 = .ok (.invokevirtual 95, 3) := by decide +kernel
theorem dX5_portable_31 : decode cX5_portable 31 = .ok (.ireturn, 1) := by decide +kernel
theorem dX5_portable_32 : decode cX5_portable 32 = .ok (.aload_n 0, 1) := by decide +kernel
theorem dX5_portable_33 : decode cX5_portable 33 = .ok (.getfield 13, 3) := by decide +kernel
theorem dX5_portable_36 : decode cX5_portable 36 = .ok (.aload_n 0, 1) := by decide +kernel
theorem dX5_portable_37 : decode cX5_portable 37 = .ok (.getfield 92, 3) := by decide +kernel
theorem dX5_portable_40 : decode cX5_portable 40 = .ok (.iload_n 1, 1) := by decide +kernel
theorem dX5_portable_41 : decode cX5_portable 41 = .ok (.iastore, 1) := by decide +kernel
theorem dX5_portable_42 : decode cX5_portable 42 = .ok (.aload_n 0, 1) := by decide +kernel
theorem dX5_portable_43 : decode cX5_portable 43 = .ok (.getfield 16, 3) := by decide +kernel
theorem dX5_portable_46 : decode cX5_portable 46 = .ok (.aload_n 0, 1) := by decide +kernel
theorem dX5_portable_47 : decode cX5_portable 47 = .ok (.getfield 92, 3) := by decide +kernel
theorem dX5_portable_50 : decode cX5_portable 50 = .ok (.lload_n 2, 1) := by decide +kernel
theorem dX5_portable_51 : decode cX5_portable 51 = .ok (.lastore, 1) := by decide +kernel
theorem dX5_portable_52 : decode cX5_portable 52 = .ok (.aload_n 0, 1) := by decide +kernel
theorem dX5_portable_53 : decode cX5_portable 53 = .ok (.getfield 30, 3) := by decide +kernel
theorem dX5_portable_56 : decode cX5_portable 56 = .ok (.aload_n 0, 1) := by decide +kernel
theorem dX5_portable_57 : decode cX5_portable 57 = .ok (.getfield 92, 3) := by decide +kernel
theorem dX5_portable_60 : decode cX5_portable 60 = .ok (.bipush (-9), 2) := by decide +kernel
theorem dX5_portable_62 : decode cX5_portable 62 = .ok (.iastore, 1) := by decide +kernel
theorem dX5_portable_63 : decode cX5_portable 63 = .ok (.aload_n 0, 1) := by decide +kernel
theorem dX5_portable_64 : decode cX5_portable 64 = .ok (.dup, 1) := by decide +kernel
theorem dX5_portable_65 : decode cX5_portable 65 = .ok (.getfield 92, 3) := by decide +kernel
theorem dX5_portable_68 : decode cX5_portable 68 = .ok (.iconst 1, 1) := by decide +kernel
theorem dX5_portable_69 : decode cX5_portable 69 = .ok (.iadd, 1) := by decide +kernel
theorem dX5_portable_70 : decode cX5_portable 70 = .ok (.putfield 92, 3) := by decide +kernel
theorem dX5_portable_73 : decode cX5_portable 73 = .ok (.aload_n 0, 1) := by decide +kernel
theorem dX5_portable_74 : decode cX5_portable 74 = .ok (.getfield 92, 3) := by decide +kernel
theorem dX5_portable_77 : decode cX5_portable 77 = .ok (.iconst 1, 1) := by decide +kernel
theorem dX5_portable_78 : decode cX5_portable 78 = .ok (.isub, 1) := by decide +kernel
theorem dX5_portable_79 : decode cX5_portable 79 = .ok (.ireturn, 1) := by decide +kernel
theorem dX5_reach_0 : decode cX5_reach 0 = .ok (.iload_n 1, 1) := by decide +kernel
theorem dX5_reach_1 : decode cX5_reach 1 = .ok (.iconst 0, 1) := by decide +kernel
theorem dX5_reach_2 : decode cX5_reach 2 = .ok (.bipush 15, 2) := by decide +kernel
theorem dX5_reach_4 : decode cX5_reach 4 = .ok (.invokestatic 88, 3) := by decide +kernel
theorem dX5_reach_7 : decode cX5_reach 7 = .ok (.ifCond .ne 9, 3) := by decide +kernel
theorem dX5_reach_10 : decode cX5_reach 10 = .ok (.aload_n 0, 1) := by decide +kernel
theorem dX5_reach_11 : decode cX5_reach 11 = .ok (.iconst (-1), 1) := by decide +kernel
theorem dX5_reach_12 : decode cX5_reach 12 = .ok (.invokevirtual 95, 3) := by decide +kernel
theorem dX5_reach_15 : decode cX5_reach 15 = .ok (.ireturn, 1) := by decide +kernel
theorem dX5_reach_16 : decode cX5_reach 16 = .ok (.iload_n 2, 1) := by decide +kernel
theorem dX5_reach_17 : decode cX5_reach 17 = .ok (.ifCond .ge 10, 3) := by decide +kernel
theorem dX5_reach_20 : decode cX5_reach 20 = .ok (.aload_n 0, 1) := by decide +kernel
theorem dX5_reach_21 : decode cX5_reach 21 = .ok (.bipush (-4), 2) := by decide +kernel
theorem dX5_reach_23 : decode cX5_reach 23 = .ok (.invokevirtual 95, 3) := by decide +kernel
theorem dX5_reach_26 : decode cX5_reach 26 = .ok (.ireturn, 1) := by decide +kernel
theorem dX5_reach_27 : decode cX5_reach 27 = .ok (.iload_n 2, 1) := by decide +kernel
theorem dX5_reach_28 : decode cX5_reach 28 = .ok (.bipush 15, 2) := by decide +kernel
theorem dX5_reach_30 : decode cX5_reach 30 = .ok (.if_icmp .le 10, 3) := by decide +kernel
theorem dX5_reach_33 : decode cX5_reach 33 = .ok (.aload_n 0, 1) := by decide +kernel
theorem dX5_reach_34 : decode cX5_reach 34 = .ok (.bipush (-6), 2) := by decide +kernel
theorem dX5_reach_36 : decode cX5_reach 36 = .ok (.invokevirtual 95, 3) := by decide +kernel
theorem dX5_reach_39 : decode cX5_reach 39 = .ok (.ireturn, 1) := by decide +kernel
theorem dX5_reach_40 : decode cX5_reach 40 = .ok (.aload_n 0, 1) := by decide +kernel
theorem dX5_reach_41 : decode cX5_reach 41 = .ok (.getfield 36, 3) := by decide +kernel
theorem dX5_reach_44 : decode cX5_reach 44 = .ok (.iload_n 1, 1) := by decide +kernel
theorem dX5_reach_45 : decode cX5_reach 45 = .ok (.iaload, 1) := by decide +kernel
theorem dX5_reach_46 : decode cX5_reach 46 = .ok (.istore_n 3, 1) := by decide +kernel
theorem dX5_reach_47 : decode cX5_reach 47 = .ok (.aload_n 0, 1) := by decide +kernel
theorem dX5_reach_48 : decode cX5_reach 48 = .ok (.getfield 36, 3) := by decide +kernel
theorem dX5_reach_51 : decode cX5_reach 51 = .ok (.iload_n 1, 1) := by decide +kernel
theorem dX5_reach_52 : decode cX5_reach 52 = .ok (.iload_n 2, 1) := by decide +kernel
theorem dX5_reach_53 : decode cX5_reach 53 = .ok (.iastore, 1) := by decide +kernel
theorem dX5_reach_54 : decode cX5_reach 54 = .ok (.iload_n 3, 1) := by decide +kernel
theorem dX5_reach_55 : decode cX5_reach 55 = .ok (.ireturn, 1) := by decide +kernel
theorem dX5_noise_0 : decode cX5_noise 0 = .ok (.iload_n 1, 1) := by decide +kernel
theorem dX5_noise_1 : decode cX5_noise 1 = .ok (.iconst 0, 1) := by decide +kernel
theorem dX5_noise_2 : decode cX5_noise 2 = .ok (.bipush 15, 2) := by decide +kernel
theorem dX5_noise_4 : decode cX5_noise 4 = .ok (.aload_n 0, 1) := by decide +kernel
theorem dX5_noise_5 : decode cX5_noise 5 = .ok (.getfield 84, 3) := by decide +kernel
theorem dX5_noise_8 : decode cX5_noise 8 = .ok (.iadd, 1) := by decide +kernel
theorem dX5_noise_9 : decode cX5_noise 9 = .ok (.invokestatic 88, 3) := by decide +kernel
theorem dX5_noise_12 : decode cX5_noise 12 = .ok (.ifCond .eq 28, 3) := by decide +kernel
theorem dX5_noise_15 : decode cX5_noise 15 = .ok (.iload_n 2, 1) := by decide +kernel
theorem dX5_noise_16 : decode cX5_noise 16 = .ok (.iconst 0, 1) := by decide +kernel
theorem dX5_noise_17 : decode cX5_noise 17 = .ok (.bipush 119, 2) := by decide +kernel
theorem dX5_noise_19 : decode cX5_noise 19 = .ok (.invokestatic 88, 3) := by decide +kernel
theorem dX5_noise_22 : decode cX5_noise 22 = .ok (.ifCond .eq 18, 3) := by decide +kernel
theorem dX5_noise_25 : decode cX5_noise 25 = .ok (.aload_n 0, 1) := by decide +kernel
theorem dX5_noise_26 : decode cX5_noise 26 = .ok (.getfield 39, 3) := by decide +kernel
theorem dX5_noise_29 : decode cX5_noise 29 = .ok (.bipush 120, 2) := by decide +kernel
theorem dX5_noise_31 : decode cX5_noise 31 = .ok (.iload_n 1, 1) := by decide +kernel
theorem dX5_noise_32 : decode cX5_noise 32 = .ok (.imul, 1) := by decide +kernel
theorem dX5_noise_33 : decode cX5_noise 33 = .ok (.iload_n 2, 1) := by decide +kernel
theorem dX5_noise_34 : decode cX5_noise 34 = .ok (.iadd, 1) := by decide +kernel
theorem dX5_noise_35 : decode cX5_noise 35 = .ok (.baload, 1) := by decide +kernel
theorem dX5_noise_36 : decode cX5_noise 36 = .ok (.iload_n 3, 1) := by decide +kernel
theorem dX5_noise_37 : decode cX5_noise 37 = .ok (.if_icmp .ne 5, 3) := by decide +kernel
theorem dX5_noise_40 : decode cX5_noise 40 = .ok (.iconst 0, 1) := by decide +kernel
theorem dX5_noise_41 : decode cX5_noise 41 = .ok (.ireturn, 1) := by decide +kernel
theorem dX5_noise_42 : decode cX5_noise 42 = .ok (.aload_n 0, 1) := by decide +kernel
theorem dX5_noise_43 : decode cX5_noise 43 = .ok (.getfield 39, 3) := by decide +kernel
theorem dX5_noise_46 : decode cX5_noise 46 = .ok (.bipush 120, 2) := by decide +kernel
theorem dX5_noise_48 : decode cX5_noise 48 = .ok (.iload_n 1, 1) := by decide +kernel
theorem dX5_noise_49 : decode cX5_noise 49 = .ok (.imul, 1) := by decide +kernel
theorem dX5_noise_50 : decode cX5_noise 50 = .ok (.iload_n 2, 1) := by decide +kernel
theorem dX5_noise_51 : decode cX5_noise 51 = .ok (.iadd, 1) := by decide +kernel
theorem dX5_noise_52 : decode cX5_noise 52 = .ok (.iload_n 3, 1) := by decide +kernel
theorem dX5_noise_53 : decode cX5_noise 53 = .ok (.bastore, 1) := by decide +kernel
theorem dX5_noise_54 : decode cX5_noise 54 = .ok (.iconst 1, 1) := by decide +kernel
theorem dX5_noise_55 : decode cX5_noise 55 = .ok (.ireturn, 1) := by decide +kernel
theorem dX5_go_0 : decode cX5_go 0 = .ok (.aload_n 0, 1) := by decide +kernel
theorem dX5_go_1 : decode cX5_go 1 = .ok (.iload_n 1, 1) := by decide +kernel
theorem dX5_go_2 : decode cX5_go 2 = .ok (.invokevirtual 99, 3) := by decide +kernel
theorem dX5_go_5 : decode cX5_go 5 = .ok (.ifCond .eq 13, 3) := by decide +kernel
theorem dX5_go_8 : decode cX5_go 8 = .ok (.iload_n 2, 1) := by decide +kernel
theorem dX5_go_9 : decode cX5_go 9 = .ok (.iconst 0, 1) := by decide +kernel
theorem dX5_go_10 : decode cX5_go 10 = .ok (.bipush 15, 2) := by decide +kernel
theorem dX5_go_12 : decode cX5_go 12 = .ok (.invokestatic 88, 3) := by decide +kernel
theorem dX5_go_15 : decode cX5_go 15 = .ok (.ifCond .ne 9, 3) := by decide +kernel
theorem dX5_go_18 : decode cX5_go 18 = .ok (.aload_n 0, 1) := by decide +kernel
theorem dX5_go_19 : decode cX5_go 19 = .ok (.iconst (-1), 1) := by decide +kernel
theorem dX5_go_20 : decode cX5_go 20 = .ok (.invokevirtual 95, 3) := by decide +kernel
theorem dX5_go_23 : decode cX5_go 23 = .ok (.ireturn, 1) := by decide +kernel
theorem dX5_go_24 : decode cX5_go 24 = .ok (.aload_n 0, 1) := by decide +kernel
theorem dX5_go_25 : decode cX5_go 25 = .ok (.getfield 13, 3) := by decide +kernel
theorem dX5_go_28 : decode cX5_go 28 = .ok (.iload_n 1, 1) := by decide +kernel
theorem dX5_go_29 : decode cX5_go 29 = .ok (.iaload, 1) := by decide +kernel
theorem dX5_go_30 : decode cX5_go 30 = .ok (.istore_n 3, 1) := by decide +kernel
theorem dX5_go_31 : decode cX5_go 31 = .ok (.aload_n 0, 1) := by decide +kernel
theorem dX5_go_32 : decode cX5_go 32 = .ok (.getfield 13, 3) := by decide +kernel
theorem dX5_go_35 : decode cX5_go 35 = .ok (.iload_n 1, 1) := by decide +kernel
theorem dX5_go_36 : decode cX5_go 36 = .ok (.iload_n 2, 1) := by decide +kernel
theorem dX5_go_37 : decode cX5_go 37 = .ok (.iastore, 1) := by decide +kernel
theorem dX5_go_38 : decode cX5_go 38 = .ok (.iload_n 3, 1) := by decide +kernel
theorem dX5_go_39 : decode cX5_go 39 = .ok (.ireturn, 1) := by decide +kernel
theorem dX5_enter_0 : decode cX5_enter 0 = .ok (.aload_n 0, 1) := by decide +kernel
theorem dX5_enter_1 : decode cX5_enter 1 = .ok (.iload_n 1, 1) := by decide +kernel
theorem dX5_enter_2 : decode cX5_enter 2 = .ok (.invokevirtual 99, 3) := by decide +kernel
theorem dX5_enter_5 : decode cX5_enter 5 = .ok (.ifCond .ne 9, 3) := by decide +kernel
theorem dX5_enter_8 : decode cX5_enter 8 = .ok (.aload_n 0, 1) := by decide +kernel
theorem dX5_enter_9 : decode cX5_enter 9 = .ok (.iconst (-1), 1) := by decide +kernel
theorem dX5_enter_10 : decode cX5_enter 10 = .ok (.invokevirtual 95, 3) := by decide +kernel
theorem dX5_enter_13 : decode cX5_enter 13 = .ok (.ireturn, 1) := by decide +kernel
theorem dX5_enter_14 : decode cX5_enter 14 = .ok (.aload_n 0, 1) := by decide +kernel
theorem dX5_enter_15 : decode cX5_enter 15 = .ok (.getfield 27, 3) := by decide +kernel
theorem dX5_enter_18 : decode cX5_enter 18 = .ok (.iload_n 1, 1) := by decide +kernel
theorem dX5_enter_19 : decode cX5_enter 19 = .ok (.iaload, 1) := by decide +kernel
theorem dX5_enter_20 : decode cX5_enter 20 = .ok (.ifCond .eq 10, 3) := by decide +kernel
theorem dX5_enter_23 : decode cX5_enter 23 = .ok (.aload_n 0, 1) := by decide +kernel
theorem dX5_enter_24 : decode cX5_enter 24 = .ok (.bipush (-2), 2) := by decide +kernel
theorem dX5_enter_26 : decode cX5_enter 26 = .ok (.invokevirtual 95, 3) := by decide +kernel
theorem dX5_enter_29 : decode cX5_enter 29 = .ok (.ireturn, 1) := by decide +kernel
theorem dX5_enter_30 : decode cX5_enter 30 = .ok (.aload_n 0, 1) := by decide +kernel
theorem dX5_enter_31 : decode cX5_enter 31 = .ok (.getfield 20, 3) := by decide +kernel
theorem dX5_enter_34 : decode cX5_enter 34 = .ok (.iload_n 1, 1) := by decide +kernel
theorem dX5_enter_35 : decode cX5_enter 35 = .ok (.iconst 1, 1) := by decide +kernel
theorem dX5_enter_36 : decode cX5_enter 36 = .ok (.bastore, 1) := by decide +kernel
theorem dX5_enter_37 : decode cX5_enter 37 = .ok (.aload_n 0, 1) := by decide +kernel
theorem dX5_enter_38 : decode cX5_enter 38 = .ok (.getfield 24, 3) := by decide +kernel
theorem dX5_enter_41 : decode cX5_enter 41 = .ok (.iload_n 1, 1) := by decide +kernel
theorem dX5_enter_42 : decode cX5_enter 42 = .ok (.lload_n 2, 1) := by decide +kernel
theorem dX5_enter_43 : decode cX5_enter 43 = .ok (.lastore, 1) := by decide +kernel
theorem dX5_enter_44 : decode cX5_enter 44 = .ok (.iconst 1, 1) := by decide +kernel
theorem dX5_enter_45 : decode cX5_enter 45 = .ok (.ireturn, 1) := by decide +kernel
theorem dX5_dial_0 : decode cX5_dial 0 = .ok (.aload_n 0, 1) := by decide +kernel
theorem dX5_dial_1 : decode cX5_dial 1 = .ok (.iload_n 1, 1) := by decide +kernel
theorem dX5_dial_2 : decode cX5_dial 2 = .ok (.invokevirtual 99, 3) := by decide +kernel
theorem dX5_dial_5 : decode cX5_dial 5 = .ok (.ifCond .eq 16, 3) := by decide +kernel
theorem dX5_dial_8 : decode cX5_dial 8 = .ok (.aload_n 0, 1) := by decide +kernel
theorem dX5_dial_9 : decode cX5_dial 9 = .ok (.iload_n 2, 1) := by decide +kernel
theorem dX5_dial_10 : decode cX5_dial 10 = .ok (.invokevirtual 99, 3) := by decide +kernel
theorem dX5_dial_13 : decode cX5_dial 13 = .ok (.ifCond .eq 8, 3) := by decide +kernel
theorem dX5_dial_16 : decode cX5_dial 16 = .ok (.iload_n 1, 1) := by decide +kernel
theorem dX5_dial_17 : decode cX5_dial 17 = .ok (.iload_n 2, 1) := by decide +kernel
theorem dX5_dial_18 : decode cX5_dial 18 = .ok (.if_icmp .ne 9, 3) := by decide +kernel
theorem dX5_dial_21 : decode cX5_dial 21 = .ok (.aload_n 0, 1) := by decide +kernel
theorem dX5_dial_22 : decode cX5_dial 22 = .ok (.iconst (-1), 1) := by decide +kernel
theorem dX5_dial_23 : decode cX5_dial 23 = .ok (.invokevirtual 95, 3) := by decide +kernel
theorem dX5_dial_26 : decode cX5_dial 26 = .ok (.ireturn, 1) := by decide +kernel
theorem dX5_dial_27 : decode cX5_dial 27 = .ok (.aload_n 0, 1) := by decide +kernel
theorem dX5_dial_28 : decode cX5_dial 28 = .ok (.getfield 27, 3) := by decide +kernel
theorem dX5_dial_31 : decode cX5_dial 31 = .ok (.iload_n 1, 1) := by decide +kernel
theorem dX5_dial_32 : decode cX5_dial 32 = .ok (.iaload, 1) := by decide +kernel
theorem dX5_dial_33 : decode cX5_dial 33 = .ok (.ifCond .eq 10, 3) := by decide +kernel
theorem dX5_dial_36 : decode cX5_dial 36 = .ok (.aload_n 0, 1) := by decide +kernel
theorem dX5_dial_37 : decode cX5_dial 37 = .ok (.bipush (-2), 2) := by decide +kernel
theorem dX5_dial_39 : decode cX5_dial 39 = .ok (.invokevirtual 95, 3) := by decide +kernel
theorem dX5_dial_42 : decode cX5_dial 42 = .ok (.ireturn, 1) := by decide +kernel
theorem dX5_dial_43 : decode cX5_dial 43 = .ok (.aload_n 0, 1) := by decide +kernel
theorem dX5_dial_44 : decode cX5_dial 44 = .ok (.getfield 20, 3) := by decide +kernel
theorem dX5_dial_47 : decode cX5_dial 47 = .ok (.iload_n 1, 1) := by decide +kernel
theorem dX5_dial_48 : decode cX5_dial 48 = .ok (.baload, 1) := by decide +kernel
theorem dX5_dial_49 : decode cX5_dial 49 = .ok (.ifCond .eq 12, 3) := by decide +kernel
theorem dX5_dial_52 : decode cX5_dial 52 = .ok (.aload_n 0, 1) := by decide +kernel
theorem dX5_dial_53 : decode cX5_dial 53 = .ok (.getfield 20, 3) := by decide +kernel
theorem dX5_dial_56 : decode cX5_dial 56 = .ok (.iload_n 2, 1) := by decide +kernel
theorem dX5_dial_57 : decode cX5_dial 57 = .ok (.baload, 1) := by decide +kernel
theorem dX5_dial_58 : decode cX5_dial 58 = .ok (.ifCond .ne 10, 3) := by decide +kernel
theorem dX5_dial_61 : decode cX5_dial 61 = .ok (.aload_n 0, 1) := by decide +kernel
theorem dX5_dial_62 : decode cX5_dial 62 = .ok (.bipush (-3), 2) := by decide +kernel
theorem dX5_dial_64 : decode cX5_dial 64 = .ok (.invokevirtual 95, 3) := by decide +kernel
theorem dX5_dial_67 : decode cX5_dial 67 = .ok (.ireturn, 1) := by decide +kernel
theorem dX5_dial_68 : decode cX5_dial 68 = .ok (.aload_n 0, 1) := by decide +kernel
theorem dX5_dial_69 : decode cX5_dial 69 = .ok (.getfield 27, 3) := by decide +kernel
theorem dX5_dial_72 : decode cX5_dial 72 = .ok (.iload_n 1, 1) := by decide +kernel
theorem dX5_dial_73 : decode cX5_dial 73 = .ok (.iconst 1, 1) := by decide +kernel
theorem dX5_dial_74 : decode cX5_dial 74 = .ok (.iastore, 1) := by decide +kernel
theorem dX5_dial_75 : decode cX5_dial 75 = .ok (.aload_n 0, 1) := by decide +kernel
theorem dX5_dial_76 : decode cX5_dial 76 = .ok (.getfield 30, 3) := by decide +kernel
theorem dX5_dial_79 : decode cX5_dial 79 = .ok (.iload_n 1, 1) := by decide +kernel
theorem dX5_dial_80 : decode cX5_dial 80 = .ok (.iload_n 2, 1) := by decide +kernel
theorem dX5_dial_81 : decode cX5_dial 81 = .ok (.iastore, 1) := by decide +kernel
theorem dX5_dial_82 : decode cX5_dial 82 = .ok (.aload_n 0, 1) := by decide +kernel
theorem dX5_dial_83 : decode cX5_dial 83 = .ok (.getfield 33, 3) := by decide +kernel
theorem dX5_dial_86 : decode cX5_dial 86 = .ok (.iload_n 1, 1) := by decide +kernel
theorem dX5_dial_87 : decode cX5_dial 87 = .ok (.aload_n 0, 1) := by decide +kernel
theorem dX5_dial_88 : decode cX5_dial 88 = .ok (.getfield 103, 3) := by decide +kernel
theorem dX5_dial_91 : decode cX5_dial 91 = .ok (.iastore, 1) := by decide +kernel
theorem dX5_dial_92 : decode cX5_dial 92 = .ok (.iconst 1, 1) := by decide +kernel
theorem dX5_dial_93 : decode cX5_dial 93 = .ok (.ireturn, 1) := by decide +kernel
theorem dX5_answer_0 : decode cX5_answer 0 = .ok (.aload_n 0, 1) := by decide +kernel
theorem dX5_answer_1 : decode cX5_answer 1 = .ok (.iload_n 1, 1) := by decide +kernel
theorem dX5_answer_2 : decode cX5_answer 2 = .ok (.invokevirtual 99, 3) := by decide +kernel
theorem dX5_answer_5 : decode cX5_answer 5 = .ok (.ifCond .ne 9, 3) := by decide +kernel
theorem dX5_answer_8 : decode cX5_answer 8 = .ok (.aload_n 0, 1) := by decide +kernel
theorem dX5_answer_9 : decode cX5_answer 9 = .ok (.iconst (-1), 1) := by decide +kernel
theorem dX5_answer_10 : decode cX5_answer 10 = .ok (.invokevirtual 95, 3) := by decide +kernel
theorem dX5_answer_13 : decode cX5_answer 13 = .ok (.ireturn, 1) := by decide +kernel
theorem dX5_answer_14 : decode cX5_answer 14 = .ok (.aload_n 0, 1) := by decide +kernel
theorem dX5_answer_15 : decode cX5_answer 15 = .ok (.getfield 27, 3) := by decide +kernel
theorem dX5_answer_18 : decode cX5_answer 18 = .ok (.iload_n 1, 1) := by decide +kernel
theorem dX5_answer_19 : decode cX5_answer 19 = .ok (.iaload, 1) := by decide +kernel
theorem dX5_answer_20 : decode cX5_answer 20 = .ok (.bipush 6, 2) := by decide +kernel
theorem dX5_answer_22 : decode cX5_answer 22 = .ok (.if_icmp .eq 10, 3) := by decide +kernel
theorem dX5_answer_25 : decode cX5_answer 25 = .ok (.aload_n 0, 1) := by decide +kernel
theorem dX5_answer_26 : decode cX5_answer 26 = .ok (.bipush (-2), 2) := by decide +kernel
theorem dX5_answer_28 : decode cX5_answer 28 = .ok (.invokevirtual 95, 3) := by decide +kernel
theorem dX5_answer_31 : decode cX5_answer 31 = .ok (.ireturn, 1) := by decide +kernel
theorem dX5_answer_32 : decode cX5_answer 32 = .ok (.aload_n 0, 1) := by decide +kernel
theorem dX5_answer_33 : decode cX5_answer 33 = .ok (.getfield 27, 3) := by decide +kernel
theorem dX5_answer_36 : decode cX5_answer 36 = .ok (.iload_n 1, 1) := by decide +kernel
theorem dX5_answer_37 : decode cX5_answer 37 = .ok (.bipush 7, 2) := by decide +kernel
theorem dX5_answer_39 : decode cX5_answer 39 = .ok (.iastore, 1) := by decide +kernel
theorem dX5_answer_40 : decode cX5_answer 40 = .ok (.aload_n 0, 1) := by decide +kernel
theorem dX5_answer_41 : decode cX5_answer 41 = .ok (.getfield 27, 3) := by decide +kernel
theorem dX5_answer_44 : decode cX5_answer 44 = .ok (.aload_n 0, 1) := by decide +kernel
theorem dX5_answer_45 : decode cX5_answer 45 = .ok (.getfield 30, 3) := by decide +kernel
theorem dX5_answer_48 : decode cX5_answer 48 = .ok (.iload_n 1, 1) := by decide +kernel
theorem dX5_answer_49 : decode cX5_answer 49 = .ok (.iaload, 1) := by decide +kernel
theorem dX5_answer_50 : decode cX5_answer 50 = .ok (.bipush 7, 2) := by decide +kernel
theorem dX5_answer_52 : decode cX5_answer 52 = .ok (.iastore, 1) := by decide +kernel
theorem dX5_answer_53 : decode cX5_answer 53 = .ok (.aload_n 0, 1) := by decide +kernel
theorem dX5_answer_54 : decode cX5_answer 54 = .ok (.dup, 1) := by decide +kernel
theorem dX5_answer_55 : decode cX5_answer 55 = .ok (.getfield 106, 3) := by decide +kernel
theorem dX5_answer_58 : decode cX5_answer 58 = .ok (.iconst 1, 1) := by decide +kernel
theorem dX5_answer_59 : decode cX5_answer 59 = .ok (.iadd, 1) := by decide +kernel
theorem dX5_answer_60 : decode cX5_answer 60 = .ok (.putfield 106, 3) := by decide +kernel
theorem dX5_answer_63 : decode cX5_answer 63 = .ok (.iconst 1, 1) := by decide +kernel
theorem dX5_answer_64 : decode cX5_answer 64 = .ok (.ireturn, 1) := by decide +kernel
theorem dX5_dropBearer_0 : decode cX5_dropBearer 0 = .ok (.aload_n 0, 1) := by decide +kernel
theorem dX5_dropBearer_1 : decode cX5_dropBearer 1 = .ok (.dup, 1) := by decide +kernel
theorem dX5_dropBearer_2 : decode cX5_dropBearer 2 = .ok (.getfield 109, 3) := by decide +kernel
theorem dX5_dropBearer_5 : decode cX5_dropBearer 5 = .ok (.iconst 1, 1) := by decide +kernel
theorem dX5_dropBearer_6 : decode cX5_dropBearer 6 = .ok (.isub, 1) := by decide +kernel
theorem dX5_dropBearer_7 : decode cX5_dropBearer 7 = .ok (.putfield 109, 3) := by decide +kernel
theorem dX5_dropBearer_10 : decode cX5_dropBearer 10 = .ok (.iload_n 1, 1) := by decide +kernel
theorem dX5_dropBearer_11 : decode cX5_dropBearer 11 = .ok (.istore_n 2, 1) := by decide +kernel
theorem dX5_dropBearer_12 : decode cX5_dropBearer 12 = .ok (.iload_n 2, 1) := by decide +kernel
theorem dX5_dropBearer_13 : decode cX5_dropBearer 13 = .ok (.aload_n 0, 1) := by decide +kernel
theorem dX5_dropBearer_14 : decode cX5_dropBearer 14 = .ok (.getfield 109, 3) := by decide +kernel
theorem dX5_dropBearer_17 : decode cX5_dropBearer 17 = .ok (.if_icmp .ge 79, 3) := by decide +kernel
theorem dX5_dropBearer_20 : decode cX5_dropBearer 20 = .ok (.aload_n 0, 1) := by decide +kernel
theorem dX5_dropBearer_21 : decode cX5_dropBearer 21 = .ok (.getfield 42, 3) := by decide +kernel
theorem dX5_dropBearer_24 : decode cX5_dropBearer 24 = .ok (.iload_n 2, 1) := by decide +kernel
theorem dX5_dropBearer_25 : decode cX5_dropBearer 25 = .ok (.aload_n 0, 1) := by decide +kernel
theorem dX5_dropBearer_26 : decode cX5_dropBearer 26 = .ok (.getfield 42, 3) := by decide +kernel
theorem dX5_dropBearer_29 : decode cX5_dropBearer 29 = .ok (.iload_n 2, 1) := by decide +kernel
theorem dX5_dropBearer_30 : decode cX5_dropBearer 30 = .ok (.iconst 1, 1) := by decide +kernel
theorem dX5_dropBearer_31 : decode cX5_dropBearer 31 = .ok (.iadd, 1) := by decide +kernel
theorem dX5_dropBearer_32 : decode cX5_dropBearer 32 = .ok (.iaload, 1) := by decide +kernel
theorem dX5_dropBearer_33 : decode cX5_dropBearer 33 = .ok (.iastore, 1) := by decide +kernel
theorem dX5_dropBearer_34 : decode cX5_dropBearer 34 = .ok (.aload_n 0, 1) := by decide +kernel
theorem dX5_dropBearer_35 : decode cX5_dropBearer 35 = .ok (.getfield 45, 3) := by decide +kernel
theorem dX5_dropBearer_38 : decode cX5_dropBearer 38 = .ok (.iload_n 2, 1) := by decide +kernel
theorem dX5_dropBearer_39 : decode cX5_dropBearer 39 = .ok (.aload_n 0, 1) := by decide +kernel
theorem dX5_dropBearer_40 : decode cX5_dropBearer 40 = .ok (.getfield 45, 3) := by decide +kernel
theorem dX5_dropBearer_43 : decode cX5_dropBearer 43 = .ok (.iload_n 2, 1) := by decide +kernel
theorem dX5_dropBearer_44 : decode cX5_dropBearer 44 = .ok (.iconst 1, 1) := by decide +kernel
theorem dX5_dropBearer_45 : decode cX5_dropBearer 45 = .ok (.iadd, 1) := by decide +kernel
theorem dX5_dropBearer_46 : decode cX5_dropBearer 46 = .ok (.iaload, 1) := by decide +kernel
theorem dX5_dropBearer_47 : decode cX5_dropBearer 47 = .ok (.iastore, 1) := by decide +kernel
theorem dX5_dropBearer_48 : decode cX5_dropBearer 48 = .ok (.aload_n 0, 1) := by decide +kernel
theorem dX5_dropBearer_49 : decode cX5_dropBearer 49 = .ok (.getfield 48, 3) := by decide +kernel
theorem dX5_dropBearer_52 : decode cX5_dropBearer 52 = .ok (.iload_n 2, 1) := by decide +kernel
theorem dX5_dropBearer_53 : decode cX5_dropBearer 53 = .ok (.aload_n 0, 1) := by decide +kernel
theorem dX5_dropBearer_54 : decode cX5_dropBearer 54 = .ok (.getfield 48, 3) := by decide +kernel
theorem dX5_dropBearer_57 : decode cX5_dropBearer 57 = .ok (.iload_n 2, 1) := by decide +kernel
theorem dX5_dropBearer_58 : decode cX5_dropBearer 58 = .ok (.iconst 1, 1) := by decide +kernel
theorem dX5_dropBearer_59 : decode cX5_dropBearer 59 = .ok (.iadd, 1) := by decide +kernel
theorem dX5_dropBearer_60 : decode cX5_dropBearer 60 = .ok (.iaload, 1) := by decide +kernel
theorem dX5_dropBearer_61 : decode cX5_dropBearer 61 = .ok (.iastore, 1) := by decide +kernel
theorem dX5_dropBearer_62 : decode cX5_dropBearer 62 = .ok (.aload_n 0, 1) := by decide +kernel
theorem dX5_dropBearer_63 : decode cX5_dropBearer 63 = .ok (.getfield 51, 3) := by decide +kernel
theorem dX5_dropBearer_66 : decode cX5_dropBearer 66 = .ok (.iload_n 2, 1) := by decide +kernel
theorem dX5_dropBearer_67 : decode cX5_dropBearer 67 = .ok (.aload_n 0, 1) := by decide +kernel
theorem dX5_dropBearer_68 : decode cX5_dropBearer 68 = .ok (.getfield 51, 3) := by decide +kernel
theorem dX5_dropBearer_71 : decode cX5_dropBearer 71 = .ok (.iload_n 2, 1) := by decide +kernel
theorem dX5_dropBearer_72 : decode cX5_dropBearer 72 = .ok (.iconst 1, 1) := by decide +kernel
theorem dX5_dropBearer_73 : decode cX5_dropBearer 73 = .ok (.iadd, 1) := by decide +kernel
theorem dX5_dropBearer_74 : decode cX5_dropBearer 74 = .ok (.iaload, 1) := by decide +kernel
theorem dX5_dropBearer_75 : decode cX5_dropBearer 75 = .ok (.iastore, 1) := by decide +kernel
theorem dX5_dropBearer_76 : decode cX5_dropBearer 76 = .ok (.aload_n 0, 1) := by decide +kernel
theorem dX5_dropBearer_77 : decode cX5_dropBearer 77 = .ok (.getfield 54, 3) := by decide +kernel
theorem dX5_dropBearer_80 : decode cX5_dropBearer 80 = .ok (.iload_n 2, 1) := by decide +kernel
theorem dX5_dropBearer_81 : decode cX5_dropBearer 81 = .ok (.aload_n 0, 1) := by decide +kernel
theorem dX5_dropBearer_82 : decode cX5_dropBearer 82 = .ok (.getfield 54, 3) := by decide +kernel
theorem dX5_dropBearer_85 : decode cX5_dropBearer 85 = .ok (.iload_n 2, 1) := by decide +kernel
theorem dX5_dropBearer_86 : decode cX5_dropBearer 86 = .ok (.iconst 1, 1) := by decide +kernel
theorem dX5_dropBearer_87 : decode cX5_dropBearer 87 = .ok (.iadd, 1) := by decide +kernel
theorem dX5_dropBearer_88 : decode cX5_dropBearer 88 = .ok (.baload, 1) := by decide +kernel
theorem dX5_dropBearer_89 : decode cX5_dropBearer 89 = .ok (.bastore, 1) := by decide +kernel
theorem dX5_dropBearer_90 : decode cX5_dropBearer 90 = .ok (.iinc 2 1, 3) := by decide +kernel
theorem dX5_dropBearer_93 : decode cX5_dropBearer 93 = .ok (.goto (-81), 3) := by decide +kernel
theorem dX5_dropBearer_96 : decode cX5_dropBearer 96 = .ok (.return_, 1) := by decide +kernel
theorem dX5_idle_0 : decode cX5_idle 0 = .ok (.aload_n 0, 1) := by decide +kernel
theorem dX5_idle_1 : decode cX5_idle 1 = .ok (.getfield 27, 3) := by decide +kernel
theorem dX5_idle_4 : decode cX5_idle 4 = .ok (.iload_n 1, 1) := by decide +kernel
theorem dX5_idle_5 : decode cX5_idle 5 = .ok (.iconst 0, 1) := by decide +kernel
theorem dX5_idle_6 : decode cX5_idle 6 = .ok (.iastore, 1) := by decide +kernel
theorem dX5_idle_7 : decode cX5_idle 7 = .ok (.aload_n 0, 1) := by decide +kernel
theorem dX5_idle_8 : decode cX5_idle 8 = .ok (.getfield 30, 3) := by decide +kernel
theorem dX5_idle_11 : decode cX5_idle 11 = .ok (.iload_n 1, 1) := by decide +kernel
theorem dX5_idle_12 : decode cX5_idle 12 = .ok (.bipush (-9), 2) := by decide +kernel
theorem dX5_idle_14 : decode cX5_idle 14 = .ok (.iastore, 1) := by decide +kernel
theorem dX5_idle_15 : decode cX5_idle 15 = .ok (.aload_n 0, 1) := by decide +kernel
theorem dX5_idle_16 : decode cX5_idle 16 = .ok (.getfield 57, 3) := by decide +kernel
theorem dX5_idle_19 : decode cX5_idle 19 = .ok (.iload_n 1, 1) := by decide +kernel
theorem dX5_idle_20 : decode cX5_idle 20 = .ok (.iconst 0, 1) := by decide +kernel
theorem dX5_idle_21 : decode cX5_idle 21 = .ok (.iastore, 1) := by decide +kernel
theorem dX5_idle_22 : decode cX5_idle 22 = .ok (.aload_n 0, 1) := by decide +kernel
theorem dX5_idle_23 : decode cX5_idle 23 = .ok (.getfield 63, 3) := by decide +kernel
theorem dX5_idle_26 : decode cX5_idle 26 = .ok (.iload_n 1, 1) := by decide +kernel
theorem dX5_idle_27 : decode cX5_idle 27 = .ok (.iconst 0, 1) := by decide +kernel
theorem dX5_idle_28 : decode cX5_idle 28 = .ok (.iastore, 1) := by decide +kernel
theorem dX5_idle_29 : decode cX5_idle 29 = .ok (.aload_n 0, 1) := by decide +kernel
theorem dX5_idle_30 : decode cX5_idle 30 = .ok (.getfield 109, 3) := by decide +kernel
theorem dX5_idle_33 : decode cX5_idle 33 = .ok (.iconst 1, 1) := by decide +kernel
theorem dX5_idle_34 : decode cX5_idle 34 = .ok (.isub, 1) := by decide +kernel
theorem dX5_idle_35 : decode cX5_idle 35 = .ok (.istore_n 2, 1) := by decide +kernel
theorem dX5_idle_36 : decode cX5_idle 36 = .ok (.iload_n 2, 1) := by decide +kernel
theorem dX5_idle_37 : decode cX5_idle 37 = .ok (.ifCond .lt 24, 3) := by decide +kernel
theorem dX5_idle_40 : decode cX5_idle 40 = .ok (.aload_n 0, 1) := by decide +kernel
theorem dX5_idle_41 : decode cX5_idle 41 = .ok (.getfield 42, 3) := by decide +kernel
theorem dX5_idle_44 : decode cX5_idle 44 = .ok (.iload_n 2, 1) := by decide +kernel
theorem dX5_idle_45 : decode cX5_idle 45 = .ok (.iaload, 1) := by decide +kernel
theorem dX5_idle_46 : decode cX5_idle 46 = .ok (.iload_n 1, 1) := by decide +kernel
theorem dX5_idle_47 : decode cX5_idle 47 = .ok (.if_icmp .ne 8, 3) := by decide +kernel
theorem dX5_idle_50 : decode cX5_idle 50 = .ok (.aload_n 0, 1) := by decide +kernel
theorem dX5_idle_51 : decode cX5_idle 51 = .ok (.iload_n 2, 1) := by decide +kernel
theorem dX5_idle_52 : decode cX5_idle 52 = .ok (.invokevirtual 112, 3) := by decide +kernel
theorem dX5_idle_55 : decode cX5_idle 55 = .ok (.iinc 2 (-1), 3) := by decide +kernel
theorem dX5_idle_58 : decode cX5_idle 58 = .ok (.goto (-22), 3) := by decide +kernel
theorem dX5_idle_61 : decode cX5_idle 61 = .ok (.return_, 1) := by decide +kernel
theorem dX5_isCaller_0 : decode cX5_isCaller 0 = .ok (.iload_n 0, 1) := by decide +kernel
theorem dX5_isCaller_1 : decode cX5_isCaller 1 = .ok (.iconst 1, 1) := by decide +kernel
theorem dX5_isCaller_2 : decode cX5_isCaller 2 = .ok (.iconst 3, 1) := by decide +kernel
theorem dX5_isCaller_3 : decode cX5_isCaller 3 = .ok (.invokestatic 88, 3) := by decide +kernel
theorem dX5_isCaller_6 : decode cX5_isCaller 6 = .ok (.ireturn, 1) := by decide +kernel
theorem dX5_ends_0 : decode cX5_ends 0 = .ok (.aload_n 0, 1) := by decide +kernel
theorem dX5_ends_1 : decode cX5_ends 1 = .ok (.getfield 30, 3) := by decide +kernel
theorem dX5_ends_4 : decode cX5_ends 4 = .ok (.iload_n 1, 1) := by decide +kernel
theorem dX5_ends_5 : decode cX5_ends 5 = .ok (.iaload, 1) := by decide +kernel
theorem dX5_ends_6 : decode cX5_ends 6 = .ok (.istore_n 2, 1) := by decide +kernel
theorem dX5_ends_7 : decode cX5_ends 7 = .ok (.aload_n 0, 1) := by decide +kernel
theorem dX5_ends_8 : decode cX5_ends 8 = .ok (.getfield 27, 3) := by decide +kernel
theorem dX5_ends_11 : decode cX5_ends 11 = .ok (.iload_n 1, 1) := by decide +kernel
theorem dX5_ends_12 : decode cX5_ends 12 = .ok (.iaload, 1) := by decide +kernel
theorem dX5_ends_13 : decode cX5_ends 13 = .ok (.bipush 7, 2) := by decide +kernel
theorem dX5_ends_15 : decode cX5_ends 15 = .ok (.if_icmp .ne 14, 3) := by decide +kernel
theorem dX5_ends_18 : decode cX5_ends 18 = .ok (.aload_n 0, 1) := by decide +kernel
theorem dX5_ends_19 : decode cX5_ends 19 = .ok (.getfield 27, 3) := by decide +kernel
theorem dX5_ends_22 : decode cX5_ends 22 = .ok (.iload_n 2, 1) := by decide +kernel
theorem dX5_ends_23 : decode cX5_ends 23 = .ok (.iaload, 1) := by decide +kernel
theorem dX5_ends_24 : decode cX5_ends 24 = .ok (.bipush 7, 2) := by decide +kernel
theorem dX5_ends_26 : decode cX5_ends 26 = .ok (.if_icmp .eq 57, 3) := by decide +kernel
theorem dX5_ends_29 : decode cX5_ends 29 = .ok (.aload_n 0, 1) := by decide +kernel
theorem dX5_ends_30 : decode cX5_ends 30 = .ok (.getfield 27, 3) := by decide +kernel
theorem dX5_ends_33 : decode cX5_ends 33 = .ok (.iload_n 1, 1) := by decide +kernel
theorem dX5_ends_34 : decode cX5_ends 34 = .ok (.iaload, 1) := by decide +kernel
theorem dX5_ends_35 : decode cX5_ends 35 = .ok (.invokestatic 116, 3) := by decide +kernel
theorem dX5_ends_38 : decode cX5_ends 38 = .ok (.ifCond .eq 18, 3) := by decide +kernel
theorem dX5_ends_41 : decode cX5_ends 41 = .ok (.aload_n 0, 1) := by decide +kernel
theorem dX5_ends_42 : decode cX5_ends 42 = .ok (.getfield 27, 3) := by decide +kernel
theorem dX5_ends_45 : decode cX5_ends 45 = .ok (.iload_n 2, 1) := by decide +kernel
theorem dX5_ends_46 : decode cX5_ends 46 = .ok (.iaload, 1) := by decide +kernel
theorem dX5_ends_47 : decode cX5_ends 47 = .ok (.iconst 4, 1) := by decide +kernel
theorem dX5_ends_48 : decode cX5_ends 48 = .ok (.bipush 6, 2) := by decide +kernel
theorem dX5_ends_50 : decode cX5_ends 50 = .ok (.invokestatic 88, 3) := by decide +kernel
theorem dX5_ends_53 : decode cX5_ends 53 = .ok (.ifCond .ne 30, 3) := by decide +kernel
theorem dX5_ends_56 : decode cX5_ends 56 = .ok (.aload_n 0, 1) := by decide +kernel
theorem dX5_ends_57 : decode cX5_ends 57 = .ok (.getfield 27, 3) := by decide +kernel
theorem dX5_ends_60 : decode cX5_ends 60 = .ok (.iload_n 1, 1) := by decide +kernel
theorem dX5_ends_61 : decode cX5_ends 61 = .ok (.iaload, 1) := by decide +kernel
theorem dX5_ends_62 : decode cX5_ends 62 = .ok (.iconst 4, 1) := by decide +kernel
theorem dX5_ends_63 : decode cX5_ends 63 = .ok (.bipush 6, 2) := by decide +kernel
theorem dX5_ends_65 : decode cX5_ends 65 = .ok (.invokestatic 88, 3) := by decide +kernel
theorem dX5_ends_68 : decode cX5_ends 68 = .ok (.ifCond .eq 19, 3) := by decide +kernel
theorem dX5_ends_71 : decode cX5_ends 71 = .ok (.aload_n 0, 1) := by decide +kernel
theorem dX5_ends_72 : decode cX5_ends 72 = .ok (.getfield 27, 3) := by decide +kernel
theorem dX5_ends_75 : decode cX5_ends 75 = .ok (.iload_n 2, 1) := by decide +kernel
theorem dX5_ends_76 : decode cX5_ends 76 = .ok (.iaload, 1) := by decide +kernel
theorem dX5_ends_77 : decode cX5_ends 77 = .ok (.invokestatic 116, 3) := by decide +kernel
theorem dX5_ends_80 : decode cX5_ends 80 = .ok (.ifCond .eq 7, 3) := by decide +kernel
theorem dX5_ends_83 : decode cX5_ends 83 = .ok (.iconst 1, 1) := by decide +kernel
theorem dX5_ends_84 : decode cX5_ends 84 = .ok (.goto 4, 3) := by decide +kernel
theorem dX5_ends_87 : decode cX5_ends 87 = .ok (.iconst 0, 1) := by decide +kernel
theorem dX5_ends_88 : decode cX5_ends 88 = .ok (.istore_n 3, 1) := by decide +kernel
theorem dX5_ends_89 : decode cX5_ends 89 = .ok (.aload_n 0, 1) := by decide +kernel
theorem dX5_ends_90 : decode cX5_ends 90 = .ok (.getfield 30, 3) := by decide +kernel
theorem dX5_ends_93 : decode cX5_ends 93 = .ok (.iload_n 2, 1) := by decide +kernel
theorem dX5_ends_94 : decode cX5_ends 94 = .ok (.iaload, 1) := by decide +kernel
theorem dX5_ends_95 : decode cX5_ends 95 = .ok (.iload_n 1, 1) := by decide +kernel
theorem dX5_ends_96 : decode cX5_ends 96 = .ok (.if_icmp .ne 11, 3) := by decide +kernel
theorem dX5_ends_99 : decode cX5_ends 99 = .ok (.iload_n 3, 1) := by decide +kernel
theorem dX5_ends_100 : decode cX5_ends 100 = .ok (.ifCond .eq 7, 3) := by decide +kernel
theorem dX5_ends_103 : decode cX5_ends 103 = .ok (.iconst 1, 1) := by decide +kernel
theorem dX5_ends_104 : decode cX5_ends 104 = .ok (.goto 4, 3) := by decide +kernel
theorem dX5_ends_107 : decode cX5_ends 107 = .ok (.iconst 0, 1) := by decide +kernel
theorem dX5_ends_108 : decode cX5_ends 108 = .ok (.istore 4, 2) := by decide +kernel
theorem dX5_ends_110 : decode cX5_ends 110 = .ok (.aload_n 0, 1) := by decide +kernel
theorem dX5_ends_111 : decode cX5_ends 111 = .ok (.iload_n 1, 1) := by decide +kernel
theorem dX5_ends_112 : decode cX5_ends 112 = .ok (.invokevirtual 119, 3) := by decide +kernel
theorem dX5_ends_115 : decode cX5_ends 115 = .ok (.iload 4, 2) := by decide +kernel
theorem dX5_ends_117 : decode cX5_ends 117 = .ok (.ifCond .eq 8, 3) := by decide +kernel
theorem dX5_ends_120 : decode cX5_ends 120 = .ok (.aload_n 0, 1) := by decide +kernel
theorem dX5_ends_121 : decode cX5_ends 121 = .ok (.iload_n 2, 1) := by decide +kernel
theorem dX5_ends_122 : decode cX5_ends 122 = .ok (.invokevirtual 119, 3) := by decide +kernel
theorem dX5_ends_125 : decode cX5_ends 125 = .ok (.aload_n 0, 1) := by decide +kernel
theorem dX5_ends_126 : decode cX5_ends 126 = .ok (.dup, 1) := by decide +kernel
theorem dX5_ends_127 : decode cX5_ends 127 = .ok (.getfield 122, 3) := by decide +kernel
theorem dX5_ends_130 : decode cX5_ends 130 = .ok (.iconst 1, 1) := by decide +kernel
theorem dX5_ends_131 : decode cX5_ends 131 = .ok (.iadd, 1) := by decide +kernel
theorem dX5_ends_132 : decode cX5_ends 132 = .ok (.putfield 122, 3) := by decide +kernel
theorem dX5_ends_135 : decode cX5_ends 135 = .ok (.return_, 1) := by decide +kernel
theorem dX5_hang_0 : decode cX5_hang 0 = .ok (.aload_n 0, 1) := by decide +kernel
theorem dX5_hang_1 : decode cX5_hang 1 = .ok (.iload_n 1, 1) := by decide +kernel
theorem dX5_hang_2 : decode cX5_hang 2 = .ok (.invokevirtual 99, 3) := by decide +kernel
theorem dX5_hang_5 : decode cX5_hang 5 = .ok (.ifCond .ne 9, 3) := by decide +kernel
theorem dX5_hang_8 : decode cX5_hang 8 = .ok (.aload_n 0, 1) := by decide +kernel
theorem dX5_hang_9 : decode cX5_hang 9 = .ok (.iconst (-1), 1) := by decide +kernel
theorem dX5_hang_10 : decode cX5_hang 10 = .ok (.invokevirtual 95, 3) := by decide +kernel
theorem dX5_hang_13 : decode cX5_hang 13 = .ok (.ireturn, 1) := by decide +kernel
theorem dX5_hang_14 : decode cX5_hang 14 = .ok (.aload_n 0, 1) := by decide +kernel
theorem dX5_hang_15 : decode cX5_hang 15 = .ok (.getfield 27, 3) := by decide +kernel
theorem dX5_hang_18 : decode cX5_hang 18 = .ok (.iload_n 1, 1) := by decide +kernel
theorem dX5_hang_19 : decode cX5_hang 19 = .ok (.iaload, 1) := by decide +kernel
theorem dX5_hang_20 : decode cX5_hang 20 = .ok (.ifCond .ne 10, 3) := by decide +kernel
theorem dX5_hang_23 : decode cX5_hang 23 = .ok (.aload_n 0, 1) := by decide +kernel
theorem dX5_hang_24 : decode cX5_hang 24 = .ok (.bipush (-2), 2) := by decide +kernel
theorem dX5_hang_26 : decode cX5_hang 26 = .ok (.invokevirtual 95, 3) := by decide +kernel
theorem dX5_hang_29 : decode cX5_hang 29 = .ok (.ireturn, 1) := by decide +kernel
theorem dX5_hang_30 : decode cX5_hang 30 = .ok (.aload_n 0, 1) := by decide +kernel
theorem dX5_hang_31 : decode cX5_hang 31 = .ok (.iload_n 1, 1) := by decide +kernel
theorem dX5_hang_32 : decode cX5_hang 32 = .ok (.invokevirtual 125, 3) := by decide +kernel
theorem dX5_hang_35 : decode cX5_hang 35 = .ok (.iconst 1, 1) := by decide +kernel
theorem dX5_hang_36 : decode cX5_hang 36 = .ok (.ireturn, 1) := by decide +kernel
theorem dX5_say_0 : decode cX5_say 0 = .ok (.aload_n 0, 1) := by decide +kernel
theorem dX5_say_1 : decode cX5_say 1 = .ok (.iload_n 1, 1) := by decide +kernel
theorem dX5_say_2 : decode cX5_say 2 = .ok (.invokevirtual 99, 3) := by decide +kernel
theorem dX5_say_5 : decode cX5_say 5 = .ok (.ifCond .ne 9, 3) := by decide +kernel
theorem dX5_say_8 : decode cX5_say 8 = .ok (.aload_n 0, 1) := by decide +kernel
theorem dX5_say_9 : decode cX5_say 9 = .ok (.iconst (-1), 1) := by decide +kernel
theorem dX5_say_10 : decode cX5_say 10 = .ok (.invokevirtual 95, 3) := by decide +kernel
theorem dX5_say_13 : decode cX5_say 13 = .ok (.ireturn, 1) := by decide +kernel
theorem dX5_say_14 : decode cX5_say 14 = .ok (.aload_n 0, 1) := by decide +kernel
theorem dX5_say_15 : decode cX5_say 15 = .ok (.getfield 27, 3) := by decide +kernel
theorem dX5_say_18 : decode cX5_say 18 = .ok (.iload_n 1, 1) := by decide +kernel
theorem dX5_say_19 : decode cX5_say 19 = .ok (.iaload, 1) := by decide +kernel
theorem dX5_say_20 : decode cX5_say 20 = .ok (.bipush 7, 2) := by decide +kernel
theorem dX5_say_22 : decode cX5_say 22 = .ok (.if_icmp .eq 10, 3) := by decide +kernel
theorem dX5_say_25 : decode cX5_say 25 = .ok (.aload_n 0, 1) := by decide +kernel
theorem dX5_say_26 : decode cX5_say 26 = .ok (.bipush (-2), 2) := by decide +kernel
theorem dX5_say_28 : decode cX5_say 28 = .ok (.invokevirtual 95, 3) := by decide +kernel
theorem dX5_say_31 : decode cX5_say 31 = .ok (.ireturn, 1) := by decide +kernel
theorem dX5_say_32 : decode cX5_say 32 = .ok (.aload_n 0, 1) := by decide +kernel
theorem dX5_say_33 : decode cX5_say 33 = .ok (.getfield 57, 3) := by decide +kernel
theorem dX5_say_36 : decode cX5_say 36 = .ok (.iload_n 1, 1) := by decide +kernel
theorem dX5_say_37 : decode cX5_say 37 = .ok (.iaload, 1) := by decide +kernel
theorem dX5_say_38 : decode cX5_say 38 = .ok (.bipush 8, 2) := by decide +kernel
theorem dX5_say_40 : decode cX5_say 40 = .ok (.if_icmp .ne 10, 3) := by decide +kernel
theorem dX5_say_43 : decode cX5_say 43 = .ok (.aload_n 0, 1) := by decide +kernel
theorem dX5_say_44 : decode cX5_say 44 = .ok (.bipush (-6), 2) := by decide +kernel
theorem dX5_say_46 : decode cX5_say 46 = .ok (.invokevirtual 95, 3) := by decide +kernel
theorem dX5_say_49 : decode cX5_say 49 = .ok (.ireturn, 1) := by decide +kernel
theorem dX5_say_50 : decode cX5_say 50 = .ok (.aload_n 0, 1) := by decide +kernel
theorem dX5_say_51 : decode cX5_say 51 = .ok (.getfield 60, 3) := by decide +kernel
theorem dX5_say_54 : decode cX5_say 54 = .ok (.bipush 8, 2) := by decide +kernel
theorem dX5_say_56 : decode cX5_say 56 = .ok (.iload_n 1, 1) := by decide +kernel
theorem dX5_say_57 : decode cX5_say 57 = .ok (.imul, 1) := by decide +kernel
theorem dX5_say_58 : decode cX5_say 58 = .ok (.aload_n 0, 1) := by decide +kernel
theorem dX5_say_59 : decode cX5_say 59 = .ok (.getfield 57, 3) := by decide +kernel
theorem dX5_say_62 : decode cX5_say 62 = .ok (.iload_n 1, 1) := by decide +kernel
theorem dX5_say_63 : decode cX5_say 63 = .ok (.iaload, 1) := by decide +kernel
theorem dX5_say_64 : decode cX5_say 64 = .ok (.iadd, 1) := by decide +kernel
theorem dX5_say_65 : decode cX5_say 65 = .ok (.lload_n 2, 1) := by decide +kernel
theorem dX5_say_66 : decode cX5_say 66 = .ok (.lastore, 1) := by decide +kernel
theorem dX5_say_67 : decode cX5_say 67 = .ok (.aload_n 0, 1) := by decide +kernel
theorem dX5_say_68 : decode cX5_say 68 = .ok (.getfield 57, 3) := by decide +kernel
theorem dX5_say_71 : decode cX5_say 71 = .ok (.iload_n 1, 1) := by decide +kernel
theorem dX5_say_72 : decode cX5_say 72 = .ok (.dup2, 1) := by decide +kernel
theorem dX5_say_73 : decode cX5_say 73 = .ok (.iaload, 1) := by decide +kernel
theorem dX5_say_74 : decode cX5_say 74 = .ok (.iconst 1, 1) := by decide +kernel
theorem dX5_say_75 : decode cX5_say 75 = .ok (.iadd, 1) := by decide +kernel
theorem dX5_say_76 : decode cX5_say 76 = .ok (.iastore, 1) := by decide +kernel
theorem dX5_say_77 : decode cX5_say 77 = .ok (.aload_n 0, 1) := by decide +kernel
theorem dX5_say_78 : decode cX5_say 78 = .ok (.getfield 57, 3) := by decide +kernel
theorem dX5_say_81 : decode cX5_say 81 = .ok (.iload_n 1, 1) := by decide +kernel
theorem dX5_say_82 : decode cX5_say 82 = .ok (.iaload, 1) := by decide +kernel
theorem dX5_say_83 : decode cX5_say 83 = .ok (.ireturn, 1) := by decide +kernel
theorem dX5_reaches_0 : decode cX5_reaches 0 = .ok (.aload_n 0, 1) := by decide +kernel
theorem dX5_reaches_1 : decode cX5_reaches 1 = .ok (.getfield 36, 3) := by decide +kernel
theorem dX5_reaches_4 : decode cX5_reaches 4 = .ok (.iload_n 2, 1) := by decide +kernel
theorem dX5_reaches_5 : decode cX5_reaches 5 = .ok (.iaload, 1) := by decide +kernel
theorem dX5_reaches_6 : decode cX5_reaches 6 = .ok (.iload_n 1, 1) := by decide +kernel
theorem dX5_reaches_7 : decode cX5_reaches 7 = .ok (.ishr, 1) := by decide +kernel
theorem dX5_reaches_8 : decode cX5_reaches 8 = .ok (.iconst 1, 1) := by decide +kernel
theorem dX5_reaches_9 : decode cX5_reaches 9 = .ok (.iand, 1) := by decide +kernel
theorem dX5_reaches_10 : decode cX5_reaches 10 = .ok (.iconst 1, 1) := by decide +kernel
theorem dX5_reaches_11 : decode cX5_reaches 11 = .ok (.if_icmp .ne 7, 3) := by decide +kernel
theorem dX5_reaches_14 : decode cX5_reaches 14 = .ok (.iconst 1, 1) := by decide +kernel
theorem dX5_reaches_15 : decode cX5_reaches 15 = .ok (.goto 4, 3) := by decide +kernel
theorem dX5_reaches_18 : decode cX5_reaches 18 = .ok (.iconst 0, 1) := by decide +kernel
theorem dX5_reaches_19 : decode cX5_reaches 19 = .ok (.ireturn, 1) := by decide +kernel
theorem dX5_sends_0 : decode cX5_sends 0 = .ok (.aload_n 0, 1) := by decide +kernel
theorem dX5_sends_1 : decode cX5_sends 1 = .ok (.getfield 7, 3) := by decide +kernel
theorem dX5_sends_4 : decode cX5_sends 4 = .ok (.iload_n 1, 1) := by decide +kernel
theorem dX5_sends_5 : decode cX5_sends 5 = .ok (.iaload, 1) := by decide +kernel
theorem dX5_sends_6 : decode cX5_sends 6 = .ok (.iload_n 2, 1) := by decide +kernel
theorem dX5_sends_7 : decode cX5_sends 7 = .ok (.if_icmp .ne 7, 3) := by decide +kernel
theorem dX5_sends_10 : decode cX5_sends 10 = .ok (.iconst 1, 1) := by decide +kernel
theorem dX5_sends_11 : decode cX5_sends 11 = .ok (.goto 4, 3) := by decide +kernel
theorem dX5_sends_14 : decode cX5_sends 14 = .ok (.iconst 0, 1) := by decide +kernel
theorem dX5_sends_15 : decode cX5_sends 15 = .ok (.istore_n 3, 1) := by decide +kernel
theorem dX5_sends_16 : decode cX5_sends 16 = .ok (.iconst 0, 1) := by decide +kernel
theorem dX5_sends_17 : decode cX5_sends 17 = .ok (.istore 4, 2) := by decide +kernel
theorem dX5_sends_19 : decode cX5_sends 19 = .ok (.iload 4, 2) := by decide +kernel
theorem dX5_sends_21 : decode cX5_sends 21 = .ok (.aload_n 0, 1) := by decide +kernel
theorem dX5_sends_22 : decode cX5_sends 22 = .ok (.getfield 109, 3) := by decide +kernel
theorem dX5_sends_25 : decode cX5_sends 25 = .ok (.if_icmp .ge 41, 3) := by decide +kernel
theorem dX5_sends_28 : decode cX5_sends 28 = .ok (.iload_n 3, 1) := by decide +kernel
theorem dX5_sends_29 : decode cX5_sends 29 = .ok (.ifCond .ne 25, 3) := by decide +kernel
theorem dX5_sends_32 : decode cX5_sends 32 = .ok (.aload_n 0, 1) := by decide +kernel
theorem dX5_sends_33 : decode cX5_sends 33 = .ok (.getfield 45, 3) := by decide +kernel
theorem dX5_sends_36 : decode cX5_sends 36 = .ok (.iload 4, 2) := by decide +kernel
theorem dX5_sends_38 : decode cX5_sends 38 = .ok (.iaload, 1) := by decide +kernel
theorem dX5_sends_39 : decode cX5_sends 39 = .ok (.iload_n 1, 1) := by decide +kernel
theorem dX5_sends_40 : decode cX5_sends 40 = .ok (.if_icmp .ne 18, 3) := by decide +kernel
theorem dX5_sends_43 : decode cX5_sends 43 = .ok (.aload_n 0, 1) := by decide +kernel
theorem dX5_sends_44 : decode cX5_sends 44 = .ok (.getfield 48, 3) := by decide +kernel
theorem dX5_sends_47 : decode cX5_sends 47 = .ok (.iload 4, 2) := by decide +kernel
theorem dX5_sends_49 : decode cX5_sends 49 = .ok (.iaload, 1) := by decide +kernel
theorem dX5_sends_50 : decode cX5_sends 50 = .ok (.iload_n 2, 1) := by decide +kernel
theorem dX5_sends_51 : decode cX5_sends 51 = .ok (.if_icmp .ne 7, 3) := by decide +kernel
theorem dX5_sends_54 : decode cX5_sends 54 = .ok (.iconst 1, 1) := by decide +kernel
theorem dX5_sends_55 : decode cX5_sends 55 = .ok (.goto 4, 3) := by decide +kernel
theorem dX5_sends_58 : decode cX5_sends 58 = .ok (.iconst 0, 1) := by decide +kernel
theorem dX5_sends_59 : decode cX5_sends 59 = .ok (.istore_n 3, 1) := by decide +kernel
theorem dX5_sends_60 : decode cX5_sends 60 = .ok (.iinc 4 1, 3) := by decide +kernel
theorem dX5_sends_63 : decode cX5_sends 63 = .ok (.goto (-44), 3) := by decide +kernel
theorem dX5_sends_66 : decode cX5_sends 66 = .ok (.iload_n 3, 1) := by decide +kernel
theorem dX5_sends_67 : decode cX5_sends 67 = .ok (.ireturn, 1) := by decide +kernel
theorem dX5_othersSending_0 : decode cX5_othersSending 0 = .ok (.iconst 0, 1) := by decide +kernel
theorem dX5_othersSending_1 : decode cX5_othersSending 1 = .ok (.istore 4, 2) := by decide +kernel
theorem dX5_othersSending_3 : decode cX5_othersSending 3 = .ok (.iconst 0, 1) := by decide +kernel
theorem dX5_othersSending_4 : decode cX5_othersSending 4 = .ok (.istore 5, 2) := by decide +kernel
theorem dX5_othersSending_6 : decode cX5_othersSending 6 = .ok (.iload 5, 2) := by decide +kernel
theorem dX5_othersSending_8 : decode cX5_othersSending 8 = .ok (.aload_n 0, 1) := by decide +kernel
theorem dX5_othersSending_9 : decode cX5_othersSending 9 = .ok (.getfield 84, 3) := by decide +kernel
theorem dX5_othersSending_12 : decode cX5_othersSending 12 = .ok (.if_icmp .ge 45, 3) := by decide +kernel
theorem dX5_othersSending_15 : decode cX5_othersSending 15 = .ok (.iload 4, 2) := by decide +kernel
theorem dX5_othersSending_17 : decode cX5_othersSending 17 = .ok (.iload 5, 2) := by decide +kernel
theorem dX5_othersSending_19 : decode cX5_othersSending 19 = .ok (.iload_n 1, 1) := by decide +kernel
theorem dX5_othersSending_20 : decode cX5_othersSending 20 = .ok (.if_icmp .eq 27, 3) := by decide +kernel
theorem dX5_othersSending_23 : decode cX5_othersSending 23 = .ok (.aload_n 0, 1) := by decide +kernel
theorem dX5_othersSending_24 : decode cX5_othersSending 24 = .ok (.iload 5, 2) := by decide +kernel
theorem dX5_othersSending_26 : decode cX5_othersSending 26 = .ok (.iload_n 2, 1) := by decide +kernel
theorem dX5_othersSending_27 : decode cX5_othersSending 27 = .ok (.invokevirtual 128, 3) := by decide +kernel
theorem dX5_othersSending_30 : decode cX5_othersSending 30 = .ok (.ifCond .eq 17, 3) := by decide +kernel
theorem dX5_othersSending_33 : decode cX5_othersSending 33 = .ok (.aload_n 0, 1) := by decide +kernel
theorem dX5_othersSending_34 : decode cX5_othersSending 34 = .ok (.iload 5, 2) := by decide +kernel
theorem dX5_othersSending_36 : decode cX5_othersSending 36 = .ok (.iload_n 3, 1) := by decide +kernel
theorem dX5_othersSending_37 : decode cX5_othersSending 37 = .ok (.invokevirtual 132, 3) := by decide +kernel
theorem dX5_othersSending_40 : decode cX5_othersSending 40 = .ok (.ifCond .eq 7, 3) := by decide +kernel
theorem dX5_othersSending_43 : decode cX5_othersSending 43 = .ok (.iconst 1, 1) := by decide +kernel
theorem dX5_othersSending_44 : decode cX5_othersSending 44 = .ok (.goto 4, 3) := by decide +kernel
theorem dX5_othersSending_47 : decode cX5_othersSending 47 = .ok (.iconst 0, 1) := by decide +kernel
theorem dX5_othersSending_48 : decode cX5_othersSending 48 = .ok (.iadd, 1) := by decide +kernel
theorem dX5_othersSending_49 : decode cX5_othersSending 49 = .ok (.istore 4, 2) := by decide +kernel
theorem dX5_othersSending_51 : decode cX5_othersSending 51 = .ok (.iinc 5 1, 3) := by decide +kernel
theorem dX5_othersSending_54 : decode cX5_othersSending 54 = .ok (.goto (-48), 3) := by decide +kernel
theorem dX5_othersSending_57 : decode cX5_othersSending 57 = .ok (.iload 4, 2) := by decide +kernel
theorem dX5_othersSending_59 : decode cX5_othersSending 59 = .ok (.ireturn, 1) := by decide +kernel
theorem dX5_othersTalking_0 : decode cX5_othersTalking 0 = .ok (.iconst 0, 1) := by decide +kernel
theorem dX5_othersTalking_1 : decode cX5_othersTalking 1 = .ok (.istore 4, 2) := by decide +kernel
theorem dX5_othersTalking_3 : decode cX5_othersTalking 3 = .ok (.iconst 0, 1) := by decide +kernel
theorem dX5_othersTalking_4 : decode cX5_othersTalking 4 = .ok (.istore 5, 2) := by decide +kernel
theorem dX5_othersTalking_6 : decode cX5_othersTalking 6 = .ok (.iload 5, 2) := by decide +kernel
theorem dX5_othersTalking_8 : decode cX5_othersTalking 8 = .ok (.aload_n 0, 1) := by decide +kernel
theorem dX5_othersTalking_9 : decode cX5_othersTalking 9 = .ok (.getfield 92, 3) := by decide +kernel
theorem dX5_othersTalking_12 : decode cX5_othersTalking 12 = .ok (.if_icmp .ge 101, 3) := by decide +kernel
theorem dX5_othersTalking_15 : decode cX5_othersTalking 15 = .ok (.iconst 0, 1) := by decide +kernel
theorem dX5_othersTalking_16 : decode cX5_othersTalking 16 = .ok (.istore 6, 2) := by decide +kernel
theorem dX5_othersTalking_18 : decode cX5_othersTalking 18 = .ok (.iconst 0, 1) := by decide +kernel
theorem dX5_othersTalking_19 : decode cX5_othersTalking 19 = .ok (.istore 7, 2) := by decide +kernel
theorem dX5_othersTalking_21 : decode cX5_othersTalking 21 = .ok (.iload 7, 2) := by decide +kernel
theorem dX5_othersTalking_23 : decode cX5_othersTalking 23 = .ok (.aload_n 0, 1) := by decide +kernel
theorem dX5_othersTalking_24 : decode cX5_othersTalking 24 = .ok (.getfield 109, 3) := by decide +kernel
theorem dX5_othersTalking_27 : decode cX5_othersTalking 27 = .ok (.if_icmp .ge 44, 3) := by decide +kernel
theorem dX5_othersTalking_30 : decode cX5_othersTalking 30 = .ok (.iload 6, 2) := by decide +kernel
theorem dX5_othersTalking_32 : decode cX5_othersTalking 32 = .ok (.ifCond .ne 26, 3) := by decide +kernel
theorem dX5_othersTalking_35 : decode cX5_othersTalking 35 = .ok (.aload_n 0, 1) := by decide +kernel
theorem dX5_othersTalking_36 : decode cX5_othersTalking 36 = .ok (.getfield 42, 3) := by decide +kernel
theorem dX5_othersTalking_39 : decode cX5_othersTalking 39 = .ok (.iload 7, 2) := by decide +kernel
theorem dX5_othersTalking_41 : decode cX5_othersTalking 41 = .ok (.iaload, 1) := by decide +kernel
theorem dX5_othersTalking_42 : decode cX5_othersTalking 42 = .ok (.iload 5, 2) := by decide +kernel
theorem dX5_othersTalking_44 : decode cX5_othersTalking 44 = .ok (.if_icmp .ne 18, 3) := by decide +kernel
theorem dX5_othersTalking_47 : decode cX5_othersTalking 47 = .ok (.aload_n 0, 1) := by decide +kernel
theorem dX5_othersTalking_48 : decode cX5_othersTalking 48 = .ok (.getfield 48, 3) := by decide +kernel
theorem dX5_othersTalking_51 : decode cX5_othersTalking 51 = .ok (.iload 7, 2) := by decide +kernel
theorem dX5_othersTalking_53 : decode cX5_othersTalking 53 = .ok (.iaload, 1) := by decide +kernel
theorem dX5_othersTalking_54 : decode cX5_othersTalking 54 = .ok (.iload_n 3, 1) := by decide +kernel
theorem dX5_othersTalking_55 : decode cX5_othersTalking 55 = .ok (.if_icmp .ne 7, 3) := by decide +kernel
theorem dX5_othersTalking_58 : decode cX5_othersTalking 58 = .ok (.iconst 1, 1) := by decide +kernel
theorem dX5_othersTalking_59 : decode cX5_othersTalking 59 = .ok (.goto 4, 3) := by decide +kernel
theorem dX5_othersTalking_62 : decode cX5_othersTalking 62 = .ok (.iconst 0, 1) := by decide +kernel
theorem dX5_othersTalking_63 : decode cX5_othersTalking 63 = .ok (.istore 6, 2) := by decide +kernel
theorem dX5_othersTalking_65 : decode cX5_othersTalking 65 = .ok (.iinc 7 1, 3) := by decide +kernel
theorem dX5_othersTalking_68 : decode cX5_othersTalking 68 = .ok (.goto (-47), 3) := by decide +kernel
theorem dX5_othersTalking_71 : decode cX5_othersTalking 71 = .ok (.iload 4, 2) := by decide +kernel
theorem dX5_othersTalking_73 : decode cX5_othersTalking 73 = .ok (.iload 5, 2) := by decide +kernel
theorem dX5_othersTalking_75 : decode cX5_othersTalking 75 = .ok (.iload_n 1, 1) := by decide +kernel
theorem dX5_othersTalking_76 : decode cX5_othersTalking 76 = .ok (.if_icmp .eq 27, 3) := by decide +kernel
theorem dX5_othersTalking_79 : decode cX5_othersTalking 79 = .ok (.iload 6, 2) := by decide +kernel
theorem dX5_othersTalking_81 : decode cX5_othersTalking 81 = .ok (.ifCond .eq 22, 3) := by decide +kernel
theorem dX5_othersTalking_84 : decode cX5_othersTalking 84 = .ok (.aload_n 0, 1) := by decide +kernel
theorem dX5_othersTalking_85 : decode cX5_othersTalking 85 = .ok (.iload_n 2, 1) := by decide +kernel
theorem dX5_othersTalking_86 : decode cX5_othersTalking 86 = .ok (.aload_n 0, 1) := by decide +kernel
theorem dX5_othersTalking_87 : decode cX5_othersTalking 87 = .ok (.getfield 13, 3) := by decide +kernel
theorem dX5_othersTalking_90 : decode cX5_othersTalking 90 = .ok (.iload 5, 2) := by decide +kernel
theorem dX5_othersTalking_92 : decode cX5_othersTalking 92 = .ok (.iaload, 1) := by decide +kernel
theorem dX5_othersTalking_93 : decode cX5_othersTalking 93 = .ok (.invokevirtual 128, 3) := by decide +kernel
theorem dX5_othersTalking_96 : decode cX5_othersTalking 96 = .ok (.ifCond .eq 7, 3) := by decide +kernel
theorem dX5_othersTalking_99 : decode cX5_othersTalking 99 = .ok (.iconst 1, 1) := by decide +kernel
theorem dX5_othersTalking_100 : decode cX5_othersTalking 100 = .ok (.goto 4, 3) := by decide +kernel
theorem dX5_othersTalking_103 : decode cX5_othersTalking 103 = .ok (.iconst 0, 1) := by decide +kernel
theorem dX5_othersTalking_104 : decode cX5_othersTalking 104 = .ok (.iadd, 1) := by decide +kernel
theorem dX5_othersTalking_105 : decode cX5_othersTalking 105 = .ok (.istore 4, 2) := by decide +kernel
theorem dX5_othersTalking_107 : decode cX5_othersTalking 107 = .ok (.iinc 5 1, 3) := by decide +kernel
theorem dX5_othersTalking_110 : decode cX5_othersTalking 110 = .ok (.goto (-104), 3) := by decide +kernel
theorem dX5_othersTalking_113 : decode cX5_othersTalking 113 = .ok (.iload 4, 2) := by decide +kernel
theorem dX5_othersTalking_115 : decode cX5_othersTalking 115 = .ok (.ireturn, 1) := by decide +kernel
theorem dX5_isHeardAt_0 : decode cX5_isHeardAt 0 = .ok (.aload_n 0, 1) := by decide +kernel
theorem dX5_isHeardAt_1 : decode cX5_isHeardAt 1 = .ok (.iload_n 2, 1) := by decide +kernel
theorem dX5_isHeardAt_2 : decode cX5_isHeardAt 2 = .ok (.iload_n 1, 1) := by decide +kernel
theorem dX5_isHeardAt_3 : decode cX5_isHeardAt 3 = .ok (.invokevirtual 128, 3) := by decide +kernel
theorem dX5_isHeardAt_6 : decode cX5_isHeardAt 6 = .ok (.ifCond .eq 31, 3) := by decide +kernel
theorem dX5_isHeardAt_9 : decode cX5_isHeardAt 9 = .ok (.aload_n 0, 1) := by decide +kernel
theorem dX5_isHeardAt_10 : decode cX5_isHeardAt 10 = .ok (.getfield 39, 3) := by decide +kernel
theorem dX5_isHeardAt_13 : decode cX5_isHeardAt 13 = .ok (.bipush 120, 2) := by decide +kernel
theorem dX5_isHeardAt_15 : decode cX5_isHeardAt 15 = .ok (.iload_n 1, 1) := by decide +kernel
theorem dX5_isHeardAt_16 : decode cX5_isHeardAt 16 = .ok (.imul, 1) := by decide +kernel
theorem dX5_isHeardAt_17 : decode cX5_isHeardAt 17 = .ok (.iload_n 3, 1) := by decide +kernel
theorem dX5_isHeardAt_18 : decode cX5_isHeardAt 18 = .ok (.iadd, 1) := by decide +kernel
theorem dX5_isHeardAt_19 : decode cX5_isHeardAt 19 = .ok (.baload, 1) := by decide +kernel
theorem dX5_isHeardAt_20 : decode cX5_isHeardAt 20 = .ok (.ifCond .ne 17, 3) := by decide +kernel
theorem dX5_isHeardAt_23 : decode cX5_isHeardAt 23 = .ok (.aload_n 0, 1) := by decide +kernel
theorem dX5_isHeardAt_24 : decode cX5_isHeardAt 24 = .ok (.iload_n 2, 1) := by decide +kernel
theorem dX5_isHeardAt_25 : decode cX5_isHeardAt 25 = .ok (.iload_n 1, 1) := by decide +kernel
theorem dX5_isHeardAt_26 : decode cX5_isHeardAt 26 = .ok (.iload_n 3, 1) := by decide +kernel
theorem dX5_isHeardAt_27 : decode cX5_isHeardAt 27 = .ok (.invokevirtual 135, 3) := by decide +kernel
theorem dX5_isHeardAt_30 : decode cX5_isHeardAt 30 = .ok (.ifCond .ne 7, 3) := by decide +kernel
theorem dX5_isHeardAt_33 : decode cX5_isHeardAt 33 = .ok (.iconst 1, 1) := by decide +kernel
theorem dX5_isHeardAt_34 : decode cX5_isHeardAt 34 = .ok (.goto 4, 3) := by decide +kernel
theorem dX5_isHeardAt_37 : decode cX5_isHeardAt 37 = .ok (.iconst 0, 1) := by decide +kernel
theorem dX5_isHeardAt_38 : decode cX5_isHeardAt 38 = .ok (.ireturn, 1) := by decide +kernel
theorem dX5_isHeardBy_0 : decode cX5_isHeardBy 0 = .ok (.aload_n 0, 1) := by decide +kernel
theorem dX5_isHeardBy_1 : decode cX5_isHeardBy 1 = .ok (.iload_n 1, 1) := by decide +kernel
theorem dX5_isHeardBy_2 : decode cX5_isHeardBy 2 = .ok (.aload_n 0, 1) := by decide +kernel
theorem dX5_isHeardBy_3 : decode cX5_isHeardBy 3 = .ok (.getfield 13, 3) := by decide +kernel
theorem dX5_isHeardBy_6 : decode cX5_isHeardBy 6 = .ok (.iload_n 2, 1) := by decide +kernel
theorem dX5_isHeardBy_7 : decode cX5_isHeardBy 7 = .ok (.iaload, 1) := by decide +kernel
theorem dX5_isHeardBy_8 : decode cX5_isHeardBy 8 = .ok (.invokevirtual 128, 3) := by decide +kernel
theorem dX5_isHeardBy_11 : decode cX5_isHeardBy 11 = .ok (.ifCond .eq 34, 3) := by decide +kernel
theorem dX5_isHeardBy_14 : decode cX5_isHeardBy 14 = .ok (.aload_n 0, 1) := by decide +kernel
theorem dX5_isHeardBy_15 : decode cX5_isHeardBy 15 = .ok (.getfield 39, 3) := by decide +kernel
theorem dX5_isHeardBy_18 : decode cX5_isHeardBy 18 = .ok (.bipush 120, 2) := by decide +kernel
theorem dX5_isHeardBy_20 : decode cX5_isHeardBy 20 = .ok (.bipush 16, 2) := by decide +kernel
theorem dX5_isHeardBy_22 : decode cX5_isHeardBy 22 = .ok (.iload_n 1, 1) := by decide +kernel
theorem dX5_isHeardBy_23 : decode cX5_isHeardBy 23 = .ok (.iadd, 1) := by decide +kernel
theorem dX5_isHeardBy_24 : decode cX5_isHeardBy 24 = .ok (.imul, 1) := by decide +kernel
theorem dX5_isHeardBy_25 : decode cX5_isHeardBy 25 = .ok (.iload_n 3, 1) := by decide +kernel
theorem dX5_isHeardBy_26 : decode cX5_isHeardBy 26 = .ok (.iadd, 1) := by decide +kernel
theorem dX5_isHeardBy_27 : decode cX5_isHeardBy 27 = .ok (.baload, 1) := by decide +kernel
theorem dX5_isHeardBy_28 : decode cX5_isHeardBy 28 = .ok (.ifCond .ne 17, 3) := by decide +kernel
theorem dX5_isHeardBy_31 : decode cX5_isHeardBy 31 = .ok (.aload_n 0, 1) := by decide +kernel
theorem dX5_isHeardBy_32 : decode cX5_isHeardBy 32 = .ok (.iload_n 2, 1) := by decide +kernel
theorem dX5_isHeardBy_33 : decode cX5_isHeardBy 33 = .ok (.iload_n 1, 1) := by decide +kernel
theorem dX5_isHeardBy_34 : decode cX5_isHeardBy 34 = .ok (.iload_n 3, 1) := by decide +kernel
theorem dX5_isHeardBy_35 : decode cX5_isHeardBy 35 = .ok (.invokevirtual 139, 3) := by decide +kernel
theorem dX5_isHeardBy_38 : decode cX5_isHeardBy 38 = .ok (.ifCond .ne 7, 3) := by decide +kernel
theorem dX5_isHeardBy_41 : decode cX5_isHeardBy 41 = .ok (.iconst 1, 1) := by decide +kernel
theorem dX5_isHeardBy_42 : decode cX5_isHeardBy 42 = .ok (.goto 4, 3) := by decide +kernel
theorem dX5_isHeardBy_45 : decode cX5_isHeardBy 45 = .ok (.iconst 0, 1) := by decide +kernel
theorem dX5_isHeardBy_46 : decode cX5_isHeardBy 46 = .ok (.ireturn, 1) := by decide +kernel
end
section
theorem dX5_levelOf_0 : decode cX5_levelOf 0 = .ok (.aload_n 0, 1) := by decide +kernel
theorem dX5_levelOf_1 : decode cX5_levelOf 1 = .ok (.getfield 39, 3) := by decide +kernel
theorem dX5_levelOf_4 : decode cX5_levelOf 4 = .ok (.bipush 120, 2) := by decide +kernel
theorem dX5_levelOf_6 : decode cX5_levelOf 6 = .ok (.aload_n 0, 1) := by decide +kernel
theorem dX5_levelOf_7 : decode cX5_levelOf 7 = .ok (.getfield 13, 3) := by decide +kernel
theorem dX5_levelOf_10 : decode cX5_levelOf 10 = .ok (.iload_n 1, 1) := by decide +kernel
theorem dX5_levelOf_11 : decode cX5_levelOf 11 = .ok (.iaload, 1) := by decide +kernel
theorem dX5_levelOf_12 : decode cX5_levelOf 12 = .ok (.imul, 1) := by decide +kernel
theorem dX5_levelOf_13 : decode cX5_levelOf 13 = .ok (.iload_n 3, 1) := by decide +kernel
theorem dX5_levelOf_14 : decode cX5_levelOf 14 = .ok (.iadd, 1) := by decide +kernel
theorem dX5_levelOf_15 : decode cX5_levelOf 15 = .ok (.baload, 1) := by decide +kernel
theorem dX5_levelOf_16 : decode cX5_levelOf 16 = .ok (.ifCond .eq 7, 3) := by decide +kernel
theorem dX5_levelOf_19 : decode cX5_levelOf 19 = .ok (.iconst 4, 1) := by decide +kernel
theorem dX5_levelOf_20 : decode cX5_levelOf 20 = .ok (.goto 4, 3) := by decide +kernel
theorem dX5_levelOf_23 : decode cX5_levelOf 23 = .ok (.iconst 0, 1) := by decide +kernel
theorem dX5_levelOf_24 : decode cX5_levelOf 24 = .ok (.aload_n 0, 1) := by decide +kernel
theorem dX5_levelOf_25 : decode cX5_levelOf 25 = .ok (.getfield 39, 3) := by decide +kernel
theorem dX5_levelOf_28 : decode cX5_levelOf 28 = .ok (.bipush 120, 2) := by decide +kernel
theorem dX5_levelOf_30 : decode cX5_levelOf 30 = .ok (.bipush 16, 2) := by decide +kernel
theorem dX5_levelOf_32 : decode cX5_levelOf 32 = .ok (.iload_n 2, 1) := by decide +kernel
theorem dX5_levelOf_33 : decode cX5_levelOf 33 = .ok (.iadd, 1) := by decide +kernel
theorem dX5_levelOf_34 : decode cX5_levelOf 34 = .ok (.imul, 1) := by decide +kernel
theorem dX5_levelOf_35 : decode cX5_levelOf 35 = .ok (.iload_n 3, 1) := by decide +kernel
theorem dX5_levelOf_36 : decode cX5_levelOf 36 = .ok (.iadd, 1) := by decide +kernel
theorem dX5_levelOf_37 : decode cX5_levelOf 37 = .ok (.baload, 1) := by decide +kernel
theorem dX5_levelOf_38 : decode cX5_levelOf 38 = .ok (.ifCond .eq 7, 3) := by decide +kernel
theorem dX5_levelOf_41 : decode cX5_levelOf 41 = .ok (.iconst 4, 1) := by decide +kernel
theorem dX5_levelOf_42 : decode cX5_levelOf 42 = .ok (.goto 4, 3) := by decide +kernel
theorem dX5_levelOf_45 : decode cX5_levelOf 45 = .ok (.iconst 0, 1) := by decide +kernel
theorem dX5_levelOf_46 : decode cX5_levelOf 46 = .ok (.iadd, 1) := by decide +kernel
theorem dX5_levelOf_47 : decode cX5_levelOf 47 = .ok (.aload_n 0, 1) := by decide +kernel
theorem dX5_levelOf_48 : decode cX5_levelOf 48 = .ok (.iload_n 2, 1) := by decide +kernel
theorem dX5_levelOf_49 : decode cX5_levelOf 49 = .ok (.aload_n 0, 1) := by decide +kernel
theorem dX5_levelOf_50 : decode cX5_levelOf 50 = .ok (.getfield 13, 3) := by decide +kernel
theorem dX5_levelOf_53 : decode cX5_levelOf 53 = .ok (.iload_n 1, 1) := by decide +kernel
theorem dX5_levelOf_54 : decode cX5_levelOf 54 = .ok (.iaload, 1) := by decide +kernel
theorem dX5_levelOf_55 : decode cX5_levelOf 55 = .ok (.iload_n 3, 1) := by decide +kernel
theorem dX5_levelOf_56 : decode cX5_levelOf 56 = .ok (.invokevirtual 135, 3) := by decide +kernel
theorem dX5_levelOf_59 : decode cX5_levelOf 59 = .ok (.iadd, 1) := by decide +kernel
theorem dX5_levelOf_60 : decode cX5_levelOf 60 = .ok (.aload_n 0, 1) := by decide +kernel
theorem dX5_levelOf_61 : decode cX5_levelOf 61 = .ok (.iload_n 1, 1) := by decide +kernel
theorem dX5_levelOf_62 : decode cX5_levelOf 62 = .ok (.iload_n 2, 1) := by decide +kernel
theorem dX5_levelOf_63 : decode cX5_levelOf 63 = .ok (.iload_n 3, 1) := by decide +kernel
theorem dX5_levelOf_64 : decode cX5_levelOf 64 = .ok (.invokevirtual 139, 3) := by decide +kernel
theorem dX5_levelOf_67 : decode cX5_levelOf 67 = .ok (.iadd, 1) := by decide +kernel
theorem dX5_levelOf_68 : decode cX5_levelOf 68 = .ok (.ireturn, 1) := by decide +kernel
theorem dX5_level_0 : decode cX5_level 0 = .ok (.aload_n 0, 1) := by decide +kernel
theorem dX5_level_1 : decode cX5_level 1 = .ok (.iload_n 1, 1) := by decide +kernel
theorem dX5_level_2 : decode cX5_level 2 = .ok (.invokevirtual 99, 3) := by decide +kernel
theorem dX5_level_5 : decode cX5_level 5 = .ok (.ifCond .eq 31, 3) := by decide +kernel
theorem dX5_level_8 : decode cX5_level 8 = .ok (.aload_n 0, 1) := by decide +kernel
theorem dX5_level_9 : decode cX5_level 9 = .ok (.iload_n 2, 1) := by decide +kernel
theorem dX5_level_10 : decode cX5_level 10 = .ok (.invokevirtual 142, 3) := by decide +kernel
theorem dX5_level_13 : decode cX5_level 13 = .ok (.ifCond .eq 23, 3) := by decide +kernel
theorem dX5_level_16 : decode cX5_level 16 = .ok (.iload_n 3, 1) := by decide +kernel
theorem dX5_level_17 : decode cX5_level 17 = .ok (.iconst 0, 1) := by decide +kernel
theorem dX5_level_18 : decode cX5_level 18 = .ok (.bipush 119, 2) := by decide +kernel
theorem dX5_level_20 : decode cX5_level 20 = .ok (.invokestatic 88, 3) := by decide +kernel
theorem dX5_level_23 : decode cX5_level 23 = .ok (.ifCond .eq 13, 3) := by decide +kernel
theorem dX5_level_26 : decode cX5_level 26 = .ok (.aload_n 0, 1) := by decide +kernel
theorem dX5_level_27 : decode cX5_level 27 = .ok (.iload_n 1, 1) := by decide +kernel
theorem dX5_level_28 : decode cX5_level 28 = .ok (.iload_n 2, 1) := by decide +kernel
theorem dX5_level_29 : decode cX5_level 29 = .ok (.iload_n 3, 1) := by decide +kernel
theorem dX5_level_30 : decode cX5_level 30 = .ok (.invokevirtual 145, 3) := by decide +kernel
theorem dX5_level_33 : decode cX5_level 33 = .ok (.goto 8, 3) := by decide +kernel
theorem dX5_level_36 : decode cX5_level 36 = .ok (.aload_n 0, 1) := by decide +kernel
theorem dX5_level_37 : decode cX5_level 37 = .ok (.iconst (-1), 1) := by decide +kernel
theorem dX5_level_38 : decode cX5_level 38 = .ok (.invokevirtual 95, 3) := by decide +kernel
theorem dX5_level_41 : decode cX5_level 41 = .ok (.ireturn, 1) := by decide +kernel
theorem dX5_beacon_0 : decode cX5_beacon 0 = .ok (.aload_n 0, 1) := by decide +kernel
theorem dX5_beacon_1 : decode cX5_beacon 1 = .ok (.iload_n 1, 1) := by decide +kernel
theorem dX5_beacon_2 : decode cX5_beacon 2 = .ok (.invokevirtual 142, 3) := by decide +kernel
theorem dX5_beacon_5 : decode cX5_beacon 5 = .ok (.ifCond .eq 32, 3) := by decide +kernel
theorem dX5_beacon_8 : decode cX5_beacon 8 = .ok (.iload_n 2, 1) := by decide +kernel
theorem dX5_beacon_9 : decode cX5_beacon 9 = .ok (.iconst 0, 1) := by decide +kernel
theorem dX5_beacon_10 : decode cX5_beacon 10 = .ok (.bipush 15, 2) := by decide +kernel
theorem dX5_beacon_12 : decode cX5_beacon 12 = .ok (.invokestatic 88, 3) := by decide +kernel
theorem dX5_beacon_15 : decode cX5_beacon 15 = .ok (.ifCond .eq 22, 3) := by decide +kernel
theorem dX5_beacon_18 : decode cX5_beacon 18 = .ok (.aload_n 0, 1) := by decide +kernel
theorem dX5_beacon_19 : decode cX5_beacon 19 = .ok (.iload_n 2, 1) := by decide +kernel
theorem dX5_beacon_20 : decode cX5_beacon 20 = .ok (.iload_n 1, 1) := by decide +kernel
theorem dX5_beacon_21 : decode cX5_beacon 21 = .ok (.aload_n 0, 1) := by decide +kernel
theorem dX5_beacon_22 : decode cX5_beacon 22 = .ok (.getfield 7, 3) := by decide +kernel
theorem dX5_beacon_25 : decode cX5_beacon 25 = .ok (.iload_n 1, 1) := by decide +kernel
theorem dX5_beacon_26 : decode cX5_beacon 26 = .ok (.iaload, 1) := by decide +kernel
theorem dX5_beacon_27 : decode cX5_beacon 27 = .ok (.invokevirtual 148, 3) := by decide +kernel
theorem dX5_beacon_30 : decode cX5_beacon 30 = .ok (.ifCond .eq 7, 3) := by decide +kernel
theorem dX5_beacon_33 : decode cX5_beacon 33 = .ok (.iconst 1, 1) := by decide +kernel
theorem dX5_beacon_34 : decode cX5_beacon 34 = .ok (.goto 4, 3) := by decide +kernel
theorem dX5_beacon_37 : decode cX5_beacon 37 = .ok (.iconst 0, 1) := by decide +kernel
theorem dX5_beacon_38 : decode cX5_beacon 38 = .ok (.ireturn, 1) := by decide +kernel
theorem dX5_bearersOf_0 : decode cX5_bearersOf 0 = .ok (.iconst 0, 1) := by decide +kernel
theorem dX5_bearersOf_1 : decode cX5_bearersOf 1 = .ok (.istore_n 2, 1) := by decide +kernel
theorem dX5_bearersOf_2 : decode cX5_bearersOf 2 = .ok (.iconst 0, 1) := by decide +kernel
theorem dX5_bearersOf_3 : decode cX5_bearersOf 3 = .ok (.istore_n 3, 1) := by decide +kernel
theorem dX5_bearersOf_4 : decode cX5_bearersOf 4 = .ok (.iload_n 3, 1) := by decide +kernel
theorem dX5_bearersOf_5 : decode cX5_bearersOf 5 = .ok (.aload_n 0, 1) := by decide +kernel
theorem dX5_bearersOf_6 : decode cX5_bearersOf 6 = .ok (.getfield 109, 3) := by decide +kernel
theorem dX5_bearersOf_9 : decode cX5_bearersOf 9 = .ok (.if_icmp .ge 27, 3) := by decide +kernel
theorem dX5_bearersOf_12 : decode cX5_bearersOf 12 = .ok (.iload_n 2, 1) := by decide +kernel
theorem dX5_bearersOf_13 : decode cX5_bearersOf 13 = .ok (.aload_n 0, 1) := by decide +kernel
theorem dX5_bearersOf_14 : decode cX5_bearersOf 14 = .ok (.getfield 42, 3) := by decide +kernel
theorem dX5_bearersOf_17 : decode cX5_bearersOf 17 = .ok (.iload_n 3, 1) := by decide +kernel
theorem dX5_bearersOf_18 : decode cX5_bearersOf 18 = .ok (.iaload, 1) := by decide +kernel
theorem dX5_bearersOf_19 : decode cX5_bearersOf 19 = .ok (.iload_n 1, 1) := by decide +kernel
theorem dX5_bearersOf_20 : decode cX5_bearersOf 20 = .ok (.if_icmp .ne 7, 3) := by decide +kernel
theorem dX5_bearersOf_23 : decode cX5_bearersOf 23 = .ok (.iconst 1, 1) := by decide +kernel
theorem dX5_bearersOf_24 : decode cX5_bearersOf 24 = .ok (.goto 4, 3) := by decide +kernel
theorem dX5_bearersOf_27 : decode cX5_bearersOf 27 = .ok (.iconst 0, 1) := by decide +kernel
theorem dX5_bearersOf_28 : decode cX5_bearersOf 28 = .ok (.iadd, 1) := by decide +kernel
theorem dX5_bearersOf_29 : decode cX5_bearersOf 29 = .ok (.istore_n 2, 1) := by decide +kernel
theorem dX5_bearersOf_30 : decode cX5_bearersOf 30 = .ok (.iinc 3 1, 3) := by decide +kernel
theorem dX5_bearersOf_33 : decode cX5_bearersOf 33 = .ok (.goto (-29), 3) := by decide +kernel
theorem dX5_bearersOf_36 : decode cX5_bearersOf 36 = .ok (.iload_n 2, 1) := by decide +kernel
theorem dX5_bearersOf_37 : decode cX5_bearersOf 37 = .ok (.ireturn, 1) := by decide +kernel
theorem dX5_bearerOf_0 : decode cX5_bearerOf 0 = .ok (.iconst 0, 1) := by decide +kernel
theorem dX5_bearerOf_1 : decode cX5_bearerOf 1 = .ok (.istore_n 2, 1) := by decide +kernel
theorem dX5_bearerOf_2 : decode cX5_bearerOf 2 = .ok (.iload_n 2, 1) := by decide +kernel
theorem dX5_bearerOf_3 : decode cX5_bearerOf 3 = .ok (.aload_n 0, 1) := by decide +kernel
theorem dX5_bearerOf_4 : decode cX5_bearerOf 4 = .ok (.getfield 109, 3) := by decide +kernel
theorem dX5_bearerOf_7 : decode cX5_bearerOf 7 = .ok (.if_icmp .ge 19, 3) := by decide +kernel
theorem dX5_bearerOf_10 : decode cX5_bearerOf 10 = .ok (.aload_n 0, 1) := by decide +kernel
theorem dX5_bearerOf_11 : decode cX5_bearerOf 11 = .ok (.getfield 42, 3) := by decide +kernel
theorem dX5_bearerOf_14 : decode cX5_bearerOf 14 = .ok (.iload_n 2, 1) := by decide +kernel
theorem dX5_bearerOf_15 : decode cX5_bearerOf 15 = .ok (.iaload, 1) := by decide +kernel
theorem dX5_bearerOf_16 : decode cX5_bearerOf 16 = .ok (.iload_n 1, 1) := by decide +kernel
theorem dX5_bearerOf_17 : decode cX5_bearerOf 17 = .ok (.if_icmp .eq 9, 3) := by decide +kernel
theorem dX5_bearerOf_20 : decode cX5_bearerOf 20 = .ok (.iinc 2 1, 3) := by decide +kernel
theorem dX5_bearerOf_23 : decode cX5_bearerOf 23 = .ok (.goto (-21), 3) := by decide +kernel
theorem dX5_bearerOf_26 : decode cX5_bearerOf 26 = .ok (.iload_n 2, 1) := by decide +kernel
theorem dX5_bearerOf_27 : decode cX5_bearerOf 27 = .ok (.aload_n 0, 1) := by decide +kernel
theorem dX5_bearerOf_28 : decode cX5_bearerOf 28 = .ok (.getfield 109, 3) := by decide +kernel
theorem dX5_bearerOf_31 : decode cX5_bearerOf 31 = .ok (.if_icmp .ge 7, 3) := by decide +kernel
theorem dX5_bearerOf_34 : decode cX5_bearerOf 34 = .ok (.iload_n 2, 1) := by decide +kernel
theorem dX5_bearerOf_35 : decode cX5_bearerOf 35 = .ok (.goto 4, 3) := by decide +kernel
theorem dX5_bearerOf_38 : decode cX5_bearerOf 38 = .ok (.iconst (-1), 1) := by decide +kernel
theorem dX5_bearerOf_39 : decode cX5_bearerOf 39 = .ok (.ireturn, 1) := by decide +kernel
theorem dX5_handsOver_0 : decode cX5_handsOver 0 = .ok (.aload_n 0, 1) := by decide +kernel
theorem dX5_handsOver_1 : decode cX5_handsOver 1 = .ok (.iload_n 1, 1) := by decide +kernel
theorem dX5_handsOver_2 : decode cX5_handsOver 2 = .ok (.invokevirtual 151, 3) := by decide +kernel
theorem dX5_handsOver_5 : decode cX5_handsOver 5 = .ok (.iconst 1, 1) := by decide +kernel
theorem dX5_handsOver_6 : decode cX5_handsOver 6 = .ok (.if_icmp .ne 21, 3) := by decide +kernel
theorem dX5_handsOver_9 : decode cX5_handsOver 9 = .ok (.aload_n 0, 1) := by decide +kernel
theorem dX5_handsOver_10 : decode cX5_handsOver 10 = .ok (.getfield 51, 3) := by decide +kernel
theorem dX5_handsOver_13 : decode cX5_handsOver 13 = .ok (.aload_n 0, 1) := by decide +kernel
theorem dX5_handsOver_14 : decode cX5_handsOver 14 = .ok (.iload_n 1, 1) := by decide +kernel
theorem dX5_handsOver_15 : decode cX5_handsOver 15 = .ok (.invokevirtual 154, 3) := by decide +kernel
theorem dX5_handsOver_18 : decode cX5_handsOver 18 = .ok (.iaload, 1) := by decide +kernel
theorem dX5_handsOver_19 : decode cX5_handsOver 19 = .ok (.iconst 3, 1) := by decide +kernel
theorem dX5_handsOver_20 : decode cX5_handsOver 20 = .ok (.if_icmp .lt 7, 3) := by decide +kernel
theorem dX5_handsOver_23 : decode cX5_handsOver 23 = .ok (.iconst 1, 1) := by decide +kernel
theorem dX5_handsOver_24 : decode cX5_handsOver 24 = .ok (.goto 4, 3) := by decide +kernel
theorem dX5_handsOver_27 : decode cX5_handsOver 27 = .ok (.iconst 0, 1) := by decide +kernel
theorem dX5_handsOver_28 : decode cX5_handsOver 28 = .ok (.ireturn, 1) := by decide +kernel
theorem dX5_isSlotTaken_0 : decode cX5_isSlotTaken 0 = .ok (.aload_n 0, 1) := by decide +kernel
theorem dX5_isSlotTaken_1 : decode cX5_isSlotTaken 1 = .ok (.getfield 7, 3) := by decide +kernel
theorem dX5_isSlotTaken_4 : decode cX5_isSlotTaken 4 = .ok (.iload_n 2, 1) := by decide +kernel
theorem dX5_isSlotTaken_5 : decode cX5_isSlotTaken 5 = .ok (.iaload, 1) := by decide +kernel
theorem dX5_isSlotTaken_6 : decode cX5_isSlotTaken 6 = .ok (.bipush 10, 2) := by decide +kernel
theorem dX5_isSlotTaken_8 : decode cX5_isSlotTaken 8 = .ok (.idiv, 1) := by decide +kernel
theorem dX5_isSlotTaken_9 : decode cX5_isSlotTaken 9 = .ok (.iload_n 3, 1) := by decide +kernel
theorem dX5_isSlotTaken_10 : decode cX5_isSlotTaken 10 = .ok (.if_icmp .ne 7, 3) := by decide +kernel
theorem dX5_isSlotTaken_13 : decode cX5_isSlotTaken 13 = .ok (.iconst 1, 1) := by decide +kernel
theorem dX5_isSlotTaken_14 : decode cX5_isSlotTaken 14 = .ok (.goto 4, 3) := by decide +kernel
theorem dX5_isSlotTaken_17 : decode cX5_isSlotTaken 17 = .ok (.iconst 0, 1) := by decide +kernel
theorem dX5_isSlotTaken_18 : decode cX5_isSlotTaken 18 = .ok (.istore 4, 2) := by decide +kernel
theorem dX5_isSlotTaken_20 : decode cX5_isSlotTaken 20 = .ok (.iconst 0, 1) := by decide +kernel
theorem dX5_isSlotTaken_21 : decode cX5_isSlotTaken 21 = .ok (.istore 5, 2) := by decide +kernel
theorem dX5_isSlotTaken_23 : decode cX5_isSlotTaken 23 = .ok (.iload 5, 2) := by decide +kernel
theorem dX5_isSlotTaken_25 : decode cX5_isSlotTaken 25 = .ok (.aload_n 0, 1) := by decide +kernel
theorem dX5_isSlotTaken_26 : decode cX5_isSlotTaken 26 = .ok (.getfield 109, 3) := by decide +kernel
theorem dX5_isSlotTaken_29 : decode cX5_isSlotTaken 29 = .ok (.if_icmp .ge 57, 3) := by decide +kernel
theorem dX5_isSlotTaken_32 : decode cX5_isSlotTaken 32 = .ok (.iload 4, 2) := by decide +kernel
theorem dX5_isSlotTaken_34 : decode cX5_isSlotTaken 34 = .ok (.ifCond .ne 39, 3) := by decide +kernel
theorem dX5_isSlotTaken_37 : decode cX5_isSlotTaken 37 = .ok (.aload_n 0, 1) := by decide +kernel
theorem dX5_isSlotTaken_38 : decode cX5_isSlotTaken 38 = .ok (.getfield 45, 3) := by decide +kernel
theorem dX5_isSlotTaken_41 : decode cX5_isSlotTaken 41 = .ok (.iload 5, 2) := by decide +kernel
theorem dX5_isSlotTaken_43 : decode cX5_isSlotTaken 43 = .ok (.iaload, 1) := by decide +kernel
theorem dX5_isSlotTaken_44 : decode cX5_isSlotTaken 44 = .ok (.iload_n 2, 1) := by decide +kernel
theorem dX5_isSlotTaken_45 : decode cX5_isSlotTaken 45 = .ok (.if_icmp .eq 14, 3) := by decide +kernel
theorem dX5_isSlotTaken_48 : decode cX5_isSlotTaken 48 = .ok (.aload_n 0, 1) := by decide +kernel
theorem dX5_isSlotTaken_49 : decode cX5_isSlotTaken 49 = .ok (.getfield 42, 3) := by decide +kernel
theorem dX5_isSlotTaken_52 : decode cX5_isSlotTaken 52 = .ok (.iload 5, 2) := by decide +kernel
theorem dX5_isSlotTaken_54 : decode cX5_isSlotTaken 54 = .ok (.iaload, 1) := by decide +kernel
theorem dX5_isSlotTaken_55 : decode cX5_isSlotTaken 55 = .ok (.iload_n 1, 1) := by decide +kernel
theorem dX5_isSlotTaken_56 : decode cX5_isSlotTaken 56 = .ok (.if_icmp .ne 21, 3) := by decide +kernel
theorem dX5_isSlotTaken_59 : decode cX5_isSlotTaken 59 = .ok (.aload_n 0, 1) := by decide +kernel
theorem dX5_isSlotTaken_60 : decode cX5_isSlotTaken 60 = .ok (.getfield 48, 3) := by decide +kernel
theorem dX5_isSlotTaken_63 : decode cX5_isSlotTaken 63 = .ok (.iload 5, 2) := by decide +kernel
theorem dX5_isSlotTaken_65 : decode cX5_isSlotTaken 65 = .ok (.iaload, 1) := by decide +kernel
theorem dX5_isSlotTaken_66 : decode cX5_isSlotTaken 66 = .ok (.bipush 10, 2) := by decide +kernel
theorem dX5_isSlotTaken_68 : decode cX5_isSlotTaken 68 = .ok (.idiv, 1) := by decide +kernel
theorem dX5_isSlotTaken_69 : decode cX5_isSlotTaken 69 = .ok (.iload_n 3, 1) := by decide +kernel
theorem dX5_isSlotTaken_70 : decode cX5_isSlotTaken 70 = .ok (.if_icmp .ne 7, 3) := by decide +kernel
theorem dX5_isSlotTaken_73 : decode cX5_isSlotTaken 73 = .ok (.iconst 1, 1) := by decide +kernel
theorem dX5_isSlotTaken_74 : decode cX5_isSlotTaken 74 = .ok (.goto 4, 3) := by decide +kernel
theorem dX5_isSlotTaken_77 : decode cX5_isSlotTaken 77 = .ok (.iconst 0, 1) := by decide +kernel
theorem dX5_isSlotTaken_78 : decode cX5_isSlotTaken 78 = .ok (.istore 4, 2) := by decide +kernel
theorem dX5_isSlotTaken_80 : decode cX5_isSlotTaken 80 = .ok (.iinc 5 1, 3) := by decide +kernel
theorem dX5_isSlotTaken_83 : decode cX5_isSlotTaken 83 = .ok (.goto (-60), 3) := by decide +kernel
theorem dX5_isSlotTaken_86 : decode cX5_isSlotTaken 86 = .ok (.iload 4, 2) := by decide +kernel
theorem dX5_isSlotTaken_88 : decode cX5_isSlotTaken 88 = .ok (.ireturn, 1) := by decide +kernel
theorem dX5_setUp_0 : decode cX5_setUp 0 = .ok (.aload_n 0, 1) := by decide +kernel
theorem dX5_setUp_1 : decode cX5_setUp 1 = .ok (.iload_n 1, 1) := by decide +kernel
theorem dX5_setUp_2 : decode cX5_setUp 2 = .ok (.invokevirtual 157, 3) := by decide +kernel
theorem dX5_setUp_5 : decode cX5_setUp 5 = .ok (.istore_n 2, 1) := by decide +kernel
theorem dX5_setUp_6 : decode cX5_setUp 6 = .ok (.aload_n 0, 1) := by decide +kernel
theorem dX5_setUp_7 : decode cX5_setUp 7 = .ok (.getfield 27, 3) := by decide +kernel
theorem dX5_setUp_10 : decode cX5_setUp 10 = .ok (.iload_n 1, 1) := by decide +kernel
theorem dX5_setUp_11 : decode cX5_setUp 11 = .ok (.iaload, 1) := by decide +kernel
theorem dX5_setUp_12 : decode cX5_setUp 12 = .ok (.iconst 1, 1) := by decide +kernel
theorem dX5_setUp_13 : decode cX5_setUp 13 = .ok (.if_icmp .eq 13, 3) := by decide +kernel
theorem dX5_setUp_16 : decode cX5_setUp 16 = .ok (.aload_n 0, 1) := by decide +kernel
theorem dX5_setUp_17 : decode cX5_setUp 17 = .ok (.getfield 27, 3) := by decide +kernel
theorem dX5_setUp_20 : decode cX5_setUp 20 = .ok (.iload_n 1, 1) := by decide +kernel
theorem dX5_setUp_21 : decode cX5_setUp 21 = .ok (.iaload, 1) := by decide +kernel
theorem dX5_setUp_22 : decode cX5_setUp 22 = .ok (.iconst 4, 1) := by decide +kernel
theorem dX5_setUp_23 : decode cX5_setUp 23 = .ok (.if_icmp .ne 15, 3) := by decide +kernel
theorem dX5_setUp_26 : decode cX5_setUp 26 = .ok (.aload_n 0, 1) := by decide +kernel
theorem dX5_setUp_27 : decode cX5_setUp 27 = .ok (.iload_n 1, 1) := by decide +kernel
theorem dX5_setUp_28 : decode cX5_setUp 28 = .ok (.invokevirtual 151, 3) := by decide +kernel
theorem dX5_setUp_31 : decode cX5_setUp 31 = .ok (.ifCond .ne 7, 3) := by decide +kernel
theorem dX5_setUp_34 : decode cX5_setUp 34 = .ok (.iconst 1, 1) := by decide +kernel
theorem dX5_setUp_35 : decode cX5_setUp 35 = .ok (.goto 4, 3) := by decide +kernel
theorem dX5_setUp_38 : decode cX5_setUp 38 = .ok (.iconst 0, 1) := by decide +kernel
theorem dX5_setUp_39 : decode cX5_setUp 39 = .ok (.istore_n 3, 1) := by decide +kernel
theorem dX5_setUp_40 : decode cX5_setUp 40 = .ok (.iload_n 2, 1) := by decide +kernel
theorem dX5_setUp_41 : decode cX5_setUp 41 = .ok (.ifCond .ne 7, 3) := by decide +kernel
theorem dX5_setUp_44 : decode cX5_setUp 44 = .ok (.iload_n 3, 1) := by decide +kernel
theorem dX5_setUp_45 : decode cX5_setUp 45 = .ok (.ifCond .eq 14, 3) := by decide +kernel
theorem dX5_setUp_48 : decode cX5_setUp 48 = .ok (.aload_n 0, 1) := by decide +kernel
theorem dX5_setUp_49 : decode cX5_setUp 49 = .ok (.getfield 103, 3) := by decide +kernel
theorem dX5_setUp_52 : decode cX5_setUp 52 = .ok (.iload_n 1, 1) := by decide +kernel
theorem dX5_setUp_53 : decode cX5_setUp 53 = .ok (.isub, 1) := by decide +kernel
theorem dX5_setUp_54 : decode cX5_setUp 54 = .ok (.iconst 4, 1) := by decide +kernel
theorem dX5_setUp_55 : decode cX5_setUp 55 = .ok (.irem, 1) := by decide +kernel
theorem dX5_setUp_56 : decode cX5_setUp 56 = .ok (.ifCond .eq 4, 3) := by decide +kernel
theorem dX5_setUp_59 : decode cX5_setUp 59 = .ok (.return_, 1) := by decide +kernel
theorem dX5_setUp_60 : decode cX5_setUp 60 = .ok (.iload_n 2, 1) := by decide +kernel
theorem dX5_setUp_61 : decode cX5_setUp 61 = .ok (.ifCond .eq 16, 3) := by decide +kernel
theorem dX5_setUp_64 : decode cX5_setUp 64 = .ok (.aload_n 0, 1) := by decide +kernel
theorem dX5_setUp_65 : decode cX5_setUp 65 = .ok (.getfield 45, 3) := by decide +kernel
theorem dX5_setUp_68 : decode cX5_setUp 68 = .ok (.aload_n 0, 1) := by decide +kernel
theorem dX5_setUp_69 : decode cX5_setUp 69 = .ok (.iload_n 1, 1) := by decide +kernel
theorem dX5_setUp_70 : decode cX5_setUp 70 = .ok (.invokevirtual 154, 3) := by decide +kernel
theorem dX5_setUp_73 : decode cX5_setUp 73 = .ok (.iaload, 1) := by decide +kernel
theorem dX5_setUp_74 : decode cX5_setUp 74 = .ok (.goto 4, 3) := by decide +kernel
theorem dX5_setUp_77 : decode cX5_setUp 77 = .ok (.iconst (-1), 1) := by decide +kernel
theorem dX5_setUp_78 : decode cX5_setUp 78 = .ok (.istore 4, 2) := by decide +kernel
theorem dX5_setUp_80 : decode cX5_setUp 80 = .ok (.iconst (-1), 1) := by decide +kernel
theorem dX5_setUp_81 : decode cX5_setUp 81 = .ok (.istore 5, 2) := by decide +kernel
theorem dX5_setUp_83 : decode cX5_setUp 83 = .ok (.iconst 0, 1) := by decide +kernel
theorem dX5_setUp_84 : decode cX5_setUp 84 = .ok (.istore 6, 2) := by decide +kernel
theorem dX5_setUp_86 : decode cX5_setUp 86 = .ok (.iload 6, 2) := by decide +kernel
theorem dX5_setUp_88 : decode cX5_setUp 88 = .ok (.aload_n 0, 1) := by decide +kernel
theorem dX5_setUp_89 : decode cX5_setUp 89 = .ok (.getfield 84, 3) := by decide +kernel
theorem dX5_setUp_92 : decode cX5_setUp 92 = .ok (.if_icmp .ge 52, 3) := by decide +kernel
theorem dX5_setUp_95 : decode cX5_setUp 95 = .ok (.iload 5, 2) := by decide +kernel
theorem dX5_setUp_97 : decode cX5_setUp 97 = .ok (.ifCond .ge 37, 3) := by decide +kernel
theorem dX5_setUp_100 : decode cX5_setUp 100 = .ok (.iload 6, 2) := by decide +kernel
theorem dX5_setUp_102 : decode cX5_setUp 102 = .ok (.iload 4, 2) := by decide +kernel
theorem dX5_setUp_104 : decode cX5_setUp 104 = .ok (.if_icmp .eq 30, 3) := by decide +kernel
theorem dX5_setUp_107 : decode cX5_setUp 107 = .ok (.aload_n 0, 1) := by decide +kernel
theorem dX5_setUp_108 : decode cX5_setUp 108 = .ok (.aload_n 0, 1) := by decide +kernel
theorem dX5_setUp_109 : decode cX5_setUp 109 = .ok (.getfield 13, 3) := by decide +kernel
theorem dX5_setUp_112 : decode cX5_setUp 112 = .ok (.iload_n 1, 1) := by decide +kernel
theorem dX5_setUp_113 : decode cX5_setUp 113 = .ok (.iaload, 1) := by decide +kernel
theorem dX5_setUp_114 : decode cX5_setUp 114 = .ok (.iload 6, 2) := by decide +kernel
theorem dX5_setUp_116 : decode cX5_setUp 116 = .ok (.aload_n 0, 1) := by decide +kernel
theorem dX5_setUp_117 : decode cX5_setUp 117 = .ok (.getfield 7, 3) := by decide +kernel
theorem dX5_setUp_120 : decode cX5_setUp 120 = .ok (.iload 6, 2) := by decide +kernel
theorem dX5_setUp_122 : decode cX5_setUp 122 = .ok (.iaload, 1) := by decide +kernel
theorem dX5_setUp_123 : decode cX5_setUp 123 = .ok (.invokevirtual 148, 3) := by decide +kernel
theorem dX5_setUp_126 : decode cX5_setUp 126 = .ok (.ifCond .eq 8, 3) := by decide +kernel
theorem dX5_setUp_129 : decode cX5_setUp 129 = .ok (.iload 6, 2) := by decide +kernel
theorem dX5_setUp_131 : decode cX5_setUp 131 = .ok (.goto 5, 3) := by decide +kernel
theorem dX5_setUp_134 : decode cX5_setUp 134 = .ok (.iload 5, 2) := by decide +kernel
theorem dX5_setUp_136 : decode cX5_setUp 136 = .ok (.istore 5, 2) := by decide +kernel
theorem dX5_setUp_138 : decode cX5_setUp 138 = .ok (.iinc 6 1, 3) := by decide +kernel
theorem dX5_setUp_141 : decode cX5_setUp 141 = .ok (.goto (-55), 3) := by decide +kernel
theorem dX5_setUp_144 : decode cX5_setUp 144 = .ok (.iload 5, 2) := by decide +kernel
theorem dX5_setUp_146 : decode cX5_setUp 146 = .ok (.ifCond .ge 33, 3) := by decide +kernel
theorem dX5_setUp_149 : decode cX5_setUp 149 = .ok (.iload_n 2, 1) := by decide +kernel
theorem dX5_setUp_150 : decode cX5_setUp 150 = .ok (.ifCond .eq 29, 3) := by decide +kernel
theorem dX5_setUp_153 : decode cX5_setUp 153 = .ok (.aload_n 0, 1) := by decide +kernel
theorem dX5_setUp_154 : decode cX5_setUp 154 = .ok (.aload_n 0, 1) := by decide +kernel
theorem dX5_setUp_155 : decode cX5_setUp 155 = .ok (.getfield 13, 3) := by decide +kernel
theorem dX5_setUp_158 : decode cX5_setUp 158 = .ok (.iload_n 1, 1) := by decide +kernel
theorem dX5_setUp_159 : decode cX5_setUp 159 = .ok (.iaload, 1) := by decide +kernel
theorem dX5_setUp_160 : decode cX5_setUp 160 = .ok (.iload 4, 2) := by decide +kernel
theorem dX5_setUp_162 : decode cX5_setUp 162 = .ok (.aload_n 0, 1) := by decide +kernel
theorem dX5_setUp_163 : decode cX5_setUp 163 = .ok (.getfield 7, 3) := by decide +kernel
theorem dX5_setUp_166 : decode cX5_setUp 166 = .ok (.iload 4, 2) := by decide +kernel
theorem dX5_setUp_168 : decode cX5_setUp 168 = .ok (.iaload, 1) := by decide +kernel
theorem dX5_setUp_169 : decode cX5_setUp 169 = .ok (.invokevirtual 148, 3) := by decide +kernel
theorem dX5_setUp_172 : decode cX5_setUp 172 = .ok (.ifCond .eq 7, 3) := by decide +kernel
theorem dX5_setUp_175 : decode cX5_setUp 175 = .ok (.iload 4, 2) := by decide +kernel
theorem dX5_setUp_177 : decode cX5_setUp 177 = .ok (.istore 5, 2) := by decide +kernel
theorem dX5_setUp_179 : decode cX5_setUp 179 = .ok (.iload 5, 2) := by decide +kernel
theorem dX5_setUp_181 : decode cX5_setUp 181 = .ok (.ifCond .ge 4, 3) := by decide +kernel
theorem dX5_setUp_184 : decode cX5_setUp 184 = .ok (.return_, 1) := by decide +kernel
theorem dX5_setUp_185 : decode cX5_setUp 185 = .ok (.iconst (-1), 1) := by decide +kernel
theorem dX5_setUp_186 : decode cX5_setUp 186 = .ok (.istore 6, 2) := by decide +kernel
theorem dX5_setUp_188 : decode cX5_setUp 188 = .ok (.iconst 4, 1) := by decide +kernel
theorem dX5_setUp_189 : decode cX5_setUp 189 = .ok (.istore 7, 2) := by decide +kernel
theorem dX5_setUp_191 : decode cX5_setUp 191 = .ok (.iconst 0, 1) := by decide +kernel
theorem dX5_setUp_192 : decode cX5_setUp 192 = .ok (.istore 8, 2) := by decide +kernel
theorem dX5_setUp_194 : decode cX5_setUp 194 = .ok (.iload 8, 2) := by decide +kernel
theorem dX5_setUp_196 : decode cX5_setUp 196 = .ok (.bipush 120, 2) := by decide +kernel
theorem dX5_setUp_198 : decode cX5_setUp 198 = .ok (.if_icmp .ge 71, 3) := by decide +kernel
theorem dX5_setUp_201 : decode cX5_setUp 201 = .ok (.aload_n 0, 1) := by decide +kernel
theorem dX5_setUp_202 : decode cX5_setUp 202 = .ok (.iload_n 1, 1) := by decide +kernel
theorem dX5_setUp_203 : decode cX5_setUp 203 = .ok (.iload 5, 2) := by decide +kernel
theorem dX5_setUp_205 : decode cX5_setUp 205 = .ok (.iload 8, 2) := by decide +kernel
theorem dX5_setUp_207 : decode cX5_setUp 207 = .ok (.bipush 10, 2) := by decide +kernel
theorem dX5_setUp_209 : decode cX5_setUp 209 = .ok (.idiv, 1) := by decide +kernel
theorem dX5_setUp_210 : decode cX5_setUp 210 = .ok (.invokevirtual 160, 3) := by decide +kernel
theorem dX5_setUp_213 : decode cX5_setUp 213 = .ok (.ifCond .eq 7, 3) := by decide +kernel
theorem dX5_setUp_216 : decode cX5_setUp 216 = .ok (.iconst 4, 1) := by decide +kernel
theorem dX5_setUp_217 : decode cX5_setUp 217 = .ok (.goto 12, 3) := by decide +kernel
theorem dX5_setUp_220 : decode cX5_setUp 220 = .ok (.aload_n 0, 1) := by decide +kernel
theorem dX5_setUp_221 : decode cX5_setUp 221 = .ok (.iload_n 1, 1) := by decide +kernel
theorem dX5_setUp_222 : decode cX5_setUp 222 = .ok (.iload 5, 2) := by decide +kernel
theorem dX5_setUp_224 : decode cX5_setUp 224 = .ok (.iload 8, 2) := by decide +kernel
theorem dX5_setUp_226 : decode cX5_setUp 226 = .ok (.invokevirtual 145, 3) := by decide +kernel
theorem dX5_setUp_229 : decode cX5_setUp 229 = .ok (.istore 9, 2) := by decide +kernel
theorem dX5_setUp_231 : decode cX5_setUp 231 = .ok (.iload 9, 2) := by decide +kernel
theorem dX5_setUp_233 : decode cX5_setUp 233 = .ok (.iload 7, 2) := by decide +kernel
theorem dX5_setUp_235 : decode cX5_setUp 235 = .ok (.if_icmp .ge 8, 3) := by decide +kernel
theorem dX5_setUp_238 : decode cX5_setUp 238 = .ok (.iload 8, 2) := by decide +kernel
theorem dX5_setUp_240 : decode cX5_setUp 240 = .ok (.goto 5, 3) := by decide +kernel
theorem dX5_setUp_243 : decode cX5_setUp 243 = .ok (.iload 6, 2) := by decide +kernel
theorem dX5_setUp_245 : decode cX5_setUp 245 = .ok (.istore 6, 2) := by decide +kernel
theorem dX5_setUp_247 : decode cX5_setUp 247 = .ok (.iload 9, 2) := by decide +kernel
theorem dX5_setUp_249 : decode cX5_setUp 249 = .ok (.iload 7, 2) := by decide +kernel
theorem dX5_setUp_251 : decode cX5_setUp 251 = .ok (.if_icmp .ge 8, 3) := by decide +kernel
theorem dX5_setUp_254 : decode cX5_setUp 254 = .ok (.iload 9, 2) := by decide +kernel
theorem dX5_setUp_256 : decode cX5_setUp 256 = .ok (.goto 5, 3) := by decide +kernel
theorem dX5_setUp_259 : decode cX5_setUp 259 = .ok (.iload 7, 2) := by decide +kernel
theorem dX5_setUp_261 : decode cX5_setUp 261 = .ok (.istore 7, 2) := by decide +kernel
theorem dX5_setUp_263 : decode cX5_setUp 263 = .ok (.iinc 8 1, 3) := by decide +kernel
theorem dX5_setUp_266 : decode cX5_setUp 266 = .ok (.goto (-72), 3) := by decide +kernel
theorem dX5_setUp_269 : decode cX5_setUp 269 = .ok (.iload 6, 2) := by decide +kernel
theorem dX5_setUp_271 : decode cX5_setUp 271 = .ok (.ifCond .lt 75, 3) := by decide +kernel
theorem dX5_setUp_274 : decode cX5_setUp 274 = .ok (.aload_n 0, 1) := by decide +kernel
theorem dX5_setUp_275 : decode cX5_setUp 275 = .ok (.getfield 42, 3) := by decide +kernel
theorem dX5_setUp_278 : decode cX5_setUp 278 = .ok (.aload_n 0, 1) := by decide +kernel
theorem dX5_setUp_279 : decode cX5_setUp 279 = .ok (.getfield 109, 3) := by decide +kernel
theorem dX5_setUp_282 : decode cX5_setUp 282 = .ok (.iload_n 1, 1) := by decide +kernel
theorem dX5_setUp_283 : decode cX5_setUp 283 = .ok (.iastore, 1) := by decide +kernel
theorem dX5_setUp_284 : decode cX5_setUp 284 = .ok (.aload_n 0, 1) := by decide +kernel
theorem dX5_setUp_285 : decode cX5_setUp 285 = .ok (.getfield 45, 3) := by decide +kernel
theorem dX5_setUp_288 : decode cX5_setUp 288 = .ok (.aload_n 0, 1) := by decide +kernel
theorem dX5_setUp_289 : decode cX5_setUp 289 = .ok (.getfield 109, 3) := by decide +kernel
theorem dX5_setUp_292 : decode cX5_setUp 292 = .ok (.iload 5, 2) := by decide +kernel
theorem dX5_setUp_294 : decode cX5_setUp 294 = .ok (.iastore, 1) := by decide +kernel
theorem dX5_setUp_295 : decode cX5_setUp 295 = .ok (.aload_n 0, 1) := by decide +kernel
theorem dX5_setUp_296 : decode cX5_setUp 296 = .ok (.getfield 48, 3) := by decide +kernel
theorem dX5_setUp_299 : decode cX5_setUp 299 = .ok (.aload_n 0, 1) := by decide +kernel
theorem dX5_setUp_300 : decode cX5_setUp 300 = .ok (.getfield 109, 3) := by decide +kernel
theorem dX5_setUp_303 : decode cX5_setUp 303 = .ok (.iload 6, 2) := by decide +kernel
theorem dX5_setUp_305 : decode cX5_setUp 305 = .ok (.iastore, 1) := by decide +kernel
theorem dX5_setUp_306 : decode cX5_setUp 306 = .ok (.aload_n 0, 1) := by decide +kernel
theorem dX5_setUp_307 : decode cX5_setUp 307 = .ok (.getfield 51, 3) := by decide +kernel
theorem dX5_setUp_310 : decode cX5_setUp 310 = .ok (.aload_n 0, 1) := by decide +kernel
theorem dX5_setUp_311 : decode cX5_setUp 311 = .ok (.getfield 109, 3) := by decide +kernel
theorem dX5_setUp_314 : decode cX5_setUp 314 = .ok (.iconst 0, 1) := by decide +kernel
theorem dX5_setUp_315 : decode cX5_setUp 315 = .ok (.iastore, 1) := by decide +kernel
theorem dX5_setUp_316 : decode cX5_setUp 316 = .ok (.aload_n 0, 1) := by decide +kernel
theorem dX5_setUp_317 : decode cX5_setUp 317 = .ok (.getfield 54, 3) := by decide +kernel
theorem dX5_setUp_320 : decode cX5_setUp 320 = .ok (.aload_n 0, 1) := by decide +kernel
theorem dX5_setUp_321 : decode cX5_setUp 321 = .ok (.getfield 109, 3) := by decide +kernel
theorem dX5_setUp_324 : decode cX5_setUp 324 = .ok (.iconst 0, 1) := by decide +kernel
theorem dX5_setUp_325 : decode cX5_setUp 325 = .ok (.bastore, 1) := by decide +kernel
theorem dX5_setUp_326 : decode cX5_setUp 326 = .ok (.aload_n 0, 1) := by decide +kernel
theorem dX5_setUp_327 : decode cX5_setUp 327 = .ok (.dup, 1) := by decide +kernel
theorem dX5_setUp_328 : decode cX5_setUp 328 = .ok (.getfield 109, 3) := by decide +kernel
theorem dX5_setUp_331 : decode cX5_setUp 331 = .ok (.iconst 1, 1) := by decide +kernel
theorem dX5_setUp_332 : decode cX5_setUp 332 = .ok (.iadd, 1) := by decide +kernel
theorem dX5_setUp_333 : decode cX5_setUp 333 = .ok (.putfield 109, 3) := by decide +kernel
theorem dX5_setUp_336 : decode cX5_setUp 336 = .ok (.aload_n 0, 1) := by decide +kernel
theorem dX5_setUp_337 : decode cX5_setUp 337 = .ok (.dup, 1) := by decide +kernel
theorem dX5_setUp_338 : decode cX5_setUp 338 = .ok (.getfield 163, 3) := by decide +kernel
theorem dX5_setUp_341 : decode cX5_setUp 341 = .ok (.iconst 1, 1) := by decide +kernel
theorem dX5_setUp_342 : decode cX5_setUp 342 = .ok (.iadd, 1) := by decide +kernel
theorem dX5_setUp_343 : decode cX5_setUp 343 = .ok (.putfield 163, 3) := by decide +kernel
theorem dX5_setUp_346 : decode cX5_setUp 346 = .ok (.return_, 1) := by decide +kernel
theorem dX5_send_0 : decode cX5_send 0 = .ok (.iconst 0, 1) := by decide +kernel
theorem dX5_send_1 : decode cX5_send 1 = .ok (.istore_n 1, 1) := by decide +kernel
theorem dX5_send_2 : decode cX5_send 2 = .ok (.iload_n 1, 1) := by decide +kernel
theorem dX5_send_3 : decode cX5_send 3 = .ok (.aload_n 0, 1) := by decide +kernel
theorem dX5_send_4 : decode cX5_send 4 = .ok (.getfield 109, 3) := by decide +kernel
theorem dX5_send_7 : decode cX5_send 7 = .ok (.if_icmp .ge 75, 3) := by decide +kernel
theorem dX5_send_10 : decode cX5_send 10 = .ok (.aload_n 0, 1) := by decide +kernel
theorem dX5_send_11 : decode cX5_send 11 = .ok (.getfield 54, 3) := by decide +kernel
theorem dX5_send_14 : decode cX5_send 14 = .ok (.iload_n 1, 1) := by decide +kernel
theorem dX5_send_15 : decode cX5_send 15 = .ok (.aload_n 0, 1) := by decide +kernel
theorem dX5_send_16 : decode cX5_send 16 = .ok (.aload_n 0, 1) := by decide +kernel
theorem dX5_send_17 : decode cX5_send 17 = .ok (.getfield 13, 3) := by decide +kernel
theorem dX5_send_20 : decode cX5_send 20 = .ok (.aload_n 0, 1) := by decide +kernel
theorem dX5_send_21 : decode cX5_send 21 = .ok (.getfield 42, 3) := by decide +kernel
theorem dX5_send_24 : decode cX5_send 24 = .ok (.iload_n 1, 1) := by decide +kernel
theorem dX5_send_25 : decode cX5_send 25 = .ok (.iaload, 1) := by decide +kernel
theorem dX5_send_26 : decode cX5_send 26 = .ok (.iaload, 1) := by decide +kernel
theorem dX5_send_27 : decode cX5_send 27 = .ok (.aload_n 0, 1) := by decide +kernel
theorem dX5_send_28 : decode cX5_send 28 = .ok (.getfield 45, 3) := by decide +kernel
theorem dX5_send_31 : decode cX5_send 31 = .ok (.iload_n 1, 1) := by decide +kernel
theorem dX5_send_32 : decode cX5_send 32 = .ok (.iaload, 1) := by decide +kernel
theorem dX5_send_33 : decode cX5_send 33 = .ok (.aload_n 0, 1) := by decide +kernel
theorem dX5_send_34 : decode cX5_send 34 = .ok (.getfield 48, 3) := by decide +kernel
theorem dX5_send_37 : decode cX5_send 37 = .ok (.iload_n 1, 1) := by decide +kernel
theorem dX5_send_38 : decode cX5_send 38 = .ok (.iaload, 1) := by decide +kernel
theorem dX5_send_39 : decode cX5_send 39 = .ok (.invokevirtual 148, 3) := by decide +kernel
theorem dX5_send_42 : decode cX5_send 42 = .ok (.ifCond .eq 32, 3) := by decide +kernel
theorem dX5_send_45 : decode cX5_send 45 = .ok (.aload_n 0, 1) := by decide +kernel
theorem dX5_send_46 : decode cX5_send 46 = .ok (.aload_n 0, 1) := by decide +kernel
theorem dX5_send_47 : decode cX5_send 47 = .ok (.getfield 45, 3) := by decide +kernel
theorem dX5_send_50 : decode cX5_send 50 = .ok (.iload_n 1, 1) := by decide +kernel
theorem dX5_send_51 : decode cX5_send 51 = .ok (.iaload, 1) := by decide +kernel
theorem dX5_send_52 : decode cX5_send 52 = .ok (.aload_n 0, 1) := by decide +kernel
theorem dX5_send_53 : decode cX5_send 53 = .ok (.getfield 42, 3) := by decide +kernel
theorem dX5_send_56 : decode cX5_send 56 = .ok (.iload_n 1, 1) := by decide +kernel
theorem dX5_send_57 : decode cX5_send 57 = .ok (.iaload, 1) := by decide +kernel
theorem dX5_send_58 : decode cX5_send 58 = .ok (.aload_n 0, 1) := by decide +kernel
theorem dX5_send_59 : decode cX5_send 59 = .ok (.getfield 48, 3) := by decide +kernel
theorem dX5_send_62 : decode cX5_send 62 = .ok (.iload_n 1, 1) := by decide +kernel
theorem dX5_send_63 : decode cX5_send 63 = .ok (.iaload, 1) := by decide +kernel
theorem dX5_send_64 : decode cX5_send 64 = .ok (.invokevirtual 166, 3) := by decide +kernel
theorem dX5_send_67 : decode cX5_send 67 = .ok (.ifCond .eq 7, 3) := by decide +kernel
theorem dX5_send_70 : decode cX5_send 70 = .ok (.iconst 1, 1) := by decide +kernel
theorem dX5_send_71 : decode cX5_send 71 = .ok (.goto 4, 3) := by decide +kernel
theorem dX5_send_74 : decode cX5_send 74 = .ok (.iconst 0, 1) := by decide +kernel
theorem dX5_send_75 : decode cX5_send 75 = .ok (.bastore, 1) := by decide +kernel
theorem dX5_send_76 : decode cX5_send 76 = .ok (.iinc 1 1, 3) := by decide +kernel
theorem dX5_send_79 : decode cX5_send 79 = .ok (.goto (-77), 3) := by decide +kernel
theorem dX5_send_82 : decode cX5_send 82 = .ok (.iconst 0, 1) := by decide +kernel
theorem dX5_send_83 : decode cX5_send 83 = .ok (.istore_n 1, 1) := by decide +kernel
theorem dX5_send_84 : decode cX5_send 84 = .ok (.iload_n 1, 1) := by decide +kernel
theorem dX5_send_85 : decode cX5_send 85 = .ok (.aload_n 0, 1) := by decide +kernel
theorem dX5_send_86 : decode cX5_send 86 = .ok (.getfield 109, 3) := by decide +kernel
theorem dX5_send_89 : decode cX5_send 89 = .ok (.if_icmp .ge 36, 3) := by decide +kernel
theorem dX5_send_92 : decode cX5_send 92 = .ok (.aload_n 0, 1) := by decide +kernel
theorem dX5_send_93 : decode cX5_send 93 = .ok (.getfield 51, 3) := by decide +kernel
theorem dX5_send_96 : decode cX5_send 96 = .ok (.iload_n 1, 1) := by decide +kernel
theorem dX5_send_97 : decode cX5_send 97 = .ok (.aload_n 0, 1) := by decide +kernel
theorem dX5_send_98 : decode cX5_send 98 = .ok (.getfield 54, 3) := by decide +kernel
theorem dX5_send_101 : decode cX5_send 101 = .ok (.iload_n 1, 1) := by decide +kernel
theorem dX5_send_102 : decode cX5_send 102 = .ok (.baload, 1) := by decide +kernel
theorem dX5_send_103 : decode cX5_send 103 = .ok (.ifCond .eq 7, 3) := by decide +kernel
theorem dX5_send_106 : decode cX5_send 106 = .ok (.iconst 0, 1) := by decide +kernel
theorem dX5_send_107 : decode cX5_send 107 = .ok (.goto 11, 3) := by decide +kernel
theorem dX5_send_110 : decode cX5_send 110 = .ok (.aload_n 0, 1) := by decide +kernel
theorem dX5_send_111 : decode cX5_send 111 = .ok (.getfield 51, 3) := by decide +kernel
theorem dX5_send_114 : decode cX5_send 114 = .ok (.iload_n 1, 1) := by decide +kernel
theorem dX5_send_115 : decode cX5_send 115 = .ok (.iaload, 1) := by decide +kernel
theorem dX5_send_116 : decode cX5_send 116 = .ok (.iconst 1, 1) := by decide +kernel
theorem dX5_send_117 : decode cX5_send 117 = .ok (.iadd, 1) := by decide +kernel
theorem dX5_send_118 : decode cX5_send 118 = .ok (.iastore, 1) := by decide +kernel
theorem dX5_send_119 : decode cX5_send 119 = .ok (.iinc 1 1, 3) := by decide +kernel
theorem dX5_send_122 : decode cX5_send 122 = .ok (.goto (-38), 3) := by decide +kernel
theorem dX5_send_125 : decode cX5_send 125 = .ok (.return_, 1) := by decide +kernel
theorem dX5_goOrStay_0 : decode cX5_goOrStay 0 = .ok (.aload_n 0, 1) := by decide +kernel
theorem dX5_goOrStay_1 : decode cX5_goOrStay 1 = .ok (.getfield 109, 3) := by decide +kernel
theorem dX5_goOrStay_4 : decode cX5_goOrStay 4 = .ok (.iconst 1, 1) := by decide +kernel
theorem dX5_goOrStay_5 : decode cX5_goOrStay 5 = .ok (.isub, 1) := by decide +kernel
theorem dX5_goOrStay_6 : decode cX5_goOrStay 6 = .ok (.istore_n 1, 1) := by decide +kernel
theorem dX5_goOrStay_7 : decode cX5_goOrStay 7 = .ok (.iload_n 1, 1) := by decide +kernel
theorem dX5_goOrStay_8 : decode cX5_goOrStay 8 = .ok (.ifCond .lt 25, 3) := by decide +kernel
theorem dX5_goOrStay_11 : decode cX5_goOrStay 11 = .ok (.aload_n 0, 1) := by decide +kernel
theorem dX5_goOrStay_12 : decode cX5_goOrStay 12 = .ok (.getfield 51, 3) := by decide +kernel
theorem dX5_goOrStay_15 : decode cX5_goOrStay 15 = .ok (.iload_n 1, 1) := by decide +kernel
theorem dX5_goOrStay_16 : decode cX5_goOrStay 16 = .ok (.iaload, 1) := by decide +kernel
theorem dX5_goOrStay_17 : decode cX5_goOrStay 17 = .ok (.bipush 8, 2) := by decide +kernel
theorem dX5_goOrStay_19 : decode cX5_goOrStay 19 = .ok (.if_icmp .lt 8, 3) := by decide +kernel
theorem dX5_goOrStay_22 : decode cX5_goOrStay 22 = .ok (.aload_n 0, 1) := by decide +kernel
theorem dX5_goOrStay_23 : decode cX5_goOrStay 23 = .ok (.iload_n 1, 1) := by decide +kernel
theorem dX5_goOrStay_24 : decode cX5_goOrStay 24 = .ok (.invokevirtual 112, 3) := by decide +kernel
theorem dX5_goOrStay_27 : decode cX5_goOrStay 27 = .ok (.iinc 1 (-1), 3) := by decide +kernel
theorem dX5_goOrStay_30 : decode cX5_goOrStay 30 = .ok (.goto (-23), 3) := by decide +kernel
theorem dX5_goOrStay_33 : decode cX5_goOrStay 33 = .ok (.iconst 0, 1) := by decide +kernel
theorem dX5_goOrStay_34 : decode cX5_goOrStay 34 = .ok (.istore_n 1, 1) := by decide +kernel
theorem dX5_goOrStay_35 : decode cX5_goOrStay 35 = .ok (.iload_n 1, 1) := by decide +kernel
theorem dX5_goOrStay_36 : decode cX5_goOrStay 36 = .ok (.aload_n 0, 1) := by decide +kernel
theorem dX5_goOrStay_37 : decode cX5_goOrStay 37 = .ok (.getfield 92, 3) := by decide +kernel
theorem dX5_goOrStay_40 : decode cX5_goOrStay 40 = .ok (.if_icmp .ge 70, 3) := by decide +kernel
theorem dX5_goOrStay_43 : decode cX5_goOrStay 43 = .ok (.aload_n 0, 1) := by decide +kernel
theorem dX5_goOrStay_44 : decode cX5_goOrStay 44 = .ok (.iload_n 1, 1) := by decide +kernel
theorem dX5_goOrStay_45 : decode cX5_goOrStay 45 = .ok (.invokevirtual 151, 3) := by decide +kernel
theorem dX5_goOrStay_48 : decode cX5_goOrStay 48 = .ok (.iconst 2, 1) := by decide +kernel
theorem dX5_goOrStay_49 : decode cX5_goOrStay 49 = .ok (.if_icmp .ne 55, 3) := by decide +kernel
theorem dX5_goOrStay_52 : decode cX5_goOrStay 52 = .ok (.aload_n 0, 1) := by decide +kernel
theorem dX5_goOrStay_53 : decode cX5_goOrStay 53 = .ok (.iload_n 1, 1) := by decide +kernel
theorem dX5_goOrStay_54 : decode cX5_goOrStay 54 = .ok (.invokevirtual 154, 3) := by decide +kernel
theorem dX5_goOrStay_57 : decode cX5_goOrStay 57 = .ok (.iconst 1, 1) := by decide +kernel
theorem dX5_goOrStay_58 : decode cX5_goOrStay 58 = .ok (.iadd, 1) := by decide +kernel
theorem dX5_goOrStay_59 : decode cX5_goOrStay 59 = .ok (.istore_n 2, 1) := by decide +kernel
theorem dX5_goOrStay_60 : decode cX5_goOrStay 60 = .ok (.aload_n 0, 1) := by decide +kernel
theorem dX5_goOrStay_61 : decode cX5_goOrStay 61 = .ok (.getfield 42, 3) := by decide +kernel
theorem dX5_goOrStay_64 : decode cX5_goOrStay 64 = .ok (.iload_n 2, 1) := by decide +kernel
theorem dX5_goOrStay_65 : decode cX5_goOrStay 65 = .ok (.iaload, 1) := by decide +kernel
theorem dX5_goOrStay_66 : decode cX5_goOrStay 66 = .ok (.iload_n 1, 1) := by decide +kernel
theorem dX5_goOrStay_67 : decode cX5_goOrStay 67 = .ok (.if_icmp .eq 9, 3) := by decide +kernel
theorem dX5_goOrStay_70 : decode cX5_goOrStay 70 = .ok (.iinc 2 1, 3) := by decide +kernel
theorem dX5_goOrStay_73 : decode cX5_goOrStay 73 = .ok (.goto (-13), 3) := by decide +kernel
theorem dX5_goOrStay_76 : decode cX5_goOrStay 76 = .ok (.aload_n 0, 1) := by decide +kernel
theorem dX5_goOrStay_77 : decode cX5_goOrStay 77 = .ok (.getfield 54, 3) := by decide +kernel
theorem dX5_goOrStay_80 : decode cX5_goOrStay 80 = .ok (.iload_n 2, 1) := by decide +kernel
theorem dX5_goOrStay_81 : decode cX5_goOrStay 81 = .ok (.baload, 1) := by decide +kernel
theorem dX5_goOrStay_82 : decode cX5_goOrStay 82 = .ok (.ifCond .eq 22, 3) := by decide +kernel
theorem dX5_goOrStay_85 : decode cX5_goOrStay 85 = .ok (.aload_n 0, 1) := by decide +kernel
theorem dX5_goOrStay_86 : decode cX5_goOrStay 86 = .ok (.aload_n 0, 1) := by decide +kernel
theorem dX5_goOrStay_87 : decode cX5_goOrStay 87 = .ok (.iload_n 1, 1) := by decide +kernel
theorem dX5_goOrStay_88 : decode cX5_goOrStay 88 = .ok (.invokevirtual 154, 3) := by decide +kernel
theorem dX5_goOrStay_91 : decode cX5_goOrStay 91 = .ok (.invokevirtual 112, 3) := by decide +kernel
theorem dX5_goOrStay_94 : decode cX5_goOrStay 94 = .ok (.aload_n 0, 1) := by decide +kernel
theorem dX5_goOrStay_95 : decode cX5_goOrStay 95 = .ok (.dup, 1) := by decide +kernel
theorem dX5_goOrStay_96 : decode cX5_goOrStay 96 = .ok (.getfield 169, 3) := by decide +kernel
theorem dX5_goOrStay_99 : decode cX5_goOrStay 99 = .ok (.iconst 1, 1) := by decide +kernel
theorem dX5_goOrStay_100 : decode cX5_goOrStay 100 = .ok (.iadd, 1) := by decide +kernel
theorem dX5_goOrStay_101 : decode cX5_goOrStay 101 = .ok (.putfield 169, 3) := by decide +kernel
theorem dX5_goOrStay_104 : decode cX5_goOrStay 104 = .ok (.iinc 1 1, 3) := by decide +kernel
theorem dX5_goOrStay_107 : decode cX5_goOrStay 107 = .ok (.goto (-72), 3) := by decide +kernel
theorem dX5_goOrStay_110 : decode cX5_goOrStay 110 = .ok (.iconst 0, 1) := by decide +kernel
theorem dX5_goOrStay_111 : decode cX5_goOrStay 111 = .ok (.istore_n 1, 1) := by decide +kernel
theorem dX5_goOrStay_112 : decode cX5_goOrStay 112 = .ok (.iload_n 1, 1) := by decide +kernel
theorem dX5_goOrStay_113 : decode cX5_goOrStay 113 = .ok (.aload_n 0, 1) := by decide +kernel
theorem dX5_goOrStay_114 : decode cX5_goOrStay 114 = .ok (.getfield 92, 3) := by decide +kernel
theorem dX5_goOrStay_117 : decode cX5_goOrStay 117 = .ok (.if_icmp .ge 51, 3) := by decide +kernel
theorem dX5_goOrStay_120 : decode cX5_goOrStay 120 = .ok (.aload_n 0, 1) := by decide +kernel
theorem dX5_goOrStay_121 : decode cX5_goOrStay 121 = .ok (.getfield 27, 3) := by decide +kernel
theorem dX5_goOrStay_124 : decode cX5_goOrStay 124 = .ok (.iload_n 1, 1) := by decide +kernel
theorem dX5_goOrStay_125 : decode cX5_goOrStay 125 = .ok (.iaload, 1) := by decide +kernel
theorem dX5_goOrStay_126 : decode cX5_goOrStay 126 = .ok (.ifCond .eq 36, 3) := by decide +kernel
theorem dX5_goOrStay_129 : decode cX5_goOrStay 129 = .ok (.aload_n 0, 1) := by decide +kernel
theorem dX5_goOrStay_130 : decode cX5_goOrStay 130 = .ok (.getfield 27, 3) := by decide +kernel
theorem dX5_goOrStay_133 : decode cX5_goOrStay 133 = .ok (.iload_n 1, 1) := by decide +kernel
theorem dX5_goOrStay_134 : decode cX5_goOrStay 134 = .ok (.iaload, 1) := by decide +kernel
theorem dX5_goOrStay_135 : decode cX5_goOrStay 135 = .ok (.iconst 1, 1) := by decide +kernel
theorem dX5_goOrStay_136 : decode cX5_goOrStay 136 = .ok (.if_icmp .eq 26, 3) := by decide +kernel
theorem dX5_goOrStay_139 : decode cX5_goOrStay 139 = .ok (.aload_n 0, 1) := by decide +kernel
theorem dX5_goOrStay_140 : decode cX5_goOrStay 140 = .ok (.getfield 27, 3) := by decide +kernel
theorem dX5_goOrStay_143 : decode cX5_goOrStay 143 = .ok (.iload_n 1, 1) := by decide +kernel
theorem dX5_goOrStay_144 : decode cX5_goOrStay 144 = .ok (.iaload, 1) := by decide +kernel
theorem dX5_goOrStay_145 : decode cX5_goOrStay 145 = .ok (.iconst 4, 1) := by decide +kernel
theorem dX5_goOrStay_146 : decode cX5_goOrStay 146 = .ok (.if_icmp .eq 16, 3) := by decide +kernel
theorem dX5_goOrStay_149 : decode cX5_goOrStay 149 = .ok (.aload_n 0, 1) := by decide +kernel
theorem dX5_goOrStay_150 : decode cX5_goOrStay 150 = .ok (.iload_n 1, 1) := by decide +kernel
theorem dX5_goOrStay_151 : decode cX5_goOrStay 151 = .ok (.invokevirtual 151, 3) := by decide +kernel
theorem dX5_goOrStay_154 : decode cX5_goOrStay 154 = .ok (.ifCond .ne 8, 3) := by decide +kernel
theorem dX5_goOrStay_157 : decode cX5_goOrStay 157 = .ok (.aload_n 0, 1) := by decide +kernel
theorem dX5_goOrStay_158 : decode cX5_goOrStay 158 = .ok (.iload_n 1, 1) := by decide +kernel
theorem dX5_goOrStay_159 : decode cX5_goOrStay 159 = .ok (.invokevirtual 125, 3) := by decide +kernel
theorem dX5_goOrStay_162 : decode cX5_goOrStay 162 = .ok (.iinc 1 1, 3) := by decide +kernel
theorem dX5_goOrStay_165 : decode cX5_goOrStay 165 = .ok (.goto (-53), 3) := by decide +kernel
theorem dX5_goOrStay_168 : decode cX5_goOrStay 168 = .ok (.return_, 1) := by decide +kernel
theorem dX5_isGood_0 : decode cX5_isGood 0 = .ok (.iconst 0, 1) := by decide +kernel
theorem dX5_isGood_1 : decode cX5_isGood 1 = .ok (.istore_n 2, 1) := by decide +kernel
theorem dX5_isGood_2 : decode cX5_isGood 2 = .ok (.iconst 0, 1) := by decide +kernel
theorem dX5_isGood_3 : decode cX5_isGood 3 = .ok (.istore_n 3, 1) := by decide +kernel
theorem dX5_isGood_4 : decode cX5_isGood 4 = .ok (.iload_n 3, 1) := by decide +kernel
theorem dX5_isGood_5 : decode cX5_isGood 5 = .ok (.aload_n 0, 1) := by decide +kernel
theorem dX5_isGood_6 : decode cX5_isGood 6 = .ok (.getfield 109, 3) := by decide +kernel
theorem dX5_isGood_9 : decode cX5_isGood 9 = .ok (.if_icmp .ge 38, 3) := by decide +kernel
theorem dX5_isGood_12 : decode cX5_isGood 12 = .ok (.iload_n 2, 1) := by decide +kernel
theorem dX5_isGood_13 : decode cX5_isGood 13 = .ok (.ifCond .ne 22, 3) := by decide +kernel
theorem dX5_isGood_16 : decode cX5_isGood 16 = .ok (.aload_n 0, 1) := by decide +kernel
theorem dX5_isGood_17 : decode cX5_isGood 17 = .ok (.getfield 42, 3) := by decide +kernel
theorem dX5_isGood_20 : decode cX5_isGood 20 = .ok (.iload_n 3, 1) := by decide +kernel
theorem dX5_isGood_21 : decode cX5_isGood 21 = .ok (.iaload, 1) := by decide +kernel
theorem dX5_isGood_22 : decode cX5_isGood 22 = .ok (.iload_n 1, 1) := by decide +kernel
theorem dX5_isGood_23 : decode cX5_isGood 23 = .ok (.if_icmp .ne 16, 3) := by decide +kernel
theorem dX5_isGood_26 : decode cX5_isGood 26 = .ok (.aload_n 0, 1) := by decide +kernel
theorem dX5_isGood_27 : decode cX5_isGood 27 = .ok (.getfield 54, 3) := by decide +kernel
theorem dX5_isGood_30 : decode cX5_isGood 30 = .ok (.iload_n 3, 1) := by decide +kernel
theorem dX5_isGood_31 : decode cX5_isGood 31 = .ok (.baload, 1) := by decide +kernel
theorem dX5_isGood_32 : decode cX5_isGood 32 = .ok (.ifCond .eq 7, 3) := by decide +kernel
theorem dX5_isGood_35 : decode cX5_isGood 35 = .ok (.iconst 1, 1) := by decide +kernel
theorem dX5_isGood_36 : decode cX5_isGood 36 = .ok (.goto 4, 3) := by decide +kernel
theorem dX5_isGood_39 : decode cX5_isGood 39 = .ok (.iconst 0, 1) := by decide +kernel
theorem dX5_isGood_40 : decode cX5_isGood 40 = .ok (.istore_n 2, 1) := by decide +kernel
theorem dX5_isGood_41 : decode cX5_isGood 41 = .ok (.iinc 3 1, 3) := by decide +kernel
theorem dX5_isGood_44 : decode cX5_isGood 44 = .ok (.goto (-40), 3) := by decide +kernel
theorem dX5_isGood_47 : decode cX5_isGood 47 = .ok (.iload_n 2, 1) := by decide +kernel
theorem dX5_isGood_48 : decode cX5_isGood 48 = .ok (.ireturn, 1) := by decide +kernel
theorem dX5_callOf_0 : decode cX5_callOf 0 = .ok (.aload_n 0, 1) := by decide +kernel
theorem dX5_callOf_1 : decode cX5_callOf 1 = .ok (.iload_n 1, 1) := by decide +kernel
theorem dX5_callOf_2 : decode cX5_callOf 2 = .ok (.invokevirtual 172, 3) := by decide +kernel
theorem dX5_callOf_5 : decode cX5_callOf 5 = .ok (.ifCond .ne 4, 3) := by decide +kernel
theorem dX5_callOf_8 : decode cX5_callOf 8 = .ok (.return_, 1) := by decide +kernel
theorem dX5_callOf_9 : decode cX5_callOf 9 = .ok (.aload_n 0, 1) := by decide +kernel
theorem dX5_callOf_10 : decode cX5_callOf 10 = .ok (.getfield 27, 3) := by decide +kernel
theorem dX5_callOf_13 : decode cX5_callOf 13 = .ok (.iload_n 1, 1) := by decide +kernel
theorem dX5_callOf_14 : decode cX5_callOf 14 = .ok (.iaload, 1) := by decide +kernel
theorem dX5_callOf_15 : decode cX5_callOf 15 = .ok (.istore_n 2, 1) := by decide +kernel
theorem dX5_callOf_16 : decode cX5_callOf 16 = .ok (.iload_n 2, 1) := by decide +kernel
theorem dX5_callOf_17 : decode cX5_callOf 17 = .ok (.iconst 1, 1) := by decide +kernel
theorem dX5_callOf_18 : decode cX5_callOf 18 = .ok (.if_icmp .eq 8, 3) := by decide +kernel
theorem dX5_callOf_21 : decode cX5_callOf 21 = .ok (.iload_n 2, 1) := by decide +kernel
theorem dX5_callOf_22 : decode cX5_callOf 22 = .ok (.iconst 4, 1) := by decide +kernel
theorem dX5_callOf_23 : decode cX5_callOf 23 = .ok (.if_icmp .ne 13, 3) := by decide +kernel
theorem dX5_callOf_26 : decode cX5_callOf 26 = .ok (.aload_n 0, 1) := by decide +kernel
theorem dX5_callOf_27 : decode cX5_callOf 27 = .ok (.getfield 27, 3) := by decide +kernel
theorem dX5_callOf_30 : decode cX5_callOf 30 = .ok (.iload_n 1, 1) := by decide +kernel
theorem dX5_callOf_31 : decode cX5_callOf 31 = .ok (.iload_n 2, 1) := by decide +kernel
theorem dX5_callOf_32 : decode cX5_callOf 32 = .ok (.iconst 1, 1) := by decide +kernel
theorem dX5_callOf_33 : decode cX5_callOf 33 = .ok (.iadd, 1) := by decide +kernel
theorem dX5_callOf_34 : decode cX5_callOf 34 = .ok (.iastore, 1) := by decide +kernel
theorem dX5_callOf_35 : decode cX5_callOf 35 = .ok (.return_, 1) := by decide +kernel
theorem dX5_callOf_36 : decode cX5_callOf 36 = .ok (.iload_n 2, 1) := by decide +kernel
theorem dX5_callOf_37 : decode cX5_callOf 37 = .ok (.iconst 2, 1) := by decide +kernel
theorem dX5_callOf_38 : decode cX5_callOf 38 = .ok (.if_icmp .eq 8, 3) := by decide +kernel
theorem dX5_callOf_41 : decode cX5_callOf 41 = .ok (.iload_n 2, 1) := by decide +kernel
theorem dX5_callOf_42 : decode cX5_callOf 42 = .ok (.iconst 5, 1) := by decide +kernel
theorem dX5_callOf_43 : decode cX5_callOf 43 = .ok (.if_icmp .ne 13, 3) := by decide +kernel
theorem dX5_callOf_46 : decode cX5_callOf 46 = .ok (.aload_n 0, 1) := by decide +kernel
theorem dX5_callOf_47 : decode cX5_callOf 47 = .ok (.getfield 78, 3) := by decide +kernel
theorem dX5_callOf_50 : decode cX5_callOf 50 = .ok (.iload_n 1, 1) := by decide +kernel
theorem dX5_callOf_51 : decode cX5_callOf 51 = .ok (.iaload, 1) := by decide +kernel
theorem dX5_callOf_52 : decode cX5_callOf 52 = .ok (.iload_n 2, 1) := by decide +kernel
theorem dX5_callOf_53 : decode cX5_callOf 53 = .ok (.if_icmp .eq 4, 3) := by decide +kernel
theorem dX5_callOf_56 : decode cX5_callOf 56 = .ok (.return_, 1) := by decide +kernel
theorem dX5_callOf_57 : decode cX5_callOf 57 = .ok (.aload_n 0, 1) := by decide +kernel
theorem dX5_callOf_58 : decode cX5_callOf 58 = .ok (.aload_n 0, 1) := by decide +kernel
theorem dX5_callOf_59 : decode cX5_callOf 59 = .ok (.getfield 16, 3) := by decide +kernel
theorem dX5_callOf_62 : decode cX5_callOf 62 = .ok (.iload_n 1, 1) := by decide +kernel
theorem dX5_callOf_63 : decode cX5_callOf 63 = .ok (.laload, 1) := by decide +kernel
theorem dX5_callOf_64 : decode cX5_callOf 64 = .ok (.aload_n 0, 1) := by decide +kernel
theorem dX5_callOf_65 : decode cX5_callOf 65 = .ok (.getfield 103, 3) := by decide +kernel
theorem dX5_callOf_68 : decode cX5_callOf 68 = .ok (.i2l, 1) := by decide +kernel
theorem dX5_callOf_69 : decode cX5_callOf 69 = .ok (.invokevirtual 175, 3) := by decide +kernel
theorem dX5_callOf_72 : decode cX5_callOf 72 = .ok (.aload_n 0, 1) := by decide +kernel
theorem dX5_callOf_73 : decode cX5_callOf 73 = .ok (.aload_n 0, 1) := by decide +kernel
theorem dX5_callOf_74 : decode cX5_callOf 74 = .ok (.getfield 24, 3) := by decide +kernel
theorem dX5_callOf_77 : decode cX5_callOf 77 = .ok (.iload_n 1, 1) := by decide +kernel
theorem dX5_callOf_78 : decode cX5_callOf 78 = .ok (.laload, 1) := by decide +kernel
theorem dX5_callOf_79 : decode cX5_callOf 79 = .ok (.aload_n 0, 1) := by decide +kernel
theorem dX5_callOf_80 : decode cX5_callOf 80 = .ok (.getfield 103, 3) := by decide +kernel
theorem dX5_callOf_83 : decode cX5_callOf 83 = .ok (.i2l, 1) := by decide +kernel
theorem dX5_callOf_84 : decode cX5_callOf 84 = .ok (.invokevirtual 175, 3) := by decide +kernel
theorem dX5_callOf_87 : decode cX5_callOf 87 = .ok (.lcmp, 1) := by decide +kernel
theorem dX5_callOf_88 : decode cX5_callOf 88 = .ok (.ifCond .eq 11, 3) := by decide +kernel
theorem dX5_callOf_91 : decode cX5_callOf 91 = .ok (.aload_n 0, 1) := by decide +kernel
theorem dX5_callOf_92 : decode cX5_callOf 92 = .ok (.iload_n 1, 1) := by decide +kernel
theorem dX5_callOf_93 : decode cX5_callOf 93 = .ok (.invokevirtual 125, 3) := by decide +kernel
theorem dX5_callOf_96 : decode cX5_callOf 96 = .ok (.goto 83, 3) := by decide +kernel
theorem dX5_callOf_99 : decode cX5_callOf 99 = .ok (.iload_n 2, 1) := by decide +kernel
theorem dX5_callOf_100 : decode cX5_callOf 100 = .ok (.iconst 5, 1) := by decide +kernel
theorem dX5_callOf_101 : decode cX5_callOf 101 = .ok (.if_icmp .ne 14, 3) := by decide +kernel
theorem dX5_callOf_104 : decode cX5_callOf 104 = .ok (.aload_n 0, 1) := by decide +kernel
theorem dX5_callOf_105 : decode cX5_callOf 105 = .ok (.getfield 27, 3) := by decide +kernel
theorem dX5_callOf_108 : decode cX5_callOf 108 = .ok (.iload_n 1, 1) := by decide +kernel
theorem dX5_callOf_109 : decode cX5_callOf 109 = .ok (.bipush 6, 2) := by decide +kernel
theorem dX5_callOf_111 : decode cX5_callOf 111 = .ok (.iastore, 1) := by decide +kernel
theorem dX5_callOf_112 : decode cX5_callOf 112 = .ok (.goto 67, 3) := by decide +kernel
theorem dX5_callOf_115 : decode cX5_callOf 115 = .ok (.aload_n 0, 1) := by decide +kernel
theorem dX5_callOf_116 : decode cX5_callOf 116 = .ok (.getfield 30, 3) := by decide +kernel
theorem dX5_callOf_119 : decode cX5_callOf 119 = .ok (.iload_n 1, 1) := by decide +kernel
theorem dX5_callOf_120 : decode cX5_callOf 120 = .ok (.iaload, 1) := by decide +kernel
theorem dX5_callOf_121 : decode cX5_callOf 121 = .ok (.istore_n 3, 1) := by decide +kernel
theorem dX5_callOf_122 : decode cX5_callOf 122 = .ok (.aload_n 0, 1) := by decide +kernel
theorem dX5_callOf_123 : decode cX5_callOf 123 = .ok (.getfield 27, 3) := by decide +kernel
theorem dX5_callOf_126 : decode cX5_callOf 126 = .ok (.iload_n 1, 1) := by decide +kernel
theorem dX5_callOf_127 : decode cX5_callOf 127 = .ok (.iconst 3, 1) := by decide +kernel
theorem dX5_callOf_128 : decode cX5_callOf 128 = .ok (.iastore, 1) := by decide +kernel
theorem dX5_callOf_129 : decode cX5_callOf 129 = .ok (.aload_n 0, 1) := by decide +kernel
theorem dX5_callOf_130 : decode cX5_callOf 130 = .ok (.getfield 27, 3) := by decide +kernel
theorem dX5_callOf_133 : decode cX5_callOf 133 = .ok (.iload_n 3, 1) := by decide +kernel
theorem dX5_callOf_134 : decode cX5_callOf 134 = .ok (.iaload, 1) := by decide +kernel
theorem dX5_callOf_135 : decode cX5_callOf 135 = .ok (.ifCond .ne 39, 3) := by decide +kernel
theorem dX5_callOf_138 : decode cX5_callOf 138 = .ok (.aload_n 0, 1) := by decide +kernel
theorem dX5_callOf_139 : decode cX5_callOf 139 = .ok (.getfield 20, 3) := by decide +kernel
theorem dX5_callOf_142 : decode cX5_callOf 142 = .ok (.iload_n 3, 1) := by decide +kernel
theorem dX5_callOf_143 : decode cX5_callOf 143 = .ok (.baload, 1) := by decide +kernel
theorem dX5_callOf_144 : decode cX5_callOf 144 = .ok (.ifCond .eq 30, 3) := by decide +kernel
theorem dX5_callOf_147 : decode cX5_callOf 147 = .ok (.aload_n 0, 1) := by decide +kernel
theorem dX5_callOf_148 : decode cX5_callOf 148 = .ok (.getfield 27, 3) := by decide +kernel
theorem dX5_callOf_151 : decode cX5_callOf 151 = .ok (.iload_n 3, 1) := by decide +kernel
theorem dX5_callOf_152 : decode cX5_callOf 152 = .ok (.iconst 4, 1) := by decide +kernel
theorem dX5_callOf_153 : decode cX5_callOf 153 = .ok (.iastore, 1) := by decide +kernel
theorem dX5_callOf_154 : decode cX5_callOf 154 = .ok (.aload_n 0, 1) := by decide +kernel
theorem dX5_callOf_155 : decode cX5_callOf 155 = .ok (.getfield 30, 3) := by decide +kernel
theorem dX5_callOf_158 : decode cX5_callOf 158 = .ok (.iload_n 3, 1) := by decide +kernel
theorem dX5_callOf_159 : decode cX5_callOf 159 = .ok (.iload_n 1, 1) := by decide +kernel
theorem dX5_callOf_160 : decode cX5_callOf 160 = .ok (.iastore, 1) := by decide +kernel
theorem dX5_callOf_161 : decode cX5_callOf 161 = .ok (.aload_n 0, 1) := by decide +kernel
theorem dX5_callOf_162 : decode cX5_callOf 162 = .ok (.getfield 33, 3) := by decide +kernel
theorem dX5_callOf_165 : decode cX5_callOf 165 = .ok (.iload_n 3, 1) := by decide +kernel
theorem dX5_callOf_166 : decode cX5_callOf 166 = .ok (.aload_n 0, 1) := by decide +kernel
theorem dX5_callOf_167 : decode cX5_callOf 167 = .ok (.getfield 103, 3) := by decide +kernel
theorem dX5_callOf_170 : decode cX5_callOf 170 = .ok (.iastore, 1) := by decide +kernel
theorem dX5_callOf_171 : decode cX5_callOf 171 = .ok (.goto 8, 3) := by decide +kernel
theorem dX5_callOf_174 : decode cX5_callOf 174 = .ok (.aload_n 0, 1) := by decide +kernel
theorem dX5_callOf_175 : decode cX5_callOf 175 = .ok (.iload_n 1, 1) := by decide +kernel
theorem dX5_callOf_176 : decode cX5_callOf 176 = .ok (.invokevirtual 125, 3) := by decide +kernel
theorem dX5_callOf_179 : decode cX5_callOf 179 = .ok (.return_, 1) := by decide +kernel
end
section
theorem dX5_up_0 : decode cX5_up 0 = .ok (.aload_n 0, 1) := by decide +kernel
theorem dX5_up_1 : decode cX5_up 1 = .ok (.getfield 27, 3) := by decide +kernel
theorem dX5_up_4 : decode cX5_up 4 = .ok (.iload_n 1, 1) := by decide +kernel
theorem dX5_up_5 : decode cX5_up 5 = .ok (.iaload, 1) := by decide +kernel
theorem dX5_up_6 : decode cX5_up 6 = .ok (.bipush 7, 2) := by decide +kernel
theorem dX5_up_8 : decode cX5_up 8 = .ok (.if_icmp .ne 20, 3) := by decide +kernel
theorem dX5_up_11 : decode cX5_up 11 = .ok (.aload_n 0, 1) := by decide +kernel
theorem dX5_up_12 : decode cX5_up 12 = .ok (.iload_n 1, 1) := by decide +kernel
theorem dX5_up_13 : decode cX5_up 13 = .ok (.invokevirtual 172, 3) := by decide +kernel
theorem dX5_up_16 : decode cX5_up 16 = .ok (.ifCond .eq 12, 3) := by decide +kernel
theorem dX5_up_19 : decode cX5_up 19 = .ok (.aload_n 0, 1) := by decide +kernel
theorem dX5_up_20 : decode cX5_up 20 = .ok (.getfield 57, 3) := by decide +kernel
theorem dX5_up_23 : decode cX5_up 23 = .ok (.iload_n 1, 1) := by decide +kernel
theorem dX5_up_24 : decode cX5_up 24 = .ok (.iaload, 1) := by decide +kernel
theorem dX5_up_25 : decode cX5_up 25 = .ok (.ifCond .ne 4, 3) := by decide +kernel
theorem dX5_up_28 : decode cX5_up 28 = .ok (.return_, 1) := by decide +kernel
theorem dX5_up_29 : decode cX5_up 29 = .ok (.aload_n 0, 1) := by decide +kernel
theorem dX5_up_30 : decode cX5_up 30 = .ok (.getfield 30, 3) := by decide +kernel
theorem dX5_up_33 : decode cX5_up 33 = .ok (.iload_n 1, 1) := by decide +kernel
theorem dX5_up_34 : decode cX5_up 34 = .ok (.iaload, 1) := by decide +kernel
theorem dX5_up_35 : decode cX5_up 35 = .ok (.istore_n 2, 1) := by decide +kernel
theorem dX5_up_36 : decode cX5_up 36 = .ok (.aload_n 0, 1) := by decide +kernel
theorem dX5_up_37 : decode cX5_up 37 = .ok (.aload_n 0, 1) := by decide +kernel
theorem dX5_up_38 : decode cX5_up 38 = .ok (.getfield 60, 3) := by decide +kernel
theorem dX5_up_41 : decode cX5_up 41 = .ok (.bipush 8, 2) := by decide +kernel
theorem dX5_up_43 : decode cX5_up 43 = .ok (.iload_n 1, 1) := by decide +kernel
theorem dX5_up_44 : decode cX5_up 44 = .ok (.imul, 1) := by decide +kernel
theorem dX5_up_45 : decode cX5_up 45 = .ok (.laload, 1) := by decide +kernel
theorem dX5_up_46 : decode cX5_up 46 = .ok (.aload_n 0, 1) := by decide +kernel
theorem dX5_up_47 : decode cX5_up 47 = .ok (.aload_n 0, 1) := by decide +kernel
theorem dX5_up_48 : decode cX5_up 48 = .ok (.getfield 16, 3) := by decide +kernel
theorem dX5_up_51 : decode cX5_up 51 = .ok (.iload_n 1, 1) := by decide +kernel
theorem dX5_up_52 : decode cX5_up 52 = .ok (.laload, 1) := by decide +kernel
theorem dX5_up_53 : decode cX5_up 53 = .ok (.aload_n 0, 1) := by decide +kernel
theorem dX5_up_54 : decode cX5_up 54 = .ok (.getfield 103, 3) := by decide +kernel
theorem dX5_up_57 : decode cX5_up 57 = .ok (.i2l, 1) := by decide +kernel
theorem dX5_up_58 : decode cX5_up 58 = .ok (.invokevirtual 175, 3) := by decide +kernel
theorem dX5_up_61 : decode cX5_up 61 = .ok (.lxor, 1) := by decide +kernel
theorem dX5_up_62 : decode cX5_up 62 = .ok (.putfield 179, 3) := by decide +kernel
theorem dX5_up_65 : decode cX5_up 65 = .ok (.aload_n 0, 1) := by decide +kernel
theorem dX5_up_66 : decode cX5_up 66 = .ok (.getfield 57, 3) := by decide +kernel
theorem dX5_up_69 : decode cX5_up 69 = .ok (.iload_n 1, 1) := by decide +kernel
theorem dX5_up_70 : decode cX5_up 70 = .ok (.dup2, 1) := by decide +kernel
theorem dX5_up_71 : decode cX5_up 71 = .ok (.iaload, 1) := by decide +kernel
theorem dX5_up_72 : decode cX5_up 72 = .ok (.iconst 1, 1) := by decide +kernel
theorem dX5_up_73 : decode cX5_up 73 = .ok (.isub, 1) := by decide +kernel
theorem dX5_up_74 : decode cX5_up 74 = .ok (.iastore, 1) := by decide +kernel
theorem dX5_up_75 : decode cX5_up 75 = .ok (.iconst 0, 1) := by decide +kernel
theorem dX5_up_76 : decode cX5_up 76 = .ok (.istore_n 3, 1) := by decide +kernel
theorem dX5_up_77 : decode cX5_up 77 = .ok (.iload_n 3, 1) := by decide +kernel
theorem dX5_up_78 : decode cX5_up 78 = .ok (.aload_n 0, 1) := by decide +kernel
theorem dX5_up_79 : decode cX5_up 79 = .ok (.getfield 57, 3) := by decide +kernel
theorem dX5_up_82 : decode cX5_up 82 = .ok (.iload_n 1, 1) := by decide +kernel
theorem dX5_up_83 : decode cX5_up 83 = .ok (.iaload, 1) := by decide +kernel
theorem dX5_up_84 : decode cX5_up 84 = .ok (.if_icmp .ge 33, 3) := by decide +kernel
theorem dX5_up_87 : decode cX5_up 87 = .ok (.aload_n 0, 1) := by decide +kernel
theorem dX5_up_88 : decode cX5_up 88 = .ok (.getfield 60, 3) := by decide +kernel
theorem dX5_up_91 : decode cX5_up 91 = .ok (.bipush 8, 2) := by decide +kernel
theorem dX5_up_93 : decode cX5_up 93 = .ok (.iload_n 1, 1) := by decide +kernel
theorem dX5_up_94 : decode cX5_up 94 = .ok (.imul, 1) := by decide +kernel
theorem dX5_up_95 : decode cX5_up 95 = .ok (.iload_n 3, 1) := by decide +kernel
theorem dX5_up_96 : decode cX5_up 96 = .ok (.iadd, 1) := by decide +kernel
theorem dX5_up_97 : decode cX5_up 97 = .ok (.aload_n 0, 1) := by decide +kernel
theorem dX5_up_98 : decode cX5_up 98 = .ok (.getfield 60, 3) := by decide +kernel
theorem dX5_up_101 : decode cX5_up 101 = .ok (.bipush 8, 2) := by decide +kernel
theorem dX5_up_103 : decode cX5_up 103 = .ok (.iload_n 1, 1) := by decide +kernel
theorem dX5_up_104 : decode cX5_up 104 = .ok (.imul, 1) := by decide +kernel
theorem dX5_up_105 : decode cX5_up 105 = .ok (.iload_n 3, 1) := by decide +kernel
theorem dX5_up_106 : decode cX5_up 106 = .ok (.iadd, 1) := by decide +kernel
theorem dX5_up_107 : decode cX5_up 107 = .ok (.iconst 1, 1) := by decide +kernel
theorem dX5_up_108 : decode cX5_up 108 = .ok (.iadd, 1) := by decide +kernel
theorem dX5_up_109 : decode cX5_up 109 = .ok (.laload, 1) := by decide +kernel
theorem dX5_up_110 : decode cX5_up 110 = .ok (.lastore, 1) := by decide +kernel
theorem dX5_up_111 : decode cX5_up 111 = .ok (.iinc 3 1, 3) := by decide +kernel
theorem dX5_up_114 : decode cX5_up 114 = .ok (.goto (-37), 3) := by decide +kernel
theorem dX5_up_117 : decode cX5_up 117 = .ok (.aload_n 0, 1) := by decide +kernel
theorem dX5_up_118 : decode cX5_up 118 = .ok (.dup, 1) := by decide +kernel
theorem dX5_up_119 : decode cX5_up 119 = .ok (.getfield 183, 3) := by decide +kernel
theorem dX5_up_122 : decode cX5_up 122 = .ok (.iconst 1, 1) := by decide +kernel
theorem dX5_up_123 : decode cX5_up 123 = .ok (.iadd, 1) := by decide +kernel
theorem dX5_up_124 : decode cX5_up 124 = .ok (.putfield 183, 3) := by decide +kernel
theorem dX5_up_127 : decode cX5_up 127 = .ok (.aload_n 0, 1) := by decide +kernel
theorem dX5_up_128 : decode cX5_up 128 = .ok (.getfield 63, 3) := by decide +kernel
theorem dX5_up_131 : decode cX5_up 131 = .ok (.iload_n 2, 1) := by decide +kernel
theorem dX5_up_132 : decode cX5_up 132 = .ok (.iaload, 1) := by decide +kernel
theorem dX5_up_133 : decode cX5_up 133 = .ok (.bipush 16, 2) := by decide +kernel
theorem dX5_up_135 : decode cX5_up 135 = .ok (.if_icmp .ge 49, 3) := by decide +kernel
theorem dX5_up_138 : decode cX5_up 138 = .ok (.aload_n 0, 1) := by decide +kernel
theorem dX5_up_139 : decode cX5_up 139 = .ok (.getfield 66, 3) := by decide +kernel
theorem dX5_up_142 : decode cX5_up 142 = .ok (.bipush 16, 2) := by decide +kernel
theorem dX5_up_144 : decode cX5_up 144 = .ok (.iload_n 2, 1) := by decide +kernel
theorem dX5_up_145 : decode cX5_up 145 = .ok (.imul, 1) := by decide +kernel
theorem dX5_up_146 : decode cX5_up 146 = .ok (.aload_n 0, 1) := by decide +kernel
theorem dX5_up_147 : decode cX5_up 147 = .ok (.getfield 63, 3) := by decide +kernel
theorem dX5_up_150 : decode cX5_up 150 = .ok (.iload_n 2, 1) := by decide +kernel
theorem dX5_up_151 : decode cX5_up 151 = .ok (.iaload, 1) := by decide +kernel
theorem dX5_up_152 : decode cX5_up 152 = .ok (.iadd, 1) := by decide +kernel
theorem dX5_up_153 : decode cX5_up 153 = .ok (.aload_n 0, 1) := by decide +kernel
theorem dX5_up_154 : decode cX5_up 154 = .ok (.getfield 179, 3) := by decide +kernel
theorem dX5_up_157 : decode cX5_up 157 = .ok (.aload_n 0, 1) := by decide +kernel
theorem dX5_up_158 : decode cX5_up 158 = .ok (.aload_n 0, 1) := by decide +kernel
theorem dX5_up_159 : decode cX5_up 159 = .ok (.getfield 24, 3) := by decide +kernel
theorem dX5_up_162 : decode cX5_up 162 = .ok (.iload_n 1, 1) := by decide +kernel
theorem dX5_up_163 : decode cX5_up 163 = .ok (.laload, 1) := by decide +kernel
theorem dX5_up_164 : decode cX5_up 164 = .ok (.aload_n 0, 1) := by decide +kernel
theorem dX5_up_165 : decode cX5_up 165 = .ok (.getfield 103, 3) := by decide +kernel
theorem dX5_up_168 : decode cX5_up 168 = .ok (.i2l, 1) := by decide +kernel
theorem dX5_up_169 : decode cX5_up 169 = .ok (.invokevirtual 175, 3) := by decide +kernel
theorem dX5_up_172 : decode cX5_up 172 = .ok (.lxor, 1) := by decide +kernel
theorem dX5_up_173 : decode cX5_up 173 = .ok (.lastore, 1) := by decide +kernel
theorem dX5_up_174 : decode cX5_up 174 = .ok (.aload_n 0, 1) := by decide +kernel
theorem dX5_up_175 : decode cX5_up 175 = .ok (.getfield 63, 3) := by decide +kernel
theorem dX5_up_178 : decode cX5_up 178 = .ok (.iload_n 2, 1) := by decide +kernel
theorem dX5_up_179 : decode cX5_up 179 = .ok (.dup2, 1) := by decide +kernel
theorem dX5_up_180 : decode cX5_up 180 = .ok (.iaload, 1) := by decide +kernel
theorem dX5_up_181 : decode cX5_up 181 = .ok (.iconst 1, 1) := by decide +kernel
theorem dX5_up_182 : decode cX5_up 182 = .ok (.iadd, 1) := by decide +kernel
theorem dX5_up_183 : decode cX5_up 183 = .ok (.iastore, 1) := by decide +kernel
theorem dX5_up_184 : decode cX5_up 184 = .ok (.return_, 1) := by decide +kernel
theorem dX5_down_0 : decode cX5_down 0 = .ok (.aload_n 0, 1) := by decide +kernel
theorem dX5_down_1 : decode cX5_down 1 = .ok (.getfield 27, 3) := by decide +kernel
theorem dX5_down_4 : decode cX5_down 4 = .ok (.iload_n 1, 1) := by decide +kernel
theorem dX5_down_5 : decode cX5_down 5 = .ok (.iaload, 1) := by decide +kernel
theorem dX5_down_6 : decode cX5_down 6 = .ok (.bipush 7, 2) := by decide +kernel
theorem dX5_down_8 : decode cX5_down 8 = .ok (.if_icmp .ne 20, 3) := by decide +kernel
theorem dX5_down_11 : decode cX5_down 11 = .ok (.aload_n 0, 1) := by decide +kernel
theorem dX5_down_12 : decode cX5_down 12 = .ok (.iload_n 1, 1) := by decide +kernel
theorem dX5_down_13 : decode cX5_down 13 = .ok (.invokevirtual 172, 3) := by decide +kernel
theorem dX5_down_16 : decode cX5_down 16 = .ok (.ifCond .eq 12, 3) := by decide +kernel
theorem dX5_down_19 : decode cX5_down 19 = .ok (.aload_n 0, 1) := by decide +kernel
theorem dX5_down_20 : decode cX5_down 20 = .ok (.getfield 81, 3) := by decide +kernel
theorem dX5_down_23 : decode cX5_down 23 = .ok (.iload_n 1, 1) := by decide +kernel
theorem dX5_down_24 : decode cX5_down 24 = .ok (.iaload, 1) := by decide +kernel
theorem dX5_down_25 : decode cX5_down 25 = .ok (.ifCond .ne 5, 3) := by decide +kernel
theorem dX5_down_28 : decode cX5_down 28 = .ok (.iconst 0, 1) := by decide +kernel
theorem dX5_down_29 : decode cX5_down 29 = .ok (.ireturn, 1) := by decide +kernel
theorem dX5_down_30 : decode cX5_down 30 = .ok (.aload_n 0, 1) := by decide +kernel
theorem dX5_down_31 : decode cX5_down 31 = .ok (.aload_n 0, 1) := by decide +kernel
theorem dX5_down_32 : decode cX5_down 32 = .ok (.getfield 66, 3) := by decide +kernel
theorem dX5_down_35 : decode cX5_down 35 = .ok (.bipush 16, 2) := by decide +kernel
theorem dX5_down_37 : decode cX5_down 37 = .ok (.iload_n 1, 1) := by decide +kernel
theorem dX5_down_38 : decode cX5_down 38 = .ok (.imul, 1) := by decide +kernel
theorem dX5_down_39 : decode cX5_down 39 = .ok (.laload, 1) := by decide +kernel
theorem dX5_down_40 : decode cX5_down 40 = .ok (.aload_n 0, 1) := by decide +kernel
theorem dX5_down_41 : decode cX5_down 41 = .ok (.aload_n 0, 1) := by decide +kernel
theorem dX5_down_42 : decode cX5_down 42 = .ok (.getfield 24, 3) := by decide +kernel
theorem dX5_down_45 : decode cX5_down 45 = .ok (.iload_n 1, 1) := by decide +kernel
theorem dX5_down_46 : decode cX5_down 46 = .ok (.laload, 1) := by decide +kernel
theorem dX5_down_47 : decode cX5_down 47 = .ok (.aload_n 0, 1) := by decide +kernel
theorem dX5_down_48 : decode cX5_down 48 = .ok (.getfield 103, 3) := by decide +kernel
theorem dX5_down_51 : decode cX5_down 51 = .ok (.i2l, 1) := by decide +kernel
theorem dX5_down_52 : decode cX5_down 52 = .ok (.ldc2_w 186, 3) := by decide +kernel
theorem dX5_down_55 : decode cX5_down 55 = .ok (.ladd, 1) := by decide +kernel
theorem dX5_down_56 : decode cX5_down 56 = .ok (.invokevirtual 175, 3) := by decide +kernel
theorem dX5_down_59 : decode cX5_down 59 = .ok (.lxor, 1) := by decide +kernel
theorem dX5_down_60 : decode cX5_down 60 = .ok (.putfield 188, 3) := by decide +kernel
theorem dX5_down_63 : decode cX5_down 63 = .ok (.aload_n 0, 1) := by decide +kernel
theorem dX5_down_64 : decode cX5_down 64 = .ok (.getfield 63, 3) := by decide +kernel
theorem dX5_down_67 : decode cX5_down 67 = .ok (.iload_n 1, 1) := by decide +kernel
theorem dX5_down_68 : decode cX5_down 68 = .ok (.dup2, 1) := by decide +kernel
theorem dX5_down_69 : decode cX5_down 69 = .ok (.iaload, 1) := by decide +kernel
theorem dX5_down_70 : decode cX5_down 70 = .ok (.iconst 1, 1) := by decide +kernel
theorem dX5_down_71 : decode cX5_down 71 = .ok (.isub, 1) := by decide +kernel
theorem dX5_down_72 : decode cX5_down 72 = .ok (.iastore, 1) := by decide +kernel
theorem dX5_down_73 : decode cX5_down 73 = .ok (.iconst 0, 1) := by decide +kernel
theorem dX5_down_74 : decode cX5_down 74 = .ok (.istore_n 2, 1) := by decide +kernel
theorem dX5_down_75 : decode cX5_down 75 = .ok (.iload_n 2, 1) := by decide +kernel
theorem dX5_down_76 : decode cX5_down 76 = .ok (.aload_n 0, 1) := by decide +kernel
theorem dX5_down_77 : decode cX5_down 77 = .ok (.getfield 63, 3) := by decide +kernel
theorem dX5_down_80 : decode cX5_down 80 = .ok (.iload_n 1, 1) := by decide +kernel
theorem dX5_down_81 : decode cX5_down 81 = .ok (.iaload, 1) := by decide +kernel
theorem dX5_down_82 : decode cX5_down 82 = .ok (.if_icmp .ge 33, 3) := by decide +kernel
theorem dX5_down_85 : decode cX5_down 85 = .ok (.aload_n 0, 1) := by decide +kernel
theorem dX5_down_86 : decode cX5_down 86 = .ok (.getfield 66, 3) := by decide +kernel
theorem dX5_down_89 : decode cX5_down 89 = .ok (.bipush 16, 2) := by decide +kernel
theorem dX5_down_91 : decode cX5_down 91 = .ok (.iload_n 1, 1) := by decide +kernel
theorem dX5_down_92 : decode cX5_down 92 = .ok (.imul, 1) := by decide +kernel
theorem dX5_down_93 : decode cX5_down 93 = .ok (.iload_n 2, 1) := by decide +kernel
theorem dX5_down_94 : decode cX5_down 94 = .ok (.iadd, 1) := by decide +kernel
theorem dX5_down_95 : decode cX5_down 95 = .ok (.aload_n 0, 1) := by decide +kernel
theorem dX5_down_96 : decode cX5_down 96 = .ok (.getfield 66, 3) := by decide +kernel
theorem dX5_down_99 : decode cX5_down 99 = .ok (.bipush 16, 2) := by decide +kernel
theorem dX5_down_101 : decode cX5_down 101 = .ok (.iload_n 1, 1) := by decide +kernel
theorem dX5_down_102 : decode cX5_down 102 = .ok (.imul, 1) := by decide +kernel
theorem dX5_down_103 : decode cX5_down 103 = .ok (.iload_n 2, 1) := by decide +kernel
theorem dX5_down_104 : decode cX5_down 104 = .ok (.iadd, 1) := by decide +kernel
theorem dX5_down_105 : decode cX5_down 105 = .ok (.iconst 1, 1) := by decide +kernel
theorem dX5_down_106 : decode cX5_down 106 = .ok (.iadd, 1) := by decide +kernel
theorem dX5_down_107 : decode cX5_down 107 = .ok (.laload, 1) := by decide +kernel
theorem dX5_down_108 : decode cX5_down 108 = .ok (.lastore, 1) := by decide +kernel
theorem dX5_down_109 : decode cX5_down 109 = .ok (.iinc 2 1, 3) := by decide +kernel
theorem dX5_down_112 : decode cX5_down 112 = .ok (.goto (-37), 3) := by decide +kernel
theorem dX5_down_115 : decode cX5_down 115 = .ok (.aload_n 0, 1) := by decide +kernel
theorem dX5_down_116 : decode cX5_down 116 = .ok (.getfield 69, 3) := by decide +kernel
theorem dX5_down_119 : decode cX5_down 119 = .ok (.iload_n 1, 1) := by decide +kernel
theorem dX5_down_120 : decode cX5_down 120 = .ok (.iaload, 1) := by decide +kernel
theorem dX5_down_121 : decode cX5_down 121 = .ok (.bipush 20, 2) := by decide +kernel
theorem dX5_down_123 : decode cX5_down 123 = .ok (.if_icmp .ge 12, 3) := by decide +kernel
theorem dX5_down_126 : decode cX5_down 126 = .ok (.aload_n 0, 1) := by decide +kernel
theorem dX5_down_127 : decode cX5_down 127 = .ok (.getfield 69, 3) := by decide +kernel
theorem dX5_down_130 : decode cX5_down 130 = .ok (.iload_n 1, 1) := by decide +kernel
theorem dX5_down_131 : decode cX5_down 131 = .ok (.iaload, 1) := by decide +kernel
theorem dX5_down_132 : decode cX5_down 132 = .ok (.goto 5, 3) := by decide +kernel
theorem dX5_down_135 : decode cX5_down 135 = .ok (.bipush 19, 2) := by decide +kernel
theorem dX5_down_137 : decode cX5_down 137 = .ok (.istore_n 2, 1) := by decide +kernel
theorem dX5_down_138 : decode cX5_down 138 = .ok (.iconst 0, 1) := by decide +kernel
theorem dX5_down_139 : decode cX5_down 139 = .ok (.istore_n 3, 1) := by decide +kernel
theorem dX5_down_140 : decode cX5_down 140 = .ok (.iload_n 3, 1) := by decide +kernel
theorem dX5_down_141 : decode cX5_down 141 = .ok (.bipush 19, 2) := by decide +kernel
theorem dX5_down_143 : decode cX5_down 143 = .ok (.if_icmp .ge 44, 3) := by decide +kernel
theorem dX5_down_146 : decode cX5_down 146 = .ok (.aload_n 0, 1) := by decide +kernel
theorem dX5_down_147 : decode cX5_down 147 = .ok (.getfield 69, 3) := by decide +kernel
theorem dX5_down_150 : decode cX5_down 150 = .ok (.iload_n 1, 1) := by decide +kernel
theorem dX5_down_151 : decode cX5_down 151 = .ok (.iaload, 1) := by decide +kernel
theorem dX5_down_152 : decode cX5_down 152 = .ok (.bipush 20, 2) := by decide +kernel
theorem dX5_down_154 : decode cX5_down 154 = .ok (.if_icmp .lt 33, 3) := by decide +kernel
theorem dX5_down_157 : decode cX5_down 157 = .ok (.aload_n 0, 1) := by decide +kernel
theorem dX5_down_158 : decode cX5_down 158 = .ok (.getfield 72, 3) := by decide +kernel
theorem dX5_down_161 : decode cX5_down 161 = .ok (.bipush 20, 2) := by decide +kernel
theorem dX5_down_163 : decode cX5_down 163 = .ok (.iload_n 1, 1) := by decide +kernel
theorem dX5_down_164 : decode cX5_down 164 = .ok (.imul, 1) := by decide +kernel
theorem dX5_down_165 : decode cX5_down 165 = .ok (.iload_n 3, 1) := by decide +kernel
theorem dX5_down_166 : decode cX5_down 166 = .ok (.iadd, 1) := by decide +kernel
theorem dX5_down_167 : decode cX5_down 167 = .ok (.aload_n 0, 1) := by decide +kernel
theorem dX5_down_168 : decode cX5_down 168 = .ok (.getfield 72, 3) := by decide +kernel
theorem dX5_down_171 : decode cX5_down 171 = .ok (.bipush 20, 2) := by decide +kernel
theorem dX5_down_173 : decode cX5_down 173 = .ok (.iload_n 1, 1) := by decide +kernel
theorem dX5_down_174 : decode cX5_down 174 = .ok (.imul, 1) := by decide +kernel
theorem dX5_down_175 : decode cX5_down 175 = .ok (.iload_n 3, 1) := by decide +kernel
theorem dX5_down_176 : decode cX5_down 176 = .ok (.iadd, 1) := by decide +kernel
theorem dX5_down_177 : decode cX5_down 177 = .ok (.iconst 1, 1) := by decide +kernel
theorem dX5_down_178 : decode cX5_down 178 = .ok (.iadd, 1) := by decide +kernel
theorem dX5_down_179 : decode cX5_down 179 = .ok (.laload, 1) := by decide +kernel
theorem dX5_down_180 : decode cX5_down 180 = .ok (.lastore, 1) := by decide +kernel
theorem dX5_down_181 : decode cX5_down 181 = .ok (.iinc 3 1, 3) := by decide +kernel
theorem dX5_down_184 : decode cX5_down 184 = .ok (.goto (-44), 3) := by decide +kernel
theorem dX5_down_187 : decode cX5_down 187 = .ok (.aload_n 0, 1) := by decide +kernel
theorem dX5_down_188 : decode cX5_down 188 = .ok (.getfield 72, 3) := by decide +kernel
theorem dX5_down_191 : decode cX5_down 191 = .ok (.bipush 20, 2) := by decide +kernel
theorem dX5_down_193 : decode cX5_down 193 = .ok (.iload_n 1, 1) := by decide +kernel
theorem dX5_down_194 : decode cX5_down 194 = .ok (.imul, 1) := by decide +kernel
theorem dX5_down_195 : decode cX5_down 195 = .ok (.iload_n 2, 1) := by decide +kernel
theorem dX5_down_196 : decode cX5_down 196 = .ok (.iadd, 1) := by decide +kernel
theorem dX5_down_197 : decode cX5_down 197 = .ok (.aload_n 0, 1) := by decide +kernel
theorem dX5_down_198 : decode cX5_down 198 = .ok (.getfield 188, 3) := by decide +kernel
theorem dX5_down_201 : decode cX5_down 201 = .ok (.aload_n 0, 1) := by decide +kernel
theorem dX5_down_202 : decode cX5_down 202 = .ok (.aload_n 0, 1) := by decide +kernel
theorem dX5_down_203 : decode cX5_down 203 = .ok (.getfield 16, 3) := by decide +kernel
theorem dX5_down_206 : decode cX5_down 206 = .ok (.iload_n 1, 1) := by decide +kernel
theorem dX5_down_207 : decode cX5_down 207 = .ok (.laload, 1) := by decide +kernel
theorem dX5_down_208 : decode cX5_down 208 = .ok (.aload_n 0, 1) := by decide +kernel
theorem dX5_down_209 : decode cX5_down 209 = .ok (.getfield 103, 3) := by decide +kernel
theorem dX5_down_212 : decode cX5_down 212 = .ok (.i2l, 1) := by decide +kernel
theorem dX5_down_213 : decode cX5_down 213 = .ok (.ldc2_w 186, 3) := by decide +kernel
theorem dX5_down_216 : decode cX5_down 216 = .ok (.ladd, 1) := by decide +kernel
theorem dX5_down_217 : decode cX5_down 217 = .ok (.invokevirtual 175, 3) := by decide +kernel
theorem dX5_down_220 : decode cX5_down 220 = .ok (.lxor, 1) := by decide +kernel
theorem dX5_down_221 : decode cX5_down 221 = .ok (.lastore, 1) := by decide +kernel
theorem dX5_down_222 : decode cX5_down 222 = .ok (.aload_n 0, 1) := by decide +kernel
theorem dX5_down_223 : decode cX5_down 223 = .ok (.getfield 69, 3) := by decide +kernel
theorem dX5_down_226 : decode cX5_down 226 = .ok (.iload_n 1, 1) := by decide +kernel
theorem dX5_down_227 : decode cX5_down 227 = .ok (.dup2, 1) := by decide +kernel
theorem dX5_down_228 : decode cX5_down 228 = .ok (.iaload, 1) := by decide +kernel
theorem dX5_down_229 : decode cX5_down 229 = .ok (.iconst 1, 1) := by decide +kernel
theorem dX5_down_230 : decode cX5_down 230 = .ok (.iadd, 1) := by decide +kernel
theorem dX5_down_231 : decode cX5_down 231 = .ok (.iastore, 1) := by decide +kernel
theorem dX5_down_232 : decode cX5_down 232 = .ok (.iconst 1, 1) := by decide +kernel
theorem dX5_down_233 : decode cX5_down 233 = .ok (.ireturn, 1) := by decide +kernel
theorem dX5_frame_0 : decode cX5_frame 0 = .ok (.aload_n 0, 1) := by decide +kernel
theorem dX5_frame_1 : decode cX5_frame 1 = .ok (.dup, 1) := by decide +kernel
theorem dX5_frame_2 : decode cX5_frame 2 = .ok (.getfield 103, 3) := by decide +kernel
theorem dX5_frame_5 : decode cX5_frame 5 = .ok (.iconst 1, 1) := by decide +kernel
theorem dX5_frame_6 : decode cX5_frame 6 = .ok (.iadd, 1) := by decide +kernel
theorem dX5_frame_7 : decode cX5_frame 7 = .ok (.putfield 103, 3) := by decide +kernel
theorem dX5_frame_10 : decode cX5_frame 10 = .ok (.iconst 0, 1) := by decide +kernel
theorem dX5_frame_11 : decode cX5_frame 11 = .ok (.istore_n 1, 1) := by decide +kernel
theorem dX5_frame_12 : decode cX5_frame 12 = .ok (.iload_n 1, 1) := by decide +kernel
theorem dX5_frame_13 : decode cX5_frame 13 = .ok (.aload_n 0, 1) := by decide +kernel
theorem dX5_frame_14 : decode cX5_frame 14 = .ok (.getfield 92, 3) := by decide +kernel
theorem dX5_frame_17 : decode cX5_frame 17 = .ok (.if_icmp .ge 33, 3) := by decide +kernel
theorem dX5_frame_20 : decode cX5_frame 20 = .ok (.aload_n 0, 1) := by decide +kernel
theorem dX5_frame_21 : decode cX5_frame 21 = .ok (.getfield 78, 3) := by decide +kernel
theorem dX5_frame_24 : decode cX5_frame 24 = .ok (.iload_n 1, 1) := by decide +kernel
theorem dX5_frame_25 : decode cX5_frame 25 = .ok (.aload_n 0, 1) := by decide +kernel
theorem dX5_frame_26 : decode cX5_frame 26 = .ok (.getfield 27, 3) := by decide +kernel
theorem dX5_frame_29 : decode cX5_frame 29 = .ok (.iload_n 1, 1) := by decide +kernel
theorem dX5_frame_30 : decode cX5_frame 30 = .ok (.iaload, 1) := by decide +kernel
theorem dX5_frame_31 : decode cX5_frame 31 = .ok (.iastore, 1) := by decide +kernel
theorem dX5_frame_32 : decode cX5_frame 32 = .ok (.aload_n 0, 1) := by decide +kernel
theorem dX5_frame_33 : decode cX5_frame 33 = .ok (.getfield 81, 3) := by decide +kernel
theorem dX5_frame_36 : decode cX5_frame 36 = .ok (.iload_n 1, 1) := by decide +kernel
theorem dX5_frame_37 : decode cX5_frame 37 = .ok (.aload_n 0, 1) := by decide +kernel
theorem dX5_frame_38 : decode cX5_frame 38 = .ok (.getfield 63, 3) := by decide +kernel
theorem dX5_frame_41 : decode cX5_frame 41 = .ok (.iload_n 1, 1) := by decide +kernel
theorem dX5_frame_42 : decode cX5_frame 42 = .ok (.iaload, 1) := by decide +kernel
theorem dX5_frame_43 : decode cX5_frame 43 = .ok (.iastore, 1) := by decide +kernel
theorem dX5_frame_44 : decode cX5_frame 44 = .ok (.iinc 1 1, 3) := by decide +kernel
theorem dX5_frame_47 : decode cX5_frame 47 = .ok (.goto (-35), 3) := by decide +kernel
theorem dX5_frame_50 : decode cX5_frame 50 = .ok (.iconst 0, 1) := by decide +kernel
theorem dX5_frame_51 : decode cX5_frame 51 = .ok (.istore_n 1, 1) := by decide +kernel
theorem dX5_frame_52 : decode cX5_frame 52 = .ok (.iload_n 1, 1) := by decide +kernel
theorem dX5_frame_53 : decode cX5_frame 53 = .ok (.aload_n 0, 1) := by decide +kernel
theorem dX5_frame_54 : decode cX5_frame 54 = .ok (.getfield 92, 3) := by decide +kernel
theorem dX5_frame_57 : decode cX5_frame 57 = .ok (.if_icmp .ge 14, 3) := by decide +kernel
theorem dX5_frame_60 : decode cX5_frame 60 = .ok (.aload_n 0, 1) := by decide +kernel
theorem dX5_frame_61 : decode cX5_frame 61 = .ok (.iload_n 1, 1) := by decide +kernel
theorem dX5_frame_62 : decode cX5_frame 62 = .ok (.invokevirtual 191, 3) := by decide +kernel
theorem dX5_frame_65 : decode cX5_frame 65 = .ok (.iinc 1 1, 3) := by decide +kernel
theorem dX5_frame_68 : decode cX5_frame 68 = .ok (.goto (-16), 3) := by decide +kernel
theorem dX5_frame_71 : decode cX5_frame 71 = .ok (.aload_n 0, 1) := by decide +kernel
theorem dX5_frame_72 : decode cX5_frame 72 = .ok (.invokevirtual 194, 3) := by decide +kernel
theorem dX5_frame_75 : decode cX5_frame 75 = .ok (.aload_n 0, 1) := by decide +kernel
theorem dX5_frame_76 : decode cX5_frame 76 = .ok (.invokevirtual 197, 3) := by decide +kernel
theorem dX5_frame_79 : decode cX5_frame 79 = .ok (.iconst 0, 1) := by decide +kernel
theorem dX5_frame_80 : decode cX5_frame 80 = .ok (.istore_n 1, 1) := by decide +kernel
theorem dX5_frame_81 : decode cX5_frame 81 = .ok (.iload_n 1, 1) := by decide +kernel
theorem dX5_frame_82 : decode cX5_frame 82 = .ok (.aload_n 0, 1) := by decide +kernel
theorem dX5_frame_83 : decode cX5_frame 83 = .ok (.getfield 92, 3) := by decide +kernel
theorem dX5_frame_86 : decode cX5_frame 86 = .ok (.if_icmp .ge 14, 3) := by decide +kernel
theorem dX5_frame_89 : decode cX5_frame 89 = .ok (.aload_n 0, 1) := by decide +kernel
theorem dX5_frame_90 : decode cX5_frame 90 = .ok (.iload_n 1, 1) := by decide +kernel
theorem dX5_frame_91 : decode cX5_frame 91 = .ok (.invokevirtual 200, 3) := by decide +kernel
theorem dX5_frame_94 : decode cX5_frame 94 = .ok (.iinc 1 1, 3) := by decide +kernel
theorem dX5_frame_97 : decode cX5_frame 97 = .ok (.goto (-16), 3) := by decide +kernel
theorem dX5_frame_100 : decode cX5_frame 100 = .ok (.iconst 0, 1) := by decide +kernel
theorem dX5_frame_101 : decode cX5_frame 101 = .ok (.istore_n 1, 1) := by decide +kernel
theorem dX5_frame_102 : decode cX5_frame 102 = .ok (.iload_n 1, 1) := by decide +kernel
theorem dX5_frame_103 : decode cX5_frame 103 = .ok (.aload_n 0, 1) := by decide +kernel
theorem dX5_frame_104 : decode cX5_frame 104 = .ok (.getfield 92, 3) := by decide +kernel
theorem dX5_frame_107 : decode cX5_frame 107 = .ok (.if_icmp .ge 14, 3) := by decide +kernel
theorem dX5_frame_110 : decode cX5_frame 110 = .ok (.aload_n 0, 1) := by decide +kernel
theorem dX5_frame_111 : decode cX5_frame 111 = .ok (.iload_n 1, 1) := by decide +kernel
theorem dX5_frame_112 : decode cX5_frame 112 = .ok (.invokevirtual 203, 3) := by decide +kernel
theorem dX5_frame_115 : decode cX5_frame 115 = .ok (.iinc 1 1, 3) := by decide +kernel
theorem dX5_frame_118 : decode cX5_frame 118 = .ok (.goto (-16), 3) := by decide +kernel
theorem dX5_frame_121 : decode cX5_frame 121 = .ok (.iconst 0, 1) := by decide +kernel
theorem dX5_frame_122 : decode cX5_frame 122 = .ok (.istore_n 1, 1) := by decide +kernel
theorem dX5_frame_123 : decode cX5_frame 123 = .ok (.iconst 0, 1) := by decide +kernel
theorem dX5_frame_124 : decode cX5_frame 124 = .ok (.istore_n 2, 1) := by decide +kernel
theorem dX5_frame_125 : decode cX5_frame 125 = .ok (.iload_n 2, 1) := by decide +kernel
theorem dX5_frame_126 : decode cX5_frame 126 = .ok (.aload_n 0, 1) := by decide +kernel
theorem dX5_frame_127 : decode cX5_frame 127 = .ok (.getfield 92, 3) := by decide +kernel
theorem dX5_frame_130 : decode cX5_frame 130 = .ok (.if_icmp .ge 17, 3) := by decide +kernel
theorem dX5_frame_133 : decode cX5_frame 133 = .ok (.iload_n 1, 1) := by decide +kernel
theorem dX5_frame_134 : decode cX5_frame 134 = .ok (.aload_n 0, 1) := by decide +kernel
theorem dX5_frame_135 : decode cX5_frame 135 = .ok (.iload_n 2, 1) := by decide +kernel
theorem dX5_frame_136 : decode cX5_frame 136 = .ok (.invokevirtual 206, 3) := by decide +kernel
theorem dX5_frame_139 : decode cX5_frame 139 = .ok (.iadd, 1) := by decide +kernel
theorem dX5_frame_140 : decode cX5_frame 140 = .ok (.istore_n 1, 1) := by decide +kernel
theorem dX5_frame_141 : decode cX5_frame 141 = .ok (.iinc 2 1, 3) := by decide +kernel
theorem dX5_frame_144 : decode cX5_frame 144 = .ok (.goto (-19), 3) := by decide +kernel
theorem dX5_frame_147 : decode cX5_frame 147 = .ok (.iconst 0, 1) := by decide +kernel
theorem dX5_frame_148 : decode cX5_frame 148 = .ok (.istore_n 2, 1) := by decide +kernel
theorem dX5_frame_149 : decode cX5_frame 149 = .ok (.iload_n 2, 1) := by decide +kernel
theorem dX5_frame_150 : decode cX5_frame 150 = .ok (.aload_n 0, 1) := by decide +kernel
theorem dX5_frame_151 : decode cX5_frame 151 = .ok (.getfield 92, 3) := by decide +kernel
theorem dX5_frame_154 : decode cX5_frame 154 = .ok (.if_icmp .ge 46, 3) := by decide +kernel
theorem dX5_frame_157 : decode cX5_frame 157 = .ok (.aload_n 0, 1) := by decide +kernel
theorem dX5_frame_158 : decode cX5_frame 158 = .ok (.getfield 27, 3) := by decide +kernel
theorem dX5_frame_161 : decode cX5_frame 161 = .ok (.iload_n 2, 1) := by decide +kernel
theorem dX5_frame_162 : decode cX5_frame 162 = .ok (.iaload, 1) := by decide +kernel
theorem dX5_frame_163 : decode cX5_frame 163 = .ok (.iconst 1, 1) := by decide +kernel
theorem dX5_frame_164 : decode cX5_frame 164 = .ok (.bipush 6, 2) := by decide +kernel
theorem dX5_frame_166 : decode cX5_frame 166 = .ok (.invokestatic 88, 3) := by decide +kernel
theorem dX5_frame_169 : decode cX5_frame 169 = .ok (.ifCond .eq 25, 3) := by decide +kernel
theorem dX5_frame_172 : decode cX5_frame 172 = .ok (.aload_n 0, 1) := by decide +kernel
theorem dX5_frame_173 : decode cX5_frame 173 = .ok (.getfield 103, 3) := by decide +kernel
theorem dX5_frame_176 : decode cX5_frame 176 = .ok (.aload_n 0, 1) := by decide +kernel
theorem dX5_frame_177 : decode cX5_frame 177 = .ok (.getfield 33, 3) := by decide +kernel
theorem dX5_frame_180 : decode cX5_frame 180 = .ok (.iload_n 2, 1) := by decide +kernel
theorem dX5_frame_181 : decode cX5_frame 181 = .ok (.iaload, 1) := by decide +kernel
theorem dX5_frame_182 : decode cX5_frame 182 = .ok (.isub, 1) := by decide +kernel
theorem dX5_frame_183 : decode cX5_frame 183 = .ok (.sipush 200, 3) := by decide +kernel
theorem dX5_frame_186 : decode cX5_frame 186 = .ok (.if_icmp .le 8, 3) := by decide +kernel
theorem dX5_frame_189 : decode cX5_frame 189 = .ok (.aload_n 0, 1) := by decide +kernel
theorem dX5_frame_190 : decode cX5_frame 190 = .ok (.iload_n 2, 1) := by decide +kernel
theorem dX5_frame_191 : decode cX5_frame 191 = .ok (.invokevirtual 125, 3) := by decide +kernel
theorem dX5_frame_194 : decode cX5_frame 194 = .ok (.iinc 2 1, 3) := by decide +kernel
theorem dX5_frame_197 : decode cX5_frame 197 = .ok (.goto (-48), 3) := by decide +kernel
theorem dX5_frame_200 : decode cX5_frame 200 = .ok (.iload_n 1, 1) := by decide +kernel
theorem dX5_frame_201 : decode cX5_frame 201 = .ok (.ireturn, 1) := by decide +kernel
theorem dX5_frames_0 : decode cX5_frames 0 = .ok (.iload_n 1, 1) := by decide +kernel
theorem dX5_frames_1 : decode cX5_frames 1 = .ok (.iconst 1, 1) := by decide +kernel
theorem dX5_frames_2 : decode cX5_frames 2 = .ok (.if_icmp .ge 10, 3) := by decide +kernel
theorem dX5_frames_5 : decode cX5_frames 5 = .ok (.aload_n 0, 1) := by decide +kernel
theorem dX5_frames_6 : decode cX5_frames 6 = .ok (.bipush (-4), 2) := by decide +kernel
theorem dX5_frames_8 : decode cX5_frames 8 = .ok (.invokevirtual 95, 3) := by decide +kernel
theorem dX5_frames_11 : decode cX5_frames 11 = .ok (.ireturn, 1) := by decide +kernel
theorem dX5_frames_12 : decode cX5_frames 12 = .ok (.iload_n 1, 1) := by decide +kernel
theorem dX5_frames_13 : decode cX5_frames 13 = .ok (.sipush 1000, 3) := by decide +kernel
theorem dX5_frames_16 : decode cX5_frames 16 = .ok (.if_icmp .gt 14, 3) := by decide +kernel
theorem dX5_frames_19 : decode cX5_frames 19 = .ok (.aload_n 0, 1) := by decide +kernel
theorem dX5_frames_20 : decode cX5_frames 20 = .ok (.getfield 103, 3) := by decide +kernel
theorem dX5_frames_23 : decode cX5_frames 23 = .ok (.iload_n 1, 1) := by decide +kernel
theorem dX5_frames_24 : decode cX5_frames 24 = .ok (.iadd, 1) := by decide +kernel
theorem dX5_frames_25 : decode cX5_frames 25 = .ok (.ldc 209, 2) := by decide +kernel
theorem dX5_frames_27 : decode cX5_frames 27 = .ok (.if_icmp .le 10, 3) := by decide +kernel
theorem dX5_frames_30 : decode cX5_frames 30 = .ok (.aload_n 0, 1) := by decide +kernel
theorem dX5_frames_31 : decode cX5_frames 31 = .ok (.bipush (-6), 2) := by decide +kernel
theorem dX5_frames_33 : decode cX5_frames 33 = .ok (.invokevirtual 95, 3) := by decide +kernel
theorem dX5_frames_36 : decode cX5_frames 36 = .ok (.ireturn, 1) := by decide +kernel
theorem dX5_frames_37 : decode cX5_frames 37 = .ok (.iconst 0, 1) := by decide +kernel
theorem dX5_frames_38 : decode cX5_frames 38 = .ok (.istore_n 2, 1) := by decide +kernel
theorem dX5_frames_39 : decode cX5_frames 39 = .ok (.iconst 0, 1) := by decide +kernel
theorem dX5_frames_40 : decode cX5_frames 40 = .ok (.istore_n 3, 1) := by decide +kernel
theorem dX5_frames_41 : decode cX5_frames 41 = .ok (.iload_n 3, 1) := by decide +kernel
theorem dX5_frames_42 : decode cX5_frames 42 = .ok (.iload_n 1, 1) := by decide +kernel
theorem dX5_frames_43 : decode cX5_frames 43 = .ok (.if_icmp .ge 16, 3) := by decide +kernel
theorem dX5_frames_46 : decode cX5_frames 46 = .ok (.iload_n 2, 1) := by decide +kernel
theorem dX5_frames_47 : decode cX5_frames 47 = .ok (.aload_n 0, 1) := by decide +kernel
theorem dX5_frames_48 : decode cX5_frames 48 = .ok (.invokevirtual 210, 3) := by decide +kernel
theorem dX5_frames_51 : decode cX5_frames 51 = .ok (.iadd, 1) := by decide +kernel
theorem dX5_frames_52 : decode cX5_frames 52 = .ok (.istore_n 2, 1) := by decide +kernel
theorem dX5_frames_53 : decode cX5_frames 53 = .ok (.iinc 3 1, 3) := by decide +kernel
theorem dX5_frames_56 : decode cX5_frames 56 = .ok (.goto (-15), 3) := by decide +kernel
theorem dX5_frames_59 : decode cX5_frames 59 = .ok (.iload_n 2, 1) := by decide +kernel
theorem dX5_frames_60 : decode cX5_frames 60 = .ok (.ireturn, 1) := by decide +kernel
theorem dX5_heard_0 : decode cX5_heard 0 = .ok (.aload_n 0, 1) := by decide +kernel
theorem dX5_heard_1 : decode cX5_heard 1 = .ok (.iload_n 1, 1) := by decide +kernel
theorem dX5_heard_2 : decode cX5_heard 2 = .ok (.invokevirtual 99, 3) := by decide +kernel
theorem dX5_heard_5 : decode cX5_heard 5 = .ok (.ifCond .eq 49, 3) := by decide +kernel
theorem dX5_heard_8 : decode cX5_heard 8 = .ok (.iload_n 2, 1) := by decide +kernel
theorem dX5_heard_9 : decode cX5_heard 9 = .ok (.iconst 0, 1) := by decide +kernel
theorem dX5_heard_10 : decode cX5_heard 10 = .ok (.aload_n 0, 1) := by decide +kernel
theorem dX5_heard_11 : decode cX5_heard 11 = .ok (.getfield 69, 3) := by decide +kernel
theorem dX5_heard_14 : decode cX5_heard 14 = .ok (.iload_n 1, 1) := by decide +kernel
theorem dX5_heard_15 : decode cX5_heard 15 = .ok (.iaload, 1) := by decide +kernel
theorem dX5_heard_16 : decode cX5_heard 16 = .ok (.bipush 20, 2) := by decide +kernel
theorem dX5_heard_18 : decode cX5_heard 18 = .ok (.if_icmp .ge 12, 3) := by decide +kernel
theorem dX5_heard_21 : decode cX5_heard 21 = .ok (.aload_n 0, 1) := by decide +kernel
theorem dX5_heard_22 : decode cX5_heard 22 = .ok (.getfield 69, 3) := by decide +kernel
theorem dX5_heard_25 : decode cX5_heard 25 = .ok (.iload_n 1, 1) := by decide +kernel
theorem dX5_heard_26 : decode cX5_heard 26 = .ok (.iaload, 1) := by decide +kernel
theorem dX5_heard_27 : decode cX5_heard 27 = .ok (.goto 5, 3) := by decide +kernel
theorem dX5_heard_30 : decode cX5_heard 30 = .ok (.bipush 20, 2) := by decide +kernel
theorem dX5_heard_32 : decode cX5_heard 32 = .ok (.iconst 1, 1) := by decide +kernel
theorem dX5_heard_33 : decode cX5_heard 33 = .ok (.isub, 1) := by decide +kernel
theorem dX5_heard_34 : decode cX5_heard 34 = .ok (.invokestatic 88, 3) := by decide +kernel
theorem dX5_heard_37 : decode cX5_heard 37 = .ok (.ifCond .eq 17, 3) := by decide +kernel
theorem dX5_heard_40 : decode cX5_heard 40 = .ok (.aload_n 0, 1) := by decide +kernel
theorem dX5_heard_41 : decode cX5_heard 41 = .ok (.getfield 72, 3) := by decide +kernel
theorem dX5_heard_44 : decode cX5_heard 44 = .ok (.bipush 20, 2) := by decide +kernel
theorem dX5_heard_46 : decode cX5_heard 46 = .ok (.iload_n 1, 1) := by decide +kernel
theorem dX5_heard_47 : decode cX5_heard 47 = .ok (.imul, 1) := by decide +kernel
theorem dX5_heard_48 : decode cX5_heard 48 = .ok (.iload_n 2, 1) := by decide +kernel
theorem dX5_heard_49 : decode cX5_heard 49 = .ok (.iadd, 1) := by decide +kernel
theorem dX5_heard_50 : decode cX5_heard 50 = .ok (.laload, 1) := by decide +kernel
theorem dX5_heard_51 : decode cX5_heard 51 = .ok (.goto 4, 3) := by decide +kernel
theorem dX5_heard_54 : decode cX5_heard 54 = .ok (.lconst 0, 1) := by decide +kernel
theorem dX5_heard_55 : decode cX5_heard 55 = .ok (.lreturn, 1) := by decide +kernel
theorem dX5_portableOf_0 : decode cX5_portableOf 0 = .ok (.aload_n 0, 1) := by decide +kernel
theorem dX5_portableOf_1 : decode cX5_portableOf 1 = .ok (.iload_n 1, 1) := by decide +kernel
theorem dX5_portableOf_2 : decode cX5_portableOf 2 = .ok (.invokevirtual 99, 3) := by decide +kernel
theorem dX5_portableOf_5 : decode cX5_portableOf 5 = .ok (.ifCond .ne 6, 3) := by decide +kernel
theorem dX5_portableOf_8 : decode cX5_portableOf 8 = .ok (.bipush (-9), 2) := by decide +kernel
theorem dX5_portableOf_10 : decode cX5_portableOf 10 = .ok (.ireturn, 1) := by decide +kernel
theorem dX5_portableOf_11 : decode cX5_portableOf 11 = .ok (.iload_n 2, 1) := by decide +kernel
theorem dX5_portableOf_12 : decode cX5_portableOf 12 = .ok (.tableswitch 164 0 9 #[56, 63, 70, 77, 83, 97, 104, 111, 118, 133], 56) := by decide +kernel
theorem dX5_portableOf_68 : decode cX5_portableOf 68 = .ok (.aload_n 0, 1) := by decide +kernel
theorem dX5_portableOf_69 : decode cX5_portableOf 69 = .ok (.getfield 27, 3) := by decide +kernel
theorem dX5_portableOf_72 : decode cX5_portableOf 72 = .ok (.iload_n 1, 1) := by decide +kernel
theorem dX5_portableOf_73 : decode cX5_portableOf 73 = .ok (.iaload, 1) := by decide +kernel
theorem dX5_portableOf_74 : decode cX5_portableOf 74 = .ok (.ireturn, 1) := by decide +kernel
theorem dX5_portableOf_75 : decode cX5_portableOf 75 = .ok (.aload_n 0, 1) := by decide +kernel
theorem dX5_portableOf_76 : decode cX5_portableOf 76 = .ok (.getfield 13, 3) := by decide +kernel
theorem dX5_portableOf_79 : decode cX5_portableOf 79 = .ok (.iload_n 1, 1) := by decide +kernel
theorem dX5_portableOf_80 : decode cX5_portableOf 80 = .ok (.iaload, 1) := by decide +kernel
theorem dX5_portableOf_81 : decode cX5_portableOf 81 = .ok (.ireturn, 1) := by decide +kernel
theorem dX5_portableOf_82 : decode cX5_portableOf 82 = .ok (.aload_n 0, 1) := by decide +kernel
theorem dX5_portableOf_83 : decode cX5_portableOf 83 = .ok (.getfield 30, 3) := by decide +kernel
theorem dX5_portableOf_86 : decode cX5_portableOf 86 = .ok (.iload_n 1, 1) := by decide +kernel
theorem dX5_portableOf_87 : decode cX5_portableOf 87 = .ok (.iaload, 1) := by decide +kernel
theorem dX5_portableOf_88 : decode cX5_portableOf 88 = .ok (.ireturn, 1) := by decide +kernel
theorem dX5_portableOf_89 : decode cX5_portableOf 89 = .ok (.aload_n 0, 1) := by decide +kernel
theorem dX5_portableOf_90 : decode cX5_portableOf 90 = .ok (.iload_n 1, 1) := by decide +kernel
theorem dX5_portableOf_91 : decode cX5_portableOf 91 = .ok (.invokevirtual 151, 3) := by decide +kernel
theorem dX5_portableOf_94 : decode cX5_portableOf 94 = .ok (.ireturn, 1) := by decide +kernel
theorem dX5_portableOf_95 : decode cX5_portableOf 95 = .ok (.aload_n 0, 1) := by decide +kernel
theorem dX5_portableOf_96 : decode cX5_portableOf 96 = .ok (.iload_n 1, 1) := by decide +kernel
theorem dX5_portableOf_97 : decode cX5_portableOf 97 = .ok (.invokevirtual 157, 3) := by decide +kernel
theorem dX5_portableOf_100 : decode cX5_portableOf 100 = .ok (.ifCond .eq 7, 3) := by decide +kernel
theorem dX5_portableOf_103 : decode cX5_portableOf 103 = .ok (.iconst 1, 1) := by decide +kernel
theorem dX5_portableOf_104 : decode cX5_portableOf 104 = .ok (.goto 4, 3) := by decide +kernel
theorem dX5_portableOf_107 : decode cX5_portableOf 107 = .ok (.iconst 0, 1) := by decide +kernel
theorem dX5_portableOf_108 : decode cX5_portableOf 108 = .ok (.ireturn, 1) := by decide +kernel
theorem dX5_portableOf_109 : decode cX5_portableOf 109 = .ok (.aload_n 0, 1) := by decide +kernel
theorem dX5_portableOf_110 : decode cX5_portableOf 110 = .ok (.getfield 57, 3) := by decide +kernel
theorem dX5_portableOf_113 : decode cX5_portableOf 113 = .ok (.iload_n 1, 1) := by decide +kernel
theorem dX5_portableOf_114 : decode cX5_portableOf 114 = .ok (.iaload, 1) := by decide +kernel
theorem dX5_portableOf_115 : decode cX5_portableOf 115 = .ok (.ireturn, 1) := by decide +kernel
theorem dX5_portableOf_116 : decode cX5_portableOf 116 = .ok (.aload_n 0, 1) := by decide +kernel
theorem dX5_portableOf_117 : decode cX5_portableOf 117 = .ok (.getfield 63, 3) := by decide +kernel
theorem dX5_portableOf_120 : decode cX5_portableOf 120 = .ok (.iload_n 1, 1) := by decide +kernel
theorem dX5_portableOf_121 : decode cX5_portableOf 121 = .ok (.iaload, 1) := by decide +kernel
theorem dX5_portableOf_122 : decode cX5_portableOf 122 = .ok (.ireturn, 1) := by decide +kernel
theorem dX5_portableOf_123 : decode cX5_portableOf 123 = .ok (.aload_n 0, 1) := by decide +kernel
theorem dX5_portableOf_124 : decode cX5_portableOf 124 = .ok (.getfield 69, 3) := by decide +kernel
theorem dX5_portableOf_127 : decode cX5_portableOf 127 = .ok (.iload_n 1, 1) := by decide +kernel
theorem dX5_portableOf_128 : decode cX5_portableOf 128 = .ok (.iaload, 1) := by decide +kernel
theorem dX5_portableOf_129 : decode cX5_portableOf 129 = .ok (.ireturn, 1) := by decide +kernel
theorem dX5_portableOf_130 : decode cX5_portableOf 130 = .ok (.aload_n 0, 1) := by decide +kernel
theorem dX5_portableOf_131 : decode cX5_portableOf 131 = .ok (.getfield 20, 3) := by decide +kernel
theorem dX5_portableOf_134 : decode cX5_portableOf 134 = .ok (.iload_n 1, 1) := by decide +kernel
theorem dX5_portableOf_135 : decode cX5_portableOf 135 = .ok (.baload, 1) := by decide +kernel
theorem dX5_portableOf_136 : decode cX5_portableOf 136 = .ok (.ifCond .eq 7, 3) := by decide +kernel
theorem dX5_portableOf_139 : decode cX5_portableOf 139 = .ok (.iconst 1, 1) := by decide +kernel
theorem dX5_portableOf_140 : decode cX5_portableOf 140 = .ok (.goto 4, 3) := by decide +kernel
theorem dX5_portableOf_143 : decode cX5_portableOf 143 = .ok (.iconst 0, 1) := by decide +kernel
theorem dX5_portableOf_144 : decode cX5_portableOf 144 = .ok (.ireturn, 1) := by decide +kernel
theorem dX5_portableOf_145 : decode cX5_portableOf 145 = .ok (.aload_n 0, 1) := by decide +kernel
theorem dX5_portableOf_146 : decode cX5_portableOf 146 = .ok (.getfield 27, 3) := by decide +kernel
theorem dX5_portableOf_149 : decode cX5_portableOf 149 = .ok (.iload_n 1, 1) := by decide +kernel
theorem dX5_portableOf_150 : decode cX5_portableOf 150 = .ok (.iaload, 1) := by decide +kernel
theorem dX5_portableOf_151 : decode cX5_portableOf 151 = .ok (.iconst 1, 1) := by decide +kernel
theorem dX5_portableOf_152 : decode cX5_portableOf 152 = .ok (.bipush 6, 2) := by decide +kernel
theorem dX5_portableOf_154 : decode cX5_portableOf 154 = .ok (.invokestatic 88, 3) := by decide +kernel
theorem dX5_portableOf_157 : decode cX5_portableOf 157 = .ok (.ifCond .eq 17, 3) := by decide +kernel
theorem dX5_portableOf_160 : decode cX5_portableOf 160 = .ok (.aload_n 0, 1) := by decide +kernel
theorem dX5_portableOf_161 : decode cX5_portableOf 161 = .ok (.getfield 103, 3) := by decide +kernel
theorem dX5_portableOf_164 : decode cX5_portableOf 164 = .ok (.aload_n 0, 1) := by decide +kernel
theorem dX5_portableOf_165 : decode cX5_portableOf 165 = .ok (.getfield 33, 3) := by decide +kernel
theorem dX5_portableOf_168 : decode cX5_portableOf 168 = .ok (.iload_n 1, 1) := by decide +kernel
theorem dX5_portableOf_169 : decode cX5_portableOf 169 = .ok (.iaload, 1) := by decide +kernel
theorem dX5_portableOf_170 : decode cX5_portableOf 170 = .ok (.isub, 1) := by decide +kernel
theorem dX5_portableOf_171 : decode cX5_portableOf 171 = .ok (.goto 4, 3) := by decide +kernel
theorem dX5_portableOf_174 : decode cX5_portableOf 174 = .ok (.iconst 0, 1) := by decide +kernel
theorem dX5_portableOf_175 : decode cX5_portableOf 175 = .ok (.ireturn, 1) := by decide +kernel
theorem dX5_portableOf_176 : decode cX5_portableOf 176 = .ok (.bipush (-9), 2) := by decide +kernel
theorem dX5_portableOf_178 : decode cX5_portableOf 178 = .ok (.ireturn, 1) := by decide +kernel
theorem dX5_bearer_0 : decode cX5_bearer 0 = .ok (.iload_n 1, 1) := by decide +kernel
theorem dX5_bearer_1 : decode cX5_bearer 1 = .ok (.iconst 0, 1) := by decide +kernel
theorem dX5_bearer_2 : decode cX5_bearer 2 = .ok (.aload_n 0, 1) := by decide +kernel
theorem dX5_bearer_3 : decode cX5_bearer 3 = .ok (.getfield 109, 3) := by decide +kernel
theorem dX5_bearer_6 : decode cX5_bearer 6 = .ok (.iconst 1, 1) := by decide +kernel
theorem dX5_bearer_7 : decode cX5_bearer 7 = .ok (.isub, 1) := by decide +kernel
theorem dX5_bearer_8 : decode cX5_bearer 8 = .ok (.invokestatic 88, 3) := by decide +kernel
theorem dX5_bearer_11 : decode cX5_bearer 11 = .ok (.ifCond .ne 6, 3) := by decide +kernel
theorem dX5_bearer_14 : decode cX5_bearer 14 = .ok (.bipush (-9), 2) := by decide +kernel
theorem dX5_bearer_16 : decode cX5_bearer 16 = .ok (.ireturn, 1) := by decide +kernel
theorem dX5_bearer_17 : decode cX5_bearer 17 = .ok (.iload_n 2, 1) := by decide +kernel
theorem dX5_bearer_18 : decode cX5_bearer 18 = .ok (.tableswitch 58 0 3 #[30, 37, 44, 51], 30) := by decide +kernel
theorem dX5_bearer_48 : decode cX5_bearer 48 = .ok (.aload_n 0, 1) := by decide +kernel
theorem dX5_bearer_49 : decode cX5_bearer 49 = .ok (.getfield 42, 3) := by decide +kernel
theorem dX5_bearer_52 : decode cX5_bearer 52 = .ok (.iload_n 1, 1) := by decide +kernel
theorem dX5_bearer_53 : decode cX5_bearer 53 = .ok (.iaload, 1) := by decide +kernel
theorem dX5_bearer_54 : decode cX5_bearer 54 = .ok (.ireturn, 1) := by decide +kernel
theorem dX5_bearer_55 : decode cX5_bearer 55 = .ok (.aload_n 0, 1) := by decide +kernel
theorem dX5_bearer_56 : decode cX5_bearer 56 = .ok (.getfield 45, 3) := by decide +kernel
theorem dX5_bearer_59 : decode cX5_bearer 59 = .ok (.iload_n 1, 1) := by decide +kernel
theorem dX5_bearer_60 : decode cX5_bearer 60 = .ok (.iaload, 1) := by decide +kernel
theorem dX5_bearer_61 : decode cX5_bearer 61 = .ok (.ireturn, 1) := by decide +kernel
theorem dX5_bearer_62 : decode cX5_bearer 62 = .ok (.aload_n 0, 1) := by decide +kernel
theorem dX5_bearer_63 : decode cX5_bearer 63 = .ok (.getfield 48, 3) := by decide +kernel
theorem dX5_bearer_66 : decode cX5_bearer 66 = .ok (.iload_n 1, 1) := by decide +kernel
theorem dX5_bearer_67 : decode cX5_bearer 67 = .ok (.iaload, 1) := by decide +kernel
theorem dX5_bearer_68 : decode cX5_bearer 68 = .ok (.ireturn, 1) := by decide +kernel
theorem dX5_bearer_69 : decode cX5_bearer 69 = .ok (.aload_n 0, 1) := by decide +kernel
theorem dX5_bearer_70 : decode cX5_bearer 70 = .ok (.getfield 51, 3) := by decide +kernel
theorem dX5_bearer_73 : decode cX5_bearer 73 = .ok (.iload_n 1, 1) := by decide +kernel
theorem dX5_bearer_74 : decode cX5_bearer 74 = .ok (.iaload, 1) := by decide +kernel
theorem dX5_bearer_75 : decode cX5_bearer 75 = .ok (.ireturn, 1) := by decide +kernel
theorem dX5_bearer_76 : decode cX5_bearer 76 = .ok (.iload_n 2, 1) := by decide +kernel
theorem dX5_bearer_77 : decode cX5_bearer 77 = .ok (.iconst 4, 1) := by decide +kernel
theorem dX5_bearer_78 : decode cX5_bearer 78 = .ok (.if_icmp .ne 20, 3) := by decide +kernel
theorem dX5_bearer_81 : decode cX5_bearer 81 = .ok (.aload_n 0, 1) := by decide +kernel
theorem dX5_bearer_82 : decode cX5_bearer 82 = .ok (.getfield 54, 3) := by decide +kernel
theorem dX5_bearer_85 : decode cX5_bearer 85 = .ok (.iload_n 1, 1) := by decide +kernel
theorem dX5_bearer_86 : decode cX5_bearer 86 = .ok (.baload, 1) := by decide +kernel
theorem dX5_bearer_87 : decode cX5_bearer 87 = .ok (.ifCond .eq 7, 3) := by decide +kernel
theorem dX5_bearer_90 : decode cX5_bearer 90 = .ok (.iconst 1, 1) := by decide +kernel
theorem dX5_bearer_91 : decode cX5_bearer 91 = .ok (.goto 9, 3) := by decide +kernel
theorem dX5_bearer_94 : decode cX5_bearer 94 = .ok (.iconst 0, 1) := by decide +kernel
theorem dX5_bearer_95 : decode cX5_bearer 95 = .ok (.goto 5, 3) := by decide +kernel
theorem dX5_bearer_98 : decode cX5_bearer 98 = .ok (.bipush (-9), 2) := by decide +kernel
theorem dX5_bearer_100 : decode cX5_bearer 100 = .ok (.ireturn, 1) := by decide +kernel
theorem dX5_mix_0 : decode cX5_mix 0 = .ok (.lload_n 1, 1) := by decide +kernel
theorem dX5_mix_1 : decode cX5_mix 1 = .ok (.lload_n 3, 1) := by decide +kernel
theorem dX5_mix_2 : decode cX5_mix 2 = .ok (.ldc2_w 214, 3) := by decide +kernel
theorem dX5_mix_5 : decode cX5_mix 5 = .ok (.lmul, 1) := by decide +kernel
theorem dX5_mix_6 : decode cX5_mix 6 = .ok (.lxor, 1) := by decide +kernel
theorem dX5_mix_7 : decode cX5_mix 7 = .ok (.lstore 5, 2) := by decide +kernel
theorem dX5_mix_9 : decode cX5_mix 9 = .ok (.iconst 0, 1) := by decide +kernel
theorem dX5_mix_10 : decode cX5_mix 10 = .ok (.istore 7, 2) := by decide +kernel
theorem dX5_mix_12 : decode cX5_mix 12 = .ok (.iload 7, 2) := by decide +kernel
theorem dX5_mix_14 : decode cX5_mix 14 = .ok (.iconst 2, 1) := by decide +kernel
theorem dX5_mix_15 : decode cX5_mix 15 = .ok (.if_icmp .ge 23, 3) := by decide +kernel
theorem dX5_mix_18 : decode cX5_mix 18 = .ok (.lload 5, 2) := by decide +kernel
theorem dX5_mix_20 : decode cX5_mix 20 = .ok (.lload 5, 2) := by decide +kernel
theorem dX5_mix_22 : decode cX5_mix 22 = .ok (.bipush 29, 2) := by decide +kernel
theorem dX5_mix_24 : decode cX5_mix 24 = .ok (.lushr, 1) := by decide +kernel
theorem dX5_mix_25 : decode cX5_mix 25 = .ok (.lxor, 1) := by decide +kernel
theorem dX5_mix_26 : decode cX5_mix 26 = .ok (.ldc2_w 216, 3) := by decide +kernel
theorem dX5_mix_29 : decode cX5_mix 29 = .ok (.lmul, 1) := by decide +kernel
theorem dX5_mix_30 : decode cX5_mix 30 = .ok (.lstore 5, 2) := by decide +kernel
theorem dX5_mix_32 : decode cX5_mix 32 = .ok (.iinc 7 1, 3) := by decide +kernel
theorem dX5_mix_35 : decode cX5_mix 35 = .ok (.goto (-23), 3) := by decide +kernel
theorem dX5_mix_38 : decode cX5_mix 38 = .ok (.lload 5, 2) := by decide +kernel
theorem dX5_mix_40 : decode cX5_mix 40 = .ok (.lreturn, 1) := by decide +kernel
theorem dX5_air_0 : decode cX5_air 0 = .ok (.iload_n 1, 1) := by decide +kernel
theorem dX5_air_1 : decode cX5_air 1 = .ok (.ifCond .ne 10, 3) := by decide +kernel
theorem dX5_air_4 : decode cX5_air 4 = .ok (.aload_n 0, 1) := by decide +kernel
theorem dX5_air_5 : decode cX5_air 5 = .ok (.getfield 179, 3) := by decide +kernel
theorem dX5_air_8 : decode cX5_air 8 = .ok (.goto 16, 3) := by decide +kernel
theorem dX5_air_11 : decode cX5_air 11 = .ok (.iload_n 1, 1) := by decide +kernel
theorem dX5_air_12 : decode cX5_air 12 = .ok (.iconst 1, 1) := by decide +kernel
theorem dX5_air_13 : decode cX5_air 13 = .ok (.if_icmp .ne 10, 3) := by decide +kernel
theorem dX5_air_16 : decode cX5_air 16 = .ok (.aload_n 0, 1) := by decide +kernel
theorem dX5_air_17 : decode cX5_air 17 = .ok (.getfield 188, 3) := by decide +kernel
theorem dX5_air_20 : decode cX5_air 20 = .ok (.goto 4, 3) := by decide +kernel
theorem dX5_air_23 : decode cX5_air 23 = .ok (.lconst 0, 1) := by decide +kernel
theorem dX5_air_24 : decode cX5_air 24 = .ok (.lreturn, 1) := by decide +kernel
theorem dX5_count_0 : decode cX5_count 0 = .ok (.iload_n 1, 1) := by decide +kernel
theorem dX5_count_1 : decode cX5_count 1 = .ok (.tableswitch 96 0 8 #[51, 56, 61, 66, 71, 76, 81, 86, 91], 51) := by decide +kernel
theorem dX5_count_52 : decode cX5_count 52 = .ok (.aload_n 0, 1) := by decide +kernel
theorem dX5_count_53 : decode cX5_count 53 = .ok (.getfield 103, 3) := by decide +kernel
theorem dX5_count_56 : decode cX5_count 56 = .ok (.ireturn, 1) := by decide +kernel
theorem dX5_count_57 : decode cX5_count 57 = .ok (.aload_n 0, 1) := by decide +kernel
theorem dX5_count_58 : decode cX5_count 58 = .ok (.getfield 84, 3) := by decide +kernel
theorem dX5_count_61 : decode cX5_count 61 = .ok (.ireturn, 1) := by decide +kernel
theorem dX5_count_62 : decode cX5_count 62 = .ok (.aload_n 0, 1) := by decide +kernel
theorem dX5_count_63 : decode cX5_count 63 = .ok (.getfield 92, 3) := by decide +kernel
theorem dX5_count_66 : decode cX5_count 66 = .ok (.ireturn, 1) := by decide +kernel
theorem dX5_count_67 : decode cX5_count 67 = .ok (.aload_n 0, 1) := by decide +kernel
theorem dX5_count_68 : decode cX5_count 68 = .ok (.getfield 109, 3) := by decide +kernel
theorem dX5_count_71 : decode cX5_count 71 = .ok (.ireturn, 1) := by decide +kernel
theorem dX5_count_72 : decode cX5_count 72 = .ok (.aload_n 0, 1) := by decide +kernel
theorem dX5_count_73 : decode cX5_count 73 = .ok (.getfield 163, 3) := by decide +kernel
theorem dX5_count_76 : decode cX5_count 76 = .ok (.ireturn, 1) := by decide +kernel
theorem dX5_count_77 : decode cX5_count 77 = .ok (.aload_n 0, 1) := by decide +kernel
theorem dX5_count_78 : decode cX5_count 78 = .ok (.getfield 106, 3) := by decide +kernel
theorem dX5_count_81 : decode cX5_count 81 = .ok (.ireturn, 1) := by decide +kernel
theorem dX5_count_82 : decode cX5_count 82 = .ok (.aload_n 0, 1) := by decide +kernel
theorem dX5_count_83 : decode cX5_count 83 = .ok (.getfield 122, 3) := by decide +kernel
theorem dX5_count_86 : decode cX5_count 86 = .ok (.ireturn, 1) := by decide +kernel
theorem dX5_count_87 : decode cX5_count 87 = .ok (.aload_n 0, 1) := by decide +kernel
theorem dX5_count_88 : decode cX5_count 88 = .ok (.getfield 169, 3) := by decide +kernel
theorem dX5_count_91 : decode cX5_count 91 = .ok (.ireturn, 1) := by decide +kernel
theorem dX5_count_92 : decode cX5_count 92 = .ok (.aload_n 0, 1) := by decide +kernel
theorem dX5_count_93 : decode cX5_count 93 = .ok (.getfield 183, 3) := by decide +kernel
theorem dX5_count_96 : decode cX5_count 96 = .ok (.ireturn, 1) := by decide +kernel
theorem dX5_count_97 : decode cX5_count 97 = .ok (.iload_n 1, 1) := by decide +kernel
theorem dX5_count_98 : decode cX5_count 98 = .ok (.bipush 11, 2) := by decide +kernel
theorem dX5_count_100 : decode cX5_count 100 = .ok (.bipush 16, 2) := by decide +kernel
theorem dX5_count_102 : decode cX5_count 102 = .ok (.invokestatic 88, 3) := by decide +kernel
theorem dX5_count_105 : decode cX5_count 105 = .ok (.ifCond .eq 15, 3) := by decide +kernel
theorem dX5_count_108 : decode cX5_count 108 = .ok (.aload_n 0, 1) := by decide +kernel
theorem dX5_count_109 : decode cX5_count 109 = .ok (.getfield 75, 3) := by decide +kernel
theorem dX5_count_112 : decode cX5_count 112 = .ok (.iload_n 1, 1) := by decide +kernel
theorem dX5_count_113 : decode cX5_count 113 = .ok (.bipush 10, 2) := by decide +kernel
theorem dX5_count_115 : decode cX5_count 115 = .ok (.isub, 1) := by decide +kernel
theorem dX5_count_116 : decode cX5_count 116 = .ok (.iaload, 1) := by decide +kernel
theorem dX5_count_117 : decode cX5_count 117 = .ok (.goto 5, 3) := by decide +kernel
theorem dX5_count_120 : decode cX5_count 120 = .ok (.bipush (-9), 2) := by decide +kernel
theorem dX5_count_122 : decode cX5_count 122 = .ok (.ireturn, 1) := by decide +kernel
theorem dJ6_bitCount_0f7a4_0 : decode cJ6_bitCount_0f7a4 0 = .ok (.iload_n 0, 1) := by decide +kernel
theorem dJ6_bitCount_0f7a4_1 : decode cJ6_bitCount_0f7a4 1 = .ok (.iload_n 0, 1) := by decide +kernel
theorem dJ6_bitCount_0f7a4_2 : decode cJ6_bitCount_0f7a4 2 = .ok (.iconst 1, 1) := by decide +kernel
theorem dJ6_bitCount_0f7a4_3 : decode cJ6_bitCount_0f7a4 3 = .ok (.iushr, 1) := by decide +kernel
theorem dJ6_bitCount_0f7a4_4 : decode cJ6_bitCount_0f7a4 4 = .ok (.ldc_w 265, 3) := by decide +kernel
theorem dJ6_bitCount_0f7a4_7 : decode cJ6_bitCount_0f7a4 7 = .ok (.iand, 1) := by decide +kernel
theorem dJ6_bitCount_0f7a4_8 : decode cJ6_bitCount_0f7a4 8 = .ok (.isub, 1) := by decide +kernel
theorem dJ6_bitCount_0f7a4_9 : decode cJ6_bitCount_0f7a4 9 = .ok (.istore_n 0, 1) := by decide +kernel
theorem dJ6_bitCount_0f7a4_10 : decode cJ6_bitCount_0f7a4 10 = .ok (.iload_n 0, 1) := by decide +kernel
theorem dJ6_bitCount_0f7a4_11 : decode cJ6_bitCount_0f7a4 11 = .ok (.ldc_w 266, 3) := by decide +kernel
theorem dJ6_bitCount_0f7a4_14 : decode cJ6_bitCount_0f7a4 14 = .ok (.iand, 1) := by decide +kernel
theorem dJ6_bitCount_0f7a4_15 : decode cJ6_bitCount_0f7a4 15 = .ok (.iload_n 0, 1) := by decide +kernel
theorem dJ6_bitCount_0f7a4_16 : decode cJ6_bitCount_0f7a4 16 = .ok (.iconst 2, 1) := by decide +kernel
theorem dJ6_bitCount_0f7a4_17 : decode cJ6_bitCount_0f7a4 17 = .ok (.iushr, 1) := by decide +kernel
theorem dJ6_bitCount_0f7a4_18 : decode cJ6_bitCount_0f7a4 18 = .ok (.ldc_w 266, 3) := by decide +kernel
theorem dJ6_bitCount_0f7a4_21 : decode cJ6_bitCount_0f7a4 21 = .ok (.iand, 1) := by decide +kernel
theorem dJ6_bitCount_0f7a4_22 : decode cJ6_bitCount_0f7a4 22 = .ok (.iadd, 1) := by decide +kernel
theorem dJ6_bitCount_0f7a4_23 : decode cJ6_bitCount_0f7a4 23 = .ok (.istore_n 0, 1) := by decide +kernel
theorem dJ6_bitCount_0f7a4_24 : decode cJ6_bitCount_0f7a4 24 = .ok (.iload_n 0, 1) := by decide +kernel
theorem dJ6_bitCount_0f7a4_25 : decode cJ6_bitCount_0f7a4 25 = .ok (.iload_n 0, 1) := by decide +kernel
theorem dJ6_bitCount_0f7a4_26 : decode cJ6_bitCount_0f7a4 26 = .ok (.iconst 4, 1) := by decide +kernel
theorem dJ6_bitCount_0f7a4_27 : decode cJ6_bitCount_0f7a4 27 = .ok (.iushr, 1) := by decide +kernel
theorem dJ6_bitCount_0f7a4_28 : decode cJ6_bitCount_0f7a4 28 = .ok (.iadd, 1) := by decide +kernel
theorem dJ6_bitCount_0f7a4_29 : decode cJ6_bitCount_0f7a4 29 = .ok (.ldc_w 267, 3) := by decide +kernel
theorem dJ6_bitCount_0f7a4_32 : decode cJ6_bitCount_0f7a4 32 = .ok (.iand, 1) := by decide +kernel
theorem dJ6_bitCount_0f7a4_33 : decode cJ6_bitCount_0f7a4 33 = .ok (.istore_n 0, 1) := by decide +kernel
theorem dJ6_bitCount_0f7a4_34 : decode cJ6_bitCount_0f7a4 34 = .ok (.iload_n 0, 1) := by decide +kernel
theorem dJ6_bitCount_0f7a4_35 : decode cJ6_bitCount_0f7a4 35 = .ok (.iload_n 0, 1) := by decide +kernel
theorem dJ6_bitCount_0f7a4_36 : decode cJ6_bitCount_0f7a4 36 = .ok (.bipush 8, 2) := by decide +kernel
theorem dJ6_bitCount_0f7a4_38 : decode cJ6_bitCount_0f7a4 38 = .ok (.iushr, 1) := by decide +kernel
theorem dJ6_bitCount_0f7a4_39 : decode cJ6_bitCount_0f7a4 39 = .ok (.iadd, 1) := by decide +kernel
theorem dJ6_bitCount_0f7a4_40 : decode cJ6_bitCount_0f7a4 40 = .ok (.istore_n 0, 1) := by decide +kernel
theorem dJ6_bitCount_0f7a4_41 : decode cJ6_bitCount_0f7a4 41 = .ok (.iload_n 0, 1) := by decide +kernel
theorem dJ6_bitCount_0f7a4_42 : decode cJ6_bitCount_0f7a4 42 = .ok (.iload_n 0, 1) := by decide +kernel
theorem dJ6_bitCount_0f7a4_43 : decode cJ6_bitCount_0f7a4 43 = .ok (.bipush 16, 2) := by decide +kernel
theorem dJ6_bitCount_0f7a4_45 : decode cJ6_bitCount_0f7a4 45 = .ok (.iushr, 1) := by decide +kernel
theorem dJ6_bitCount_0f7a4_46 : decode cJ6_bitCount_0f7a4 46 = .ok (.iadd, 1) := by decide +kernel
theorem dJ6_bitCount_0f7a4_47 : decode cJ6_bitCount_0f7a4 47 = .ok (.istore_n 0, 1) := by decide +kernel
theorem dJ6_bitCount_0f7a4_48 : decode cJ6_bitCount_0f7a4 48 = .ok (.iload_n 0, 1) := by decide +kernel
theorem dJ6_bitCount_0f7a4_49 : decode cJ6_bitCount_0f7a4 49 = .ok (.bipush 63, 2) := by decide +kernel
theorem dJ6_bitCount_0f7a4_51 : decode cJ6_bitCount_0f7a4 51 = .ok (.iand, 1) := by decide +kernel
theorem dJ6_bitCount_0f7a4_52 : decode cJ6_bitCount_0f7a4 52 = .ok (.ireturn, 1) := by decide +kernel
theorem dJ9_max_7cf53_0 : decode cJ9_max_7cf53 0 = .ok (.iload_n 0, 1) := by decide +kernel
theorem dJ9_max_7cf53_1 : decode cJ9_max_7cf53 1 = .ok (.iload_n 1, 1) := by decide +kernel
theorem dJ9_max_7cf53_2 : decode cJ9_max_7cf53 2 = .ok (.if_icmp .lt 7, 3) := by decide +kernel
theorem dJ9_max_7cf53_5 : decode cJ9_max_7cf53 5 = .ok (.iload_n 0, 1) := by decide +kernel
theorem dJ9_max_7cf53_6 : decode cJ9_max_7cf53 6 = .ok (.goto 4, 3) := by decide +kernel
theorem dJ9_max_7cf53_9 : decode cJ9_max_7cf53 9 = .ok (.iload_n 1, 1) := by decide +kernel
theorem dJ9_max_7cf53_10 : decode cJ9_max_7cf53 10 = .ok (.ireturn, 1) := by decide +kernel
end
section
theorem dL_law_0 : decode cL_law 0 = .ok (.new 7, 3) := by decide +kernel
theorem dL_law_3 : decode cL_law 3 = .ok (.dup, 1) := by decide +kernel
theorem dL_law_4 : decode cL_law 4 = .ok (.invokespecial 9, 3) := by decide +kernel
theorem dL_law_7 : decode cL_law 7 = .ok (.astore_n 1, 1) := by decide +kernel
theorem dL_law_8 : decode cL_law 8 = .ok (.new 10, 3) := by decide +kernel
theorem dL_law_11 : decode cL_law 11 = .ok (.dup, 1) := by decide +kernel
theorem dL_law_12 : decode cL_law 12 = .ok (.invokespecial 12, 3) := by decide +kernel
theorem dL_law_15 : decode cL_law 15 = .ok (.astore_n 2, 1) := by decide +kernel
theorem dL_law_16 : decode cL_law 16 = .ok (.iconst 0, 1) := by decide +kernel
theorem dL_law_17 : decode cL_law 17 = .ok (.istore_n 3, 1) := by decide +kernel
theorem dL_law_18 : decode cL_law 18 = .ok (.iload_n 3, 1) := by decide +kernel
theorem dL_law_19 : decode cL_law 19 = .ok (.aload_n 0, 1) := by decide +kernel
theorem dL_law_20 : decode cL_law 20 = .ok (.arraylength, 1) := by decide +kernel
theorem dL_law_21 : decode cL_law 21 = .ok (.iconst 5, 1) := by decide +kernel
theorem dL_law_22 : decode cL_law 22 = .ok (.isub, 1) := by decide +kernel
theorem dL_law_23 : decode cL_law 23 = .ok (.if_icmp .gt 863, 3) := by decide +kernel
theorem dL_law_26 : decode cL_law 26 = .ok (.aload_n 0, 1) := by decide +kernel
theorem dL_law_27 : decode cL_law 27 = .ok (.iload_n 3, 1) := by decide +kernel
theorem dL_law_28 : decode cL_law 28 = .ok (.iaload, 1) := by decide +kernel
theorem dL_law_29 : decode cL_law 29 = .ok (.bipush 31, 2) := by decide +kernel
theorem dL_law_31 : decode cL_law 31 = .ok (.iand, 1) := by decide +kernel
theorem dL_law_32 : decode cL_law 32 = .ok (.tableswitch 848 0 18 #[92, 115, 178, 211, 270, 303, 366, 399, 422, 445, 508, 531, 565, 598, 631, 674, 707, 801, 825], 92) := by decide +kernel
theorem dL_law_124 : decode cL_law 124 = .ok (.aload_n 1, 1) := by decide +kernel
theorem dL_law_125 : decode cL_law 125 = .ok (.aload_n 0, 1) := by decide +kernel
theorem dL_law_126 : decode cL_law 126 = .ok (.iload_n 3, 1) := by decide +kernel
theorem dL_law_127 : decode cL_law 127 = .ok (.iconst 1, 1) := by decide +kernel
theorem dL_law_128 : decode cL_law 128 = .ok (.iadd, 1) := by decide +kernel
theorem dL_law_129 : decode cL_law 129 = .ok (.iaload, 1) := by decide +kernel
theorem dL_law_130 : decode cL_law 130 = .ok (.invokevirtual 13, 3) := by decide +kernel
theorem dL_law_133 : decode cL_law 133 = .ok (.aload_n 2, 1) := by decide +kernel
theorem dL_law_134 : decode cL_law 134 = .ok (.aload_n 0, 1) := by decide +kernel
theorem dL_law_135 : decode cL_law 135 = .ok (.iload_n 3, 1) := by decide +kernel
theorem dL_law_136 : decode cL_law 136 = .ok (.iconst 1, 1) := by decide +kernel
theorem dL_law_137 : decode cL_law 137 = .ok (.iadd, 1) := by decide +kernel
theorem dL_law_138 : decode cL_law 138 = .ok (.iaload, 1) := by decide +kernel
theorem dL_law_139 : decode cL_law 139 = .ok (.invokevirtual 17, 3) := by decide +kernel
theorem dL_law_142 : decode cL_law 142 = .ok (.if_icmp .eq 738, 3) := by decide +kernel
theorem dL_law_145 : decode cL_law 145 = .ok (.iconst 0, 1) := by decide +kernel
theorem dL_law_146 : decode cL_law 146 = .ok (.ireturn, 1) := by decide +kernel
theorem dL_law_147 : decode cL_law 147 = .ok (.aload_n 1, 1) := by decide +kernel
theorem dL_law_148 : decode cL_law 148 = .ok (.aload_n 0, 1) := by decide +kernel
theorem dL_law_149 : decode cL_law 149 = .ok (.iload_n 3, 1) := by decide +kernel
theorem dL_law_150 : decode cL_law 150 = .ok (.iconst 1, 1) := by decide +kernel
theorem dL_law_151 : decode cL_law 151 = .ok (.iadd, 1) := by decide +kernel
theorem dL_law_152 : decode cL_law 152 = .ok (.iaload, 1) := by decide +kernel
theorem dL_law_153 : decode cL_law 153 = .ok (.aload_n 0, 1) := by decide +kernel
theorem dL_law_154 : decode cL_law 154 = .ok (.iload_n 3, 1) := by decide +kernel
theorem dL_law_155 : decode cL_law 155 = .ok (.iconst 2, 1) := by decide +kernel
theorem dL_law_156 : decode cL_law 156 = .ok (.iadd, 1) := by decide +kernel
theorem dL_law_157 : decode cL_law 157 = .ok (.iaload, 1) := by decide +kernel
theorem dL_law_158 : decode cL_law 158 = .ok (.i2l, 1) := by decide +kernel
theorem dL_law_159 : decode cL_law 159 = .ok (.bipush 32, 2) := by decide +kernel
theorem dL_law_161 : decode cL_law 161 = .ok (.lshl, 1) := by decide +kernel
theorem dL_law_162 : decode cL_law 162 = .ok (.aload_n 0, 1) := by decide +kernel
theorem dL_law_163 : decode cL_law 163 = .ok (.iload_n 3, 1) := by decide +kernel
theorem dL_law_164 : decode cL_law 164 = .ok (.iconst 3, 1) := by decide +kernel
theorem dL_law_165 : decode cL_law 165 = .ok (.iadd, 1) := by decide +kernel
theorem dL_law_166 : decode cL_law 166 = .ok (.iaload, 1) := by decide +kernel
theorem dL_law_167 : decode cL_law 167 = .ok (.i2l, 1) := by decide +kernel
theorem dL_law_168 : decode cL_law 168 = .ok (.ldc2_w 18, 3) := by decide +kernel
theorem dL_law_171 : decode cL_law 171 = .ok (.land, 1) := by decide +kernel
theorem dL_law_172 : decode cL_law 172 = .ok (.lor, 1) := by decide +kernel
theorem dL_law_173 : decode cL_law 173 = .ok (.invokevirtual 20, 3) := by decide +kernel
theorem dL_law_176 : decode cL_law 176 = .ok (.aload_n 2, 1) := by decide +kernel
theorem dL_law_177 : decode cL_law 177 = .ok (.aload_n 0, 1) := by decide +kernel
theorem dL_law_178 : decode cL_law 178 = .ok (.iload_n 3, 1) := by decide +kernel
theorem dL_law_179 : decode cL_law 179 = .ok (.iconst 1, 1) := by decide +kernel
theorem dL_law_180 : decode cL_law 180 = .ok (.iadd, 1) := by decide +kernel
theorem dL_law_181 : decode cL_law 181 = .ok (.iaload, 1) := by decide +kernel
theorem dL_law_182 : decode cL_law 182 = .ok (.aload_n 0, 1) := by decide +kernel
theorem dL_law_183 : decode cL_law 183 = .ok (.iload_n 3, 1) := by decide +kernel
theorem dL_law_184 : decode cL_law 184 = .ok (.iconst 2, 1) := by decide +kernel
theorem dL_law_185 : decode cL_law 185 = .ok (.iadd, 1) := by decide +kernel
theorem dL_law_186 : decode cL_law 186 = .ok (.iaload, 1) := by decide +kernel
theorem dL_law_187 : decode cL_law 187 = .ok (.i2l, 1) := by decide +kernel
theorem dL_law_188 : decode cL_law 188 = .ok (.bipush 32, 2) := by decide +kernel
theorem dL_law_190 : decode cL_law 190 = .ok (.lshl, 1) := by decide +kernel
theorem dL_law_191 : decode cL_law 191 = .ok (.aload_n 0, 1) := by decide +kernel
theorem dL_law_192 : decode cL_law 192 = .ok (.iload_n 3, 1) := by decide +kernel
theorem dL_law_193 : decode cL_law 193 = .ok (.iconst 3, 1) := by decide +kernel
theorem dL_law_194 : decode cL_law 194 = .ok (.iadd, 1) := by decide +kernel
theorem dL_law_195 : decode cL_law 195 = .ok (.iaload, 1) := by decide +kernel
theorem dL_law_196 : decode cL_law 196 = .ok (.i2l, 1) := by decide +kernel
theorem dL_law_197 : decode cL_law 197 = .ok (.ldc2_w 18, 3) := by decide +kernel
theorem dL_law_200 : decode cL_law 200 = .ok (.land, 1) := by decide +kernel
theorem dL_law_201 : decode cL_law 201 = .ok (.lor, 1) := by decide +kernel
theorem dL_law_202 : decode cL_law 202 = .ok (.invokevirtual 24, 3) := by decide +kernel
theorem dL_law_205 : decode cL_law 205 = .ok (.if_icmp .eq 675, 3) := by decide +kernel
theorem dL_law_208 : decode cL_law 208 = .ok (.iconst 0, 1) := by decide +kernel
theorem dL_law_209 : decode cL_law 209 = .ok (.ireturn, 1) := by decide +kernel
theorem dL_law_210 : decode cL_law 210 = .ok (.aload_n 1, 1) := by decide +kernel
theorem dL_law_211 : decode cL_law 211 = .ok (.aload_n 0, 1) := by decide +kernel
theorem dL_law_212 : decode cL_law 212 = .ok (.iload_n 3, 1) := by decide +kernel
theorem dL_law_213 : decode cL_law 213 = .ok (.iconst 1, 1) := by decide +kernel
theorem dL_law_214 : decode cL_law 214 = .ok (.iadd, 1) := by decide +kernel
theorem dL_law_215 : decode cL_law 215 = .ok (.iaload, 1) := by decide +kernel
theorem dL_law_216 : decode cL_law 216 = .ok (.aload_n 0, 1) := by decide +kernel
theorem dL_law_217 : decode cL_law 217 = .ok (.iload_n 3, 1) := by decide +kernel
theorem dL_law_218 : decode cL_law 218 = .ok (.iconst 2, 1) := by decide +kernel
theorem dL_law_219 : decode cL_law 219 = .ok (.iadd, 1) := by decide +kernel
theorem dL_law_220 : decode cL_law 220 = .ok (.iaload, 1) := by decide +kernel
theorem dL_law_221 : decode cL_law 221 = .ok (.invokevirtual 25, 3) := by decide +kernel
theorem dL_law_224 : decode cL_law 224 = .ok (.aload_n 2, 1) := by decide +kernel
theorem dL_law_225 : decode cL_law 225 = .ok (.aload_n 0, 1) := by decide +kernel
theorem dL_law_226 : decode cL_law 226 = .ok (.iload_n 3, 1) := by decide +kernel
theorem dL_law_227 : decode cL_law 227 = .ok (.iconst 1, 1) := by decide +kernel
theorem dL_law_228 : decode cL_law 228 = .ok (.iadd, 1) := by decide +kernel
theorem dL_law_229 : decode cL_law 229 = .ok (.iaload, 1) := by decide +kernel
theorem dL_law_230 : decode cL_law 230 = .ok (.aload_n 0, 1) := by decide +kernel
theorem dL_law_231 : decode cL_law 231 = .ok (.iload_n 3, 1) := by decide +kernel
theorem dL_law_232 : decode cL_law 232 = .ok (.iconst 2, 1) := by decide +kernel
theorem dL_law_233 : decode cL_law 233 = .ok (.iadd, 1) := by decide +kernel
theorem dL_law_234 : decode cL_law 234 = .ok (.iaload, 1) := by decide +kernel
theorem dL_law_235 : decode cL_law 235 = .ok (.invokevirtual 29, 3) := by decide +kernel
theorem dL_law_238 : decode cL_law 238 = .ok (.if_icmp .eq 642, 3) := by decide +kernel
theorem dL_law_241 : decode cL_law 241 = .ok (.iconst 0, 1) := by decide +kernel
theorem dL_law_242 : decode cL_law 242 = .ok (.ireturn, 1) := by decide +kernel
theorem dL_law_243 : decode cL_law 243 = .ok (.aload_n 1, 1) := by decide +kernel
theorem dL_law_244 : decode cL_law 244 = .ok (.aload_n 0, 1) := by decide +kernel
theorem dL_law_245 : decode cL_law 245 = .ok (.iload_n 3, 1) := by decide +kernel
theorem dL_law_246 : decode cL_law 246 = .ok (.iconst 1, 1) := by decide +kernel
theorem dL_law_247 : decode cL_law 247 = .ok (.iadd, 1) := by decide +kernel
theorem dL_law_248 : decode cL_law 248 = .ok (.iaload, 1) := by decide +kernel
theorem dL_law_249 : decode cL_law 249 = .ok (.aload_n 0, 1) := by decide +kernel
theorem dL_law_250 : decode cL_law 250 = .ok (.iload_n 3, 1) := by decide +kernel
theorem dL_law_251 : decode cL_law 251 = .ok (.iconst 2, 1) := by decide +kernel
theorem dL_law_252 : decode cL_law 252 = .ok (.iadd, 1) := by decide +kernel
theorem dL_law_253 : decode cL_law 253 = .ok (.iaload, 1) := by decide +kernel
theorem dL_law_254 : decode cL_law 254 = .ok (.aload_n 0, 1) := by decide +kernel
theorem dL_law_255 : decode cL_law 255 = .ok (.iload_n 3, 1) := by decide +kernel
theorem dL_law_256 : decode cL_law 256 = .ok (.iconst 3, 1) := by decide +kernel
theorem dL_law_257 : decode cL_law 257 = .ok (.iadd, 1) := by decide +kernel
theorem dL_law_258 : decode cL_law 258 = .ok (.iaload, 1) := by decide +kernel
theorem dL_law_259 : decode cL_law 259 = .ok (.ifCond .eq 7, 3) := by decide +kernel
theorem dL_law_262 : decode cL_law 262 = .ok (.iconst 1, 1) := by decide +kernel
theorem dL_law_263 : decode cL_law 263 = .ok (.goto 4, 3) := by decide +kernel
theorem dL_law_266 : decode cL_law 266 = .ok (.iconst 0, 1) := by decide +kernel
theorem dL_law_267 : decode cL_law 267 = .ok (.invokevirtual 30, 3) := by decide +kernel
theorem dL_law_270 : decode cL_law 270 = .ok (.aload_n 2, 1) := by decide +kernel
theorem dL_law_271 : decode cL_law 271 = .ok (.aload_n 0, 1) := by decide +kernel
theorem dL_law_272 : decode cL_law 272 = .ok (.iload_n 3, 1) := by decide +kernel
theorem dL_law_273 : decode cL_law 273 = .ok (.iconst 1, 1) := by decide +kernel
theorem dL_law_274 : decode cL_law 274 = .ok (.iadd, 1) := by decide +kernel
theorem dL_law_275 : decode cL_law 275 = .ok (.iaload, 1) := by decide +kernel
theorem dL_law_276 : decode cL_law 276 = .ok (.aload_n 0, 1) := by decide +kernel
theorem dL_law_277 : decode cL_law 277 = .ok (.iload_n 3, 1) := by decide +kernel
theorem dL_law_278 : decode cL_law 278 = .ok (.iconst 2, 1) := by decide +kernel
theorem dL_law_279 : decode cL_law 279 = .ok (.iadd, 1) := by decide +kernel
theorem dL_law_280 : decode cL_law 280 = .ok (.iaload, 1) := by decide +kernel
theorem dL_law_281 : decode cL_law 281 = .ok (.aload_n 0, 1) := by decide +kernel
theorem dL_law_282 : decode cL_law 282 = .ok (.iload_n 3, 1) := by decide +kernel
theorem dL_law_283 : decode cL_law 283 = .ok (.iconst 3, 1) := by decide +kernel
theorem dL_law_284 : decode cL_law 284 = .ok (.iadd, 1) := by decide +kernel
theorem dL_law_285 : decode cL_law 285 = .ok (.iaload, 1) := by decide +kernel
theorem dL_law_286 : decode cL_law 286 = .ok (.ifCond .eq 7, 3) := by decide +kernel
theorem dL_law_289 : decode cL_law 289 = .ok (.iconst 1, 1) := by decide +kernel
theorem dL_law_290 : decode cL_law 290 = .ok (.goto 4, 3) := by decide +kernel
theorem dL_law_293 : decode cL_law 293 = .ok (.iconst 0, 1) := by decide +kernel
theorem dL_law_294 : decode cL_law 294 = .ok (.invokevirtual 34, 3) := by decide +kernel
theorem dL_law_297 : decode cL_law 297 = .ok (.if_icmp .eq 583, 3) := by decide +kernel
theorem dL_law_300 : decode cL_law 300 = .ok (.iconst 0, 1) := by decide +kernel
theorem dL_law_301 : decode cL_law 301 = .ok (.ireturn, 1) := by decide +kernel
theorem dL_law_302 : decode cL_law 302 = .ok (.aload_n 1, 1) := by decide +kernel
theorem dL_law_303 : decode cL_law 303 = .ok (.aload_n 0, 1) := by decide +kernel
theorem dL_law_304 : decode cL_law 304 = .ok (.iload_n 3, 1) := by decide +kernel
theorem dL_law_305 : decode cL_law 305 = .ok (.iconst 1, 1) := by decide +kernel
theorem dL_law_306 : decode cL_law 306 = .ok (.iadd, 1) := by decide +kernel
theorem dL_law_307 : decode cL_law 307 = .ok (.iaload, 1) := by decide +kernel
theorem dL_law_308 : decode cL_law 308 = .ok (.aload_n 0, 1) := by decide +kernel
theorem dL_law_309 : decode cL_law 309 = .ok (.iload_n 3, 1) := by decide +kernel
theorem dL_law_310 : decode cL_law 310 = .ok (.iconst 2, 1) := by decide +kernel
theorem dL_law_311 : decode cL_law 311 = .ok (.iadd, 1) := by decide +kernel
theorem dL_law_312 : decode cL_law 312 = .ok (.iaload, 1) := by decide +kernel
theorem dL_law_313 : decode cL_law 313 = .ok (.invokevirtual 35, 3) := by decide +kernel
theorem dL_law_316 : decode cL_law 316 = .ok (.aload_n 2, 1) := by decide +kernel
theorem dL_law_317 : decode cL_law 317 = .ok (.aload_n 0, 1) := by decide +kernel
theorem dL_law_318 : decode cL_law 318 = .ok (.iload_n 3, 1) := by decide +kernel
theorem dL_law_319 : decode cL_law 319 = .ok (.iconst 1, 1) := by decide +kernel
theorem dL_law_320 : decode cL_law 320 = .ok (.iadd, 1) := by decide +kernel
theorem dL_law_321 : decode cL_law 321 = .ok (.iaload, 1) := by decide +kernel
theorem dL_law_322 : decode cL_law 322 = .ok (.aload_n 0, 1) := by decide +kernel
theorem dL_law_323 : decode cL_law 323 = .ok (.iload_n 3, 1) := by decide +kernel
theorem dL_law_324 : decode cL_law 324 = .ok (.iconst 2, 1) := by decide +kernel
theorem dL_law_325 : decode cL_law 325 = .ok (.iadd, 1) := by decide +kernel
theorem dL_law_326 : decode cL_law 326 = .ok (.iaload, 1) := by decide +kernel
theorem dL_law_327 : decode cL_law 327 = .ok (.invokevirtual 38, 3) := by decide +kernel
theorem dL_law_330 : decode cL_law 330 = .ok (.if_icmp .eq 550, 3) := by decide +kernel
theorem dL_law_333 : decode cL_law 333 = .ok (.iconst 0, 1) := by decide +kernel
theorem dL_law_334 : decode cL_law 334 = .ok (.ireturn, 1) := by decide +kernel
theorem dL_law_335 : decode cL_law 335 = .ok (.aload_n 1, 1) := by decide +kernel
theorem dL_law_336 : decode cL_law 336 = .ok (.aload_n 0, 1) := by decide +kernel
theorem dL_law_337 : decode cL_law 337 = .ok (.iload_n 3, 1) := by decide +kernel
theorem dL_law_338 : decode cL_law 338 = .ok (.iconst 1, 1) := by decide +kernel
theorem dL_law_339 : decode cL_law 339 = .ok (.iadd, 1) := by decide +kernel
theorem dL_law_340 : decode cL_law 340 = .ok (.iaload, 1) := by decide +kernel
theorem dL_law_341 : decode cL_law 341 = .ok (.aload_n 0, 1) := by decide +kernel
theorem dL_law_342 : decode cL_law 342 = .ok (.iload_n 3, 1) := by decide +kernel
theorem dL_law_343 : decode cL_law 343 = .ok (.iconst 2, 1) := by decide +kernel
theorem dL_law_344 : decode cL_law 344 = .ok (.iadd, 1) := by decide +kernel
theorem dL_law_345 : decode cL_law 345 = .ok (.iaload, 1) := by decide +kernel
theorem dL_law_346 : decode cL_law 346 = .ok (.i2l, 1) := by decide +kernel
theorem dL_law_347 : decode cL_law 347 = .ok (.bipush 32, 2) := by decide +kernel
theorem dL_law_349 : decode cL_law 349 = .ok (.lshl, 1) := by decide +kernel
theorem dL_law_350 : decode cL_law 350 = .ok (.aload_n 0, 1) := by decide +kernel
theorem dL_law_351 : decode cL_law 351 = .ok (.iload_n 3, 1) := by decide +kernel
theorem dL_law_352 : decode cL_law 352 = .ok (.iconst 3, 1) := by decide +kernel
theorem dL_law_353 : decode cL_law 353 = .ok (.iadd, 1) := by decide +kernel
theorem dL_law_354 : decode cL_law 354 = .ok (.iaload, 1) := by decide +kernel
theorem dL_law_355 : decode cL_law 355 = .ok (.i2l, 1) := by decide +kernel
theorem dL_law_356 : decode cL_law 356 = .ok (.ldc2_w 18, 3) := by decide +kernel
theorem dL_law_359 : decode cL_law 359 = .ok (.land, 1) := by decide +kernel
theorem dL_law_360 : decode cL_law 360 = .ok (.lor, 1) := by decide +kernel
theorem dL_law_361 : decode cL_law 361 = .ok (.invokevirtual 39, 3) := by decide +kernel
theorem dL_law_364 : decode cL_law 364 = .ok (.aload_n 2, 1) := by decide +kernel
theorem dL_law_365 : decode cL_law 365 = .ok (.aload_n 0, 1) := by decide +kernel
theorem dL_law_366 : decode cL_law 366 = .ok (.iload_n 3, 1) := by decide +kernel
theorem dL_law_367 : decode cL_law 367 = .ok (.iconst 1, 1) := by decide +kernel
theorem dL_law_368 : decode cL_law 368 = .ok (.iadd, 1) := by decide +kernel
theorem dL_law_369 : decode cL_law 369 = .ok (.iaload, 1) := by decide +kernel
theorem dL_law_370 : decode cL_law 370 = .ok (.aload_n 0, 1) := by decide +kernel
theorem dL_law_371 : decode cL_law 371 = .ok (.iload_n 3, 1) := by decide +kernel
theorem dL_law_372 : decode cL_law 372 = .ok (.iconst 2, 1) := by decide +kernel
theorem dL_law_373 : decode cL_law 373 = .ok (.iadd, 1) := by decide +kernel
theorem dL_law_374 : decode cL_law 374 = .ok (.iaload, 1) := by decide +kernel
theorem dL_law_375 : decode cL_law 375 = .ok (.i2l, 1) := by decide +kernel
theorem dL_law_376 : decode cL_law 376 = .ok (.bipush 32, 2) := by decide +kernel
theorem dL_law_378 : decode cL_law 378 = .ok (.lshl, 1) := by decide +kernel
theorem dL_law_379 : decode cL_law 379 = .ok (.aload_n 0, 1) := by decide +kernel
theorem dL_law_380 : decode cL_law 380 = .ok (.iload_n 3, 1) := by decide +kernel
theorem dL_law_381 : decode cL_law 381 = .ok (.iconst 3, 1) := by decide +kernel
theorem dL_law_382 : decode cL_law 382 = .ok (.iadd, 1) := by decide +kernel
theorem dL_law_383 : decode cL_law 383 = .ok (.iaload, 1) := by decide +kernel
theorem dL_law_384 : decode cL_law 384 = .ok (.i2l, 1) := by decide +kernel
theorem dL_law_385 : decode cL_law 385 = .ok (.ldc2_w 18, 3) := by decide +kernel
theorem dL_law_388 : decode cL_law 388 = .ok (.land, 1) := by decide +kernel
theorem dL_law_389 : decode cL_law 389 = .ok (.lor, 1) := by decide +kernel
theorem dL_law_390 : decode cL_law 390 = .ok (.invokevirtual 42, 3) := by decide +kernel
theorem dL_law_393 : decode cL_law 393 = .ok (.if_icmp .eq 487, 3) := by decide +kernel
theorem dL_law_396 : decode cL_law 396 = .ok (.iconst 0, 1) := by decide +kernel
theorem dL_law_397 : decode cL_law 397 = .ok (.ireturn, 1) := by decide +kernel
theorem dL_law_398 : decode cL_law 398 = .ok (.aload_n 1, 1) := by decide +kernel
theorem dL_law_399 : decode cL_law 399 = .ok (.aload_n 0, 1) := by decide +kernel
theorem dL_law_400 : decode cL_law 400 = .ok (.iload_n 3, 1) := by decide +kernel
theorem dL_law_401 : decode cL_law 401 = .ok (.iconst 1, 1) := by decide +kernel
theorem dL_law_402 : decode cL_law 402 = .ok (.iadd, 1) := by decide +kernel
theorem dL_law_403 : decode cL_law 403 = .ok (.iaload, 1) := by decide +kernel
theorem dL_law_404 : decode cL_law 404 = .ok (.aload_n 0, 1) := by decide +kernel
theorem dL_law_405 : decode cL_law 405 = .ok (.iload_n 3, 1) := by decide +kernel
theorem dL_law_406 : decode cL_law 406 = .ok (.iconst 2, 1) := by decide +kernel
theorem dL_law_407 : decode cL_law 407 = .ok (.iadd, 1) := by decide +kernel
theorem dL_law_408 : decode cL_law 408 = .ok (.iaload, 1) := by decide +kernel
theorem dL_law_409 : decode cL_law 409 = .ok (.invokevirtual 43, 3) := by decide +kernel
theorem dL_law_412 : decode cL_law 412 = .ok (.aload_n 2, 1) := by decide +kernel
theorem dL_law_413 : decode cL_law 413 = .ok (.aload_n 0, 1) := by decide +kernel
theorem dL_law_414 : decode cL_law 414 = .ok (.iload_n 3, 1) := by decide +kernel
theorem dL_law_415 : decode cL_law 415 = .ok (.iconst 1, 1) := by decide +kernel
theorem dL_law_416 : decode cL_law 416 = .ok (.iadd, 1) := by decide +kernel
theorem dL_law_417 : decode cL_law 417 = .ok (.iaload, 1) := by decide +kernel
theorem dL_law_418 : decode cL_law 418 = .ok (.aload_n 0, 1) := by decide +kernel
theorem dL_law_419 : decode cL_law 419 = .ok (.iload_n 3, 1) := by decide +kernel
theorem dL_law_420 : decode cL_law 420 = .ok (.iconst 2, 1) := by decide +kernel
theorem dL_law_421 : decode cL_law 421 = .ok (.iadd, 1) := by decide +kernel
theorem dL_law_422 : decode cL_law 422 = .ok (.iaload, 1) := by decide +kernel
theorem dL_law_423 : decode cL_law 423 = .ok (.invokevirtual 46, 3) := by decide +kernel
theorem dL_law_426 : decode cL_law 426 = .ok (.if_icmp .eq 454, 3) := by decide +kernel
theorem dL_law_429 : decode cL_law 429 = .ok (.iconst 0, 1) := by decide +kernel
theorem dL_law_430 : decode cL_law 430 = .ok (.ireturn, 1) := by decide +kernel
theorem dL_law_431 : decode cL_law 431 = .ok (.aload_n 1, 1) := by decide +kernel
theorem dL_law_432 : decode cL_law 432 = .ok (.aload_n 0, 1) := by decide +kernel
theorem dL_law_433 : decode cL_law 433 = .ok (.iload_n 3, 1) := by decide +kernel
theorem dL_law_434 : decode cL_law 434 = .ok (.iconst 1, 1) := by decide +kernel
theorem dL_law_435 : decode cL_law 435 = .ok (.iadd, 1) := by decide +kernel
theorem dL_law_436 : decode cL_law 436 = .ok (.iaload, 1) := by decide +kernel
theorem dL_law_437 : decode cL_law 437 = .ok (.invokevirtual 47, 3) := by decide +kernel
theorem dL_law_440 : decode cL_law 440 = .ok (.aload_n 2, 1) := by decide +kernel
theorem dL_law_441 : decode cL_law 441 = .ok (.aload_n 0, 1) := by decide +kernel
theorem dL_law_442 : decode cL_law 442 = .ok (.iload_n 3, 1) := by decide +kernel
theorem dL_law_443 : decode cL_law 443 = .ok (.iconst 1, 1) := by decide +kernel
theorem dL_law_444 : decode cL_law 444 = .ok (.iadd, 1) := by decide +kernel
theorem dL_law_445 : decode cL_law 445 = .ok (.iaload, 1) := by decide +kernel
theorem dL_law_446 : decode cL_law 446 = .ok (.invokevirtual 50, 3) := by decide +kernel
theorem dL_law_449 : decode cL_law 449 = .ok (.if_icmp .eq 431, 3) := by decide +kernel
theorem dL_law_452 : decode cL_law 452 = .ok (.iconst 0, 1) := by decide +kernel
theorem dL_law_453 : decode cL_law 453 = .ok (.ireturn, 1) := by decide +kernel
theorem dL_law_454 : decode cL_law 454 = .ok (.aload_n 1, 1) := by decide +kernel
theorem dL_law_455 : decode cL_law 455 = .ok (.aload_n 0, 1) := by decide +kernel
theorem dL_law_456 : decode cL_law 456 = .ok (.iload_n 3, 1) := by decide +kernel
theorem dL_law_457 : decode cL_law 457 = .ok (.iconst 1, 1) := by decide +kernel
theorem dL_law_458 : decode cL_law 458 = .ok (.iadd, 1) := by decide +kernel
theorem dL_law_459 : decode cL_law 459 = .ok (.iaload, 1) := by decide +kernel
theorem dL_law_460 : decode cL_law 460 = .ok (.invokevirtual 51, 3) := by decide +kernel
theorem dL_law_463 : decode cL_law 463 = .ok (.aload_n 2, 1) := by decide +kernel
theorem dL_law_464 : decode cL_law 464 = .ok (.aload_n 0, 1) := by decide +kernel
theorem dL_law_465 : decode cL_law 465 = .ok (.iload_n 3, 1) := by decide +kernel
theorem dL_law_466 : decode cL_law 466 = .ok (.iconst 1, 1) := by decide +kernel
theorem dL_law_467 : decode cL_law 467 = .ok (.iadd, 1) := by decide +kernel
theorem dL_law_468 : decode cL_law 468 = .ok (.iaload, 1) := by decide +kernel
theorem dL_law_469 : decode cL_law 469 = .ok (.invokevirtual 54, 3) := by decide +kernel
theorem dL_law_472 : decode cL_law 472 = .ok (.if_icmp .eq 408, 3) := by decide +kernel
theorem dL_law_475 : decode cL_law 475 = .ok (.iconst 0, 1) := by decide +kernel
theorem dL_law_476 : decode cL_law 476 = .ok (.ireturn, 1) := by decide +kernel
theorem dL_law_477 : decode cL_law 477 = .ok (.aload_n 1, 1) := by decide +kernel
theorem dL_law_478 : decode cL_law 478 = .ok (.aload_n 0, 1) := by decide +kernel
theorem dL_law_479 : decode cL_law 479 = .ok (.iload_n 3, 1) := by decide +kernel
theorem dL_law_480 : decode cL_law 480 = .ok (.iconst 1, 1) := by decide +kernel
theorem dL_law_481 : decode cL_law 481 = .ok (.iadd, 1) := by decide +kernel
theorem dL_law_482 : decode cL_law 482 = .ok (.iaload, 1) := by decide +kernel
theorem dL_law_483 : decode cL_law 483 = .ok (.aload_n 0, 1) := by decide +kernel
theorem dL_law_484 : decode cL_law 484 = .ok (.iload_n 3, 1) := by decide +kernel
theorem dL_law_485 : decode cL_law 485 = .ok (.iconst 2, 1) := by decide +kernel
theorem dL_law_486 : decode cL_law 486 = .ok (.iadd, 1) := by decide +kernel
theorem dL_law_487 : decode cL_law 487 = .ok (.iaload, 1) := by decide +kernel
theorem dL_law_488 : decode cL_law 488 = .ok (.i2l, 1) := by decide +kernel
theorem dL_law_489 : decode cL_law 489 = .ok (.bipush 32, 2) := by decide +kernel
theorem dL_law_491 : decode cL_law 491 = .ok (.lshl, 1) := by decide +kernel
theorem dL_law_492 : decode cL_law 492 = .ok (.aload_n 0, 1) := by decide +kernel
theorem dL_law_493 : decode cL_law 493 = .ok (.iload_n 3, 1) := by decide +kernel
theorem dL_law_494 : decode cL_law 494 = .ok (.iconst 3, 1) := by decide +kernel
theorem dL_law_495 : decode cL_law 495 = .ok (.iadd, 1) := by decide +kernel
theorem dL_law_496 : decode cL_law 496 = .ok (.iaload, 1) := by decide +kernel
theorem dL_law_497 : decode cL_law 497 = .ok (.i2l, 1) := by decide +kernel
theorem dL_law_498 : decode cL_law 498 = .ok (.ldc2_w 18, 3) := by decide +kernel
theorem dL_law_501 : decode cL_law 501 = .ok (.land, 1) := by decide +kernel
theorem dL_law_502 : decode cL_law 502 = .ok (.lor, 1) := by decide +kernel
theorem dL_law_503 : decode cL_law 503 = .ok (.invokevirtual 55, 3) := by decide +kernel
theorem dL_law_506 : decode cL_law 506 = .ok (.aload_n 2, 1) := by decide +kernel
theorem dL_law_507 : decode cL_law 507 = .ok (.aload_n 0, 1) := by decide +kernel
theorem dL_law_508 : decode cL_law 508 = .ok (.iload_n 3, 1) := by decide +kernel
theorem dL_law_509 : decode cL_law 509 = .ok (.iconst 1, 1) := by decide +kernel
theorem dL_law_510 : decode cL_law 510 = .ok (.iadd, 1) := by decide +kernel
end
section
theorem dL_law_511 : decode cL_law 511 = .ok (.iaload, 1) := by decide +kernel
theorem dL_law_512 : decode cL_law 512 = .ok (.aload_n 0, 1) := by decide +kernel
theorem dL_law_513 : decode cL_law 513 = .ok (.iload_n 3, 1) := by decide +kernel
theorem dL_law_514 : decode cL_law 514 = .ok (.iconst 2, 1) := by decide +kernel
theorem dL_law_515 : decode cL_law 515 = .ok (.iadd, 1) := by decide +kernel
theorem dL_law_516 : decode cL_law 516 = .ok (.iaload, 1) := by decide +kernel
theorem dL_law_517 : decode cL_law 517 = .ok (.i2l, 1) := by decide +kernel
theorem dL_law_518 : decode cL_law 518 = .ok (.bipush 32, 2) := by decide +kernel
theorem dL_law_520 : decode cL_law 520 = .ok (.lshl, 1) := by decide +kernel
theorem dL_law_521 : decode cL_law 521 = .ok (.aload_n 0, 1) := by decide +kernel
theorem dL_law_522 : decode cL_law 522 = .ok (.iload_n 3, 1) := by decide +kernel
theorem dL_law_523 : decode cL_law 523 = .ok (.iconst 3, 1) := by decide +kernel
theorem dL_law_524 : decode cL_law 524 = .ok (.iadd, 1) := by decide +kernel
theorem dL_law_525 : decode cL_law 525 = .ok (.iaload, 1) := by decide +kernel
theorem dL_law_526 : decode cL_law 526 = .ok (.i2l, 1) := by decide +kernel
theorem dL_law_527 : decode cL_law 527 = .ok (.ldc2_w 18, 3) := by decide +kernel
theorem dL_law_530 : decode cL_law 530 = .ok (.land, 1) := by decide +kernel
theorem dL_law_531 : decode cL_law 531 = .ok (.lor, 1) := by decide +kernel
theorem dL_law_532 : decode cL_law 532 = .ok (.invokevirtual 58, 3) := by decide +kernel
theorem dL_law_535 : decode cL_law 535 = .ok (.if_icmp .eq 345, 3) := by decide +kernel
theorem dL_law_538 : decode cL_law 538 = .ok (.iconst 0, 1) := by decide +kernel
theorem dL_law_539 : decode cL_law 539 = .ok (.ireturn, 1) := by decide +kernel
theorem dL_law_540 : decode cL_law 540 = .ok (.aload_n 1, 1) := by decide +kernel
theorem dL_law_541 : decode cL_law 541 = .ok (.aload_n 0, 1) := by decide +kernel
theorem dL_law_542 : decode cL_law 542 = .ok (.iload_n 3, 1) := by decide +kernel
theorem dL_law_543 : decode cL_law 543 = .ok (.iconst 1, 1) := by decide +kernel
theorem dL_law_544 : decode cL_law 544 = .ok (.iadd, 1) := by decide +kernel
theorem dL_law_545 : decode cL_law 545 = .ok (.iaload, 1) := by decide +kernel
theorem dL_law_546 : decode cL_law 546 = .ok (.invokevirtual 59, 3) := by decide +kernel
theorem dL_law_549 : decode cL_law 549 = .ok (.aload_n 2, 1) := by decide +kernel
theorem dL_law_550 : decode cL_law 550 = .ok (.aload_n 0, 1) := by decide +kernel
theorem dL_law_551 : decode cL_law 551 = .ok (.iload_n 3, 1) := by decide +kernel
theorem dL_law_552 : decode cL_law 552 = .ok (.iconst 1, 1) := by decide +kernel
theorem dL_law_553 : decode cL_law 553 = .ok (.iadd, 1) := by decide +kernel
theorem dL_law_554 : decode cL_law 554 = .ok (.iaload, 1) := by decide +kernel
theorem dL_law_555 : decode cL_law 555 = .ok (.invokevirtual 62, 3) := by decide +kernel
theorem dL_law_558 : decode cL_law 558 = .ok (.if_icmp .eq 322, 3) := by decide +kernel
theorem dL_law_561 : decode cL_law 561 = .ok (.iconst 0, 1) := by decide +kernel
theorem dL_law_562 : decode cL_law 562 = .ok (.ireturn, 1) := by decide +kernel
theorem dL_law_563 : decode cL_law 563 = .ok (.aload_n 1, 1) := by decide +kernel
theorem dL_law_564 : decode cL_law 564 = .ok (.aload_n 0, 1) := by decide +kernel
theorem dL_law_565 : decode cL_law 565 = .ok (.iload_n 3, 1) := by decide +kernel
theorem dL_law_566 : decode cL_law 566 = .ok (.iconst 1, 1) := by decide +kernel
theorem dL_law_567 : decode cL_law 567 = .ok (.iadd, 1) := by decide +kernel
theorem dL_law_568 : decode cL_law 568 = .ok (.iaload, 1) := by decide +kernel
theorem dL_law_569 : decode cL_law 569 = .ok (.aload_n 0, 1) := by decide +kernel
theorem dL_law_570 : decode cL_law 570 = .ok (.iload_n 3, 1) := by decide +kernel
theorem dL_law_571 : decode cL_law 571 = .ok (.iconst 2, 1) := by decide +kernel
theorem dL_law_572 : decode cL_law 572 = .ok (.iadd, 1) := by decide +kernel
theorem dL_law_573 : decode cL_law 573 = .ok (.iaload, 1) := by decide +kernel
theorem dL_law_574 : decode cL_law 574 = .ok (.invokevirtual 63, 3) := by decide +kernel
theorem dL_law_577 : decode cL_law 577 = .ok (.aload_n 2, 1) := by decide +kernel
theorem dL_law_578 : decode cL_law 578 = .ok (.aload_n 0, 1) := by decide +kernel
theorem dL_law_579 : decode cL_law 579 = .ok (.iload_n 3, 1) := by decide +kernel
theorem dL_law_580 : decode cL_law 580 = .ok (.iconst 1, 1) := by decide +kernel
theorem dL_law_581 : decode cL_law 581 = .ok (.iadd, 1) := by decide +kernel
theorem dL_law_582 : decode cL_law 582 = .ok (.iaload, 1) := by decide +kernel
theorem dL_law_583 : decode cL_law 583 = .ok (.aload_n 0, 1) := by decide +kernel
theorem dL_law_584 : decode cL_law 584 = .ok (.iload_n 3, 1) := by decide +kernel
theorem dL_law_585 : decode cL_law 585 = .ok (.iconst 2, 1) := by decide +kernel
theorem dL_law_586 : decode cL_law 586 = .ok (.iadd, 1) := by decide +kernel
theorem dL_law_587 : decode cL_law 587 = .ok (.iaload, 1) := by decide +kernel
theorem dL_law_588 : decode cL_law 588 = .ok (.invokevirtual 67, 3) := by decide +kernel
theorem dL_law_591 : decode cL_law 591 = .ok (.lcmp, 1) := by decide +kernel
theorem dL_law_592 : decode cL_law 592 = .ok (.ifCond .eq 288, 3) := by decide +kernel
theorem dL_law_595 : decode cL_law 595 = .ok (.iconst 0, 1) := by decide +kernel
theorem dL_law_596 : decode cL_law 596 = .ok (.ireturn, 1) := by decide +kernel
theorem dL_law_597 : decode cL_law 597 = .ok (.aload_n 1, 1) := by decide +kernel
theorem dL_law_598 : decode cL_law 598 = .ok (.aload_n 0, 1) := by decide +kernel
theorem dL_law_599 : decode cL_law 599 = .ok (.iload_n 3, 1) := by decide +kernel
theorem dL_law_600 : decode cL_law 600 = .ok (.iconst 1, 1) := by decide +kernel
theorem dL_law_601 : decode cL_law 601 = .ok (.iadd, 1) := by decide +kernel
theorem dL_law_602 : decode cL_law 602 = .ok (.iaload, 1) := by decide +kernel
theorem dL_law_603 : decode cL_law 603 = .ok (.aload_n 0, 1) := by decide +kernel
theorem dL_law_604 : decode cL_law 604 = .ok (.iload_n 3, 1) := by decide +kernel
theorem dL_law_605 : decode cL_law 605 = .ok (.iconst 2, 1) := by decide +kernel
theorem dL_law_606 : decode cL_law 606 = .ok (.iadd, 1) := by decide +kernel
theorem dL_law_607 : decode cL_law 607 = .ok (.iaload, 1) := by decide +kernel
theorem dL_law_608 : decode cL_law 608 = .ok (.invokevirtual 68, 3) := by decide +kernel
theorem dL_law_611 : decode cL_law 611 = .ok (.aload_n 2, 1) := by decide +kernel
theorem dL_law_612 : decode cL_law 612 = .ok (.aload_n 0, 1) := by decide +kernel
theorem dL_law_613 : decode cL_law 613 = .ok (.iload_n 3, 1) := by decide +kernel
theorem dL_law_614 : decode cL_law 614 = .ok (.iconst 1, 1) := by decide +kernel
theorem dL_law_615 : decode cL_law 615 = .ok (.iadd, 1) := by decide +kernel
theorem dL_law_616 : decode cL_law 616 = .ok (.iaload, 1) := by decide +kernel
theorem dL_law_617 : decode cL_law 617 = .ok (.aload_n 0, 1) := by decide +kernel
theorem dL_law_618 : decode cL_law 618 = .ok (.iload_n 3, 1) := by decide +kernel
theorem dL_law_619 : decode cL_law 619 = .ok (.iconst 2, 1) := by decide +kernel
theorem dL_law_620 : decode cL_law 620 = .ok (.iadd, 1) := by decide +kernel
theorem dL_law_621 : decode cL_law 621 = .ok (.iaload, 1) := by decide +kernel
theorem dL_law_622 : decode cL_law 622 = .ok (.invokevirtual 71, 3) := by decide +kernel
theorem dL_law_625 : decode cL_law 625 = .ok (.if_icmp .eq 255, 3) := by decide +kernel
theorem dL_law_628 : decode cL_law 628 = .ok (.iconst 0, 1) := by decide +kernel
theorem dL_law_629 : decode cL_law 629 = .ok (.ireturn, 1) := by decide +kernel
theorem dL_law_630 : decode cL_law 630 = .ok (.aload_n 1, 1) := by decide +kernel
theorem dL_law_631 : decode cL_law 631 = .ok (.aload_n 0, 1) := by decide +kernel
theorem dL_law_632 : decode cL_law 632 = .ok (.iload_n 3, 1) := by decide +kernel
theorem dL_law_633 : decode cL_law 633 = .ok (.iconst 1, 1) := by decide +kernel
theorem dL_law_634 : decode cL_law 634 = .ok (.iadd, 1) := by decide +kernel
theorem dL_law_635 : decode cL_law 635 = .ok (.iaload, 1) := by decide +kernel
theorem dL_law_636 : decode cL_law 636 = .ok (.aload_n 0, 1) := by decide +kernel
theorem dL_law_637 : decode cL_law 637 = .ok (.iload_n 3, 1) := by decide +kernel
theorem dL_law_638 : decode cL_law 638 = .ok (.iconst 2, 1) := by decide +kernel
theorem dL_law_639 : decode cL_law 639 = .ok (.iadd, 1) := by decide +kernel
theorem dL_law_640 : decode cL_law 640 = .ok (.iaload, 1) := by decide +kernel
theorem dL_law_641 : decode cL_law 641 = .ok (.invokevirtual 72, 3) := by decide +kernel
theorem dL_law_644 : decode cL_law 644 = .ok (.aload_n 2, 1) := by decide +kernel
theorem dL_law_645 : decode cL_law 645 = .ok (.aload_n 0, 1) := by decide +kernel
theorem dL_law_646 : decode cL_law 646 = .ok (.iload_n 3, 1) := by decide +kernel
theorem dL_law_647 : decode cL_law 647 = .ok (.iconst 1, 1) := by decide +kernel
theorem dL_law_648 : decode cL_law 648 = .ok (.iadd, 1) := by decide +kernel
theorem dL_law_649 : decode cL_law 649 = .ok (.iaload, 1) := by decide +kernel
theorem dL_law_650 : decode cL_law 650 = .ok (.aload_n 0, 1) := by decide +kernel
theorem dL_law_651 : decode cL_law 651 = .ok (.iload_n 3, 1) := by decide +kernel
theorem dL_law_652 : decode cL_law 652 = .ok (.iconst 2, 1) := by decide +kernel
theorem dL_law_653 : decode cL_law 653 = .ok (.iadd, 1) := by decide +kernel
theorem dL_law_654 : decode cL_law 654 = .ok (.iaload, 1) := by decide +kernel
theorem dL_law_655 : decode cL_law 655 = .ok (.invokevirtual 75, 3) := by decide +kernel
theorem dL_law_658 : decode cL_law 658 = .ok (.if_icmp .eq 222, 3) := by decide +kernel
theorem dL_law_661 : decode cL_law 661 = .ok (.iconst 0, 1) := by decide +kernel
theorem dL_law_662 : decode cL_law 662 = .ok (.ireturn, 1) := by decide +kernel
theorem dL_law_663 : decode cL_law 663 = .ok (.aload_n 1, 1) := by decide +kernel
theorem dL_law_664 : decode cL_law 664 = .ok (.aload_n 0, 1) := by decide +kernel
theorem dL_law_665 : decode cL_law 665 = .ok (.iload_n 3, 1) := by decide +kernel
theorem dL_law_666 : decode cL_law 666 = .ok (.iconst 1, 1) := by decide +kernel
theorem dL_law_667 : decode cL_law 667 = .ok (.iadd, 1) := by decide +kernel
theorem dL_law_668 : decode cL_law 668 = .ok (.iaload, 1) := by decide +kernel
theorem dL_law_669 : decode cL_law 669 = .ok (.aload_n 0, 1) := by decide +kernel
theorem dL_law_670 : decode cL_law 670 = .ok (.iload_n 3, 1) := by decide +kernel
theorem dL_law_671 : decode cL_law 671 = .ok (.iconst 2, 1) := by decide +kernel
theorem dL_law_672 : decode cL_law 672 = .ok (.iadd, 1) := by decide +kernel
theorem dL_law_673 : decode cL_law 673 = .ok (.iaload, 1) := by decide +kernel
theorem dL_law_674 : decode cL_law 674 = .ok (.aload_n 0, 1) := by decide +kernel
theorem dL_law_675 : decode cL_law 675 = .ok (.iload_n 3, 1) := by decide +kernel
theorem dL_law_676 : decode cL_law 676 = .ok (.iconst 3, 1) := by decide +kernel
theorem dL_law_677 : decode cL_law 677 = .ok (.iadd, 1) := by decide +kernel
theorem dL_law_678 : decode cL_law 678 = .ok (.iaload, 1) := by decide +kernel
theorem dL_law_679 : decode cL_law 679 = .ok (.invokevirtual 76, 3) := by decide +kernel
theorem dL_law_682 : decode cL_law 682 = .ok (.aload_n 2, 1) := by decide +kernel
theorem dL_law_683 : decode cL_law 683 = .ok (.aload_n 0, 1) := by decide +kernel
theorem dL_law_684 : decode cL_law 684 = .ok (.iload_n 3, 1) := by decide +kernel
theorem dL_law_685 : decode cL_law 685 = .ok (.iconst 1, 1) := by decide +kernel
theorem dL_law_686 : decode cL_law 686 = .ok (.iadd, 1) := by decide +kernel
theorem dL_law_687 : decode cL_law 687 = .ok (.iaload, 1) := by decide +kernel
theorem dL_law_688 : decode cL_law 688 = .ok (.aload_n 0, 1) := by decide +kernel
theorem dL_law_689 : decode cL_law 689 = .ok (.iload_n 3, 1) := by decide +kernel
theorem dL_law_690 : decode cL_law 690 = .ok (.iconst 2, 1) := by decide +kernel
theorem dL_law_691 : decode cL_law 691 = .ok (.iadd, 1) := by decide +kernel
theorem dL_law_692 : decode cL_law 692 = .ok (.iaload, 1) := by decide +kernel
theorem dL_law_693 : decode cL_law 693 = .ok (.aload_n 0, 1) := by decide +kernel
theorem dL_law_694 : decode cL_law 694 = .ok (.iload_n 3, 1) := by decide +kernel
theorem dL_law_695 : decode cL_law 695 = .ok (.iconst 3, 1) := by decide +kernel
theorem dL_law_696 : decode cL_law 696 = .ok (.iadd, 1) := by decide +kernel
theorem dL_law_697 : decode cL_law 697 = .ok (.iaload, 1) := by decide +kernel
theorem dL_law_698 : decode cL_law 698 = .ok (.invokevirtual 80, 3) := by decide +kernel
theorem dL_law_701 : decode cL_law 701 = .ok (.if_icmp .eq 179, 3) := by decide +kernel
theorem dL_law_704 : decode cL_law 704 = .ok (.iconst 0, 1) := by decide +kernel
theorem dL_law_705 : decode cL_law 705 = .ok (.ireturn, 1) := by decide +kernel
theorem dL_law_706 : decode cL_law 706 = .ok (.aload_n 1, 1) := by decide +kernel
theorem dL_law_707 : decode cL_law 707 = .ok (.aload_n 0, 1) := by decide +kernel
theorem dL_law_708 : decode cL_law 708 = .ok (.iload_n 3, 1) := by decide +kernel
theorem dL_law_709 : decode cL_law 709 = .ok (.iconst 1, 1) := by decide +kernel
theorem dL_law_710 : decode cL_law 710 = .ok (.iadd, 1) := by decide +kernel
theorem dL_law_711 : decode cL_law 711 = .ok (.iaload, 1) := by decide +kernel
theorem dL_law_712 : decode cL_law 712 = .ok (.aload_n 0, 1) := by decide +kernel
theorem dL_law_713 : decode cL_law 713 = .ok (.iload_n 3, 1) := by decide +kernel
theorem dL_law_714 : decode cL_law 714 = .ok (.iconst 2, 1) := by decide +kernel
theorem dL_law_715 : decode cL_law 715 = .ok (.iadd, 1) := by decide +kernel
theorem dL_law_716 : decode cL_law 716 = .ok (.iaload, 1) := by decide +kernel
theorem dL_law_717 : decode cL_law 717 = .ok (.invokevirtual 81, 3) := by decide +kernel
theorem dL_law_720 : decode cL_law 720 = .ok (.aload_n 2, 1) := by decide +kernel
theorem dL_law_721 : decode cL_law 721 = .ok (.aload_n 0, 1) := by decide +kernel
theorem dL_law_722 : decode cL_law 722 = .ok (.iload_n 3, 1) := by decide +kernel
theorem dL_law_723 : decode cL_law 723 = .ok (.iconst 1, 1) := by decide +kernel
theorem dL_law_724 : decode cL_law 724 = .ok (.iadd, 1) := by decide +kernel
theorem dL_law_725 : decode cL_law 725 = .ok (.iaload, 1) := by decide +kernel
theorem dL_law_726 : decode cL_law 726 = .ok (.aload_n 0, 1) := by decide +kernel
theorem dL_law_727 : decode cL_law 727 = .ok (.iload_n 3, 1) := by decide +kernel
theorem dL_law_728 : decode cL_law 728 = .ok (.iconst 2, 1) := by decide +kernel
theorem dL_law_729 : decode cL_law 729 = .ok (.iadd, 1) := by decide +kernel
theorem dL_law_730 : decode cL_law 730 = .ok (.iaload, 1) := by decide +kernel
theorem dL_law_731 : decode cL_law 731 = .ok (.invokevirtual 85, 3) := by decide +kernel
theorem dL_law_734 : decode cL_law 734 = .ok (.if_icmp .eq 146, 3) := by decide +kernel
theorem dL_law_737 : decode cL_law 737 = .ok (.iconst 0, 1) := by decide +kernel
theorem dL_law_738 : decode cL_law 738 = .ok (.ireturn, 1) := by decide +kernel
theorem dL_law_739 : decode cL_law 739 = .ok (.aload_n 1, 1) := by decide +kernel
theorem dL_law_740 : decode cL_law 740 = .ok (.aload_n 0, 1) := by decide +kernel
theorem dL_law_741 : decode cL_law 741 = .ok (.iload_n 3, 1) := by decide +kernel
theorem dL_law_742 : decode cL_law 742 = .ok (.iconst 1, 1) := by decide +kernel
theorem dL_law_743 : decode cL_law 743 = .ok (.iadd, 1) := by decide +kernel
theorem dL_law_744 : decode cL_law 744 = .ok (.iaload, 1) := by decide +kernel
theorem dL_law_745 : decode cL_law 745 = .ok (.i2l, 1) := by decide +kernel
theorem dL_law_746 : decode cL_law 746 = .ok (.bipush 32, 2) := by decide +kernel
theorem dL_law_748 : decode cL_law 748 = .ok (.lshl, 1) := by decide +kernel
theorem dL_law_749 : decode cL_law 749 = .ok (.aload_n 0, 1) := by decide +kernel
theorem dL_law_750 : decode cL_law 750 = .ok (.iload_n 3, 1) := by decide +kernel
theorem dL_law_751 : decode cL_law 751 = .ok (.iconst 2, 1) := by decide +kernel
theorem dL_law_752 : decode cL_law 752 = .ok (.iadd, 1) := by decide +kernel
theorem dL_law_753 : decode cL_law 753 = .ok (.iaload, 1) := by decide +kernel
theorem dL_law_754 : decode cL_law 754 = .ok (.i2l, 1) := by decide +kernel
theorem dL_law_755 : decode cL_law 755 = .ok (.ldc2_w 18, 3) := by decide +kernel
theorem dL_law_758 : decode cL_law 758 = .ok (.land, 1) := by decide +kernel
theorem dL_law_759 : decode cL_law 759 = .ok (.lor, 1) := by decide +kernel
theorem dL_law_760 : decode cL_law 760 = .ok (.aload_n 0, 1) := by decide +kernel
theorem dL_law_761 : decode cL_law 761 = .ok (.iload_n 3, 1) := by decide +kernel
theorem dL_law_762 : decode cL_law 762 = .ok (.iconst 3, 1) := by decide +kernel
theorem dL_law_763 : decode cL_law 763 = .ok (.iadd, 1) := by decide +kernel
theorem dL_law_764 : decode cL_law 764 = .ok (.iaload, 1) := by decide +kernel
theorem dL_law_765 : decode cL_law 765 = .ok (.i2l, 1) := by decide +kernel
theorem dL_law_766 : decode cL_law 766 = .ok (.bipush 32, 2) := by decide +kernel
theorem dL_law_768 : decode cL_law 768 = .ok (.lshl, 1) := by decide +kernel
theorem dL_law_769 : decode cL_law 769 = .ok (.aload_n 0, 1) := by decide +kernel
theorem dL_law_770 : decode cL_law 770 = .ok (.iload_n 3, 1) := by decide +kernel
theorem dL_law_771 : decode cL_law 771 = .ok (.iconst 4, 1) := by decide +kernel
theorem dL_law_772 : decode cL_law 772 = .ok (.iadd, 1) := by decide +kernel
theorem dL_law_773 : decode cL_law 773 = .ok (.iaload, 1) := by decide +kernel
theorem dL_law_774 : decode cL_law 774 = .ok (.i2l, 1) := by decide +kernel
theorem dL_law_775 : decode cL_law 775 = .ok (.ldc2_w 18, 3) := by decide +kernel
theorem dL_law_778 : decode cL_law 778 = .ok (.land, 1) := by decide +kernel
theorem dL_law_779 : decode cL_law 779 = .ok (.lor, 1) := by decide +kernel
theorem dL_law_780 : decode cL_law 780 = .ok (.invokevirtual 86, 3) := by decide +kernel
theorem dL_law_783 : decode cL_law 783 = .ok (.aload_n 2, 1) := by decide +kernel
theorem dL_law_784 : decode cL_law 784 = .ok (.aload_n 0, 1) := by decide +kernel
theorem dL_law_785 : decode cL_law 785 = .ok (.iload_n 3, 1) := by decide +kernel
theorem dL_law_786 : decode cL_law 786 = .ok (.iconst 1, 1) := by decide +kernel
theorem dL_law_787 : decode cL_law 787 = .ok (.iadd, 1) := by decide +kernel
theorem dL_law_788 : decode cL_law 788 = .ok (.iaload, 1) := by decide +kernel
theorem dL_law_789 : decode cL_law 789 = .ok (.i2l, 1) := by decide +kernel
theorem dL_law_790 : decode cL_law 790 = .ok (.bipush 32, 2) := by decide +kernel
theorem dL_law_792 : decode cL_law 792 = .ok (.lshl, 1) := by decide +kernel
theorem dL_law_793 : decode cL_law 793 = .ok (.aload_n 0, 1) := by decide +kernel
theorem dL_law_794 : decode cL_law 794 = .ok (.iload_n 3, 1) := by decide +kernel
theorem dL_law_795 : decode cL_law 795 = .ok (.iconst 2, 1) := by decide +kernel
theorem dL_law_796 : decode cL_law 796 = .ok (.iadd, 1) := by decide +kernel
theorem dL_law_797 : decode cL_law 797 = .ok (.iaload, 1) := by decide +kernel
theorem dL_law_798 : decode cL_law 798 = .ok (.i2l, 1) := by decide +kernel
theorem dL_law_799 : decode cL_law 799 = .ok (.ldc2_w 18, 3) := by decide +kernel
theorem dL_law_802 : decode cL_law 802 = .ok (.land, 1) := by decide +kernel
theorem dL_law_803 : decode cL_law 803 = .ok (.lor, 1) := by decide +kernel
theorem dL_law_804 : decode cL_law 804 = .ok (.aload_n 0, 1) := by decide +kernel
theorem dL_law_805 : decode cL_law 805 = .ok (.iload_n 3, 1) := by decide +kernel
theorem dL_law_806 : decode cL_law 806 = .ok (.iconst 3, 1) := by decide +kernel
theorem dL_law_807 : decode cL_law 807 = .ok (.iadd, 1) := by decide +kernel
theorem dL_law_808 : decode cL_law 808 = .ok (.iaload, 1) := by decide +kernel
theorem dL_law_809 : decode cL_law 809 = .ok (.i2l, 1) := by decide +kernel
theorem dL_law_810 : decode cL_law 810 = .ok (.bipush 32, 2) := by decide +kernel
theorem dL_law_812 : decode cL_law 812 = .ok (.lshl, 1) := by decide +kernel
theorem dL_law_813 : decode cL_law 813 = .ok (.aload_n 0, 1) := by decide +kernel
theorem dL_law_814 : decode cL_law 814 = .ok (.iload_n 3, 1) := by decide +kernel
theorem dL_law_815 : decode cL_law 815 = .ok (.iconst 4, 1) := by decide +kernel
theorem dL_law_816 : decode cL_law 816 = .ok (.iadd, 1) := by decide +kernel
theorem dL_law_817 : decode cL_law 817 = .ok (.iaload, 1) := by decide +kernel
theorem dL_law_818 : decode cL_law 818 = .ok (.i2l, 1) := by decide +kernel
theorem dL_law_819 : decode cL_law 819 = .ok (.ldc2_w 18, 3) := by decide +kernel
theorem dL_law_822 : decode cL_law 822 = .ok (.land, 1) := by decide +kernel
theorem dL_law_823 : decode cL_law 823 = .ok (.lor, 1) := by decide +kernel
theorem dL_law_824 : decode cL_law 824 = .ok (.invokevirtual 90, 3) := by decide +kernel
theorem dL_law_827 : decode cL_law 827 = .ok (.lcmp, 1) := by decide +kernel
theorem dL_law_828 : decode cL_law 828 = .ok (.ifCond .eq 52, 3) := by decide +kernel
theorem dL_law_831 : decode cL_law 831 = .ok (.iconst 0, 1) := by decide +kernel
theorem dL_law_832 : decode cL_law 832 = .ok (.ireturn, 1) := by decide +kernel
theorem dL_law_833 : decode cL_law 833 = .ok (.aload_n 1, 1) := by decide +kernel
theorem dL_law_834 : decode cL_law 834 = .ok (.aload_n 0, 1) := by decide +kernel
theorem dL_law_835 : decode cL_law 835 = .ok (.iload_n 3, 1) := by decide +kernel
theorem dL_law_836 : decode cL_law 836 = .ok (.iconst 1, 1) := by decide +kernel
theorem dL_law_837 : decode cL_law 837 = .ok (.iadd, 1) := by decide +kernel
theorem dL_law_838 : decode cL_law 838 = .ok (.iaload, 1) := by decide +kernel
theorem dL_law_839 : decode cL_law 839 = .ok (.invokevirtual 91, 3) := by decide +kernel
theorem dL_law_842 : decode cL_law 842 = .ok (.aload_n 2, 1) := by decide +kernel
theorem dL_law_843 : decode cL_law 843 = .ok (.aload_n 0, 1) := by decide +kernel
theorem dL_law_844 : decode cL_law 844 = .ok (.iload_n 3, 1) := by decide +kernel
theorem dL_law_845 : decode cL_law 845 = .ok (.iconst 1, 1) := by decide +kernel
theorem dL_law_846 : decode cL_law 846 = .ok (.iadd, 1) := by decide +kernel
theorem dL_law_847 : decode cL_law 847 = .ok (.iaload, 1) := by decide +kernel
theorem dL_law_848 : decode cL_law 848 = .ok (.invokevirtual 95, 3) := by decide +kernel
theorem dL_law_851 : decode cL_law 851 = .ok (.lcmp, 1) := by decide +kernel
theorem dL_law_852 : decode cL_law 852 = .ok (.ifCond .eq 28, 3) := by decide +kernel
theorem dL_law_855 : decode cL_law 855 = .ok (.iconst 0, 1) := by decide +kernel
theorem dL_law_856 : decode cL_law 856 = .ok (.ireturn, 1) := by decide +kernel
theorem dL_law_857 : decode cL_law 857 = .ok (.aload_n 1, 1) := by decide +kernel
theorem dL_law_858 : decode cL_law 858 = .ok (.aload_n 0, 1) := by decide +kernel
theorem dL_law_859 : decode cL_law 859 = .ok (.iload_n 3, 1) := by decide +kernel
theorem dL_law_860 : decode cL_law 860 = .ok (.iconst 1, 1) := by decide +kernel
theorem dL_law_861 : decode cL_law 861 = .ok (.iadd, 1) := by decide +kernel
theorem dL_law_862 : decode cL_law 862 = .ok (.iaload, 1) := by decide +kernel
theorem dL_law_863 : decode cL_law 863 = .ok (.invokevirtual 96, 3) := by decide +kernel
theorem dL_law_866 : decode cL_law 866 = .ok (.aload_n 2, 1) := by decide +kernel
theorem dL_law_867 : decode cL_law 867 = .ok (.aload_n 0, 1) := by decide +kernel
theorem dL_law_868 : decode cL_law 868 = .ok (.iload_n 3, 1) := by decide +kernel
theorem dL_law_869 : decode cL_law 869 = .ok (.iconst 1, 1) := by decide +kernel
theorem dL_law_870 : decode cL_law 870 = .ok (.iadd, 1) := by decide +kernel
theorem dL_law_871 : decode cL_law 871 = .ok (.iaload, 1) := by decide +kernel
theorem dL_law_872 : decode cL_law 872 = .ok (.invokevirtual 99, 3) := by decide +kernel
theorem dL_law_875 : decode cL_law 875 = .ok (.if_icmp .eq 5, 3) := by decide +kernel
theorem dL_law_878 : decode cL_law 878 = .ok (.iconst 0, 1) := by decide +kernel
theorem dL_law_879 : decode cL_law 879 = .ok (.ireturn, 1) := by decide +kernel
theorem dL_law_880 : decode cL_law 880 = .ok (.iinc 3 5, 3) := by decide +kernel
theorem dL_law_883 : decode cL_law 883 = .ok (.goto (-865), 3) := by decide +kernel
theorem dL_law_886 : decode cL_law 886 = .ok (.iconst 1, 1) := by decide +kernel
theorem dL_law_887 : decode cL_law 887 = .ok (.ireturn, 1) := by decide +kernel
end
section
/-! A LAYER OF MY OWN OVER THE KIT'S W: the whole made heap as one abstract memory by (relative) address and slot; a judgement hm_V that speaks of it alone. -/
abbrev hm_M : Type := (Nat → Nat → Int32) × (Nat → Nat → Int64) × (Nat → Nat → Option Nat) × Nat
def hm_I (σ : hm_M) : Nat → Nat → Int32 := σ.1
def hm_L (σ : hm_M) : Nat → Nat → Int64 := σ.2.1
def hm_R (σ : hm_M) : Nat → Nat → Option Nat := σ.2.2.1
def hm_n (σ : hm_M) : Nat := σ.2.2.2
def hm_wI (σ : hm_M) (a k : Nat) (v : Int32) : hm_M := (fun b j => if b = a ∧ j = k then v else σ.1 b j, σ.2)
def hm_wL (σ : hm_M) (a k : Nat) (v : Int64) : hm_M := (σ.1, fun b j => if b = a ∧ j = k then v else σ.2.1 b j, σ.2.2)
def hm_wR (σ : hm_M) (a k : Nat) (v : Option Nat) : hm_M := (σ.1, σ.2.1, fun b j => if b = a ∧ j = k then v else σ.2.2.1 b j, σ.2.2.2)
def hm_g (σ : hm_M) : hm_M := (σ.1, σ.2.1, σ.2.2.1, σ.2.2.2 + 1)
theorem hm_I_wI (σ : hm_M) (a k : Nat) (v : Int32) (b j : Nat) : hm_I (hm_wI σ a k v) b j = if b = a ∧ j = k then v else hm_I σ b j := rfl
theorem hm_L_wI (σ : hm_M) (a k : Nat) (v : Int32) : hm_L (hm_wI σ a k v) = hm_L σ := rfl
theorem hm_R_wI (σ : hm_M) (a k : Nat) (v : Int32) : hm_R (hm_wI σ a k v) = hm_R σ := rfl
theorem hm_n_wI (σ : hm_M) (a k : Nat) (v : Int32) : hm_n (hm_wI σ a k v) = hm_n σ := rfl
theorem hm_I_wL (σ : hm_M) (a k : Nat) (v : Int64) : hm_I (hm_wL σ a k v) = hm_I σ := rfl
theorem hm_L_wL (σ : hm_M) (a k : Nat) (v : Int64) (b j : Nat) : hm_L (hm_wL σ a k v) b j = if b = a ∧ j = k then v else hm_L σ b j := rfl
theorem hm_R_wL (σ : hm_M) (a k : Nat) (v : Int64) : hm_R (hm_wL σ a k v) = hm_R σ := rfl
theorem hm_n_wL (σ : hm_M) (a k : Nat) (v : Int64) : hm_n (hm_wL σ a k v) = hm_n σ := rfl
theorem hm_I_wR (σ : hm_M) (a k : Nat) (v : Option Nat) : hm_I (hm_wR σ a k v) = hm_I σ := rfl
theorem hm_L_wR (σ : hm_M) (a k : Nat) (v : Option Nat) : hm_L (hm_wR σ a k v) = hm_L σ := rfl
theorem hm_R_wR (σ : hm_M) (a k : Nat) (v : Option Nat) (b j : Nat) : hm_R (hm_wR σ a k v) b j = if b = a ∧ j = k then v else hm_R σ b j := rfl
theorem hm_n_wR (σ : hm_M) (a k : Nat) (v : Option Nat) : hm_n (hm_wR σ a k v) = hm_n σ := rfl
theorem hm_I_g (σ : hm_M) : hm_I (hm_g σ) = hm_I σ := rfl
theorem hm_L_g (σ : hm_M) : hm_L (hm_g σ) = hm_L σ := rfl
theorem hm_R_g (σ : hm_M) : hm_R (hm_g σ) = hm_R σ := rfl
theorem hm_n_g (σ : hm_M) : hm_n (hm_g σ) = hm_n σ + 1 := rfl
/-- the kinds of the cells by relative address: 0 .. 5 an object of that class; 10 int[], 11 long[], 12 boolean[], 13 Bearer[], 14 Portable[], with the length -/
def hm_T0 : List (Nat × Nat) := [(4, 0), (3, 0), (10, 4), (10, 8), (10, 16), (10, 120), (10, 120), (10, 120), (13, 16), (0, 0), (0, 0), (0, 0), (0, 0), (0, 0), (0, 0), (0, 0), (0, 0), (0, 0), (0, 0), (0, 0), (0, 0), (0, 0), (0, 0), (0, 0), (0, 0), (14, 8), (10, 7), (5, 0), (10, 4), (10, 8), (11, 8), (12, 8), (11, 8), (10, 8), (10, 8), (10, 8), (10, 16), (12, 2400), (10, 16), (10, 16), (10, 16), (10, 16), (12, 16), (10, 8), (11, 64), (10, 8), (11, 128), (10, 8), (11, 160), (10, 7), (10, 8), (10, 8)]
def hm_T1 : List (Nat × Nat) := [(2, 0), (1, 0), (11, 8), (1, 0), (11, 16), (1, 0), (11, 20)]
def hm_S (a : Nat) : Nat × Nat := if a < 52 then hm_T0.getD a (0, 0) else hm_T1.getD ((a - 52) % 7) (0, 0)
def hm_ty (ci k : Nat) : FieldType := match ci with
  | 0 => tyX0 k
  | 1 => tyX1 k
  | 2 => tyX2 k
  | 3 => tyX3 k
  | 4 => tyX4 k
  | _ => tyX5 k
def hm_tag (t : FieldType) : Nat := match t with
  | .int => 0
  | .boolean => 0
  | .long => 1
  | _ => 2
def hm_at (kd : Nat) : Nat := if kd = 11 then 1 else if kd < 13 then 0 else 2
def hm_rf (base : Nat) (r : Option Nat) : Value := match r with
  | none => .null
  | some a => .ref (base + a)
def hm_v (base : Nat) (σ : hm_M) (a t k : Nat) : Value := match t with
  | 0 => .int (hm_I σ a k)
  | 1 => .long (hm_L σ a k)
  | _ => hm_rf base (hm_R σ a k)
abbrev hm_Cl : List vw_C := [(RX0, TX0, 5), (RX1, TX1, 3), (RX2, TX2, 12), (RX3, TX3, 11), (RX4, TX4, 11), (RX5, TX5, 35)]
def hm_cl (D : va_G) (dA : Nat → ClassId) (base : Nat) (σ : hm_M) (H : Heap) (a : Nat) : Prop :=
  if (hm_S a).1 < 6 then ∃ r : vw_C, hm_Cl[(hm_S a).1]? = some r ∧ t_OB (base + a) (D.1 (hm_S a).1) r.2.2 (D.2 (hm_S a).1) H (fun k => hm_v base σ a (hm_tag (hm_ty (hm_S a).1 k)) k)
  else H[base + a]? = some (arrV (dA (hm_S a).1) (hm_S a).2 (fun j => hm_v base σ a (hm_at (hm_S a).1) j))
def hm_Rep (D : va_G) (dA : Nat → ClassId) (base : Nat) (σ : hm_M) (H : Heap) : Prop :=
  H.size = base + hm_n σ ∧ (∀ a, a < hm_n σ → hm_cl D dA base σ H a) ∧ ∀ a k, hm_n σ ≤ a → hm_I σ a k = 0 ∧ hm_L σ a k = 0 ∧ hm_R σ a k = none
/-- the words that all methods share -/
def hm_T : List Cond := lw_tbl.filter goodWord
theorem hm_in {w : Cond} (h : w ∈ lw_tbl) (g : goodWord w = true) : w ∈ hm_T := List.mem_filter.mpr ⟨h, g⟩
theorem hm_w {w : Cond} (i : Nat) (h : tables_1[i]? = some w) (g : goodWord w = true) : w ∈ hm_T := hm_in (List.mem_append_right _ (List.mem_of_getElem? h)) g
theorem hm_ws {w : Cond} (i : Nat) (h : (k2_sels lw_privs)[i]? = some w) (g : goodWord w = true) : w ∈ hm_T := hm_in (List.mem_append_left _ (List.mem_of_getElem? h)) g
theorem hm_good {y : MethodName} {cc : ByteArray} {n : Nat} {r : Option FieldType} (h : Cond.code y cc n r ∈ hm_T) : GoodIn hm_T (.code y cc n r :: hm_T) := by
  intro w hw
  have hm : w ∈ hm_T := by
    rcases List.mem_cons.mp hw with e | e
    · rw [e]; exact h
    · exact e
  exact ⟨hm, good_of_word (List.mem_filter.mp hm).2⟩
def hm_tys (dA : Nat → ClassId) : List (ClassId × FieldType) := [(dA 10, .int), (dA 11, .long), (dA 12, .boolean), (dA 13, .object RX0), (dA 14, .object RX2)]
def hm_K (D : va_G) (dA : Nat → ClassId) (s : State) : Prop := va_K D hm_Cl (hm_tys dA) s ∧ va_AO RX0 s ∧ va_AO RX2 s ∧ va_Nw (.methodLinkNest RX3 36 yX0_init RX4) s
theorem hm_K.warm {D : va_G} {dA : Nat → ClassId} {s U : State} (hW : s.WarmedH U.vm) (h : hm_K D dA s) : hm_K D dA U := ⟨va_K.moved hW.alike h.1, h.2.1.moved hW.alike, h.2.2.1.moved hW.alike, va_Nw.warmM hW h.2.2.2⟩
theorem hm_K.same {D : va_G} {dA : Nat → ClassId} {s U : State} (hW : s.vm = U.vm) (h : hm_K D dA s) : hm_K D dA U := ⟨va_K.moved (hW ▸ Vm.Alike.refl _) h.1, h.2.1.moved (hW ▸ Vm.Alike.refl _), h.2.2.1.moved (hW ▸ Vm.Alike.refl _), va_Nw.same rfl hW h.2.2.2⟩
def hm_c (base : Nat) (v : Value) : Value := match v with
  | .ref a => .ref (base + a)
  | w => w
theorem hm_c_cat (base : Nat) (v : Value) : (hm_c base v).category = v.category := by cases v <;> rfl
def hm_u : Value := .float 0
def hm_lo (base nL : Nat) (ls : Array Slot) (L : List Value) : Prop := ls.size = nL ∧ lv_wf ls ∧ ∀ (j : Nat) (v : Value), L[j]? = some v → v ≠ hm_u → ls[j]? = some (.val (hm_c base v))
def hm_Qc (D : va_G) (dA : Nat → ClassId) (base : Nat) (Q : Option Value → hm_M → Prop) : Array Value → State → Outcome → State → Prop := fun _ _ o t => ∃ (r : Option Value) (σ : hm_M), o = .returned (r.map (hm_c base)) ∧ Q r σ ∧ hm_Rep D dA base σ t.heap
def hm_C (D : va_G) (dA : Nat → ClassId) (own : String) (cc : ByteArray) (nL : Nat) (ret : Option FieldType) (ini : Bool) (p : Program) (s : State) (m : MethodId) (args : Array Value) (meth : Method) (c : Code) : Prop :=
  p.tables.exec = Jvm.exec ∧ c.code = cc ∧ c.maxLocals = nL ∧ meth.sig.returnType = ret ∧ meth.locks = false ∧ s.vm.findClass own = some m.cls ∧ (∀ w ∈ hm_T, w.before args s = true) ∧ hm_K D dA s ∧ (ini = true → meth.name = "<init>")
/-- from here, with these locals, this stack and this memory, the method comes to its end with Q -/
def hm_V (l : Launch) (own : String) (cc : ByteArray) (nL : Nat) (ret : Option FieldType) (ini : Bool) (R : Room) (mc ms : Nat) (Q : Option Value → hm_M → Prop) (kc ks : Nat) (pc : Nat) (L : List Value) (st : List Value) (σ : hm_M) : Prop :=
  ∀ (p : Program) (e : Env) (s : State) (m : MethodId) (args : Array Value) (below : List Frame) (meth : Method) (c : Code) (D : va_G) (dA : Nat → ClassId) (base : Nat) (H : Heap) (locs : List Loc) (ls : Array Slot),
    hm_C D dA own cc nL ret ini p s m args meth c → hm_Rep D dA base σ H → (∀ q ∈ locs, base ≤ q.base) → hm_lo base nL ls L →
    W p l e R s m args below meth c H locs kc ks (MQ below (hm_Qc D dA base Q) args s mc ms (fun q => base ≤ q)) (F0 m pc ls (st.map (hm_c base)))
def hm_rm (d mc ms : Nat) : Room := { frames := d, cells := mc, slots := ms, locals := 36 * d }
def hm_Pc (D : va_G) (dA : Nat → ClassId) (base : Nat) (As : List Value) (σ : hm_M) : Array Value → State → Prop := fun v U => v = (As.map (hm_c base)).toArray ∧ hm_Rep D dA base σ U.heap ∧ hm_K D dA U
/-- a method's contract at these arguments and this memory -/
def hm_Ct (l : Launch) (y : MethodName) (cc : ByteArray) (nL : Nat) (ret : Option FieldType) (d mc ms : Nat) (As : List Value) (σ : hm_M) (Q : Option Value → hm_M → Prop) : Prop :=
  ∀ (D : va_G) (dA : Nat → ClassId) (base : Nat), Met l y (.code y cc nL ret :: hm_T) (hm_rm d mc ms) (hm_Pc D dA base As σ) (hm_Qc D dA base Q) mc ms (fun q => base ≤ q)
theorem hm_blind (D : va_G) (dA : Nat → ClassId) (base : Nat) (As : List Value) (σ : hm_M) : FrameBlind (hm_Pc D dA base As σ) := fun _ _ _ _ h => ⟨h.1, h.2.1, hm_K.same rfl h.2.2⟩
theorem hm_Ct.mono {l : Launch} {y : MethodName} {cc : ByteArray} {nL : Nat} {ret : Option FieldType} {d mc ms : Nat} {As : List Value} {σ : hm_M} {Q Q' : Option Value → hm_M → Prop} (h : hm_Ct l y cc nL ret d mc ms As σ Q) (hq : ∀ r τ, Q r τ → Q' r τ) : hm_Ct l y cc nL ret d mc ms As σ Q' := by
  intro D dA base p e ha hc hk s m args below hf happ hP hK
  obtain ⟨k, o, h1, h2, h3, ⟨r, τ, e1, e2, e3⟩, h5⟩ := h D dA base p e ha hc hk s m args below hf happ hP hK
  exact ⟨k, o, h1, h2, h3, ⟨r, τ, e1, hq r τ e2, e3⟩, h5⟩
/-! the locals of a method's entry -/
def hm_sl : List Value → List Value
  | [] => []
  | v :: vs => if v.category = 2 then v :: hm_u :: hm_sl vs else v :: hm_sl vs
def hm_en (nL : Nat) (As : List Value) : List Value := hm_sl As ++ List.replicate (nL - (hm_sl As).length) hm_u
theorem hm_sl_in (base : Nat) : ∀ (As : List Value) (i j : Nat) (v : Value), (hm_sl As)[j]? = some v → v ≠ hm_u → (i + j, hm_c base v) ∈ lv_args i (As.map (hm_c base)) := by
  intro As
  induction As with
  | nil => intro i j v h; simp [hm_sl] at h
  | cons a t ih =>
    intro i j v h hu
    simp only [List.map_cons, lv_args, hm_c_cat]
    by_cases hc : a.category = 2
    · simp only [hm_sl, hc, if_true] at h ⊢
      match j, h with
      | 0, h => simp at h; subst h; exact List.mem_cons_self
      | 1, h => simp at h; exact absurd h.symm hu
      | j + 2, h =>
        have := ih (i + 2) j v (by simpa using h) hu
        refine List.mem_cons_of_mem _ ?_
        rw [show i + (j + 2) = i + 2 + j by omega]
        exact this
    · simp only [hm_sl, hc, if_false] at h ⊢
      match j, h with
      | 0, h => simp at h; subst h; exact List.mem_cons_self
      | j + 1, h =>
        have := ih (i + 1) j v (by simpa using h) hu
        refine List.mem_cons_of_mem _ ?_
        rw [show i + (j + 1) = i + 1 + j by omega]
        exact this
theorem hm_entry (base nL : Nat) (As : List Value) (h : (lg_sl (As.map (hm_c base))).length ≤ nL) : hm_lo base nL ((lg_sl (As.map (hm_c base)) ++ List.replicate (nL - (lg_sl (As.map (hm_c base))).length) Slot.unset).toArray) (hm_en nL As) := by
  obtain ⟨h1, h2, h3⟩ := lv_entry (As.map (hm_c base)) h
  refine ⟨h1, h2, fun j v hj hu => ?_⟩
  unfold hm_en at hj
  by_cases hl : j < (hm_sl As).length
  · rw [List.getElem?_append_left hl] at hj
    have := hm_sl_in base As 0 j v hj hu
    rw [Nat.zero_add] at this
    exact h3 _ this
  · rw [List.getElem?_append_right (by omega)] at hj
    have := List.mem_of_getElem? hj
    exact absurd (List.eq_of_mem_replicate this) hu
theorem hm_slen (base : Nat) (As : List Value) : (lg_sl (As.map (hm_c base))).length = (hm_sl As).length := by
  induction As with
  | nil => rfl
  | cons a t ih =>
    have e : lg_sl (List.map (hm_c base) (a :: t)) = (if a.category = 2 then [Slot.val (hm_c base a), .second] else [.val (hm_c base a)]) ++ lg_sl (t.map (hm_c base)) := by
      simp only [lg_sl, List.map_cons, List.flatMap_cons, hm_c_cat]
    rw [e]
    by_cases hc : a.category = 2
    · simp [hm_sl, hc, ih]
    · simp [hm_sl, hc, ih]
theorem hm_start {l : Launch} {y : MethodName} {cc : ByteArray} {nL : Nat} {ret : Option FieldType} {ini : Bool} {d mc ms : Nat} {As : List Value} {σ : hm_M} {Q : Option Value → hm_M → Prop} (L : List Value) (hy : plainName y.cls = true) (hi : ini = true → y.name = "<init>") (hL : hm_en nL As = L) (hn : (hm_sl As).length ≤ nL)
    (h : hm_V l y.cls cc nL ret ini (hm_rm d mc ms) mc ms Q 0 0 0 L [] σ) : hm_Ct l y cc nL ret d mc ms As σ Q := by
  intro D dA base
  refine Met.ofW (cc := cc) (maxL := nL) (ret := ret) hy rfl ?_
  intro p e s m args below meth c s₁ B hml hv
  obtain ⟨rfl, hRep, hK⟩ := hv
  have hts := atoms_spec (ws := .code y cc nL ret :: hm_T) B.pre
  have hown : s.vm.findClass y.cls = some m.cls := findClass_of_methodNamed B.named
  have hnm : meth.name = y.name := (name_of_methodNamed B.named B.method).1
  rw [lg_entry_eq]
  subst hL
  exact h p e s m _ below meth c D dA base s.heap [] _ ⟨B.exec, B.bytes, hml, B.returns, B.notSynchronized, hown, fun w hw => hts w (List.mem_cons_of_mem _ hw), hK, fun q => by rw [hnm]; exact hi q⟩ hRep (fun q h => by simp at h) (hm_entry base nL As (by rw [hm_slen]; exact hn))
end
section
/-! the rows of hm_V, an instruction each (by program) -/
section RW
variable {l : Launch} {own : String} {cc : ByteArray} {nL : Nat} {ret : Option FieldType} {ini : Bool} {R : Room} {mc ms : Nat} {Q : Option Value → hm_M → Prop} {kc ks : Nat} {pc : Nat} {L : List Value} {st : List Value} {σ : hm_M}
theorem hm_iconst {n : Int} {v : Int32} (hd : decode cc pc = .ok (.iconst n, 1)) (hv : Int32.ofInt n = v) (kk : hm_V l own cc nL ret ini R mc ms Q kc ks (pc + 1) L (.int v :: st) σ) : hm_V l own cc nL ret ini R mc ms Q kc ks pc L (st) σ := by
  intro p e s m args below meth c D dA base H locs ls hC hR hlo hL
  exact lv_iconst hC.1 hC.2.1 hd hv (kk p e s m args below meth c D dA base H locs ls hC hR hlo hL)
theorem hm_bipush {n : Int} {v : Int32} (hd : decode cc pc = .ok (.bipush n, 2)) (hv : (Int8.ofInt n).toInt32 = v) (kk : hm_V l own cc nL ret ini R mc ms Q kc ks (pc + 2) L (.int v :: st) σ) : hm_V l own cc nL ret ini R mc ms Q kc ks pc L (st) σ := by
  intro p e s m args below meth c D dA base H locs ls hC hR hlo hL
  exact lv_bipush hC.1 hC.2.1 hd hv (kk p e s m args below meth c D dA base H locs ls hC hR hlo hL)
theorem hm_sipush {n : Int} {v : Int32} (hd : decode cc pc = .ok (.sipush n, 3)) (hv : (Int16.ofInt n).toInt32 = v) (kk : hm_V l own cc nL ret ini R mc ms Q kc ks (pc + 3) L (.int v :: st) σ) : hm_V l own cc nL ret ini R mc ms Q kc ks pc L (st) σ := by
  intro p e s m args below meth c D dA base H locs ls hC hR hlo hL
  exact lv_sipush hC.1 hC.2.1 hd hv (kk p e s m args below meth c D dA base H locs ls hC hR hlo hL)
theorem hm_lconst {n : Fin 2} {v : Int64} (hd : decode cc pc = .ok (.lconst n, 1)) (hv : Int64.ofNat (n : Nat) = v) (kk : hm_V l own cc nL ret ini R mc ms Q kc ks (pc + 1) L (.long v :: st) σ) : hm_V l own cc nL ret ini R mc ms Q kc ks pc L (st) σ := by
  intro p e s m args below meth c D dA base H locs ls hC hR hlo hL
  exact lv_lconst hC.1 hC.2.1 hd hv (kk p e s m args below meth c D dA base H locs ls hC hR hlo hL)
theorem hm_ldc {i : Nat} {v : Int32} (hd : decode cc pc = .ok (.ldc i, 2)) (hw : Cond.constant own i v ∈ hm_T) (kk : hm_V l own cc nL ret ini R mc ms Q kc ks (pc + 2) L (.int v :: st) σ) : hm_V l own cc nL ret ini R mc ms Q kc ks pc L (st) σ := by
  intro p e s m args below meth c D dA base H locs ls hC hR hlo hL
  exact lv_ldc hC.1 hC.2.1 hC.2.2.2.2.2.1 (hC.2.2.2.2.2.2.1 _ hw) hd (kk p e s m args below meth c D dA base H locs ls hC hR hlo hL)
theorem hm_ldcw {i : Nat} {v : Int32} (hd : decode cc pc = .ok (.ldc_w i, 3)) (hw : Cond.constant own i v ∈ hm_T) (kk : hm_V l own cc nL ret ini R mc ms Q kc ks (pc + 3) L (.int v :: st) σ) : hm_V l own cc nL ret ini R mc ms Q kc ks pc L (st) σ := by
  intro p e s m args below meth c D dA base H locs ls hC hR hlo hL
  exact lv_ldcw hC.1 hC.2.1 hC.2.2.2.2.2.1 (hC.2.2.2.2.2.2.1 _ hw) hd (kk p e s m args below meth c D dA base H locs ls hC hR hlo hL)
theorem hm_ldc2 {i : Nat} {v : Int64} (hd : decode cc pc = .ok (.ldc2_w i, 3)) (hw : Cond.constantLong own i v ∈ hm_T) (kk : hm_V l own cc nL ret ini R mc ms Q kc ks (pc + 3) L (.long v :: st) σ) : hm_V l own cc nL ret ini R mc ms Q kc ks pc L (st) σ := by
  intro p e s m args below meth c D dA base H locs ls hC hR hlo hL
  exact lv_ldc2 hC.1 hC.2.1 hC.2.2.2.2.2.1 (hC.2.2.2.2.2.2.1 _ hw) hd (kk p e s m args below meth c D dA base H locs ls hC hR hlo hL)
theorem hm_null  (hd : decode cc pc = .ok (.aconst_null, 1))  (kk : hm_V l own cc nL ret ini R mc ms Q kc ks (pc + 1) L (.null :: st) σ) : hm_V l own cc nL ret ini R mc ms Q kc ks pc L (st) σ := by
  intro p e s m args below meth c D dA base H locs ls hC hR hlo hL
  exact lv_null hC.1 hC.2.1 hd (kk p e s m args below meth c D dA base H locs ls hC hR hlo hL)
theorem hm_iload_n {k : Fin 4} {x : Int32} (hd : decode cc pc = .ok (.iload_n k, 1)) (hk : L[(k : Nat)]? = some (.int x)) (kk : hm_V l own cc nL ret ini R mc ms Q kc ks (pc + 1) L (.int x :: st) σ) : hm_V l own cc nL ret ini R mc ms Q kc ks pc L (st) σ := by
  intro p e s m args below meth c D dA base H locs ls hC hR hlo hL
  exact lv_iload_n hC.1 hC.2.1 hd rfl (hL.2.2 _ _ hk (fun h => by cases h)) (kk p e s m args below meth c D dA base H locs ls hC hR hlo hL)
theorem hm_iload {i : Nat} {x : Int32} (hd : decode cc pc = .ok (.iload i, 2)) (hk : L[i]? = some (.int x)) (kk : hm_V l own cc nL ret ini R mc ms Q kc ks (pc + 2) L (.int x :: st) σ) : hm_V l own cc nL ret ini R mc ms Q kc ks pc L (st) σ := by
  intro p e s m args below meth c D dA base H locs ls hC hR hlo hL
  exact lv_iload hC.1 hC.2.1 hd (hL.2.2 _ _ hk (fun h => by cases h)) (kk p e s m args below meth c D dA base H locs ls hC hR hlo hL)
theorem hm_lload_n {k : Fin 4} {x : Int64} (hd : decode cc pc = .ok (.lload_n k, 1)) (hk : L[(k : Nat)]? = some (.long x)) (kk : hm_V l own cc nL ret ini R mc ms Q kc ks (pc + 1) L (.long x :: st) σ) : hm_V l own cc nL ret ini R mc ms Q kc ks pc L (st) σ := by
  intro p e s m args below meth c D dA base H locs ls hC hR hlo hL
  exact lv_lload_n hC.1 hC.2.1 hd rfl (hL.2.2 _ _ hk (fun h => by cases h)) (kk p e s m args below meth c D dA base H locs ls hC hR hlo hL)
theorem hm_lload {i : Nat} {x : Int64} (hd : decode cc pc = .ok (.lload i, 2)) (hk : L[i]? = some (.long x)) (kk : hm_V l own cc nL ret ini R mc ms Q kc ks (pc + 2) L (.long x :: st) σ) : hm_V l own cc nL ret ini R mc ms Q kc ks pc L (st) σ := by
  intro p e s m args below meth c D dA base H locs ls hC hR hlo hL
  exact lv_lload hC.1 hC.2.1 hd (hL.2.2 _ _ hk (fun h => by cases h)) (kk p e s m args below meth c D dA base H locs ls hC hR hlo hL)
theorem hm_aload_n {k : Fin 4} {x : Nat} (hd : decode cc pc = .ok (.aload_n k, 1)) (hk : L[(k : Nat)]? = some (.ref x)) (kk : hm_V l own cc nL ret ini R mc ms Q kc ks (pc + 1) L (.ref x :: st) σ) : hm_V l own cc nL ret ini R mc ms Q kc ks pc L (st) σ := by
  intro p e s m args below meth c D dA base H locs ls hC hR hlo hL
  exact lv_aload_n hC.1 hC.2.1 hd rfl (hL.2.2 _ _ hk (fun h => by cases h)) (kk p e s m args below meth c D dA base H locs ls hC hR hlo hL)
theorem hm_aload {i : Nat} {x : Nat} (hd : decode cc pc = .ok (.aload i, 2)) (hk : L[i]? = some (.ref x)) (kk : hm_V l own cc nL ret ini R mc ms Q kc ks (pc + 2) L (.ref x :: st) σ) : hm_V l own cc nL ret ini R mc ms Q kc ks pc L (st) σ := by
  intro p e s m args below meth c D dA base H locs ls hC hR hlo hL
  exact lv_aload hC.1 hC.2.1 hd (hL.2.2 _ _ hk (fun h => by cases h)) (kk p e s m args below meth c D dA base H locs ls hC hR hlo hL)
theorem hm_aloadN_n {k : Fin 4} (hd : decode cc pc = .ok (.aload_n k, 1)) (hk : L[(k : Nat)]? = some .null) (kk : hm_V l own cc nL ret ini R mc ms Q kc ks (pc + 1) L (.null :: st) σ) : hm_V l own cc nL ret ini R mc ms Q kc ks pc L (st) σ := by
  intro p e s m args below meth c D dA base H locs ls hC hR hlo hL
  exact lv_aload_nN hC.1 hC.2.1 hd rfl (hL.2.2 _ _ hk (fun h => by cases h)) (kk p e s m args below meth c D dA base H locs ls hC hR hlo hL)
theorem hm_aloadN {i : Nat} (hd : decode cc pc = .ok (.aload i, 2)) (hk : L[i]? = some .null) (kk : hm_V l own cc nL ret ini R mc ms Q kc ks (pc + 2) L (.null :: st) σ) : hm_V l own cc nL ret ini R mc ms Q kc ks pc L (st) σ := by
  intro p e s m args below meth c D dA base H locs ls hC hR hlo hL
  exact lv_aloadN hC.1 hC.2.1 hd (hL.2.2 _ _ hk (fun h => by cases h)) (kk p e s m args below meth c D dA base H locs ls hC hR hlo hL)
/-- all that is known of the locals, as pairs -/
def hm_al (base : Nat) (L : List Value) : List (Nat × Value) := (List.range L.length).filterMap fun j => match L[j]? with
  | some v => if v = hm_u then none else some (j, hm_c base v)
  | none => none
theorem hm_al_mem {base : Nat} {L : List Value} {j : Nat} {v : Value} (h : L[j]? = some v) (hu : v ≠ hm_u) : (j, hm_c base v) ∈ hm_al base L := by
  refine List.mem_filterMap.mpr ⟨j, List.mem_range.mpr (List.getElem?_eq_some_iff.mp h).1, ?_⟩
  simp [h, hu]
theorem hm_al_of {base : Nat} {L : List Value} {q : Nat × Value} (h : q ∈ hm_al base L) : ∃ v, L[q.1]? = some v ∧ v ≠ hm_u ∧ q.2 = hm_c base v := by
  obtain ⟨j, -, hj⟩ := List.mem_filterMap.mp h
  cases hv : L[j]? with
  | none => simp [hv] at hj
  | some v =>
    by_cases hu : v = hm_u
    · simp [hv, hu] at hj
    · simp [hv, hu] at hj
      subst hj
      exact ⟨v, hv, hu, rfl⟩
theorem hm_lo.has {base nL : Nat} {ls : Array Slot} {L : List Value} (h : hm_lo base nL ls L) : lv_has ls nL (hm_al base L) := ⟨h.1, h.2.1, fun q hq => by
  obtain ⟨v, h1, h2, h3⟩ := hm_al_of hq
  rw [h3]
  exact h.2.2 _ _ h1 h2⟩
/-- the local ahead of i doesn't reach into it -/
def hm_pv (L : List Value) (i : Nat) : Bool := match i with
  | 0 => true
  | j + 1 => match L[j]? with
    | some v => v.category != 2
    | none => true
theorem hm_pv_spec {L : List Value} {i j : Nat} {v : Value} (h : hm_pv L i = true) (hj : j + 1 = i) (hv : L[j]? = some v) : ¬ v.category = 2 := by
  subst hj
  simp [hm_pv, hv] at h
  exact h
theorem hm_lo1 {base nL : Nat} {ls : Array Slot} {L : List Value} {i : Nat} {v : Value} (hp : hm_pv L i = true) (h : lv_has ls nL ((i, hm_c base v) :: (hm_al base L).filter (fun q => !(q.1 == i) && !(q.1 + 1 == i && q.2.category == 2)))) : hm_lo base nL ls (L.set i v) := by
  refine ⟨h.1, h.2.1, fun j w hj hu => ?_⟩
  rw [List.getElem?_set] at hj
  by_cases e : i = j
  · subst e
    rw [if_pos rfl] at hj
    by_cases hl : i < L.length
    · rw [if_pos hl] at hj
      cases hj
      exact h.2.2 _ List.mem_cons_self
    · rw [if_neg hl] at hj; cases hj
  · rw [if_neg e] at hj
    refine h.2.2 (j, hm_c base w) (List.mem_cons_of_mem _ (List.mem_filter.mpr ⟨hm_al_mem hj hu, ?_⟩))
    have h2 : ¬ (j + 1 = i ∧ w.category = 2) := fun q => hm_pv_spec hp q.1 hj q.2
    have h3 : ¬ j = i := fun q => e q.symm
    simp only [hm_c_cat]
    by_cases h4 : j + 1 = i
    · have : ¬ w.category = 2 := fun q => h2 ⟨h4, q⟩
      simp [h3, this]
    · simp [h3, h4]
theorem hm_lo2 {base nL : Nat} {ls : Array Slot} {L : List Value} {i : Nat} {v : Value} (hp : hm_pv L i = true) (h : lv_has ls nL ((i, hm_c base v) :: (hm_al base L).filter (fun q => !(q.1 == i) && (!(q.1 == i + 1) && !(q.1 + 1 == i && q.2.category == 2))))) : hm_lo base nL ls ((L.set i v).set (i + 1) hm_u) := by
  refine ⟨h.1, h.2.1, fun j w hj hu => ?_⟩
  rw [List.getElem?_set] at hj
  by_cases e1 : i + 1 = j
  · rw [if_pos e1] at hj
    split at hj
    · cases hj; exact absurd rfl hu
    · cases hj
  · rw [if_neg e1, List.getElem?_set] at hj
    by_cases e : i = j
    · subst e
      rw [if_pos rfl] at hj
      by_cases hl : i < L.length
      · rw [if_pos hl] at hj
        cases hj
        exact h.2.2 _ List.mem_cons_self
      · rw [if_neg hl] at hj; cases hj
    · rw [if_neg e] at hj
      refine h.2.2 (j, hm_c base w) (List.mem_cons_of_mem _ (List.mem_filter.mpr ⟨hm_al_mem hj hu, ?_⟩))
      have h2 : ¬ (j + 1 = i ∧ w.category = 2) := fun q => hm_pv_spec hp q.1 hj q.2
      have h3 : ¬ j = i := fun q => e q.symm
      have h5 : ¬ j = i + 1 := fun q => e1 q.symm
      simp only [hm_c_cat]
      by_cases h4 : j + 1 = i
      · have : ¬ w.category = 2 := fun q => h2 ⟨h4, q⟩
        simp [h3, h5, this]
      · simp [h3, h4, h5]
theorem hm_istore_n {k : Fin 4} {x : Int32} (hd : decode cc pc = .ok (.istore_n k, 1)) (hn : (k : Nat) < nL) (hp : hm_pv L (k : Nat) = true) (kk : hm_V l own cc nL ret ini R mc ms Q kc ks (pc + 1) (L.set (k : Nat) (.int x)) st σ) : hm_V l own cc nL ret ini R mc ms Q kc ks pc L (.int x :: st) σ := by
  intro p e s m args below meth c D dA base H locs ls hC hR hlo hL
  exact lv_istore_n hC.1 hC.2.1 hd rfl hL.has hn rfl (fun ls' h' => kk p e s m args below meth c D dA base H locs ls' hC hR hlo (hm_lo1 (v := .int x) hp h'))
theorem hm_istore {i : Nat} {x : Int32} (hd : decode cc pc = .ok (.istore i, 2)) (hn : i < nL) (hp : hm_pv L i = true) (kk : hm_V l own cc nL ret ini R mc ms Q kc ks (pc + 2) (L.set i (.int x)) st σ) : hm_V l own cc nL ret ini R mc ms Q kc ks pc L (.int x :: st) σ := by
  intro p e s m args below meth c D dA base H locs ls hC hR hlo hL
  exact lv_istore hC.1 hC.2.1 hd hL.has hn rfl (fun ls' h' => kk p e s m args below meth c D dA base H locs ls' hC hR hlo (hm_lo1 (v := .int x) hp h'))
theorem hm_astore_n {k : Fin 4} {x : Nat} (hd : decode cc pc = .ok (.astore_n k, 1)) (hn : (k : Nat) < nL) (hp : hm_pv L (k : Nat) = true) (kk : hm_V l own cc nL ret ini R mc ms Q kc ks (pc + 1) (L.set (k : Nat) (.ref x)) st σ) : hm_V l own cc nL ret ini R mc ms Q kc ks pc L (.ref x :: st) σ := by
  intro p e s m args below meth c D dA base H locs ls hC hR hlo hL
  exact lv_astore_n hC.1 hC.2.1 hd rfl hL.has hn rfl (fun ls' h' => kk p e s m args below meth c D dA base H locs ls' hC hR hlo (hm_lo1 (v := .ref x) hp h'))
theorem hm_astore {i : Nat} {x : Nat} (hd : decode cc pc = .ok (.astore i, 2)) (hn : i < nL) (hp : hm_pv L i = true) (kk : hm_V l own cc nL ret ini R mc ms Q kc ks (pc + 2) (L.set i (.ref x)) st σ) : hm_V l own cc nL ret ini R mc ms Q kc ks pc L (.ref x :: st) σ := by
  intro p e s m args below meth c D dA base H locs ls hC hR hlo hL
  exact lv_astore hC.1 hC.2.1 hd hL.has hn rfl (fun ls' h' => kk p e s m args below meth c D dA base H locs ls' hC hR hlo (hm_lo1 (v := .ref x) hp h'))
theorem hm_astoreN_n {k : Fin 4} (hd : decode cc pc = .ok (.astore_n k, 1)) (hn : (k : Nat) < nL) (hp : hm_pv L (k : Nat) = true) (kk : hm_V l own cc nL ret ini R mc ms Q kc ks (pc + 1) (L.set (k : Nat) (.null)) st σ) : hm_V l own cc nL ret ini R mc ms Q kc ks pc L (.null :: st) σ := by
  intro p e s m args below meth c D dA base H locs ls hC hR hlo hL
  exact lv_astore_nN hC.1 hC.2.1 hd rfl hL.has hn rfl (fun ls' h' => kk p e s m args below meth c D dA base H locs ls' hC hR hlo (hm_lo1 (v := .null) hp h'))
theorem hm_astoreN {i : Nat} (hd : decode cc pc = .ok (.astore i, 2)) (hn : i < nL) (hp : hm_pv L i = true) (kk : hm_V l own cc nL ret ini R mc ms Q kc ks (pc + 2) (L.set i (.null)) st σ) : hm_V l own cc nL ret ini R mc ms Q kc ks pc L (.null :: st) σ := by
  intro p e s m args below meth c D dA base H locs ls hC hR hlo hL
  exact lv_astoreN hC.1 hC.2.1 hd hL.has hn rfl (fun ls' h' => kk p e s m args below meth c D dA base H locs ls' hC hR hlo (hm_lo1 (v := .null) hp h'))
theorem hm_lstore_n {k : Fin 4} {x : Int64} (hd : decode cc pc = .ok (.lstore_n k, 1)) (hn : (k : Nat) + 1 < nL) (hp : hm_pv L (k : Nat) = true) (kk : hm_V l own cc nL ret ini R mc ms Q kc ks (pc + 1) ((L.set (k : Nat) (.long x)).set ((k : Nat) + 1) hm_u) st σ) : hm_V l own cc nL ret ini R mc ms Q kc ks pc L (.long x :: st) σ := by
  intro p e s m args below meth c D dA base H locs ls hC hR hlo hL
  exact lv_lstore_n hC.1 hC.2.1 hd rfl hL.has hn rfl (fun ls' h' => kk p e s m args below meth c D dA base H locs ls' hC hR hlo (hm_lo2 (v := .long x) hp h'))
theorem hm_lstore {i : Nat} {x : Int64} (hd : decode cc pc = .ok (.lstore i, 2)) (hn : i + 1 < nL) (hp : hm_pv L i = true) (kk : hm_V l own cc nL ret ini R mc ms Q kc ks (pc + 2) ((L.set i (.long x)).set (i + 1) hm_u) st σ) : hm_V l own cc nL ret ini R mc ms Q kc ks pc L (.long x :: st) σ := by
  intro p e s m args below meth c D dA base H locs ls hC hR hlo hL
  exact lv_lstore hC.1 hC.2.1 hd hL.has hn rfl (fun ls' h' => kk p e s m args below meth c D dA base H locs ls' hC hR hlo (hm_lo2 (v := .long x) hp h'))
theorem hm_iinc {i : Nat} {n : Int} {x : Int32} (hd : decode cc pc = .ok (.iinc i n, 3)) (hk : L[i]? = some (.int x)) (v : Int32) (hv : x + Int32.ofInt n = v) (hn : i < nL) (hp : hm_pv L i = true) (kk : hm_V l own cc nL ret ini R mc ms Q kc ks (pc + 3) (L.set i (.int v)) st σ) : hm_V l own cc nL ret ini R mc ms Q kc ks pc L st σ := by
  intro p e s m args below meth c D dA base H locs ls hC hR hlo hL
  obtain ⟨k, hk2⟩ := List.getElem?_of_mem (hm_al_mem (base := base) hk (fun h => by cases h))
  exact lv_iinc (v := v) hC.1 hC.2.1 hd hL.has hk2 hv hn rfl (fun ls' h' => kk p e s m args below meth c D dA base H locs ls' hC hR hlo (hm_lo1 (v := .int v) hp h'))
theorem hm_iadd {x y : Int32} (hd : decode cc pc = .ok (.iadd, 1))  (kk : hm_V l own cc nL ret ini R mc ms Q kc ks (pc + 1) L (.int (x + y) :: st) σ) : hm_V l own cc nL ret ini R mc ms Q kc ks pc L (.int y :: .int x :: st) σ := by
  intro p e s m args below meth c D dA base H locs ls hC hR hlo hL
  exact lv_iadd hC.1 hC.2.1 hd (kk p e s m args below meth c D dA base H locs ls hC hR hlo hL)
theorem hm_isub {x y : Int32} (hd : decode cc pc = .ok (.isub, 1))  (kk : hm_V l own cc nL ret ini R mc ms Q kc ks (pc + 1) L (.int (x - y) :: st) σ) : hm_V l own cc nL ret ini R mc ms Q kc ks pc L (.int y :: .int x :: st) σ := by
  intro p e s m args below meth c D dA base H locs ls hC hR hlo hL
  exact lv_isub hC.1 hC.2.1 hd (kk p e s m args below meth c D dA base H locs ls hC hR hlo hL)
theorem hm_imul {x y : Int32} (hd : decode cc pc = .ok (.imul, 1))  (kk : hm_V l own cc nL ret ini R mc ms Q kc ks (pc + 1) L (.int (x * y) :: st) σ) : hm_V l own cc nL ret ini R mc ms Q kc ks pc L (.int y :: .int x :: st) σ := by
  intro p e s m args below meth c D dA base H locs ls hC hR hlo hL
  exact lv_imul hC.1 hC.2.1 hd (kk p e s m args below meth c D dA base H locs ls hC hR hlo hL)
theorem hm_iand {x y : Int32} (hd : decode cc pc = .ok (.iand, 1))  (kk : hm_V l own cc nL ret ini R mc ms Q kc ks (pc + 1) L (.int (x &&& y) :: st) σ) : hm_V l own cc nL ret ini R mc ms Q kc ks pc L (.int y :: .int x :: st) σ := by
  intro p e s m args below meth c D dA base H locs ls hC hR hlo hL
  exact lv_iand hC.1 hC.2.1 hd (kk p e s m args below meth c D dA base H locs ls hC hR hlo hL)
theorem hm_ior {x y : Int32} (hd : decode cc pc = .ok (.ior, 1))  (kk : hm_V l own cc nL ret ini R mc ms Q kc ks (pc + 1) L (.int (x ||| y) :: st) σ) : hm_V l own cc nL ret ini R mc ms Q kc ks pc L (.int y :: .int x :: st) σ := by
  intro p e s m args below meth c D dA base H locs ls hC hR hlo hL
  exact lv_ior hC.1 hC.2.1 hd (kk p e s m args below meth c D dA base H locs ls hC hR hlo hL)
theorem hm_ixor {x y : Int32} (hd : decode cc pc = .ok (.ixor, 1))  (kk : hm_V l own cc nL ret ini R mc ms Q kc ks (pc + 1) L (.int (x ^^^ y) :: st) σ) : hm_V l own cc nL ret ini R mc ms Q kc ks pc L (.int y :: .int x :: st) σ := by
  intro p e s m args below meth c D dA base H locs ls hC hR hlo hL
  exact lv_ixor hC.1 hC.2.1 hd (kk p e s m args below meth c D dA base H locs ls hC hR hlo hL)
theorem hm_ishl {x y : Int32} (hd : decode cc pc = .ok (.ishl, 1))  (kk : hm_V l own cc nL ret ini R mc ms Q kc ks (pc + 1) L (.int (x <<< (y &&& 31)) :: st) σ) : hm_V l own cc nL ret ini R mc ms Q kc ks pc L (.int y :: .int x :: st) σ := by
  intro p e s m args below meth c D dA base H locs ls hC hR hlo hL
  exact lv_ishl hC.1 hC.2.1 hd (kk p e s m args below meth c D dA base H locs ls hC hR hlo hL)
theorem hm_ishr {x y : Int32} (hd : decode cc pc = .ok (.ishr, 1))  (kk : hm_V l own cc nL ret ini R mc ms Q kc ks (pc + 1) L (.int (x >>> (y &&& 31)) :: st) σ) : hm_V l own cc nL ret ini R mc ms Q kc ks pc L (.int y :: .int x :: st) σ := by
  intro p e s m args below meth c D dA base H locs ls hC hR hlo hL
  exact lv_ishr hC.1 hC.2.1 hd (kk p e s m args below meth c D dA base H locs ls hC hR hlo hL)
theorem hm_idiv {x y : Int32} (hd : decode cc pc = .ok (.idiv, 1)) (hne : ¬ y = 0) (kk : hm_V l own cc nL ret ini R mc ms Q kc ks (pc + 1) L (.int (x / y) :: st) σ) : hm_V l own cc nL ret ini R mc ms Q kc ks pc L (.int y :: .int x :: st) σ := by
  intro p e s m args below meth c D dA base H locs ls hC hR hlo hL
  exact lv_idiv hC.1 hC.2.1 hd hne (kk p e s m args below meth c D dA base H locs ls hC hR hlo hL)
theorem hm_irem {x y : Int32} (hd : decode cc pc = .ok (.irem, 1)) (hne : ¬ y = 0) (kk : hm_V l own cc nL ret ini R mc ms Q kc ks (pc + 1) L (.int (x - x / y * y) :: st) σ) : hm_V l own cc nL ret ini R mc ms Q kc ks pc L (.int y :: .int x :: st) σ := by
  intro p e s m args below meth c D dA base H locs ls hC hR hlo hL
  exact lv_irem hC.1 hC.2.1 hd hne (kk p e s m args below meth c D dA base H locs ls hC hR hlo hL)
theorem hm_iushr {x y : Int32} (hd : decode cc pc = .ok (.iushr, 1))  (kk : hm_V l own cc nL ret ini R mc ms Q kc ks (pc + 1) L (.int ((x.toUInt32 >>> (y.toUInt32 &&& Int32.toUInt32 31)).toInt32) :: st) σ) : hm_V l own cc nL ret ini R mc ms Q kc ks pc L (.int y :: .int x :: st) σ := by
  intro p e s m args below meth c D dA base H locs ls hC hR hlo hL
  exact lv_iushr hC.1 hC.2.1 hd rfl (kk p e s m args below meth c D dA base H locs ls hC hR hlo hL)
theorem hm_ineg {x : Int32} (hd : decode cc pc = .ok (.ineg, 1))  (kk : hm_V l own cc nL ret ini R mc ms Q kc ks (pc + 1) L (.int (-x) :: st) σ) : hm_V l own cc nL ret ini R mc ms Q kc ks pc L (.int x :: st) σ := by
  intro p e s m args below meth c D dA base H locs ls hC hR hlo hL
  exact lv_ineg hC.1 hC.2.1 hd (kk p e s m args below meth c D dA base H locs ls hC hR hlo hL)
theorem hm_ladd {x y : Int64} (hd : decode cc pc = .ok (.ladd, 1))  (kk : hm_V l own cc nL ret ini R mc ms Q kc ks (pc + 1) L (.long (x + y) :: st) σ) : hm_V l own cc nL ret ini R mc ms Q kc ks pc L (.long y :: .long x :: st) σ := by
  intro p e s m args below meth c D dA base H locs ls hC hR hlo hL
  exact lv_ladd hC.1 hC.2.1 hd (kk p e s m args below meth c D dA base H locs ls hC hR hlo hL)
theorem hm_lmul {x y : Int64} (hd : decode cc pc = .ok (.lmul, 1))  (kk : hm_V l own cc nL ret ini R mc ms Q kc ks (pc + 1) L (.long (x * y) :: st) σ) : hm_V l own cc nL ret ini R mc ms Q kc ks pc L (.long y :: .long x :: st) σ := by
  intro p e s m args below meth c D dA base H locs ls hC hR hlo hL
  exact lv_lmul hC.1 hC.2.1 hd (kk p e s m args below meth c D dA base H locs ls hC hR hlo hL)
theorem hm_land {x y : Int64} (hd : decode cc pc = .ok (.land, 1))  (kk : hm_V l own cc nL ret ini R mc ms Q kc ks (pc + 1) L (.long (x &&& y) :: st) σ) : hm_V l own cc nL ret ini R mc ms Q kc ks pc L (.long y :: .long x :: st) σ := by
  intro p e s m args below meth c D dA base H locs ls hC hR hlo hL
  exact lv_land hC.1 hC.2.1 hd (kk p e s m args below meth c D dA base H locs ls hC hR hlo hL)
theorem hm_lor {x y : Int64} (hd : decode cc pc = .ok (.lor, 1))  (kk : hm_V l own cc nL ret ini R mc ms Q kc ks (pc + 1) L (.long (x ||| y) :: st) σ) : hm_V l own cc nL ret ini R mc ms Q kc ks pc L (.long y :: .long x :: st) σ := by
  intro p e s m args below meth c D dA base H locs ls hC hR hlo hL
  exact lv_lor hC.1 hC.2.1 hd (kk p e s m args below meth c D dA base H locs ls hC hR hlo hL)
theorem hm_lxor {x y : Int64} (hd : decode cc pc = .ok (.lxor, 1))  (kk : hm_V l own cc nL ret ini R mc ms Q kc ks (pc + 1) L (.long (x ^^^ y) :: st) σ) : hm_V l own cc nL ret ini R mc ms Q kc ks pc L (.long y :: .long x :: st) σ := by
  intro p e s m args below meth c D dA base H locs ls hC hR hlo hL
  exact lv_lxor hC.1 hC.2.1 hd (kk p e s m args below meth c D dA base H locs ls hC hR hlo hL)
theorem hm_lushr {x : Int64} {y : Int32} (hd : decode cc pc = .ok (.lushr, 1))  (kk : hm_V l own cc nL ret ini R mc ms Q kc ks (pc + 1) L (.long ((x.toUInt64 >>> (y.toInt64.toUInt64 &&& Int64.toUInt64 63)).toInt64) :: st) σ) : hm_V l own cc nL ret ini R mc ms Q kc ks pc L (.int y :: .long x :: st) σ := by
  intro p e s m args below meth c D dA base H locs ls hC hR hlo hL
  exact lv_lushr hC.1 hC.2.1 hd rfl (kk p e s m args below meth c D dA base H locs ls hC hR hlo hL)
theorem hm_lshl {x : Int64} {y : Int32} (hd : decode cc pc = .ok (.lshl, 1))  (kk : hm_V l own cc nL ret ini R mc ms Q kc ks (pc + 1) L (.long (x <<< (y.toInt64 &&& 63)) :: st) σ) : hm_V l own cc nL ret ini R mc ms Q kc ks pc L (.int y :: .long x :: st) σ := by
  intro p e s m args below meth c D dA base H locs ls hC hR hlo hL
  exact lv_lshl hC.1 hC.2.1 hd rfl (kk p e s m args below meth c D dA base H locs ls hC hR hlo hL)
theorem hm_i2l {x : Int32} (hd : decode cc pc = .ok (.i2l, 1))  (kk : hm_V l own cc nL ret ini R mc ms Q kc ks (pc + 1) L (.long (x.toInt64) :: st) σ) : hm_V l own cc nL ret ini R mc ms Q kc ks pc L (.int x :: st) σ := by
  intro p e s m args below meth c D dA base H locs ls hC hR hlo hL
  exact lv_i2l hC.1 hC.2.1 hd rfl (kk p e s m args below meth c D dA base H locs ls hC hR hlo hL)
theorem hm_lcmp {x y : Int64} (hd : decode cc pc = .ok (.lcmp, 1))  (kk : hm_V l own cc nL ret ini R mc ms Q kc ks (pc + 1) L (.int (lg_cmp x y) :: st) σ) : hm_V l own cc nL ret ini R mc ms Q kc ks pc L (.long y :: .long x :: st) σ := by
  intro p e s m args below meth c D dA base H locs ls hC hR hlo hL
  exact W.lcmp hC.1 hC.2.1 hd (kk p e s m args below meth c D dA base H locs ls hC hR hlo hL)
theorem hm_dup {v : Value} (hd : decode cc pc = .ok (.dup, 1)) (hv : v.category = 1) (kk : hm_V l own cc nL ret ini R mc ms Q kc ks (pc + 1) L (v :: v :: st) σ) : hm_V l own cc nL ret ini R mc ms Q kc ks pc L (v :: st) σ := by
  intro p e s m args below meth c D dA base H locs ls hC hR hlo hL
  exact lv_dup hC.1 hC.2.1 hd (by rw [hm_c_cat]; exact hv) (kk p e s m args below meth c D dA base H locs ls hC hR hlo hL)
theorem hm_pop {v : Value} (hd : decode cc pc = .ok (.pop, 1)) (hv : v.category = 1) (kk : hm_V l own cc nL ret ini R mc ms Q kc ks (pc + 1) L (st) σ) : hm_V l own cc nL ret ini R mc ms Q kc ks pc L (v :: st) σ := by
  intro p e s m args below meth c D dA base H locs ls hC hR hlo hL
  exact lv_pop hC.1 hC.2.1 hd (by rw [hm_c_cat]; exact hv) (kk p e s m args below meth c D dA base H locs ls hC hR hlo hL)
theorem hm_pop2 {v : Value} (hd : decode cc pc = .ok (.pop2, 1)) (hv : v.category = 2) (kk : hm_V l own cc nL ret ini R mc ms Q kc ks (pc + 1) L (st) σ) : hm_V l own cc nL ret ini R mc ms Q kc ks pc L (v :: st) σ := by
  intro p e s m args below meth c D dA base H locs ls hC hR hlo hL
  exact lv_pop2_2 hC.1 hC.2.1 hd (by rw [hm_c_cat]; exact hv) (kk p e s m args below meth c D dA base H locs ls hC hR hlo hL)
theorem hm_dup2 {v w : Value} (hd : decode cc pc = .ok (.dup2, 1)) (hv : v.category = 1) (hw : w.category = 1) (kk : hm_V l own cc nL ret ini R mc ms Q kc ks (pc + 1) L (v :: w :: v :: w :: st) σ) : hm_V l own cc nL ret ini R mc ms Q kc ks pc L (v :: w :: st) σ := by
  intro p e s m args below meth c D dA base H locs ls hC hR hlo hL
  exact lv_dup2_11 hC.1 hC.2.1 hd (by rw [hm_c_cat]; exact hv) (by rw [hm_c_cat]; exact hw) (kk p e s m args below meth c D dA base H locs ls hC hR hlo hL)
theorem hm_if_eq {x : Int32} {off : Int} (tgt : Nat) (hd : decode cc pc = .ok (.ifCond .eq off, 3)) (ht : (pc : Int) + off = (tgt : Int)) (kt : (x = 0) → hm_V l own cc nL ret ini R mc ms Q kc ks tgt L st σ) (kf : ¬ (x = 0) → hm_V l own cc nL ret ini R mc ms Q kc ks (pc + 3) L st σ) : hm_V l own cc nL ret ini R mc ms Q kc ks pc L (.int x :: st) σ := by
  intro p e s m args below meth c D dA base H locs ls hC hR hlo hL
  exact lv_if_eq hC.1 hC.2.1 hd ht (fun h => kt h p e s m args below meth c D dA base H locs ls hC hR hlo hL) (fun h => kf h p e s m args below meth c D dA base H locs ls hC hR hlo hL)
theorem hm_icmp_eq {x y : Int32} {off : Int} (tgt : Nat) (hd : decode cc pc = .ok (.if_icmp .eq off, 3)) (ht : (pc : Int) + off = (tgt : Int)) (kt : (x = y) → hm_V l own cc nL ret ini R mc ms Q kc ks tgt L st σ) (kf : ¬ (x = y) → hm_V l own cc nL ret ini R mc ms Q kc ks (pc + 3) L st σ) : hm_V l own cc nL ret ini R mc ms Q kc ks pc L (.int y :: .int x :: st) σ := by
  intro p e s m args below meth c D dA base H locs ls hC hR hlo hL
  exact lv_icmp_eq hC.1 hC.2.1 hd ht (fun h => kt h p e s m args below meth c D dA base H locs ls hC hR hlo hL) (fun h => kf h p e s m args below meth c D dA base H locs ls hC hR hlo hL)
theorem hm_if_ne {x : Int32} {off : Int} (tgt : Nat) (hd : decode cc pc = .ok (.ifCond .ne off, 3)) (ht : (pc : Int) + off = (tgt : Int)) (kt : (¬ x = 0) → hm_V l own cc nL ret ini R mc ms Q kc ks tgt L st σ) (kf : (x = 0) → hm_V l own cc nL ret ini R mc ms Q kc ks (pc + 3) L st σ) : hm_V l own cc nL ret ini R mc ms Q kc ks pc L (.int x :: st) σ := by
  intro p e s m args below meth c D dA base H locs ls hC hR hlo hL
  exact lv_if_ne hC.1 hC.2.1 hd ht (fun h => kt h p e s m args below meth c D dA base H locs ls hC hR hlo hL) (fun h => kf h p e s m args below meth c D dA base H locs ls hC hR hlo hL)
theorem hm_icmp_ne {x y : Int32} {off : Int} (tgt : Nat) (hd : decode cc pc = .ok (.if_icmp .ne off, 3)) (ht : (pc : Int) + off = (tgt : Int)) (kt : (¬ x = y) → hm_V l own cc nL ret ini R mc ms Q kc ks tgt L st σ) (kf : (x = y) → hm_V l own cc nL ret ini R mc ms Q kc ks (pc + 3) L st σ) : hm_V l own cc nL ret ini R mc ms Q kc ks pc L (.int y :: .int x :: st) σ := by
  intro p e s m args below meth c D dA base H locs ls hC hR hlo hL
  exact lv_icmp_ne hC.1 hC.2.1 hd ht (fun h => kt h p e s m args below meth c D dA base H locs ls hC hR hlo hL) (fun h => kf h p e s m args below meth c D dA base H locs ls hC hR hlo hL)
theorem hm_if_lt {x : Int32} {off : Int} (tgt : Nat) (hd : decode cc pc = .ok (.ifCond .lt off, 3)) (ht : (pc : Int) + off = (tgt : Int)) (kt : (x < 0) → hm_V l own cc nL ret ini R mc ms Q kc ks tgt L st σ) (kf : ¬ (x < 0) → hm_V l own cc nL ret ini R mc ms Q kc ks (pc + 3) L st σ) : hm_V l own cc nL ret ini R mc ms Q kc ks pc L (.int x :: st) σ := by
  intro p e s m args below meth c D dA base H locs ls hC hR hlo hL
  exact lv_if_lt hC.1 hC.2.1 hd ht (fun h => kt h p e s m args below meth c D dA base H locs ls hC hR hlo hL) (fun h => kf h p e s m args below meth c D dA base H locs ls hC hR hlo hL)
theorem hm_icmp_lt {x y : Int32} {off : Int} (tgt : Nat) (hd : decode cc pc = .ok (.if_icmp .lt off, 3)) (ht : (pc : Int) + off = (tgt : Int)) (kt : (x < y) → hm_V l own cc nL ret ini R mc ms Q kc ks tgt L st σ) (kf : ¬ (x < y) → hm_V l own cc nL ret ini R mc ms Q kc ks (pc + 3) L st σ) : hm_V l own cc nL ret ini R mc ms Q kc ks pc L (.int y :: .int x :: st) σ := by
  intro p e s m args below meth c D dA base H locs ls hC hR hlo hL
  exact lv_icmp_lt hC.1 hC.2.1 hd ht (fun h => kt h p e s m args below meth c D dA base H locs ls hC hR hlo hL) (fun h => kf h p e s m args below meth c D dA base H locs ls hC hR hlo hL)
theorem hm_if_ge {x : Int32} {off : Int} (tgt : Nat) (hd : decode cc pc = .ok (.ifCond .ge off, 3)) (ht : (pc : Int) + off = (tgt : Int)) (kt : (0 ≤ x) → hm_V l own cc nL ret ini R mc ms Q kc ks tgt L st σ) (kf : ¬ (0 ≤ x) → hm_V l own cc nL ret ini R mc ms Q kc ks (pc + 3) L st σ) : hm_V l own cc nL ret ini R mc ms Q kc ks pc L (.int x :: st) σ := by
  intro p e s m args below meth c D dA base H locs ls hC hR hlo hL
  exact lv_if_ge hC.1 hC.2.1 hd ht (fun h => kt h p e s m args below meth c D dA base H locs ls hC hR hlo hL) (fun h => kf h p e s m args below meth c D dA base H locs ls hC hR hlo hL)
theorem hm_icmp_ge {x y : Int32} {off : Int} (tgt : Nat) (hd : decode cc pc = .ok (.if_icmp .ge off, 3)) (ht : (pc : Int) + off = (tgt : Int)) (kt : (y ≤ x) → hm_V l own cc nL ret ini R mc ms Q kc ks tgt L st σ) (kf : ¬ (y ≤ x) → hm_V l own cc nL ret ini R mc ms Q kc ks (pc + 3) L st σ) : hm_V l own cc nL ret ini R mc ms Q kc ks pc L (.int y :: .int x :: st) σ := by
  intro p e s m args below meth c D dA base H locs ls hC hR hlo hL
  exact lv_icmp_ge hC.1 hC.2.1 hd ht (fun h => kt h p e s m args below meth c D dA base H locs ls hC hR hlo hL) (fun h => kf h p e s m args below meth c D dA base H locs ls hC hR hlo hL)
theorem hm_if_gt {x : Int32} {off : Int} (tgt : Nat) (hd : decode cc pc = .ok (.ifCond .gt off, 3)) (ht : (pc : Int) + off = (tgt : Int)) (kt : (0 < x) → hm_V l own cc nL ret ini R mc ms Q kc ks tgt L st σ) (kf : ¬ (0 < x) → hm_V l own cc nL ret ini R mc ms Q kc ks (pc + 3) L st σ) : hm_V l own cc nL ret ini R mc ms Q kc ks pc L (.int x :: st) σ := by
  intro p e s m args below meth c D dA base H locs ls hC hR hlo hL
  exact lv_if_gt hC.1 hC.2.1 hd ht (fun h => kt h p e s m args below meth c D dA base H locs ls hC hR hlo hL) (fun h => kf h p e s m args below meth c D dA base H locs ls hC hR hlo hL)
theorem hm_icmp_gt {x y : Int32} {off : Int} (tgt : Nat) (hd : decode cc pc = .ok (.if_icmp .gt off, 3)) (ht : (pc : Int) + off = (tgt : Int)) (kt : (y < x) → hm_V l own cc nL ret ini R mc ms Q kc ks tgt L st σ) (kf : ¬ (y < x) → hm_V l own cc nL ret ini R mc ms Q kc ks (pc + 3) L st σ) : hm_V l own cc nL ret ini R mc ms Q kc ks pc L (.int y :: .int x :: st) σ := by
  intro p e s m args below meth c D dA base H locs ls hC hR hlo hL
  exact lv_icmp_gt hC.1 hC.2.1 hd ht (fun h => kt h p e s m args below meth c D dA base H locs ls hC hR hlo hL) (fun h => kf h p e s m args below meth c D dA base H locs ls hC hR hlo hL)
theorem hm_if_le {x : Int32} {off : Int} (tgt : Nat) (hd : decode cc pc = .ok (.ifCond .le off, 3)) (ht : (pc : Int) + off = (tgt : Int)) (kt : (x ≤ 0) → hm_V l own cc nL ret ini R mc ms Q kc ks tgt L st σ) (kf : ¬ (x ≤ 0) → hm_V l own cc nL ret ini R mc ms Q kc ks (pc + 3) L st σ) : hm_V l own cc nL ret ini R mc ms Q kc ks pc L (.int x :: st) σ := by
  intro p e s m args below meth c D dA base H locs ls hC hR hlo hL
  exact lv_if_le hC.1 hC.2.1 hd ht (fun h => kt h p e s m args below meth c D dA base H locs ls hC hR hlo hL) (fun h => kf h p e s m args below meth c D dA base H locs ls hC hR hlo hL)
theorem hm_icmp_le {x y : Int32} {off : Int} (tgt : Nat) (hd : decode cc pc = .ok (.if_icmp .le off, 3)) (ht : (pc : Int) + off = (tgt : Int)) (kt : (x ≤ y) → hm_V l own cc nL ret ini R mc ms Q kc ks tgt L st σ) (kf : ¬ (x ≤ y) → hm_V l own cc nL ret ini R mc ms Q kc ks (pc + 3) L st σ) : hm_V l own cc nL ret ini R mc ms Q kc ks pc L (.int y :: .int x :: st) σ := by
  intro p e s m args below meth c D dA base H locs ls hC hR hlo hL
  exact lv_icmp_le hC.1 hC.2.1 hd ht (fun h => kt h p e s m args below meth c D dA base H locs ls hC hR hlo hL) (fun h => kf h p e s m args below meth c D dA base H locs ls hC hR hlo hL)
theorem hm_goto {off : Int} (tgt : Nat) (hd : decode cc pc = .ok (.goto off, 3)) (ht : (pc : Int) + off = (tgt : Int)) (kk : hm_V l own cc nL ret ini R mc ms Q kc ks tgt L st σ) : hm_V l own cc nL ret ini R mc ms Q kc ks pc L st σ := by
  intro p e s m args below meth c D dA base H locs ls hC hR hlo hL
  exact lv_goto hC.1 hC.2.1 hd ht (kk p e s m args below meth c D dA base H locs ls hC hR hlo hL)
theorem hm_ifnonnull {x : Nat} {off : Int} (tgt : Nat) (hd : decode cc pc = .ok (.ifnonnull off, 3)) (ht : (pc : Int) + off = (tgt : Int)) (kk : hm_V l own cc nL ret ini R mc ms Q kc ks tgt L st σ) : hm_V l own cc nL ret ini R mc ms Q kc ks pc L (.ref x :: st) σ := by
  intro p e s m args below meth c D dA base H locs ls hC hR hlo hL
  exact lv_ifnonnull hC.1 hC.2.1 hd ht (kk p e s m args below meth c D dA base H locs ls hC hR hlo hL)
theorem hm_ifnonnullN {off : Int} (hd : decode cc pc = .ok (.ifnonnull off, 3)) (kk : hm_V l own cc nL ret ini R mc ms Q kc ks (pc + 3) L st σ) : hm_V l own cc nL ret ini R mc ms Q kc ks pc L (.null :: st) σ := by
  intro p e s m args below meth c D dA base H locs ls hC hR hlo hL
  exact lv_ifnonnullN hC.1 hC.2.1 hd (kk p e s m args below meth c D dA base H locs ls hC hR hlo hL)
theorem hm_ifnull {x : Nat} {off : Int} (hd : decode cc pc = .ok (.ifnull off, 3)) (kk : hm_V l own cc nL ret ini R mc ms Q kc ks (pc + 3) L st σ) : hm_V l own cc nL ret ini R mc ms Q kc ks pc L (.ref x :: st) σ := by
  intro p e s m args below meth c D dA base H locs ls hC hR hlo hL
  exact lv_ifnull hC.1 hC.2.1 hd (kk p e s m args below meth c D dA base H locs ls hC hR hlo hL)
theorem hm_ifnullN {off : Int} (tgt : Nat) (hd : decode cc pc = .ok (.ifnull off, 3)) (ht : (pc : Int) + off = (tgt : Int)) (kk : hm_V l own cc nL ret ini R mc ms Q kc ks tgt L st σ) : hm_V l own cc nL ret ini R mc ms Q kc ks pc L (.null :: st) σ := by
  intro p e s m args below meth c D dA base H locs ls hC hR hlo hL
  exact lv_ifnullN hC.1 hC.2.1 hd ht (kk p e s m args below meth c D dA base H locs ls hC hR hlo hL)
theorem hm_tableIn {dflt lo hi : Int} {offs : Array Int} {len : Nat} {x : Int32} {off : Int} (tgt : Nat) (hd : decode cc pc = .ok (.tableswitch dflt lo hi offs, len)) (h1 : ¬ x.toInt < lo) (h2 : ¬ hi < x.toInt) (ho : offs[(x.toInt - lo).toNat]? = some off) (ht : (pc : Int) + off = (tgt : Int)) (kk : hm_V l own cc nL ret ini R mc ms Q kc ks tgt L st σ) : hm_V l own cc nL ret ini R mc ms Q kc ks pc L (.int x :: st) σ := by
  intro p e s m args below meth c D dA base H locs ls hC hR hlo hL
  exact lv_tableIn hC.1 hC.2.1 hd h1 h2 ho ht (kk p e s m args below meth c D dA base H locs ls hC hR hlo hL)
theorem hm_tableOut {dflt lo hi : Int} {offs : Array Int} {len : Nat} {x : Int32} (tgt : Nat) (hd : decode cc pc = .ok (.tableswitch dflt lo hi offs, len)) (h : x.toInt < lo ∨ hi < x.toInt) (ht : (pc : Int) + dflt = (tgt : Int)) (kk : hm_V l own cc nL ret ini R mc ms Q kc ks tgt L st σ) : hm_V l own cc nL ret ini R mc ms Q kc ks pc L (.int x :: st) σ := by
  intro p e s m args below meth c D dA base H locs ls hC hR hlo hL
  exact lv_tableOut hC.1 hC.2.1 hd h ht (kk p e s m args below meth c D dA base H locs ls hC hR hlo hL)
theorem hm_lookup {dflt : Int} {ps : Array (Int × Int)} {len : Nat} {x : Int32} {off : Int} (tgt : Nat) (hd : decode cc pc = .ok (.lookupswitch dflt ps, len)) (hp : (ps.toList.zip (ps.toList.drop 1)).all (fun (a, next) => a.1 < next.1) = true) (ho : Op.lookupswitch.offset ps.toList dflt x.toInt = off) (ht : (pc : Int) + off = (tgt : Int)) (kk : hm_V l own cc nL ret ini R mc ms Q kc ks tgt L st σ) : hm_V l own cc nL ret ini R mc ms Q kc ks pc L (.int x :: st) σ := by
  intro p e s m args below meth c D dA base H locs ls hC hR hlo hL
  exact lv_lookup hC.1 hC.2.1 hd hp ho ht (kk p e s m args below meth c D dA base H locs ls hC hR hlo hL)
theorem hm_iret {x : Int32} (hd : decode cc pc = .ok (.ireturn, 1)) (hr : ret = some .int) (h1 : kc ≤ mc) (h2 : ks ≤ ms) (hq : Q (some (.int x)) σ) : hm_V l own cc nL ret ini R mc ms Q kc ks pc L [.int x] σ := by
  intro p e s m args below meth c D dA base H locs ls hC hR hlo hL
  refine W.widen (k := mc) (n := ms) h1 h2 ?_
  exact W.iret hC.1 hC.2.1 (hC.2.2.2.1.trans hr) (fun t ht hW => ⟨(some (.int x)), σ, rfl, hq, by rw [ht]; exact hR⟩) hlo hd hC.2.2.2.2.1
theorem hm_lret {x : Int64} (hd : decode cc pc = .ok (.lreturn, 1)) (hr : ret = some .long) (h1 : kc ≤ mc) (h2 : ks ≤ ms) (hq : Q (some (.long x)) σ) : hm_V l own cc nL ret ini R mc ms Q kc ks pc L [.long x] σ := by
  intro p e s m args below meth c D dA base H locs ls hC hR hlo hL
  refine W.widen (k := mc) (n := ms) h1 h2 ?_
  exact W.lret hC.1 hC.2.1 (hC.2.2.2.1.trans hr) (fun t ht hW => ⟨(some (.long x)), σ, rfl, hq, by rw [ht]; exact hR⟩) hlo hd hC.2.2.2.2.1
theorem hm_vret (hd : decode cc pc = .ok (.return_, 1)) (hr : ret = none) (h1 : kc ≤ mc) (h2 : ks ≤ ms) (hq : Q none σ) : hm_V l own cc nL ret ini R mc ms Q kc ks pc L [] σ := by
  intro p e s m args below meth c D dA base H locs ls hC hR hlo hL
  refine W.widen (k := mc) (n := ms) h1 h2 ?_
  exact W.vret hC.1 hC.2.1 (hC.2.2.2.1.trans hr) (fun t ht hW => ⟨none, σ, rfl, hq, by rw [ht]; exact hR⟩) hlo hd hC.2.2.2.2.1
theorem hm_zret {x : Int32} (hd : decode cc pc = .ok (.ireturn, 1)) (hr : ret = some .boolean) (h1 : kc ≤ mc) (h2 : ks ≤ ms) (hz : x = 0 ∨ x = 1) (hq : Q (some (.int x)) σ) : hm_V l own cc nL ret ini R mc ms Q kc ks pc L [.int x] σ := by
  intro p e s m args below meth c D dA base H locs ls hC hR hlo hL
  refine W.widen (k := mc) (n := ms) h1 h2 ?_
  exact W.zret hC.1 hC.2.1 (hC.2.2.2.1.trans hr) (by rcases hz with rfl | rfl <;> rfl) (fun t ht hW => ⟨(some (.int x)), σ, rfl, hq, by rw [ht]; exact hR⟩) hlo hd hC.2.2.2.2.1
theorem hm_aret {n : String} {v : Value} (hd : decode cc pc = .ok (.areturn, 1)) (hr : ret = some (.object n)) (h1 : kc ≤ mc) (h2 : ks ≤ ms) (hv : v = .null ∨ ∃ a, v = .ref a) (hq : Q (some v) σ) : hm_V l own cc nL ret ini R mc ms Q kc ks pc L [v] σ := by
  intro p e s m args below meth c D dA base H locs ls hC hR hlo hL
  refine W.widen (k := mc) (n := ms) h1 h2 ?_
  exact W.aret hC.1 hC.2.1 (hC.2.2.2.1.trans hr) (Or.inl ⟨n, rfl⟩) (by rcases hv with rfl | ⟨a, rfl⟩; exact Or.inl rfl; exact Or.inr ⟨_, rfl⟩) (fun t ht hW => ⟨some v, σ, rfl, hq, by rw [ht]; exact hR⟩) hlo hd hC.2.2.2.2.1
theorem hm_widen (kc' ks' : Nat) (h1 : kc ≤ kc') (h2 : ks ≤ ks') (kk : hm_V l own cc nL ret ini R mc ms Q kc' ks' pc L st σ) : hm_V l own cc nL ret ini R mc ms Q kc ks pc L st σ := by
  intro p e s m args below meth c D dA base H locs ls hC hR hlo hL
  exact W.widen h1 h2 (kk p e s m args below meth c D dA base H locs ls hC hR hlo hL)
theorem hm_sub (L' : List Value) (h : ∀ (j : Nat) (v : Value), L'[j]? = some v → v ≠ hm_u → L[j]? = some v) (kk : hm_V l own cc nL ret ini R mc ms Q kc ks pc L' st σ) : hm_V l own cc nL ret ini R mc ms Q kc ks pc L st σ := by
  intro p e s m args below meth c D dA base H locs ls hC hR hlo hL
  exact kk p e s m args below meth c D dA base H locs ls hC hR hlo ⟨hL.1, hL.2.1, fun j v hj hu => hL.2.2 j v (h j v hj hu) hu⟩
end RW
end
section
/-! the tables' words, found by their places (by program) -/
theorem hm_inL {ws : List Cond} (ps : List Nat) (hp : ws = ps.filterMap (fun i => tables_1[i]?)) (h : ws.all goodWord = true) : ∀ w ∈ ws, w ∈ hm_T := by
  intro w hw
  have h1 := List.all_eq_true.mp h w hw
  rw [hp] at hw
  obtain ⟨i, -, hi⟩ := List.mem_filterMap.mp hw
  exact hm_w i hi h1
theorem hm_in0 : ∀ w ∈ u_ws RX0 TX0 5, w ∈ hm_T := hm_inL [40, 42, 44, 46, 48] (by decide +kernel) (by decide +kernel)
theorem hm_in1 : ∀ w ∈ u_ws RX1 TX1 3, w ∈ hm_T := hm_inL [174, 176, 178] (by decide +kernel) (by decide +kernel)
theorem hm_in2 : ∀ w ∈ u_ws RX2 TX2 12, w ∈ hm_T := hm_inL [203, 205, 207, 209, 211, 213, 215, 217, 219, 221, 223, 225] (by decide +kernel) (by decide +kernel)
theorem hm_in3 : ∀ w ∈ u_ws RX3 TX3 11, w ∈ hm_T := hm_inL [71, 73, 75, 77, 79, 81, 83, 85, 87, 89, 91] (by decide +kernel) (by decide +kernel)
theorem hm_in4 : ∀ w ∈ u_ws RX4 TX4 11, w ∈ hm_T := hm_inL [107, 109, 111, 113, 115, 117, 119, 121, 123, 125, 127] (by decide +kernel) (by decide +kernel)
theorem hm_in5 : ∀ w ∈ u_ws RX5 TX5 35, w ∈ hm_T := hm_inL [586, 588, 590, 592, 594, 596, 598, 600, 602, 604, 606, 608, 610, 612, 614, 616, 618, 620, 622, 624, 626, 628, 630, 632, 634, 636, 638, 640, 642, 644, 646, 648, 650, 652, 654] (by decide +kernel) (by decide +kernel)
theorem hm_lay {ci : Nat} {C : String} {T : u_T} {N : Nat} (h : hm_Cl[ci]? = some (C, T, N)) : (∀ w ∈ u_ws C T N, w ∈ hm_T) ∧ (∀ k, k < N → parseFieldDescriptor (T k).2.2.1 = some (hm_ty ci k)) ∧ (∀ a, a < N → ∀ b, b < N → a ≠ b → (T a).2.1 ≠ (T b).2.1) := by
  match ci, h with
  | 0, h => cases h; exact ⟨hm_in0, tyX0_ok, nmX0⟩
  | 1, h => cases h; exact ⟨hm_in1, tyX1_ok, nmX1⟩
  | 2, h => cases h; exact ⟨hm_in2, tyX2_ok, nmX2⟩
  | 3, h => cases h; exact ⟨hm_in3, tyX3_ok, nmX3⟩
  | 4, h => cases h; exact ⟨hm_in4, tyX4_ok, nmX4⟩
  | 5, h => cases h; exact ⟨hm_in5, tyX5_ok, nmX5⟩
  | ci + 6, h => simp [hm_Cl] at h
def hm_F (own : String) (idx ci k : Nat) : Prop := ∃ (C : String) (T : u_T) (N : Nat), hm_Cl[ci]? = some (C, T, N) ∧ k < N ∧ Cond.fieldLink own idx (T k).1 (T k).2.1 (T k).2.2.1 ∈ hm_T
def hm_fin (ci k : Nat) : Bool := ((hm_Cl.getD ci (RX0, TX0, 0)).2.1 k).2.2.2
theorem lf_RX3_61 : hm_F RX3 61 0 0 := ⟨RX0, TX0, 5, rfl, by decide, (hm_w 30 (by decide +kernel) rfl)⟩
theorem lf_RX4_154 : hm_F RX4 154 0 0 := ⟨RX0, TX0, 5, rfl, by decide, (hm_w 31 (by decide +kernel) rfl)⟩
theorem lf_RX4_159 : hm_F RX4 159 0 1 := ⟨RX0, TX0, 5, rfl, by decide, (hm_w 32 (by decide +kernel) rfl)⟩
theorem lf_RX3_87 : hm_F RX3 87 0 1 := ⟨RX0, TX0, 5, rfl, by decide, (hm_w 33 (by decide +kernel) rfl)⟩
theorem lf_RX4_162 : hm_F RX4 162 0 2 := ⟨RX0, TX0, 5, rfl, by decide, (hm_w 34 (by decide +kernel) rfl)⟩
theorem lf_RX3_107 : hm_F RX3 107 0 2 := ⟨RX0, TX0, 5, rfl, by decide, (hm_w 35 (by decide +kernel) rfl)⟩
theorem lf_RX4_165 : hm_F RX4 165 0 3 := ⟨RX0, TX0, 5, rfl, by decide, (hm_w 36 (by decide +kernel) rfl)⟩
theorem lf_RX3_70 : hm_F RX3 70 0 3 := ⟨RX0, TX0, 5, rfl, by decide, (hm_w 37 (by decide +kernel) rfl)⟩
theorem lf_RX4_168 : hm_F RX4 168 0 4 := ⟨RX0, TX0, 5, rfl, by decide, (hm_w 38 (by decide +kernel) rfl)⟩
theorem lf_RX3_73 : hm_F RX3 73 0 4 := ⟨RX0, TX0, 5, rfl, by decide, (hm_w 39 (by decide +kernel) rfl)⟩
theorem lf_RX3_37 : hm_F RX3 37 3 0 := ⟨RX3, TX3, 11, rfl, by decide, (hm_w 52 (by decide +kernel) rfl)⟩
theorem lf_RX4_34 : hm_F RX4 34 3 0 := ⟨RX3, TX3, 11, rfl, by decide, (hm_w 53 (by decide +kernel) rfl)⟩
theorem lf_RX3_41 : hm_F RX3 41 3 1 := ⟨RX3, TX3, 11, rfl, by decide, (hm_w 54 (by decide +kernel) rfl)⟩
theorem lf_RX4_44 : hm_F RX4 44 3 1 := ⟨RX3, TX3, 11, rfl, by decide, (hm_w 55 (by decide +kernel) rfl)⟩
theorem lf_RX3_58 : hm_F RX3 58 3 2 := ⟨RX3, TX3, 11, rfl, by decide, (hm_w 56 (by decide +kernel) rfl)⟩
theorem lf_RX4_147 : hm_F RX4 147 3 2 := ⟨RX3, TX3, 11, rfl, by decide, (hm_w 57 (by decide +kernel) rfl)⟩
theorem lf_RX4_202 : hm_F RX4 202 3 3 := ⟨RX3, TX3, 11, rfl, by decide, (hm_w 58 (by decide +kernel) rfl)⟩
theorem lf_RX3_110 : hm_F RX3 110 3 3 := ⟨RX3, TX3, 11, rfl, by decide, (hm_w 59 (by decide +kernel) rfl)⟩
theorem lf_RX3_9 : hm_F RX3 9 3 4 := ⟨RX3, TX3, 11, rfl, by decide, (hm_w 60 (by decide +kernel) rfl)⟩
theorem lf_RX4_185 : hm_F RX4 185 3 4 := ⟨RX3, TX3, 11, rfl, by decide, (hm_w 61 (by decide +kernel) rfl)⟩
theorem lf_RX3_15 : hm_F RX3 15 3 5 := ⟨RX3, TX3, 11, rfl, by decide, (hm_w 62 (by decide +kernel) rfl)⟩
theorem lf_RX4_66 : hm_F RX4 66 3 5 := ⟨RX3, TX3, 11, rfl, by decide, (hm_w 63 (by decide +kernel) rfl)⟩
theorem lf_RX3_18 : hm_F RX3 18 3 6 := ⟨RX3, TX3, 11, rfl, by decide, (hm_w 64 (by decide +kernel) rfl)⟩
theorem lf_RX4_53 : hm_F RX4 53 3 6 := ⟨RX3, TX3, 11, rfl, by decide, (hm_w 65 (by decide +kernel) rfl)⟩
theorem lf_RX3_21 : hm_F RX3 21 3 7 := ⟨RX3, TX3, 11, rfl, by decide, (hm_w 66 (by decide +kernel) rfl)⟩
theorem lf_RX3_24 : hm_F RX3 24 3 8 := ⟨RX3, TX3, 11, rfl, by decide, (hm_w 67 (by decide +kernel) rfl)⟩
theorem lf_RX3_27 : hm_F RX3 27 3 9 := ⟨RX3, TX3, 11, rfl, by decide, (hm_w 68 (by decide +kernel) rfl)⟩
theorem lf_RX3_32 : hm_F RX3 32 3 10 := ⟨RX3, TX3, 11, rfl, by decide, (hm_w 69 (by decide +kernel) rfl)⟩
theorem lf_RX4_150 : hm_F RX4 150 3 10 := ⟨RX3, TX3, 11, rfl, by decide, (hm_w 70 (by decide +kernel) rfl)⟩
theorem lf_RX4_12 : hm_F RX4 12 4 0 := ⟨RX4, TX4, 11, rfl, by decide, (hm_w 96 (by decide +kernel) rfl)⟩
theorem lf_RX4_18 : hm_F RX4 18 4 1 := ⟨RX4, TX4, 11, rfl, by decide, (hm_w 97 (by decide +kernel) rfl)⟩
theorem lf_RX4_22 : hm_F RX4 22 4 2 := ⟨RX4, TX4, 11, rfl, by decide, (hm_w 98 (by decide +kernel) rfl)⟩
theorem lf_RX4_84 : hm_F RX4 84 4 3 := ⟨RX4, TX4, 11, rfl, by decide, (hm_w 99 (by decide +kernel) rfl)⟩
theorem lf_RX4_94 : hm_F RX4 94 4 4 := ⟨RX4, TX4, 11, rfl, by decide, (hm_w 100 (by decide +kernel) rfl)⟩
theorem lf_RX4_205 : hm_F RX4 205 4 5 := ⟨RX4, TX4, 11, rfl, by decide, (hm_w 101 (by decide +kernel) rfl)⟩
theorem lf_RX4_208 : hm_F RX4 208 4 6 := ⟨RX4, TX4, 11, rfl, by decide, (hm_w 102 (by decide +kernel) rfl)⟩
theorem lf_RX4_211 : hm_F RX4 211 4 7 := ⟨RX4, TX4, 11, rfl, by decide, (hm_w 103 (by decide +kernel) rfl)⟩
theorem lf_RX4_115 : hm_F RX4 115 4 8 := ⟨RX4, TX4, 11, rfl, by decide, (hm_w 104 (by decide +kernel) rfl)⟩
theorem lf_RX4_196 : hm_F RX4 196 4 9 := ⟨RX4, TX4, 11, rfl, by decide, (hm_w 105 (by decide +kernel) rfl)⟩
theorem lf_RX4_199 : hm_F RX4 199 4 10 := ⟨RX4, TX4, 11, rfl, by decide, (hm_w 106 (by decide +kernel) rfl)⟩
theorem lf_RX1_13 : hm_F RX1 13 1 0 := ⟨RX1, TX1, 3, rfl, by decide, (hm_w 170 (by decide +kernel) rfl)⟩
theorem lf_RX1_27 : hm_F RX1 27 1 1 := ⟨RX1, TX1, 3, rfl, by decide, (hm_w 171 (by decide +kernel) rfl)⟩
theorem lf_RX1_19 : hm_F RX1 19 1 2 := ⟨RX1, TX1, 3, rfl, by decide, (hm_w 172 (by decide +kernel) rfl)⟩
theorem lf_RX4_111 : hm_F RX4 111 1 2 := ⟨RX1, TX1, 3, rfl, by decide, (hm_w 173 (by decide +kernel) rfl)⟩
theorem lf_RX2_33 : hm_F RX2 33 2 0 := ⟨RX2, TX2, 12, rfl, by decide, (hm_w 182 (by decide +kernel) rfl)⟩
theorem lf_RX4_253 : hm_F RX4 253 2 0 := ⟨RX2, TX2, 12, rfl, by decide, (hm_w 183 (by decide +kernel) rfl)⟩
theorem lf_RX2_36 : hm_F RX2 36 2 1 := ⟨RX2, TX2, 12, rfl, by decide, (hm_w 184 (by decide +kernel) rfl)⟩
theorem lf_RX4_274 : hm_F RX4 274 2 1 := ⟨RX2, TX2, 12, rfl, by decide, (hm_w 185 (by decide +kernel) rfl)⟩
theorem lf_RX4_76 : hm_F RX4 76 2 2 := ⟨RX2, TX2, 12, rfl, by decide, (hm_w 186 (by decide +kernel) rfl)⟩
theorem lf_RX4_80 : hm_F RX4 80 2 3 := ⟨RX2, TX2, 12, rfl, by decide, (hm_w 187 (by decide +kernel) rfl)⟩
theorem lf_RX2_9 : hm_F RX2 9 2 4 := ⟨RX2, TX2, 12, rfl, by decide, (hm_w 188 (by decide +kernel) rfl)⟩
theorem lf_RX4_73 : hm_F RX4 73 2 4 := ⟨RX2, TX2, 12, rfl, by decide, (hm_w 189 (by decide +kernel) rfl)⟩
theorem lf_RX2_15 : hm_F RX2 15 2 5 := ⟨RX2, TX2, 12, rfl, by decide, (hm_w 190 (by decide +kernel) rfl)⟩
theorem lf_RX4_91 : hm_F RX4 91 2 5 := ⟨RX2, TX2, 12, rfl, by decide, (hm_w 191 (by decide +kernel) rfl)⟩
theorem lf_RX2_40 : hm_F RX2 40 2 6 := ⟨RX2, TX2, 12, rfl, by decide, (hm_w 192 (by decide +kernel) rfl)⟩
theorem lf_RX4_144 : hm_F RX4 144 2 6 := ⟨RX2, TX2, 12, rfl, by decide, (hm_w 193 (by decide +kernel) rfl)⟩
theorem lf_RX4_277 : hm_F RX4 277 2 7 := ⟨RX2, TX2, 12, rfl, by decide, (hm_w 194 (by decide +kernel) rfl)⟩
theorem lf_RX2_58 : hm_F RX2 58 2 8 := ⟨RX2, TX2, 12, rfl, by decide, (hm_w 195 (by decide +kernel) rfl)⟩
theorem lf_RX4_137 : hm_F RX4 137 2 8 := ⟨RX2, TX2, 12, rfl, by decide, (hm_w 196 (by decide +kernel) rfl)⟩
theorem lf_RX2_23 : hm_F RX2 23 2 9 := ⟨RX2, TX2, 12, rfl, by decide, (hm_w 197 (by decide +kernel) rfl)⟩
theorem lf_RX4_101 : hm_F RX4 101 2 9 := ⟨RX2, TX2, 12, rfl, by decide, (hm_w 198 (by decide +kernel) rfl)⟩
theorem lf_RX2_27 : hm_F RX2 27 2 10 := ⟨RX2, TX2, 12, rfl, by decide, (hm_w 199 (by decide +kernel) rfl)⟩
theorem lf_RX4_134 : hm_F RX4 134 2 10 := ⟨RX2, TX2, 12, rfl, by decide, (hm_w 200 (by decide +kernel) rfl)⟩
theorem lf_RX2_30 : hm_F RX2 30 2 11 := ⟨RX2, TX2, 12, rfl, by decide, (hm_w 201 (by decide +kernel) rfl)⟩
theorem lf_RX4_121 : hm_F RX4 121 2 11 := ⟨RX2, TX2, 12, rfl, by decide, (hm_w 202 (by decide +kernel) rfl)⟩
theorem lk_RX4_114 : Cond.constant RX4 114 (100000) ∈ hm_T := (hm_w 331 (by decide +kernel) rfl)
theorem lk_RJ6_265 : Cond.constant RJ6 265 (1431655765) ∈ hm_T := (hm_w 403 (by decide +kernel) rfl)
theorem lk_RJ6_266 : Cond.constant RJ6 266 (858993459) ∈ hm_T := (hm_w 404 (by decide +kernel) rfl)
theorem lk_RJ6_267 : Cond.constant RJ6 267 (252645135) ∈ hm_T := (hm_w 405 (by decide +kernel) rfl)
theorem lk_RX4_214 : Cond.constantLong RX4 214 (7046029254386353131) ∈ hm_T := (hm_w 453 (by decide +kernel) rfl)
theorem lk_RX4_216 : Cond.constantLong RX4 216 (-4658895280553007687) ∈ hm_T := (hm_w 454 (by decide +kernel) rfl)
theorem lk_RX4_293 : Cond.constant RX4 293 (1000000) ∈ hm_T := (hm_w 486 (by decide +kernel) rfl)
theorem lf_RX5_84 : hm_F RX5 84 5 0 := ⟨RX5, TX5, 35, rfl, by decide, (hm_w 551 (by decide +kernel) rfl)⟩
theorem lf_RX5_7 : hm_F RX5 7 5 1 := ⟨RX5, TX5, 35, rfl, by decide, (hm_w 552 (by decide +kernel) rfl)⟩
theorem lf_RX5_92 : hm_F RX5 92 5 2 := ⟨RX5, TX5, 35, rfl, by decide, (hm_w 553 (by decide +kernel) rfl)⟩
theorem lf_RX5_13 : hm_F RX5 13 5 3 := ⟨RX5, TX5, 35, rfl, by decide, (hm_w 554 (by decide +kernel) rfl)⟩
theorem lf_RX5_16 : hm_F RX5 16 5 4 := ⟨RX5, TX5, 35, rfl, by decide, (hm_w 555 (by decide +kernel) rfl)⟩
theorem lf_RX5_20 : hm_F RX5 20 5 5 := ⟨RX5, TX5, 35, rfl, by decide, (hm_w 556 (by decide +kernel) rfl)⟩
theorem lf_RX5_24 : hm_F RX5 24 5 6 := ⟨RX5, TX5, 35, rfl, by decide, (hm_w 557 (by decide +kernel) rfl)⟩
theorem lf_RX5_27 : hm_F RX5 27 5 7 := ⟨RX5, TX5, 35, rfl, by decide, (hm_w 558 (by decide +kernel) rfl)⟩
theorem lf_RX5_30 : hm_F RX5 30 5 8 := ⟨RX5, TX5, 35, rfl, by decide, (hm_w 559 (by decide +kernel) rfl)⟩
theorem lf_RX5_33 : hm_F RX5 33 5 9 := ⟨RX5, TX5, 35, rfl, by decide, (hm_w 560 (by decide +kernel) rfl)⟩
theorem lf_RX5_36 : hm_F RX5 36 5 10 := ⟨RX5, TX5, 35, rfl, by decide, (hm_w 561 (by decide +kernel) rfl)⟩
theorem lf_RX5_39 : hm_F RX5 39 5 11 := ⟨RX5, TX5, 35, rfl, by decide, (hm_w 562 (by decide +kernel) rfl)⟩
theorem lf_RX5_109 : hm_F RX5 109 5 12 := ⟨RX5, TX5, 35, rfl, by decide, (hm_w 563 (by decide +kernel) rfl)⟩
theorem lf_RX5_42 : hm_F RX5 42 5 13 := ⟨RX5, TX5, 35, rfl, by decide, (hm_w 564 (by decide +kernel) rfl)⟩
theorem lf_RX5_45 : hm_F RX5 45 5 14 := ⟨RX5, TX5, 35, rfl, by decide, (hm_w 565 (by decide +kernel) rfl)⟩
theorem lf_RX5_48 : hm_F RX5 48 5 15 := ⟨RX5, TX5, 35, rfl, by decide, (hm_w 566 (by decide +kernel) rfl)⟩
theorem lf_RX5_51 : hm_F RX5 51 5 16 := ⟨RX5, TX5, 35, rfl, by decide, (hm_w 567 (by decide +kernel) rfl)⟩
theorem lf_RX5_54 : hm_F RX5 54 5 17 := ⟨RX5, TX5, 35, rfl, by decide, (hm_w 568 (by decide +kernel) rfl)⟩
theorem lf_RX5_57 : hm_F RX5 57 5 18 := ⟨RX5, TX5, 35, rfl, by decide, (hm_w 569 (by decide +kernel) rfl)⟩
theorem lf_RX5_60 : hm_F RX5 60 5 19 := ⟨RX5, TX5, 35, rfl, by decide, (hm_w 570 (by decide +kernel) rfl)⟩
theorem lf_RX5_63 : hm_F RX5 63 5 20 := ⟨RX5, TX5, 35, rfl, by decide, (hm_w 571 (by decide +kernel) rfl)⟩
theorem lf_RX5_66 : hm_F RX5 66 5 21 := ⟨RX5, TX5, 35, rfl, by decide, (hm_w 572 (by decide +kernel) rfl)⟩
theorem lf_RX5_69 : hm_F RX5 69 5 22 := ⟨RX5, TX5, 35, rfl, by decide, (hm_w 573 (by decide +kernel) rfl)⟩
theorem lf_RX5_72 : hm_F RX5 72 5 23 := ⟨RX5, TX5, 35, rfl, by decide, (hm_w 574 (by decide +kernel) rfl)⟩
theorem lf_RX5_179 : hm_F RX5 179 5 24 := ⟨RX5, TX5, 35, rfl, by decide, (hm_w 575 (by decide +kernel) rfl)⟩
theorem lf_RX5_188 : hm_F RX5 188 5 25 := ⟨RX5, TX5, 35, rfl, by decide, (hm_w 576 (by decide +kernel) rfl)⟩
theorem lf_RX5_103 : hm_F RX5 103 5 26 := ⟨RX5, TX5, 35, rfl, by decide, (hm_w 577 (by decide +kernel) rfl)⟩
theorem lf_RX5_163 : hm_F RX5 163 5 27 := ⟨RX5, TX5, 35, rfl, by decide, (hm_w 578 (by decide +kernel) rfl)⟩
theorem lf_RX5_106 : hm_F RX5 106 5 28 := ⟨RX5, TX5, 35, rfl, by decide, (hm_w 579 (by decide +kernel) rfl)⟩
theorem lf_RX5_122 : hm_F RX5 122 5 29 := ⟨RX5, TX5, 35, rfl, by decide, (hm_w 580 (by decide +kernel) rfl)⟩
theorem lf_RX5_169 : hm_F RX5 169 5 30 := ⟨RX5, TX5, 35, rfl, by decide, (hm_w 581 (by decide +kernel) rfl)⟩
theorem lf_RX5_183 : hm_F RX5 183 5 31 := ⟨RX5, TX5, 35, rfl, by decide, (hm_w 582 (by decide +kernel) rfl)⟩
theorem lf_RX5_75 : hm_F RX5 75 5 32 := ⟨RX5, TX5, 35, rfl, by decide, (hm_w 583 (by decide +kernel) rfl)⟩
theorem lf_RX5_78 : hm_F RX5 78 5 33 := ⟨RX5, TX5, 35, rfl, by decide, (hm_w 584 (by decide +kernel) rfl)⟩
theorem lf_RX5_81 : hm_F RX5 81 5 34 := ⟨RX5, TX5, 35, rfl, by decide, (hm_w 585 (by decide +kernel) rfl)⟩
theorem lk_RX5_209 : Cond.constant RX5 209 (100000) ∈ hm_T := (hm_w 764 (by decide +kernel) rfl)
theorem lk_RX5_214 : Cond.constantLong RX5 214 (7046029254386353131) ∈ hm_T := (hm_w 813 (by decide +kernel) rfl)
theorem lk_RX5_216 : Cond.constantLong RX5 216 (-4658895280553007687) ∈ hm_T := (hm_w 814 (by decide +kernel) rfl)
theorem lk_RX5_186 : Cond.constantLong RX5 186 (1000000) ∈ hm_T := (hm_w 823 (by decide +kernel) rfl)
theorem lk_RL_18 : Cond.constantLong RL 18 (4294967295) ∈ hm_T := (hm_w 845 (by decide +kernel) rfl)
/-- the words of an instance method's call, of a static one's, of a constructor's -/
def hm_MC (y : MethodName) (cc : ByteArray) (nL : Nat) (ret : Option FieldType) (n : Nat) : Prop := Cond.code y cc nL ret ∈ hm_T ∧ Cond.initialized y.cls ∈ hm_T ∧ (y.cls ≠ "java/lang/invoke/MethodHandle" ∧ y.cls ≠ "java/lang/invoke/VarHandle" ∧ (parseMethodDescriptor y.desc).map (fun d => d.parameters.length) = some n)
def hm_MV (own : String) (idx : Nat) (y : MethodName) (cc : ByteArray) (nL : Nat) (ret : Option FieldType) (n : Nat) : Prop := hm_MC y cc nL ret n ∧ Cond.methodLink own idx y ∈ hm_T ∧ Cond.instanceMethod y ∈ hm_T ∧ Cond.selects y.cls y y ∈ hm_T
def hm_MS (own : String) (idx : Nat) (y : MethodName) (cc : ByteArray) (nL : Nat) (ret : Option FieldType) (n : Nat) : Prop := hm_MC y cc nL ret n ∧ Cond.methodLink own idx y ∈ hm_T ∧ Cond.static y ∈ hm_T
def hm_MI (own : String) (idx : Nat) (y : MethodName) (cc : ByteArray) (nL : Nat) (n : Nat) : Prop := hm_MC y cc nL none n ∧ Cond.methodLink own idx y ∈ hm_T ∧ Cond.instanceMethod y ∈ hm_T ∧ y.name = "<init>" 
theorem mc_yX4_init : hm_MC yX4_init cX4_init 1 none 0 := ⟨(hm_w 13 (by decide +kernel) rfl), (hm_w 1 (by decide +kernel) rfl), by decide +kernel⟩
theorem mc_yX3_init : hm_MC yX3_init cX3_init 2 none 0 := ⟨(hm_w 21 (by decide +kernel) rfl), (hm_w 2 (by decide +kernel) rfl), by decide +kernel⟩
theorem mc_yX0_init : hm_MC yX0_init cX0_init 1 none 0 := ⟨(hm_w 28 (by decide +kernel) rfl), (hm_w 3 (by decide +kernel) rfl), by decide +kernel⟩
theorem mc_yX4_cell : hm_MC yX4_cell cX4_cell 2 (some .int) 1 := ⟨(hm_w 133 (by decide +kernel) rfl), (hm_w 1 (by decide +kernel) rfl), by decide +kernel⟩
theorem mc_yX4_isChannel : hm_MC yX4_isChannel cX4_isChannel 1 (some .boolean) 1 := ⟨(hm_w 136 (by decide +kernel) rfl), (hm_w 1 (by decide +kernel) rfl), by decide +kernel⟩
theorem mc_yX4_refuse : hm_MC yX4_refuse cX4_refuse 3 (some .int) 1 := ⟨(hm_w 140 (by decide +kernel) rfl), (hm_w 1 (by decide +kernel) rfl), by decide +kernel⟩
theorem mc_yX3_addCell : hm_MC yX3_addCell cX3_addCell 3 (some .int) 1 := ⟨(hm_w 144 (by decide +kernel) rfl), (hm_w 2 (by decide +kernel) rfl), by decide +kernel⟩
theorem mc_yX4_portable : hm_MC yX4_portable cX4_portable 5 (some .int) 2 := ⟨(hm_w 148 (by decide +kernel) rfl), (hm_w 1 (by decide +kernel) rfl), by decide +kernel⟩
theorem mc_yX4_isPlace : hm_MC yX4_isPlace cX4_isPlace 1 (some .boolean) 1 := ⟨(hm_w 151 (by decide +kernel) rfl), (hm_w 1 (by decide +kernel) rfl), by decide +kernel⟩
theorem mc_yX3_addPortable : hm_MC yX3_addPortable cX3_addPortable 3 (some .int) 1 := ⟨(hm_w 155 (by decide +kernel) rfl), (hm_w 2 (by decide +kernel) rfl), by decide +kernel⟩
theorem mc_yX2_init : hm_MC yX2_init cX2_init 4 none 2 := ⟨(hm_w 159 (by decide +kernel) rfl), (hm_w 5 (by decide +kernel) rfl), by decide +kernel⟩
theorem mc_yX1_init : hm_MC yX1_init cX1_init 2 none 1 := ⟨(hm_w 165 (by decide +kernel) rfl), (hm_w 6 (by decide +kernel) rfl), by decide +kernel⟩
theorem mc_yJ9_max_7cf53 : hm_MC yJ9_max_7cf53 cJ9_max_7cf53 2 (some .int) 2 := ⟨(hm_w 169 (by decide +kernel) rfl), (hm_w 7 (by decide +kernel) rfl), by decide +kernel⟩
theorem mc_yX4_reach : hm_MC yX4_reach cX4_reach 4 (some .int) 2 := ⟨(hm_w 231 (by decide +kernel) rfl), (hm_w 1 (by decide +kernel) rfl), by decide +kernel⟩
theorem mc_yX4_noise : hm_MC yX4_noise cX4_noise 5 (some .boolean) 3 := ⟨(hm_w 235 (by decide +kernel) rfl), (hm_w 1 (by decide +kernel) rfl), by decide +kernel⟩
theorem mc_yX3_hasCell : hm_MC yX3_hasCell cX3_hasCell 2 (some .boolean) 1 := ⟨(hm_w 239 (by decide +kernel) rfl), (hm_w 2 (by decide +kernel) rfl), by decide +kernel⟩
theorem mc_yX3_changeNoise : hm_MC yX3_changeNoise cX3_changeNoise 6 (some .boolean) 3 := ⟨(hm_w 243 (by decide +kernel) rfl), (hm_w 2 (by decide +kernel) rfl), by decide +kernel⟩
theorem mc_yX4_go : hm_MC yX4_go cX4_go 4 (some .int) 2 := ⟨(hm_w 247 (by decide +kernel) rfl), (hm_w 1 (by decide +kernel) rfl), by decide +kernel⟩
theorem mc_yX3_hasPortable : hm_MC yX3_hasPortable cX3_hasPortable 2 (some .boolean) 1 := ⟨(hm_w 251 (by decide +kernel) rfl), (hm_w 2 (by decide +kernel) rfl), by decide +kernel⟩
theorem mc_yX4_enter : hm_MC yX4_enter cX4_enter 5 (some .int) 2 := ⟨(hm_w 255 (by decide +kernel) rfl), (hm_w 1 (by decide +kernel) rfl), by decide +kernel⟩
theorem mc_yX4_find : hm_MC yX4_find cX4_find 2 (some (.object "CordlessHouse$Portable")) 1 := ⟨(hm_w 259 (by decide +kernel) rfl), (hm_w 1 (by decide +kernel) rfl), by decide +kernel⟩
theorem mc_yX4_dial : hm_MC yX4_dial cX4_dial 5 (some .int) 2 := ⟨(hm_w 263 (by decide +kernel) rfl), (hm_w 1 (by decide +kernel) rfl), by decide +kernel⟩
theorem mc_yX2_begin : hm_MC yX2_begin cX2_begin 4 none 3 := ⟨(hm_w 267 (by decide +kernel) rfl), (hm_w 5 (by decide +kernel) rfl), by decide +kernel⟩
theorem mc_yX4_answer : hm_MC yX4_answer cX4_answer 4 (some .int) 1 := ⟨(hm_w 271 (by decide +kernel) rfl), (hm_w 1 (by decide +kernel) rfl), by decide +kernel⟩
theorem mc_yX4_hang : hm_MC yX4_hang cX4_hang 3 (some .int) 1 := ⟨(hm_w 275 (by decide +kernel) rfl), (hm_w 1 (by decide +kernel) rfl), by decide +kernel⟩
theorem mc_yX4_endCall : hm_MC yX4_endCall cX4_endCall 3 none 1 := ⟨(hm_w 279 (by decide +kernel) rfl), (hm_w 1 (by decide +kernel) rfl), by decide +kernel⟩
theorem mc_yX4_isOneCall : hm_MC yX4_isOneCall cX4_isOneCall 2 (some .boolean) 2 := ⟨(hm_w 282 (by decide +kernel) rfl), (hm_w 1 (by decide +kernel) rfl), by decide +kernel⟩
theorem mc_yX2_calls : hm_MC yX2_calls cX2_calls 1 (some .boolean) 0 := ⟨(hm_w 286 (by decide +kernel) rfl), (hm_w 5 (by decide +kernel) rfl), by decide +kernel⟩
theorem mc_yX2_isCalled : hm_MC yX2_isCalled cX2_isCalled 1 (some .boolean) 0 := ⟨(hm_w 290 (by decide +kernel) rfl), (hm_w 5 (by decide +kernel) rfl), by decide +kernel⟩
theorem mc_yX4_release : hm_MC yX4_release cX4_release 2 none 1 := ⟨(hm_w 294 (by decide +kernel) rfl), (hm_w 1 (by decide +kernel) rfl), by decide +kernel⟩
theorem mc_yX2_becomeIdle : hm_MC yX2_becomeIdle cX2_becomeIdle 1 none 0 := ⟨(hm_w 298 (by decide +kernel) rfl), (hm_w 5 (by decide +kernel) rfl), by decide +kernel⟩
theorem mc_yX1_clear : hm_MC yX1_clear cX1_clear 1 none 0 := ⟨(hm_w 302 (by decide +kernel) rfl), (hm_w 6 (by decide +kernel) rfl), by decide +kernel⟩
theorem mc_yX3_dropBearersOf : hm_MC yX3_dropBearersOf cX3_dropBearersOf 3 none 1 := ⟨(hm_w 306 (by decide +kernel) rfl), (hm_w 2 (by decide +kernel) rfl), by decide +kernel⟩
theorem mc_yX3_dropBearer : hm_MC yX3_dropBearer cX3_dropBearer 4 none 1 := ⟨(hm_w 310 (by decide +kernel) rfl), (hm_w 2 (by decide +kernel) rfl), by decide +kernel⟩
theorem mc_yX4_say : hm_MC yX4_say cX4_say 5 (some .int) 2 := ⟨(hm_w 314 (by decide +kernel) rfl), (hm_w 1 (by decide +kernel) rfl), by decide +kernel⟩
theorem mc_yX1_put : hm_MC yX1_put cX1_put 3 (some .boolean) 1 := ⟨(hm_w 318 (by decide +kernel) rfl), (hm_w 6 (by decide +kernel) rfl), by decide +kernel⟩
theorem mc_yX1_isFull : hm_MC yX1_isFull cX1_isFull 1 (some .boolean) 0 := ⟨(hm_w 322 (by decide +kernel) rfl), (hm_w 6 (by decide +kernel) rfl), by decide +kernel⟩
theorem mc_yX1_wrap : hm_MC yX1_wrap cX1_wrap 2 (some .int) 1 := ⟨(hm_w 326 (by decide +kernel) rfl), (hm_w 6 (by decide +kernel) rfl), by decide +kernel⟩
theorem mc_yX4_frames : hm_MC yX4_frames cX4_frames 4 (some .int) 1 := ⟨(hm_w 330 (by decide +kernel) rfl), (hm_w 1 (by decide +kernel) rfl), by decide +kernel⟩
theorem mc_yX4_runFrame : hm_MC yX4_runFrame cX4_runFrame 1 none 0 := ⟨(hm_w 335 (by decide +kernel) rfl), (hm_w 1 (by decide +kernel) rfl), by decide +kernel⟩
theorem mc_yX4_setUpBearers : hm_MC yX4_setUpBearers cX4_setUpBearers 2 none 0 := ⟨(hm_w 339 (by decide +kernel) rfl), (hm_w 1 (by decide +kernel) rfl), by decide +kernel⟩
theorem mc_yX4_wantsBearer : hm_MC yX4_wantsBearer cX4_wantsBearer 3 (some .boolean) 1 := ⟨(hm_w 343 (by decide +kernel) rfl), (hm_w 1 (by decide +kernel) rfl), by decide +kernel⟩
theorem mc_yX3_bearersOf : hm_MC yX3_bearersOf cX3_bearersOf 4 (some .int) 1 := ⟨(hm_w 347 (by decide +kernel) rfl), (hm_w 2 (by decide +kernel) rfl), by decide +kernel⟩
theorem mc_yX3_handsOver : hm_MC yX3_handsOver cX3_handsOver 3 (some .boolean) 1 := ⟨(hm_w 351 (by decide +kernel) rfl), (hm_w 2 (by decide +kernel) rfl), by decide +kernel⟩
theorem mc_yX3_firstBearerOf : hm_MC yX3_firstBearerOf cX3_firstBearerOf 3 (some .int) 1 := ⟨(hm_w 355 (by decide +kernel) rfl), (hm_w 2 (by decide +kernel) rfl), by decide +kernel⟩
theorem mc_yX3_lastBearerOf : hm_MC yX3_lastBearerOf cX3_lastBearerOf 3 (some .int) 1 := ⟨(hm_w 359 (by decide +kernel) rfl), (hm_w 2 (by decide +kernel) rfl), by decide +kernel⟩
theorem mc_yX3_setUp : hm_MC yX3_setUp cX3_setUp 4 none 1 := ⟨(hm_w 363 (by decide +kernel) rfl), (hm_w 2 (by decide +kernel) rfl), by decide +kernel⟩
theorem mc_yX3_chooseCell : hm_MC yX3_chooseCell cX3_chooseCell 6 (some .int) 1 := ⟨(hm_w 367 (by decide +kernel) rfl), (hm_w 2 (by decide +kernel) rfl), by decide +kernel⟩
theorem mc_yX3_comesDown : hm_MC yX3_comesDown cX3_comesDown 5 (some .boolean) 3 := ⟨(hm_w 371 (by decide +kernel) rfl), (hm_w 2 (by decide +kernel) rfl), by decide +kernel⟩
theorem mc_yX3_reachesPlace : hm_MC yX3_reachesPlace cX3_reachesPlace 3 (some .boolean) 2 := ⟨(hm_w 375 (by decide +kernel) rfl), (hm_w 2 (by decide +kernel) rfl), by decide +kernel⟩
theorem mc_yX3_chooseChannel : hm_MC yX3_chooseChannel cX3_chooseChannel 11 (some .int) 2 := ⟨(hm_w 379 (by decide +kernel) rfl), (hm_w 2 (by decide +kernel) rfl), by decide +kernel⟩
theorem mc_yX3_takenSlots : hm_MC yX3_takenSlots cX3_takenSlots 5 (some .int) 2 := ⟨(hm_w 383 (by decide +kernel) rfl), (hm_w 2 (by decide +kernel) rfl), by decide +kernel⟩
theorem mc_yX3_noiseBits : hm_MC yX3_noiseBits cX3_noiseBits 3 (some .int) 2 := ⟨(hm_w 387 (by decide +kernel) rfl), (hm_w 2 (by decide +kernel) rfl), by decide +kernel⟩
theorem mc_yX3_otherCells : hm_MC yX3_otherCells cX3_otherCells 3 (some .int) 2 := ⟨(hm_w 391 (by decide +kernel) rfl), (hm_w 2 (by decide +kernel) rfl), by decide +kernel⟩
theorem mc_yX3_otherPortables : hm_MC yX3_otherPortables cX3_otherPortables 5 (some .int) 2 := ⟨(hm_w 395 (by decide +kernel) rfl), (hm_w 2 (by decide +kernel) rfl), by decide +kernel⟩
theorem mc_yX3_levelOn : hm_MC yX3_levelOn cX3_levelOn 5 (some .int) 4 := ⟨(hm_w 399 (by decide +kernel) rfl), (hm_w 2 (by decide +kernel) rfl), by decide +kernel⟩
theorem mc_yJ6_bitCount_0f7a4 : hm_MC yJ6_bitCount_0f7a4 cJ6_bitCount_0f7a4 1 (some .int) 1 := ⟨(hm_w 402 (by decide +kernel) rfl), (hm_w 8 (by decide +kernel) rfl), by decide +kernel⟩
theorem mc_yX3_addBearer : hm_MC yX3_addBearer cX3_addBearer 5 none 3 := ⟨(hm_w 409 (by decide +kernel) rfl), (hm_w 2 (by decide +kernel) rfl), by decide +kernel⟩
theorem mc_yX3_sendAll : hm_MC yX3_sendAll cX3_sendAll 3 none 0 := ⟨(hm_w 413 (by decide +kernel) rfl), (hm_w 2 (by decide +kernel) rfl), by decide +kernel⟩
theorem mc_yX3_comesUp : hm_MC yX3_comesUp cX3_comesUp 4 (some .boolean) 3 := ⟨(hm_w 417 (by decide +kernel) rfl), (hm_w 2 (by decide +kernel) rfl), by decide +kernel⟩
theorem mc_yX3_dropFailed : hm_MC yX3_dropFailed cX3_dropFailed 2 none 0 := ⟨(hm_w 421 (by decide +kernel) rfl), (hm_w 2 (by decide +kernel) rfl), by decide +kernel⟩
theorem mc_yX4_dropHandedOver : hm_MC yX4_dropHandedOver cX4_dropHandedOver 2 none 0 := ⟨(hm_w 425 (by decide +kernel) rfl), (hm_w 1 (by decide +kernel) rfl), by decide +kernel⟩
theorem mc_yX3_dropFirstForSecond : hm_MC yX3_dropFirstForSecond cX3_dropFirstForSecond 4 (some .boolean) 1 := ⟨(hm_w 429 (by decide +kernel) rfl), (hm_w 2 (by decide +kernel) rfl), by decide +kernel⟩
theorem mc_yX4_endCallsWithoutBearer : hm_MC yX4_endCallsWithoutBearer cX4_endCallsWithoutBearer 4 none 0 := ⟨(hm_w 433 (by decide +kernel) rfl), (hm_w 1 (by decide +kernel) rfl), by decide +kernel⟩
theorem mc_yX4_advanceCalls : hm_MC yX4_advanceCalls cX4_advanceCalls 2 none 0 := ⟨(hm_w 437 (by decide +kernel) rfl), (hm_w 1 (by decide +kernel) rfl), by decide +kernel⟩
theorem mc_yX3_hasGoodBearer : hm_MC yX3_hasGoodBearer cX3_hasGoodBearer 3 (some .boolean) 1 := ⟨(hm_w 441 (by decide +kernel) rfl), (hm_w 2 (by decide +kernel) rfl), by decide +kernel⟩
theorem mc_yX4_advance : hm_MC yX4_advance cX4_advance 2 (some .boolean) 1 := ⟨(hm_w 445 (by decide +kernel) rfl), (hm_w 1 (by decide +kernel) rfl), by decide +kernel⟩
theorem mc_yX4_isProven : hm_MC yX4_isProven cX4_isProven 2 (some .boolean) 1 := ⟨(hm_w 449 (by decide +kernel) rfl), (hm_w 1 (by decide +kernel) rfl), by decide +kernel⟩
theorem mc_yX4_mixOf : hm_MC yX4_mixOf cX4_mixOf 6 (some .long) 2 := ⟨(hm_w 452 (by decide +kernel) rfl), (hm_w 1 (by decide +kernel) rfl), by decide +kernel⟩
theorem mc_yX4_pagePartner : hm_MC yX4_pagePartner cX4_pagePartner 3 (some .boolean) 1 := ⟨(hm_w 458 (by decide +kernel) rfl), (hm_w 1 (by decide +kernel) rfl), by decide +kernel⟩
theorem mc_yX4_startRinging : hm_MC yX4_startRinging cX4_startRinging 1 (some .boolean) 1 := ⟨(hm_w 461 (by decide +kernel) rfl), (hm_w 1 (by decide +kernel) rfl), by decide +kernel⟩
theorem mc_yX4_carryUp : hm_MC yX4_carryUp cX4_carryUp 2 none 0 := ⟨(hm_w 465 (by decide +kernel) rfl), (hm_w 1 (by decide +kernel) rfl), by decide +kernel⟩
theorem mc_yX4_canTalk : hm_MC yX4_canTalk cX4_canTalk 2 (some .boolean) 1 := ⟨(hm_w 469 (by decide +kernel) rfl), (hm_w 1 (by decide +kernel) rfl), by decide +kernel⟩
theorem mc_yX4_sendUp : hm_MC yX4_sendUp cX4_sendUp 3 none 1 := ⟨(hm_w 473 (by decide +kernel) rfl), (hm_w 1 (by decide +kernel) rfl), by decide +kernel⟩
theorem mc_yX1_take : hm_MC yX1_take cX1_take 3 (some .long) 0 := ⟨(hm_w 477 (by decide +kernel) rfl), (hm_w 6 (by decide +kernel) rfl), by decide +kernel⟩
theorem mc_yX4_carryDown : hm_MC yX4_carryDown cX4_carryDown 2 none 0 := ⟨(hm_w 481 (by decide +kernel) rfl), (hm_w 1 (by decide +kernel) rfl), by decide +kernel⟩
theorem mc_yX4_sendDown : hm_MC yX4_sendDown cX4_sendDown 4 none 1 := ⟨(hm_w 485 (by decide +kernel) rfl), (hm_w 1 (by decide +kernel) rfl), by decide +kernel⟩
theorem mc_yX2_keep : hm_MC yX2_keep cX2_keep 3 none 1 := ⟨(hm_w 490 (by decide +kernel) rfl), (hm_w 5 (by decide +kernel) rfl), by decide +kernel⟩
theorem mc_yX4_endOldCalls : hm_MC yX4_endOldCalls cX4_endOldCalls 3 none 0 := ⟨(hm_w 497 (by decide +kernel) rfl), (hm_w 1 (by decide +kernel) rfl), by decide +kernel⟩
theorem mc_yX2_isPending : hm_MC yX2_isPending cX2_isPending 1 (some .boolean) 0 := ⟨(hm_w 501 (by decide +kernel) rfl), (hm_w 5 (by decide +kernel) rfl), by decide +kernel⟩
theorem mc_yX4_heard : hm_MC yX4_heard cX4_heard 4 (some .long) 2 := ⟨(hm_w 507 (by decide +kernel) rfl), (hm_w 1 (by decide +kernel) rfl), by decide +kernel⟩
theorem mc_yX1_at : hm_MC yX1_at cX1_at 2 (some .long) 1 := ⟨(hm_w 511 (by decide +kernel) rfl), (hm_w 6 (by decide +kernel) rfl), by decide +kernel⟩
theorem mc_yX4_portableOf : hm_MC yX4_portableOf cX4_portableOf 4 (some .int) 2 := ⟨(hm_w 515 (by decide +kernel) rfl), (hm_w 1 (by decide +kernel) rfl), by decide +kernel⟩
theorem mc_yX4_bearer : hm_MC yX4_bearer cX4_bearer 4 (some .int) 2 := ⟨(hm_w 519 (by decide +kernel) rfl), (hm_w 1 (by decide +kernel) rfl), by decide +kernel⟩
theorem mc_yX4_level : hm_MC yX4_level cX4_level 4 (some .int) 3 := ⟨(hm_w 523 (by decide +kernel) rfl), (hm_w 1 (by decide +kernel) rfl), by decide +kernel⟩
theorem mc_yX4_beacon : hm_MC yX4_beacon cX4_beacon 3 (some .boolean) 2 := ⟨(hm_w 531 (by decide +kernel) rfl), (hm_w 1 (by decide +kernel) rfl), by decide +kernel⟩
theorem mc_yX4_mix : hm_MC yX4_mix cX4_mix 5 (some .long) 2 := ⟨(hm_w 536 (by decide +kernel) rfl), (hm_w 1 (by decide +kernel) rfl), by decide +kernel⟩
theorem mc_yX4_air : hm_MC yX4_air cX4_air 2 (some .long) 1 := ⟨(hm_w 540 (by decide +kernel) rfl), (hm_w 1 (by decide +kernel) rfl), by decide +kernel⟩
theorem mc_yX4_count : hm_MC yX4_count cX4_count 2 (some .int) 1 := ⟨(hm_w 544 (by decide +kernel) rfl), (hm_w 1 (by decide +kernel) rfl), by decide +kernel⟩
theorem mc_yX5_init : hm_MC yX5_init cX5_init 1 none 0 := ⟨(hm_w 549 (by decide +kernel) rfl), (hm_w 4 (by decide +kernel) rfl), by decide +kernel⟩
theorem mc_yX5_cell : hm_MC yX5_cell cX5_cell 2 (some .int) 1 := ⟨(hm_w 661 (by decide +kernel) rfl), (hm_w 4 (by decide +kernel) rfl), by decide +kernel⟩
theorem mc_yX5_in : hm_MC yX5_in cX5_in 3 (some .boolean) 3 := ⟨(hm_w 664 (by decide +kernel) rfl), (hm_w 4 (by decide +kernel) rfl), by decide +kernel⟩
theorem mc_yX5_refuse : hm_MC yX5_refuse cX5_refuse 2 (some .int) 1 := ⟨(hm_w 668 (by decide +kernel) rfl), (hm_w 4 (by decide +kernel) rfl), by decide +kernel⟩
theorem mc_yX5_portable : hm_MC yX5_portable cX5_portable 4 (some .int) 2 := ⟨(hm_w 672 (by decide +kernel) rfl), (hm_w 4 (by decide +kernel) rfl), by decide +kernel⟩
theorem mc_yX5_reach : hm_MC yX5_reach cX5_reach 4 (some .int) 2 := ⟨(hm_w 676 (by decide +kernel) rfl), (hm_w 4 (by decide +kernel) rfl), by decide +kernel⟩
theorem mc_yX5_noise : hm_MC yX5_noise cX5_noise 4 (some .boolean) 3 := ⟨(hm_w 680 (by decide +kernel) rfl), (hm_w 4 (by decide +kernel) rfl), by decide +kernel⟩
theorem mc_yX5_go : hm_MC yX5_go cX5_go 4 (some .int) 2 := ⟨(hm_w 684 (by decide +kernel) rfl), (hm_w 4 (by decide +kernel) rfl), by decide +kernel⟩
theorem mc_yX5_isPortable : hm_MC yX5_isPortable cX5_isPortable 2 (some .boolean) 1 := ⟨(hm_w 688 (by decide +kernel) rfl), (hm_w 4 (by decide +kernel) rfl), by decide +kernel⟩
theorem mc_yX5_enter : hm_MC yX5_enter cX5_enter 4 (some .int) 2 := ⟨(hm_w 692 (by decide +kernel) rfl), (hm_w 4 (by decide +kernel) rfl), by decide +kernel⟩
theorem mc_yX5_dial : hm_MC yX5_dial cX5_dial 3 (some .int) 2 := ⟨(hm_w 696 (by decide +kernel) rfl), (hm_w 4 (by decide +kernel) rfl), by decide +kernel⟩
theorem mc_yX5_answer : hm_MC yX5_answer cX5_answer 2 (some .int) 1 := ⟨(hm_w 700 (by decide +kernel) rfl), (hm_w 4 (by decide +kernel) rfl), by decide +kernel⟩
theorem mc_yX5_hang : hm_MC yX5_hang cX5_hang 2 (some .int) 1 := ⟨(hm_w 704 (by decide +kernel) rfl), (hm_w 4 (by decide +kernel) rfl), by decide +kernel⟩
theorem mc_yX5_ends : hm_MC yX5_ends cX5_ends 5 none 1 := ⟨(hm_w 708 (by decide +kernel) rfl), (hm_w 4 (by decide +kernel) rfl), by decide +kernel⟩
theorem mc_yX5_isCaller : hm_MC yX5_isCaller cX5_isCaller 1 (some .boolean) 1 := ⟨(hm_w 711 (by decide +kernel) rfl), (hm_w 4 (by decide +kernel) rfl), by decide +kernel⟩
theorem mc_yX5_idle : hm_MC yX5_idle cX5_idle 3 none 1 := ⟨(hm_w 715 (by decide +kernel) rfl), (hm_w 4 (by decide +kernel) rfl), by decide +kernel⟩
theorem mc_yX5_dropBearer : hm_MC yX5_dropBearer cX5_dropBearer 3 none 1 := ⟨(hm_w 719 (by decide +kernel) rfl), (hm_w 4 (by decide +kernel) rfl), by decide +kernel⟩
theorem mc_yX5_say : hm_MC yX5_say cX5_say 4 (some .int) 2 := ⟨(hm_w 723 (by decide +kernel) rfl), (hm_w 4 (by decide +kernel) rfl), by decide +kernel⟩
theorem mc_yX5_level : hm_MC yX5_level cX5_level 4 (some .int) 3 := ⟨(hm_w 727 (by decide +kernel) rfl), (hm_w 4 (by decide +kernel) rfl), by decide +kernel⟩
theorem mc_yX5_isCell : hm_MC yX5_isCell cX5_isCell 2 (some .boolean) 1 := ⟨(hm_w 731 (by decide +kernel) rfl), (hm_w 4 (by decide +kernel) rfl), by decide +kernel⟩
theorem mc_yX5_levelOf : hm_MC yX5_levelOf cX5_levelOf 4 (some .int) 3 := ⟨(hm_w 735 (by decide +kernel) rfl), (hm_w 4 (by decide +kernel) rfl), by decide +kernel⟩
theorem mc_yX5_othersSending : hm_MC yX5_othersSending cX5_othersSending 6 (some .int) 3 := ⟨(hm_w 739 (by decide +kernel) rfl), (hm_w 4 (by decide +kernel) rfl), by decide +kernel⟩
theorem mc_yX5_reaches : hm_MC yX5_reaches cX5_reaches 3 (some .boolean) 2 := ⟨(hm_w 743 (by decide +kernel) rfl), (hm_w 4 (by decide +kernel) rfl), by decide +kernel⟩
theorem mc_yX5_sends : hm_MC yX5_sends cX5_sends 5 (some .boolean) 2 := ⟨(hm_w 747 (by decide +kernel) rfl), (hm_w 4 (by decide +kernel) rfl), by decide +kernel⟩
theorem mc_yX5_othersTalking : hm_MC yX5_othersTalking cX5_othersTalking 8 (some .int) 3 := ⟨(hm_w 751 (by decide +kernel) rfl), (hm_w 4 (by decide +kernel) rfl), by decide +kernel⟩
theorem mc_yX5_beacon : hm_MC yX5_beacon cX5_beacon 3 (some .boolean) 2 := ⟨(hm_w 755 (by decide +kernel) rfl), (hm_w 4 (by decide +kernel) rfl), by decide +kernel⟩
theorem mc_yX5_isHeardAt : hm_MC yX5_isHeardAt cX5_isHeardAt 4 (some .boolean) 3 := ⟨(hm_w 759 (by decide +kernel) rfl), (hm_w 4 (by decide +kernel) rfl), by decide +kernel⟩
theorem mc_yX5_frames : hm_MC yX5_frames cX5_frames 4 (some .int) 1 := ⟨(hm_w 763 (by decide +kernel) rfl), (hm_w 4 (by decide +kernel) rfl), by decide +kernel⟩
theorem mc_yX5_frame : hm_MC yX5_frame cX5_frame 3 (some .int) 0 := ⟨(hm_w 768 (by decide +kernel) rfl), (hm_w 4 (by decide +kernel) rfl), by decide +kernel⟩
theorem mc_yX5_setUp : hm_MC yX5_setUp cX5_setUp 10 none 1 := ⟨(hm_w 772 (by decide +kernel) rfl), (hm_w 4 (by decide +kernel) rfl), by decide +kernel⟩
theorem mc_yX5_handsOver : hm_MC yX5_handsOver cX5_handsOver 2 (some .boolean) 1 := ⟨(hm_w 776 (by decide +kernel) rfl), (hm_w 4 (by decide +kernel) rfl), by decide +kernel⟩
theorem mc_yX5_bearersOf : hm_MC yX5_bearersOf cX5_bearersOf 4 (some .int) 1 := ⟨(hm_w 780 (by decide +kernel) rfl), (hm_w 4 (by decide +kernel) rfl), by decide +kernel⟩
theorem mc_yX5_bearerOf : hm_MC yX5_bearerOf cX5_bearerOf 3 (some .int) 1 := ⟨(hm_w 784 (by decide +kernel) rfl), (hm_w 4 (by decide +kernel) rfl), by decide +kernel⟩
theorem mc_yX5_isSlotTaken : hm_MC yX5_isSlotTaken cX5_isSlotTaken 6 (some .boolean) 3 := ⟨(hm_w 788 (by decide +kernel) rfl), (hm_w 4 (by decide +kernel) rfl), by decide +kernel⟩
theorem mc_yX5_send : hm_MC yX5_send cX5_send 2 none 0 := ⟨(hm_w 792 (by decide +kernel) rfl), (hm_w 4 (by decide +kernel) rfl), by decide +kernel⟩
theorem mc_yX5_isHeardBy : hm_MC yX5_isHeardBy cX5_isHeardBy 4 (some .boolean) 3 := ⟨(hm_w 796 (by decide +kernel) rfl), (hm_w 4 (by decide +kernel) rfl), by decide +kernel⟩
theorem mc_yX5_goOrStay : hm_MC yX5_goOrStay cX5_goOrStay 3 none 0 := ⟨(hm_w 800 (by decide +kernel) rfl), (hm_w 4 (by decide +kernel) rfl), by decide +kernel⟩
theorem mc_yX5_callOf : hm_MC yX5_callOf cX5_callOf 4 none 1 := ⟨(hm_w 804 (by decide +kernel) rfl), (hm_w 4 (by decide +kernel) rfl), by decide +kernel⟩
theorem mc_yX5_isGood : hm_MC yX5_isGood cX5_isGood 4 (some .boolean) 1 := ⟨(hm_w 808 (by decide +kernel) rfl), (hm_w 4 (by decide +kernel) rfl), by decide +kernel⟩
theorem mc_yX5_mix : hm_MC yX5_mix cX5_mix 8 (some .long) 2 := ⟨(hm_w 812 (by decide +kernel) rfl), (hm_w 4 (by decide +kernel) rfl), by decide +kernel⟩
theorem mc_yX5_up : hm_MC yX5_up cX5_up 4 none 1 := ⟨(hm_w 818 (by decide +kernel) rfl), (hm_w 4 (by decide +kernel) rfl), by decide +kernel⟩
theorem mc_yX5_down : hm_MC yX5_down cX5_down 4 (some .int) 1 := ⟨(hm_w 822 (by decide +kernel) rfl), (hm_w 4 (by decide +kernel) rfl), by decide +kernel⟩
theorem mc_yX5_heard : hm_MC yX5_heard cX5_heard 3 (some .long) 2 := ⟨(hm_w 827 (by decide +kernel) rfl), (hm_w 4 (by decide +kernel) rfl), by decide +kernel⟩
theorem mc_yX5_portableOf : hm_MC yX5_portableOf cX5_portableOf 3 (some .int) 2 := ⟨(hm_w 831 (by decide +kernel) rfl), (hm_w 4 (by decide +kernel) rfl), by decide +kernel⟩
theorem mc_yX5_bearer : hm_MC yX5_bearer cX5_bearer 3 (some .int) 2 := ⟨(hm_w 835 (by decide +kernel) rfl), (hm_w 4 (by decide +kernel) rfl), by decide +kernel⟩
theorem mc_yX5_air : hm_MC yX5_air cX5_air 2 (some .long) 1 := ⟨(hm_w 840 (by decide +kernel) rfl), (hm_w 4 (by decide +kernel) rfl), by decide +kernel⟩
theorem mc_yX5_count : hm_MC yX5_count cX5_count 2 (some .int) 1 := ⟨(hm_w 844 (by decide +kernel) rfl), (hm_w 4 (by decide +kernel) rfl), by decide +kernel⟩
theorem lm_RL_9 : hm_MI RL 9 yX4_init cX4_init 1 0 := ⟨mc_yX4_init, (hm_w 11 (by decide +kernel) rfl), (hm_w 12 (by decide +kernel) rfl), rfl⟩
theorem lm_RX4_11 : hm_MI RX4 11 yX3_init cX3_init 2 0 := ⟨mc_yX3_init, (hm_w 19 (by decide +kernel) rfl), (hm_w 20 (by decide +kernel) rfl), rfl⟩
theorem lm_RL_13 : hm_MV RL 13 yX4_cell cX4_cell 2 (some .int) 1 := ⟨mc_yX4_cell, (hm_w 130 (by decide +kernel) rfl), (hm_w 131 (by decide +kernel) rfl), (hm_w 132 (by decide +kernel) rfl)⟩
theorem lm_RX4_26 : hm_MS RX4 26 yX4_isChannel cX4_isChannel 1 (some .boolean) 1 := ⟨mc_yX4_isChannel, (hm_w 134 (by decide +kernel) rfl), (hm_w 135 (by decide +kernel) rfl)⟩
theorem lm_RX4_30 : hm_MV RX4 30 yX4_refuse cX4_refuse 3 (some .int) 1 := ⟨mc_yX4_refuse, (hm_w 137 (by decide +kernel) rfl), (hm_w 139 (by decide +kernel) rfl), (hm_ws 0 (by decide +kernel) rfl)⟩
theorem lm_RX4_38 : hm_MV RX4 38 yX3_addCell cX3_addCell 3 (some .int) 1 := ⟨mc_yX3_addCell, (hm_w 141 (by decide +kernel) rfl), (hm_w 142 (by decide +kernel) rfl), (hm_w 143 (by decide +kernel) rfl)⟩
theorem lm_RL_20 : hm_MV RL 20 yX4_portable cX4_portable 5 (some .int) 2 := ⟨mc_yX4_portable, (hm_w 145 (by decide +kernel) rfl), (hm_w 146 (by decide +kernel) rfl), (hm_w 147 (by decide +kernel) rfl)⟩
theorem lm_RX4_41 : hm_MS RX4 41 yX4_isPlace cX4_isPlace 1 (some .boolean) 1 := ⟨mc_yX4_isPlace, (hm_w 149 (by decide +kernel) rfl), (hm_w 150 (by decide +kernel) rfl)⟩
theorem lm_RX4_47 : hm_MV RX4 47 yX3_addPortable cX3_addPortable 3 (some .int) 1 := ⟨mc_yX3_addPortable, (hm_w 152 (by decide +kernel) rfl), (hm_w 153 (by decide +kernel) rfl), (hm_w 154 (by decide +kernel) rfl)⟩
theorem lm_RX4_50 : hm_MI RX4 50 yX2_init cX2_init 4 2 := ⟨mc_yX2_init, (hm_w 157 (by decide +kernel) rfl), (hm_w 158 (by decide +kernel) rfl), rfl⟩
theorem lm_RX2_20 : hm_MI RX2 20 yX1_init cX1_init 2 1 := ⟨mc_yX1_init, (hm_w 163 (by decide +kernel) rfl), (hm_w 164 (by decide +kernel) rfl), rfl⟩
theorem lm_RX1_7 : hm_MS RX1 7 yJ9_max_7cf53 cJ9_max_7cf53 2 (some .int) 2 := ⟨mc_yJ9_max_7cf53, (hm_w 167 (by decide +kernel) rfl), (hm_w 168 (by decide +kernel) rfl)⟩
theorem lm_RL_25 : hm_MV RL 25 yX4_reach cX4_reach 4 (some .int) 2 := ⟨mc_yX4_reach, (hm_w 228 (by decide +kernel) rfl), (hm_w 229 (by decide +kernel) rfl), (hm_w 230 (by decide +kernel) rfl)⟩
theorem lm_RL_30 : hm_MV RL 30 yX4_noise cX4_noise 5 (some .boolean) 3 := ⟨mc_yX4_noise, (hm_w 232 (by decide +kernel) rfl), (hm_w 233 (by decide +kernel) rfl), (hm_w 234 (by decide +kernel) rfl)⟩
theorem lm_RX4_56 : hm_MV RX4 56 yX3_hasCell cX3_hasCell 2 (some .boolean) 1 := ⟨mc_yX3_hasCell, (hm_w 236 (by decide +kernel) rfl), (hm_w 237 (by decide +kernel) rfl), (hm_w 238 (by decide +kernel) rfl)⟩
theorem lm_RX4_59 : hm_MV RX4 59 yX3_changeNoise cX3_changeNoise 6 (some .boolean) 3 := ⟨mc_yX3_changeNoise, (hm_w 240 (by decide +kernel) rfl), (hm_w 241 (by decide +kernel) rfl), (hm_w 242 (by decide +kernel) rfl)⟩
theorem lm_RL_35 : hm_MV RL 35 yX4_go cX4_go 4 (some .int) 2 := ⟨mc_yX4_go, (hm_w 244 (by decide +kernel) rfl), (hm_w 245 (by decide +kernel) rfl), (hm_w 246 (by decide +kernel) rfl)⟩
theorem lm_RX4_63 : hm_MV RX4 63 yX3_hasPortable cX3_hasPortable 2 (some .boolean) 1 := ⟨mc_yX3_hasPortable, (hm_w 248 (by decide +kernel) rfl), (hm_w 249 (by decide +kernel) rfl), (hm_w 250 (by decide +kernel) rfl)⟩
theorem lm_RL_39 : hm_MV RL 39 yX4_enter cX4_enter 5 (some .int) 2 := ⟨mc_yX4_enter, (hm_w 252 (by decide +kernel) rfl), (hm_w 253 (by decide +kernel) rfl), (hm_w 254 (by decide +kernel) rfl)⟩
theorem lm_RX4_69 : hm_MV RX4 69 yX4_find cX4_find 2 (some (.object "CordlessHouse$Portable")) 1 := ⟨mc_yX4_find, (hm_w 256 (by decide +kernel) rfl), (hm_w 258 (by decide +kernel) rfl), (hm_ws 1 (by decide +kernel) rfl)⟩
theorem lm_RL_43 : hm_MV RL 43 yX4_dial cX4_dial 5 (some .int) 2 := ⟨mc_yX4_dial, (hm_w 260 (by decide +kernel) rfl), (hm_w 261 (by decide +kernel) rfl), (hm_w 262 (by decide +kernel) rfl)⟩
theorem lm_RX4_87 : hm_MV RX4 87 yX2_begin cX2_begin 4 none 3 := ⟨mc_yX2_begin, (hm_w 264 (by decide +kernel) rfl), (hm_w 265 (by decide +kernel) rfl), (hm_w 266 (by decide +kernel) rfl)⟩
theorem lm_RL_47 : hm_MV RL 47 yX4_answer cX4_answer 4 (some .int) 1 := ⟨mc_yX4_answer, (hm_w 268 (by decide +kernel) rfl), (hm_w 269 (by decide +kernel) rfl), (hm_w 270 (by decide +kernel) rfl)⟩
theorem lm_RL_51 : hm_MV RL 51 yX4_hang cX4_hang 3 (some .int) 1 := ⟨mc_yX4_hang, (hm_w 272 (by decide +kernel) rfl), (hm_w 273 (by decide +kernel) rfl), (hm_w 274 (by decide +kernel) rfl)⟩
theorem lm_RX4_97 : hm_MV RX4 97 yX4_endCall cX4_endCall 3 none 1 := ⟨mc_yX4_endCall, (hm_w 276 (by decide +kernel) rfl), (hm_w 278 (by decide +kernel) rfl), (hm_ws 2 (by decide +kernel) rfl)⟩
theorem lm_RX4_298 : hm_MS RX4 298 yX4_isOneCall cX4_isOneCall 2 (some .boolean) 2 := ⟨mc_yX4_isOneCall, (hm_w 280 (by decide +kernel) rfl), (hm_w 281 (by decide +kernel) rfl)⟩
theorem lm_RX4_305 : hm_MV RX4 305 yX2_calls cX2_calls 1 (some .boolean) 0 := ⟨mc_yX2_calls, (hm_w 283 (by decide +kernel) rfl), (hm_w 284 (by decide +kernel) rfl), (hm_w 285 (by decide +kernel) rfl)⟩
theorem lm_RX4_308 : hm_MV RX4 308 yX2_isCalled cX2_isCalled 1 (some .boolean) 0 := ⟨mc_yX2_isCalled, (hm_w 287 (by decide +kernel) rfl), (hm_w 288 (by decide +kernel) rfl), (hm_w 289 (by decide +kernel) rfl)⟩
theorem lm_RX4_302 : hm_MV RX4 302 yX4_release cX4_release 2 none 1 := ⟨mc_yX4_release, (hm_w 291 (by decide +kernel) rfl), (hm_w 293 (by decide +kernel) rfl), (hm_ws 3 (by decide +kernel) rfl)⟩
theorem lm_RX4_311 : hm_MV RX4 311 yX2_becomeIdle cX2_becomeIdle 1 none 0 := ⟨mc_yX2_becomeIdle, (hm_w 295 (by decide +kernel) rfl), (hm_w 296 (by decide +kernel) rfl), (hm_w 297 (by decide +kernel) rfl)⟩
theorem lm_RX2_43 : hm_MV RX2 43 yX1_clear cX1_clear 1 none 0 := ⟨mc_yX1_clear, (hm_w 299 (by decide +kernel) rfl), (hm_w 300 (by decide +kernel) rfl), (hm_w 301 (by decide +kernel) rfl)⟩
theorem lm_RX4_314 : hm_MV RX4 314 yX3_dropBearersOf cX3_dropBearersOf 3 none 1 := ⟨mc_yX3_dropBearersOf, (hm_w 303 (by decide +kernel) rfl), (hm_w 304 (by decide +kernel) rfl), (hm_w 305 (by decide +kernel) rfl)⟩
theorem lm_RX3_116 : hm_MV RX3 116 yX3_dropBearer cX3_dropBearer 4 none 1 := ⟨mc_yX3_dropBearer, (hm_w 307 (by decide +kernel) rfl), (hm_w 309 (by decide +kernel) rfl), (hm_ws 4 (by decide +kernel) rfl)⟩
theorem lm_RL_55 : hm_MV RL 55 yX4_say cX4_say 5 (some .int) 2 := ⟨mc_yX4_say, (hm_w 311 (by decide +kernel) rfl), (hm_w 312 (by decide +kernel) rfl), (hm_w 313 (by decide +kernel) rfl)⟩
theorem lm_RX4_105 : hm_MV RX4 105 yX1_put cX1_put 3 (some .boolean) 1 := ⟨mc_yX1_put, (hm_w 315 (by decide +kernel) rfl), (hm_w 316 (by decide +kernel) rfl), (hm_w 317 (by decide +kernel) rfl)⟩
theorem lm_RX1_23 : hm_MV RX1 23 yX1_isFull cX1_isFull 1 (some .boolean) 0 := ⟨mc_yX1_isFull, (hm_w 319 (by decide +kernel) rfl), (hm_w 320 (by decide +kernel) rfl), (hm_w 321 (by decide +kernel) rfl)⟩
theorem lm_RX1_30 : hm_MV RX1 30 yX1_wrap cX1_wrap 2 (some .int) 1 := ⟨mc_yX1_wrap, (hm_w 323 (by decide +kernel) rfl), (hm_w 325 (by decide +kernel) rfl), (hm_ws 5 (by decide +kernel) rfl)⟩
theorem lm_RL_59 : hm_MV RL 59 yX4_frames cX4_frames 4 (some .int) 1 := ⟨mc_yX4_frames, (hm_w 327 (by decide +kernel) rfl), (hm_w 328 (by decide +kernel) rfl), (hm_w 329 (by decide +kernel) rfl)⟩
theorem lm_RX4_118 : hm_MV RX4 118 yX4_runFrame cX4_runFrame 1 none 0 := ⟨mc_yX4_runFrame, (hm_w 332 (by decide +kernel) rfl), (hm_w 334 (by decide +kernel) rfl), (hm_ws 6 (by decide +kernel) rfl)⟩
theorem lm_RX4_218 : hm_MV RX4 218 yX4_setUpBearers cX4_setUpBearers 2 none 0 := ⟨mc_yX4_setUpBearers, (hm_w 336 (by decide +kernel) rfl), (hm_w 338 (by decide +kernel) rfl), (hm_ws 7 (by decide +kernel) rfl)⟩
theorem lm_RX4_245 : hm_MV RX4 245 yX4_wantsBearer cX4_wantsBearer 3 (some .boolean) 1 := ⟨mc_yX4_wantsBearer, (hm_w 340 (by decide +kernel) rfl), (hm_w 342 (by decide +kernel) rfl), (hm_ws 8 (by decide +kernel) rfl)⟩
theorem lm_RX4_128 : hm_MV RX4 128 yX3_bearersOf cX3_bearersOf 4 (some .int) 1 := ⟨mc_yX3_bearersOf, (hm_w 344 (by decide +kernel) rfl), (hm_w 345 (by decide +kernel) rfl), (hm_w 346 (by decide +kernel) rfl)⟩
theorem lm_RX4_131 : hm_MV RX4 131 yX3_handsOver cX3_handsOver 3 (some .boolean) 1 := ⟨mc_yX3_handsOver, (hm_w 348 (by decide +kernel) rfl), (hm_w 349 (by decide +kernel) rfl), (hm_w 350 (by decide +kernel) rfl)⟩
theorem lm_RX3_64 : hm_MV RX3 64 yX3_firstBearerOf cX3_firstBearerOf 3 (some .int) 1 := ⟨mc_yX3_firstBearerOf, (hm_w 352 (by decide +kernel) rfl), (hm_w 354 (by decide +kernel) rfl), (hm_ws 9 (by decide +kernel) rfl)⟩
theorem lm_RX3_67 : hm_MV RX3 67 yX3_lastBearerOf cX3_lastBearerOf 3 (some .int) 1 := ⟨mc_yX3_lastBearerOf, (hm_w 356 (by decide +kernel) rfl), (hm_w 358 (by decide +kernel) rfl), (hm_ws 10 (by decide +kernel) rfl)⟩
theorem lm_RX4_249 : hm_MV RX4 249 yX3_setUp cX3_setUp 4 none 1 := ⟨mc_yX3_setUp, (hm_w 360 (by decide +kernel) rfl), (hm_w 361 (by decide +kernel) rfl), (hm_w 362 (by decide +kernel) rfl)⟩
theorem lm_RX3_77 : hm_MV RX3 77 yX3_chooseCell cX3_chooseCell 6 (some .int) 1 := ⟨mc_yX3_chooseCell, (hm_w 364 (by decide +kernel) rfl), (hm_w 366 (by decide +kernel) rfl), (hm_ws 11 (by decide +kernel) rfl)⟩
theorem lm_RX3_90 : hm_MV RX3 90 yX3_comesDown cX3_comesDown 5 (some .boolean) 3 := ⟨mc_yX3_comesDown, (hm_w 368 (by decide +kernel) rfl), (hm_w 369 (by decide +kernel) rfl), (hm_w 370 (by decide +kernel) rfl)⟩
theorem lm_RX3_44 : hm_MV RX3 44 yX3_reachesPlace cX3_reachesPlace 3 (some .boolean) 2 := ⟨mc_yX3_reachesPlace, (hm_w 372 (by decide +kernel) rfl), (hm_w 374 (by decide +kernel) rfl), (hm_ws 12 (by decide +kernel) rfl)⟩
theorem lm_RX3_80 : hm_MV RX3 80 yX3_chooseChannel cX3_chooseChannel 11 (some .int) 2 := ⟨mc_yX3_chooseChannel, (hm_w 376 (by decide +kernel) rfl), (hm_w 378 (by decide +kernel) rfl), (hm_ws 13 (by decide +kernel) rfl)⟩
theorem lm_RX3_94 : hm_MV RX3 94 yX3_takenSlots cX3_takenSlots 5 (some .int) 2 := ⟨mc_yX3_takenSlots, (hm_w 380 (by decide +kernel) rfl), (hm_w 382 (by decide +kernel) rfl), (hm_ws 14 (by decide +kernel) rfl)⟩
theorem lm_RX3_97 : hm_MV RX3 97 yX3_noiseBits cX3_noiseBits 3 (some .int) 2 := ⟨mc_yX3_noiseBits, (hm_w 384 (by decide +kernel) rfl), (hm_w 385 (by decide +kernel) rfl), (hm_w 386 (by decide +kernel) rfl)⟩
theorem lm_RX3_100 : hm_MV RX3 100 yX3_otherCells cX3_otherCells 3 (some .int) 2 := ⟨mc_yX3_otherCells, (hm_w 388 (by decide +kernel) rfl), (hm_w 389 (by decide +kernel) rfl), (hm_w 390 (by decide +kernel) rfl)⟩
theorem lm_RX3_54 : hm_MV RX3 54 yX3_otherPortables cX3_otherPortables 5 (some .int) 2 := ⟨mc_yX3_otherPortables, (hm_w 392 (by decide +kernel) rfl), (hm_w 393 (by decide +kernel) rfl), (hm_w 394 (by decide +kernel) rfl)⟩
theorem lm_RX3_103 : hm_MV RX3 103 yX3_levelOn cX3_levelOn 5 (some .int) 4 := ⟨mc_yX3_levelOn, (hm_w 396 (by decide +kernel) rfl), (hm_w 397 (by decide +kernel) rfl), (hm_w 398 (by decide +kernel) rfl)⟩
theorem lm_RX3_48 : hm_MS RX3 48 yJ6_bitCount_0f7a4 cJ6_bitCount_0f7a4 1 (some .int) 1 := ⟨mc_yJ6_bitCount_0f7a4, (hm_w 400 (by decide +kernel) rfl), (hm_w 401 (by decide +kernel) rfl)⟩
theorem lm_RX3_83 : hm_MV RX3 83 yX3_addBearer cX3_addBearer 5 none 3 := ⟨mc_yX3_addBearer, (hm_w 406 (by decide +kernel) rfl), (hm_w 408 (by decide +kernel) rfl), (hm_ws 15 (by decide +kernel) rfl)⟩
theorem lm_RX4_221 : hm_MV RX4 221 yX3_sendAll cX3_sendAll 3 none 0 := ⟨mc_yX3_sendAll, (hm_w 410 (by decide +kernel) rfl), (hm_w 411 (by decide +kernel) rfl), (hm_w 412 (by decide +kernel) rfl)⟩
theorem lm_RX3_113 : hm_MV RX3 113 yX3_comesUp cX3_comesUp 4 (some .boolean) 3 := ⟨mc_yX3_comesUp, (hm_w 414 (by decide +kernel) rfl), (hm_w 416 (by decide +kernel) rfl), (hm_ws 16 (by decide +kernel) rfl)⟩
theorem lm_RX4_224 : hm_MV RX4 224 yX3_dropFailed cX3_dropFailed 2 none 0 := ⟨mc_yX3_dropFailed, (hm_w 418 (by decide +kernel) rfl), (hm_w 419 (by decide +kernel) rfl), (hm_w 420 (by decide +kernel) rfl)⟩
theorem lm_RX4_227 : hm_MV RX4 227 yX4_dropHandedOver cX4_dropHandedOver 2 none 0 := ⟨mc_yX4_dropHandedOver, (hm_w 422 (by decide +kernel) rfl), (hm_w 424 (by decide +kernel) rfl), (hm_ws 17 (by decide +kernel) rfl)⟩
theorem lm_RX4_256 : hm_MV RX4 256 yX3_dropFirstForSecond cX3_dropFirstForSecond 4 (some .boolean) 1 := ⟨mc_yX3_dropFirstForSecond, (hm_w 426 (by decide +kernel) rfl), (hm_w 427 (by decide +kernel) rfl), (hm_w 428 (by decide +kernel) rfl)⟩
theorem lm_RX4_230 : hm_MV RX4 230 yX4_endCallsWithoutBearer cX4_endCallsWithoutBearer 4 none 0 := ⟨mc_yX4_endCallsWithoutBearer, (hm_w 430 (by decide +kernel) rfl), (hm_w 432 (by decide +kernel) rfl), (hm_ws 18 (by decide +kernel) rfl)⟩
theorem lm_RX4_233 : hm_MV RX4 233 yX4_advanceCalls cX4_advanceCalls 2 none 0 := ⟨mc_yX4_advanceCalls, (hm_w 434 (by decide +kernel) rfl), (hm_w 436 (by decide +kernel) rfl), (hm_ws 19 (by decide +kernel) rfl)⟩
theorem lm_RX4_259 : hm_MV RX4 259 yX3_hasGoodBearer cX3_hasGoodBearer 3 (some .boolean) 1 := ⟨mc_yX3_hasGoodBearer, (hm_w 438 (by decide +kernel) rfl), (hm_w 439 (by decide +kernel) rfl), (hm_w 440 (by decide +kernel) rfl)⟩
theorem lm_RX4_262 : hm_MV RX4 262 yX4_advance cX4_advance 2 (some .boolean) 1 := ⟨mc_yX4_advance, (hm_w 442 (by decide +kernel) rfl), (hm_w 444 (by decide +kernel) rfl), (hm_ws 20 (by decide +kernel) rfl)⟩
theorem lm_RX4_265 : hm_MV RX4 265 yX4_isProven cX4_isProven 2 (some .boolean) 1 := ⟨mc_yX4_isProven, (hm_w 446 (by decide +kernel) rfl), (hm_w 448 (by decide +kernel) rfl), (hm_ws 21 (by decide +kernel) rfl)⟩
theorem lm_RX4_192 : hm_MS RX4 192 yX4_mixOf cX4_mixOf 6 (some .long) 2 := ⟨mc_yX4_mixOf, (hm_w 450 (by decide +kernel) rfl), (hm_w 451 (by decide +kernel) rfl)⟩
theorem lm_RX4_268 : hm_MV RX4 268 yX4_pagePartner cX4_pagePartner 3 (some .boolean) 1 := ⟨mc_yX4_pagePartner, (hm_w 455 (by decide +kernel) rfl), (hm_w 457 (by decide +kernel) rfl), (hm_ws 22 (by decide +kernel) rfl)⟩
theorem lm_RX4_271 : hm_MS RX4 271 yX4_startRinging cX4_startRinging 1 (some .boolean) 1 := ⟨mc_yX4_startRinging, (hm_w 459 (by decide +kernel) rfl), (hm_w 460 (by decide +kernel) rfl)⟩
theorem lm_RX4_236 : hm_MV RX4 236 yX4_carryUp cX4_carryUp 2 none 0 := ⟨mc_yX4_carryUp, (hm_w 462 (by decide +kernel) rfl), (hm_w 464 (by decide +kernel) rfl), (hm_ws 23 (by decide +kernel) rfl)⟩
theorem lm_RX4_280 : hm_MV RX4 280 yX4_canTalk cX4_canTalk 2 (some .boolean) 1 := ⟨mc_yX4_canTalk, (hm_w 466 (by decide +kernel) rfl), (hm_w 468 (by decide +kernel) rfl), (hm_ws 24 (by decide +kernel) rfl)⟩
theorem lm_RX4_283 : hm_MV RX4 283 yX4_sendUp cX4_sendUp 3 none 1 := ⟨mc_yX4_sendUp, (hm_w 470 (by decide +kernel) rfl), (hm_w 472 (by decide +kernel) rfl), (hm_ws 25 (by decide +kernel) rfl)⟩
theorem lm_RX4_286 : hm_MV RX4 286 yX1_take cX1_take 3 (some .long) 0 := ⟨mc_yX1_take, (hm_w 474 (by decide +kernel) rfl), (hm_w 475 (by decide +kernel) rfl), (hm_w 476 (by decide +kernel) rfl)⟩
theorem lm_RX4_239 : hm_MV RX4 239 yX4_carryDown cX4_carryDown 2 none 0 := ⟨mc_yX4_carryDown, (hm_w 478 (by decide +kernel) rfl), (hm_w 480 (by decide +kernel) rfl), (hm_ws 26 (by decide +kernel) rfl)⟩
theorem lm_RX4_290 : hm_MV RX4 290 yX4_sendDown cX4_sendDown 4 none 1 := ⟨mc_yX4_sendDown, (hm_w 482 (by decide +kernel) rfl), (hm_w 484 (by decide +kernel) rfl), (hm_ws 27 (by decide +kernel) rfl)⟩
theorem lm_RX4_294 : hm_MV RX4 294 yX2_keep cX2_keep 3 none 1 := ⟨mc_yX2_keep, (hm_w 487 (by decide +kernel) rfl), (hm_w 488 (by decide +kernel) rfl), (hm_w 489 (by decide +kernel) rfl)⟩
theorem lm_RX2_46 : hm_MV RX2 46 yX1_isFull cX1_isFull 1 (some .boolean) 0 := ⟨mc_yX1_isFull, (hm_w 491 (by decide +kernel) rfl), (hm_w 320 (by decide +kernel) rfl), (hm_w 321 (by decide +kernel) rfl)⟩
theorem lm_RX2_50 : hm_MV RX2 50 yX1_take cX1_take 3 (some .long) 0 := ⟨mc_yX1_take, (hm_w 492 (by decide +kernel) rfl), (hm_w 475 (by decide +kernel) rfl), (hm_w 476 (by decide +kernel) rfl)⟩
theorem lm_RX2_54 : hm_MV RX2 54 yX1_put cX1_put 3 (some .boolean) 1 := ⟨mc_yX1_put, (hm_w 493 (by decide +kernel) rfl), (hm_w 316 (by decide +kernel) rfl), (hm_w 317 (by decide +kernel) rfl)⟩
theorem lm_RX4_242 : hm_MV RX4 242 yX4_endOldCalls cX4_endOldCalls 3 none 0 := ⟨mc_yX4_endOldCalls, (hm_w 494 (by decide +kernel) rfl), (hm_w 496 (by decide +kernel) rfl), (hm_ws 28 (by decide +kernel) rfl)⟩
theorem lm_RX4_140 : hm_MV RX4 140 yX2_isPending cX2_isPending 1 (some .boolean) 0 := ⟨mc_yX2_isPending, (hm_w 498 (by decide +kernel) rfl), (hm_w 499 (by decide +kernel) rfl), (hm_w 500 (by decide +kernel) rfl)⟩
theorem lm_RX2_61 : hm_MV RX2 61 yX2_calls cX2_calls 1 (some .boolean) 0 := ⟨mc_yX2_calls, (hm_w 502 (by decide +kernel) rfl), (hm_w 284 (by decide +kernel) rfl), (hm_w 285 (by decide +kernel) rfl)⟩
theorem lm_RX2_64 : hm_MV RX2 64 yX2_isCalled cX2_isCalled 1 (some .boolean) 0 := ⟨mc_yX2_isCalled, (hm_w 503 (by decide +kernel) rfl), (hm_w 288 (by decide +kernel) rfl), (hm_w 289 (by decide +kernel) rfl)⟩
theorem lm_RL_63 : hm_MV RL 63 yX4_heard cX4_heard 4 (some .long) 2 := ⟨mc_yX4_heard, (hm_w 504 (by decide +kernel) rfl), (hm_w 505 (by decide +kernel) rfl), (hm_w 506 (by decide +kernel) rfl)⟩
theorem lm_RX4_124 : hm_MV RX4 124 yX1_at cX1_at 2 (some .long) 1 := ⟨mc_yX1_at, (hm_w 508 (by decide +kernel) rfl), (hm_w 509 (by decide +kernel) rfl), (hm_w 510 (by decide +kernel) rfl)⟩
theorem lm_RL_68 : hm_MV RL 68 yX4_portableOf cX4_portableOf 4 (some .int) 2 := ⟨mc_yX4_portableOf, (hm_w 512 (by decide +kernel) rfl), (hm_w 513 (by decide +kernel) rfl), (hm_w 514 (by decide +kernel) rfl)⟩
theorem lm_RL_72 : hm_MV RL 72 yX4_bearer cX4_bearer 4 (some .int) 2 := ⟨mc_yX4_bearer, (hm_w 516 (by decide +kernel) rfl), (hm_w 517 (by decide +kernel) rfl), (hm_w 518 (by decide +kernel) rfl)⟩
theorem lm_RL_76 : hm_MV RL 76 yX4_level cX4_level 4 (some .int) 3 := ⟨mc_yX4_level, (hm_w 520 (by decide +kernel) rfl), (hm_w 521 (by decide +kernel) rfl), (hm_w 522 (by decide +kernel) rfl)⟩
theorem lm_RX4_171 : hm_MV RX4 171 yX3_noiseBits cX3_noiseBits 3 (some .int) 2 := ⟨mc_yX3_noiseBits, (hm_w 524 (by decide +kernel) rfl), (hm_w 385 (by decide +kernel) rfl), (hm_w 386 (by decide +kernel) rfl)⟩
theorem lm_RX4_175 : hm_MV RX4 175 yX3_otherCells cX3_otherCells 3 (some .int) 2 := ⟨mc_yX3_otherCells, (hm_w 525 (by decide +kernel) rfl), (hm_w 389 (by decide +kernel) rfl), (hm_w 390 (by decide +kernel) rfl)⟩
theorem lm_RX4_178 : hm_MV RX4 178 yX3_otherPortables cX3_otherPortables 5 (some .int) 2 := ⟨mc_yX3_otherPortables, (hm_w 526 (by decide +kernel) rfl), (hm_w 393 (by decide +kernel) rfl), (hm_w 394 (by decide +kernel) rfl)⟩
theorem lm_RX4_181 : hm_MV RX4 181 yX3_levelOn cX3_levelOn 5 (some .int) 4 := ⟨mc_yX3_levelOn, (hm_w 527 (by decide +kernel) rfl), (hm_w 397 (by decide +kernel) rfl), (hm_w 398 (by decide +kernel) rfl)⟩
theorem lm_RL_81 : hm_MV RL 81 yX4_beacon cX4_beacon 3 (some .boolean) 2 := ⟨mc_yX4_beacon, (hm_w 528 (by decide +kernel) rfl), (hm_w 529 (by decide +kernel) rfl), (hm_w 530 (by decide +kernel) rfl)⟩
theorem lm_RX4_188 : hm_MV RX4 188 yX3_comesDown cX3_comesDown 5 (some .boolean) 3 := ⟨mc_yX3_comesDown, (hm_w 532 (by decide +kernel) rfl), (hm_w 369 (by decide +kernel) rfl), (hm_w 370 (by decide +kernel) rfl)⟩
theorem lm_RL_86 : hm_MV RL 86 yX4_mix cX4_mix 5 (some .long) 2 := ⟨mc_yX4_mix, (hm_w 533 (by decide +kernel) rfl), (hm_w 534 (by decide +kernel) rfl), (hm_w 535 (by decide +kernel) rfl)⟩
theorem lm_RL_91 : hm_MV RL 91 yX4_air cX4_air 2 (some .long) 1 := ⟨mc_yX4_air, (hm_w 537 (by decide +kernel) rfl), (hm_w 538 (by decide +kernel) rfl), (hm_w 539 (by decide +kernel) rfl)⟩
theorem lm_RL_96 : hm_MV RL 96 yX4_count cX4_count 2 (some .int) 1 := ⟨mc_yX4_count, (hm_w 541 (by decide +kernel) rfl), (hm_w 542 (by decide +kernel) rfl), (hm_w 543 (by decide +kernel) rfl)⟩
theorem lm_RL_12 : hm_MI RL 12 yX5_init cX5_init 1 0 := ⟨mc_yX5_init, (hm_w 547 (by decide +kernel) rfl), (hm_w 548 (by decide +kernel) rfl), rfl⟩
theorem lm_RL_17 : hm_MV RL 17 yX5_cell cX5_cell 2 (some .int) 1 := ⟨mc_yX5_cell, (hm_w 658 (by decide +kernel) rfl), (hm_w 659 (by decide +kernel) rfl), (hm_w 660 (by decide +kernel) rfl)⟩
theorem lm_RX5_88 : hm_MS RX5 88 yX5_in cX5_in 3 (some .boolean) 3 := ⟨mc_yX5_in, (hm_w 662 (by decide +kernel) rfl), (hm_w 663 (by decide +kernel) rfl)⟩
theorem lm_RX5_95 : hm_MV RX5 95 yX5_refuse cX5_refuse 2 (some .int) 1 := ⟨mc_yX5_refuse, (hm_w 665 (by decide +kernel) rfl), (hm_w 667 (by decide +kernel) rfl), (hm_ws 29 (by decide +kernel) rfl)⟩
theorem lm_RL_24 : hm_MV RL 24 yX5_portable cX5_portable 4 (some .int) 2 := ⟨mc_yX5_portable, (hm_w 669 (by decide +kernel) rfl), (hm_w 670 (by decide +kernel) rfl), (hm_w 671 (by decide +kernel) rfl)⟩
theorem lm_RL_29 : hm_MV RL 29 yX5_reach cX5_reach 4 (some .int) 2 := ⟨mc_yX5_reach, (hm_w 673 (by decide +kernel) rfl), (hm_w 674 (by decide +kernel) rfl), (hm_w 675 (by decide +kernel) rfl)⟩
theorem lm_RL_34 : hm_MV RL 34 yX5_noise cX5_noise 4 (some .boolean) 3 := ⟨mc_yX5_noise, (hm_w 677 (by decide +kernel) rfl), (hm_w 678 (by decide +kernel) rfl), (hm_w 679 (by decide +kernel) rfl)⟩
theorem lm_RL_38 : hm_MV RL 38 yX5_go cX5_go 4 (some .int) 2 := ⟨mc_yX5_go, (hm_w 681 (by decide +kernel) rfl), (hm_w 682 (by decide +kernel) rfl), (hm_w 683 (by decide +kernel) rfl)⟩
theorem lm_RX5_99 : hm_MV RX5 99 yX5_isPortable cX5_isPortable 2 (some .boolean) 1 := ⟨mc_yX5_isPortable, (hm_w 685 (by decide +kernel) rfl), (hm_w 687 (by decide +kernel) rfl), (hm_ws 30 (by decide +kernel) rfl)⟩
theorem lm_RL_42 : hm_MV RL 42 yX5_enter cX5_enter 4 (some .int) 2 := ⟨mc_yX5_enter, (hm_w 689 (by decide +kernel) rfl), (hm_w 690 (by decide +kernel) rfl), (hm_w 691 (by decide +kernel) rfl)⟩
theorem lm_RL_46 : hm_MV RL 46 yX5_dial cX5_dial 3 (some .int) 2 := ⟨mc_yX5_dial, (hm_w 693 (by decide +kernel) rfl), (hm_w 694 (by decide +kernel) rfl), (hm_w 695 (by decide +kernel) rfl)⟩
theorem lm_RL_50 : hm_MV RL 50 yX5_answer cX5_answer 2 (some .int) 1 := ⟨mc_yX5_answer, (hm_w 697 (by decide +kernel) rfl), (hm_w 698 (by decide +kernel) rfl), (hm_w 699 (by decide +kernel) rfl)⟩
theorem lm_RL_54 : hm_MV RL 54 yX5_hang cX5_hang 2 (some .int) 1 := ⟨mc_yX5_hang, (hm_w 701 (by decide +kernel) rfl), (hm_w 702 (by decide +kernel) rfl), (hm_w 703 (by decide +kernel) rfl)⟩
theorem lm_RX5_125 : hm_MV RX5 125 yX5_ends cX5_ends 5 none 1 := ⟨mc_yX5_ends, (hm_w 705 (by decide +kernel) rfl), (hm_w 707 (by decide +kernel) rfl), (hm_ws 31 (by decide +kernel) rfl)⟩
theorem lm_RX5_116 : hm_MS RX5 116 yX5_isCaller cX5_isCaller 1 (some .boolean) 1 := ⟨mc_yX5_isCaller, (hm_w 709 (by decide +kernel) rfl), (hm_w 710 (by decide +kernel) rfl)⟩
theorem lm_RX5_119 : hm_MV RX5 119 yX5_idle cX5_idle 3 none 1 := ⟨mc_yX5_idle, (hm_w 712 (by decide +kernel) rfl), (hm_w 714 (by decide +kernel) rfl), (hm_ws 32 (by decide +kernel) rfl)⟩
theorem lm_RX5_112 : hm_MV RX5 112 yX5_dropBearer cX5_dropBearer 3 none 1 := ⟨mc_yX5_dropBearer, (hm_w 716 (by decide +kernel) rfl), (hm_w 718 (by decide +kernel) rfl), (hm_ws 33 (by decide +kernel) rfl)⟩
theorem lm_RL_58 : hm_MV RL 58 yX5_say cX5_say 4 (some .int) 2 := ⟨mc_yX5_say, (hm_w 720 (by decide +kernel) rfl), (hm_w 721 (by decide +kernel) rfl), (hm_w 722 (by decide +kernel) rfl)⟩
theorem lm_RL_80 : hm_MV RL 80 yX5_level cX5_level 4 (some .int) 3 := ⟨mc_yX5_level, (hm_w 724 (by decide +kernel) rfl), (hm_w 725 (by decide +kernel) rfl), (hm_w 726 (by decide +kernel) rfl)⟩
theorem lm_RX5_142 : hm_MV RX5 142 yX5_isCell cX5_isCell 2 (some .boolean) 1 := ⟨mc_yX5_isCell, (hm_w 728 (by decide +kernel) rfl), (hm_w 730 (by decide +kernel) rfl), (hm_ws 34 (by decide +kernel) rfl)⟩
theorem lm_RX5_145 : hm_MV RX5 145 yX5_levelOf cX5_levelOf 4 (some .int) 3 := ⟨mc_yX5_levelOf, (hm_w 732 (by decide +kernel) rfl), (hm_w 734 (by decide +kernel) rfl), (hm_ws 35 (by decide +kernel) rfl)⟩
theorem lm_RX5_135 : hm_MV RX5 135 yX5_othersSending cX5_othersSending 6 (some .int) 3 := ⟨mc_yX5_othersSending, (hm_w 736 (by decide +kernel) rfl), (hm_w 738 (by decide +kernel) rfl), (hm_ws 36 (by decide +kernel) rfl)⟩
theorem lm_RX5_128 : hm_MV RX5 128 yX5_reaches cX5_reaches 3 (some .boolean) 2 := ⟨mc_yX5_reaches, (hm_w 740 (by decide +kernel) rfl), (hm_w 742 (by decide +kernel) rfl), (hm_ws 37 (by decide +kernel) rfl)⟩
theorem lm_RX5_132 : hm_MV RX5 132 yX5_sends cX5_sends 5 (some .boolean) 2 := ⟨mc_yX5_sends, (hm_w 744 (by decide +kernel) rfl), (hm_w 746 (by decide +kernel) rfl), (hm_ws 38 (by decide +kernel) rfl)⟩
theorem lm_RX5_139 : hm_MV RX5 139 yX5_othersTalking cX5_othersTalking 8 (some .int) 3 := ⟨mc_yX5_othersTalking, (hm_w 748 (by decide +kernel) rfl), (hm_w 750 (by decide +kernel) rfl), (hm_ws 39 (by decide +kernel) rfl)⟩
theorem lm_RL_85 : hm_MV RL 85 yX5_beacon cX5_beacon 3 (some .boolean) 2 := ⟨mc_yX5_beacon, (hm_w 752 (by decide +kernel) rfl), (hm_w 753 (by decide +kernel) rfl), (hm_w 754 (by decide +kernel) rfl)⟩
theorem lm_RX5_148 : hm_MV RX5 148 yX5_isHeardAt cX5_isHeardAt 4 (some .boolean) 3 := ⟨mc_yX5_isHeardAt, (hm_w 756 (by decide +kernel) rfl), (hm_w 758 (by decide +kernel) rfl), (hm_ws 40 (by decide +kernel) rfl)⟩
theorem lm_RL_62 : hm_MV RL 62 yX5_frames cX5_frames 4 (some .int) 1 := ⟨mc_yX5_frames, (hm_w 760 (by decide +kernel) rfl), (hm_w 761 (by decide +kernel) rfl), (hm_w 762 (by decide +kernel) rfl)⟩
theorem lm_RX5_210 : hm_MV RX5 210 yX5_frame cX5_frame 3 (some .int) 0 := ⟨mc_yX5_frame, (hm_w 765 (by decide +kernel) rfl), (hm_w 767 (by decide +kernel) rfl), (hm_ws 41 (by decide +kernel) rfl)⟩
theorem lm_RX5_191 : hm_MV RX5 191 yX5_setUp cX5_setUp 10 none 1 := ⟨mc_yX5_setUp, (hm_w 769 (by decide +kernel) rfl), (hm_w 771 (by decide +kernel) rfl), (hm_ws 42 (by decide +kernel) rfl)⟩
theorem lm_RX5_157 : hm_MV RX5 157 yX5_handsOver cX5_handsOver 2 (some .boolean) 1 := ⟨mc_yX5_handsOver, (hm_w 773 (by decide +kernel) rfl), (hm_w 775 (by decide +kernel) rfl), (hm_ws 43 (by decide +kernel) rfl)⟩
theorem lm_RX5_151 : hm_MV RX5 151 yX5_bearersOf cX5_bearersOf 4 (some .int) 1 := ⟨mc_yX5_bearersOf, (hm_w 777 (by decide +kernel) rfl), (hm_w 779 (by decide +kernel) rfl), (hm_ws 44 (by decide +kernel) rfl)⟩
theorem lm_RX5_154 : hm_MV RX5 154 yX5_bearerOf cX5_bearerOf 3 (some .int) 1 := ⟨mc_yX5_bearerOf, (hm_w 781 (by decide +kernel) rfl), (hm_w 783 (by decide +kernel) rfl), (hm_ws 45 (by decide +kernel) rfl)⟩
theorem lm_RX5_160 : hm_MV RX5 160 yX5_isSlotTaken cX5_isSlotTaken 6 (some .boolean) 3 := ⟨mc_yX5_isSlotTaken, (hm_w 785 (by decide +kernel) rfl), (hm_w 787 (by decide +kernel) rfl), (hm_ws 46 (by decide +kernel) rfl)⟩
theorem lm_RX5_194 : hm_MV RX5 194 yX5_send cX5_send 2 none 0 := ⟨mc_yX5_send, (hm_w 789 (by decide +kernel) rfl), (hm_w 791 (by decide +kernel) rfl), (hm_ws 47 (by decide +kernel) rfl)⟩
theorem lm_RX5_166 : hm_MV RX5 166 yX5_isHeardBy cX5_isHeardBy 4 (some .boolean) 3 := ⟨mc_yX5_isHeardBy, (hm_w 793 (by decide +kernel) rfl), (hm_w 795 (by decide +kernel) rfl), (hm_ws 48 (by decide +kernel) rfl)⟩
theorem lm_RX5_197 : hm_MV RX5 197 yX5_goOrStay cX5_goOrStay 3 none 0 := ⟨mc_yX5_goOrStay, (hm_w 797 (by decide +kernel) rfl), (hm_w 799 (by decide +kernel) rfl), (hm_ws 49 (by decide +kernel) rfl)⟩
theorem lm_RX5_200 : hm_MV RX5 200 yX5_callOf cX5_callOf 4 none 1 := ⟨mc_yX5_callOf, (hm_w 801 (by decide +kernel) rfl), (hm_w 803 (by decide +kernel) rfl), (hm_ws 50 (by decide +kernel) rfl)⟩
theorem lm_RX5_172 : hm_MV RX5 172 yX5_isGood cX5_isGood 4 (some .boolean) 1 := ⟨mc_yX5_isGood, (hm_w 805 (by decide +kernel) rfl), (hm_w 807 (by decide +kernel) rfl), (hm_ws 51 (by decide +kernel) rfl)⟩
theorem lm_RX5_175 : hm_MV RX5 175 yX5_mix cX5_mix 8 (some .long) 2 := ⟨mc_yX5_mix, (hm_w 809 (by decide +kernel) rfl), (hm_w 810 (by decide +kernel) rfl), (hm_w 811 (by decide +kernel) rfl)⟩
theorem lm_RX5_203 : hm_MV RX5 203 yX5_up cX5_up 4 none 1 := ⟨mc_yX5_up, (hm_w 815 (by decide +kernel) rfl), (hm_w 817 (by decide +kernel) rfl), (hm_ws 52 (by decide +kernel) rfl)⟩
theorem lm_RX5_206 : hm_MV RX5 206 yX5_down cX5_down 4 (some .int) 1 := ⟨mc_yX5_down, (hm_w 819 (by decide +kernel) rfl), (hm_w 821 (by decide +kernel) rfl), (hm_ws 53 (by decide +kernel) rfl)⟩
theorem lm_RL_67 : hm_MV RL 67 yX5_heard cX5_heard 3 (some .long) 2 := ⟨mc_yX5_heard, (hm_w 824 (by decide +kernel) rfl), (hm_w 825 (by decide +kernel) rfl), (hm_w 826 (by decide +kernel) rfl)⟩
theorem lm_RL_71 : hm_MV RL 71 yX5_portableOf cX5_portableOf 3 (some .int) 2 := ⟨mc_yX5_portableOf, (hm_w 828 (by decide +kernel) rfl), (hm_w 829 (by decide +kernel) rfl), (hm_w 830 (by decide +kernel) rfl)⟩
theorem lm_RL_75 : hm_MV RL 75 yX5_bearer cX5_bearer 3 (some .int) 2 := ⟨mc_yX5_bearer, (hm_w 832 (by decide +kernel) rfl), (hm_w 833 (by decide +kernel) rfl), (hm_w 834 (by decide +kernel) rfl)⟩
theorem lm_RL_90 : hm_MV RL 90 yX5_mix cX5_mix 8 (some .long) 2 := ⟨mc_yX5_mix, (hm_w 836 (by decide +kernel) rfl), (hm_w 810 (by decide +kernel) rfl), (hm_w 811 (by decide +kernel) rfl)⟩
theorem lm_RL_95 : hm_MV RL 95 yX5_air cX5_air 2 (some .long) 1 := ⟨mc_yX5_air, (hm_w 837 (by decide +kernel) rfl), (hm_w 838 (by decide +kernel) rfl), (hm_w 839 (by decide +kernel) rfl)⟩
theorem lm_RL_99 : hm_MV RL 99 yX5_count cX5_count 2 (some .int) 1 := ⟨mc_yX5_count, (hm_w 841 (by decide +kernel) rfl), (hm_w 842 (by decide +kernel) rfl), (hm_w 843 (by decide +kernel) rfl)⟩
def hm_NC (own : String) (idx : Nat) (C : String) (N : Nat) : Prop := Cond.classLink own idx C ∈ hm_T ∧ Cond.instantiable C N ∈ hm_T ∧ Cond.initialized C ∈ hm_T
theorem lc_RL_7 : hm_NC RL 7 RX4 11 := ⟨(hm_w 9 (by decide +kernel) rfl), (hm_w 10 (by decide +kernel) rfl), (hm_w 1 (by decide +kernel) rfl)⟩
theorem lc_RX4_9 : hm_NC RX4 9 RX3 11 := ⟨(hm_w 17 (by decide +kernel) rfl), (hm_w 18 (by decide +kernel) rfl), (hm_w 2 (by decide +kernel) rfl)⟩
theorem lc_RX3_30 : hm_NC RX3 30 RX0 5 := ⟨(hm_w 23 (by decide +kernel) rfl), (hm_w 25 (by decide +kernel) rfl), (hm_w 3 (by decide +kernel) rfl)⟩
theorem lc_RX4_16 : hm_NC RX4 16 RX2 12 := ⟨(hm_w 94 (by decide +kernel) rfl), (hm_w 156 (by decide +kernel) rfl), (hm_w 5 (by decide +kernel) rfl)⟩
theorem lc_RX2_18 : hm_NC RX2 18 RX1 3 := ⟨(hm_w 161 (by decide +kernel) rfl), (hm_w 162 (by decide +kernel) rfl), (hm_w 6 (by decide +kernel) rfl)⟩
theorem lc_RL_10 : hm_NC RL 10 RX5 35 := ⟨(hm_w 545 (by decide +kernel) rfl), (hm_w 546 (by decide +kernel) rfl), (hm_w 4 (by decide +kernel) rfl)⟩
theorem hm_ac_int : Cond.arrayClass .int ∈ hm_T := (hm_w 51 (by decide +kernel) rfl)
theorem hm_ac_long : Cond.arrayClass .long ∈ hm_T := (hm_w 181 (by decide +kernel) rfl)
theorem hm_ac_boolean : Cond.arrayClass .boolean ∈ hm_T := (hm_w 657 (by decide +kernel) rfl)
theorem lo_RX4_3 : Cond.methodLink RX4 3 objectInit ∈ hm_T ∧ Cond.instanceMethod objectInit ∈ hm_T ∧ Cond.code objectInit ⟨#[0xb1]⟩ 1 none ∈ hm_T := ⟨(hm_w 14 (by decide +kernel) rfl), (hm_w 15 (by decide +kernel) rfl), (hm_w 16 (by decide +kernel) rfl)⟩
theorem lo_RX3_3 : Cond.methodLink RX3 3 objectInit ∈ hm_T ∧ Cond.instanceMethod objectInit ∈ hm_T ∧ Cond.code objectInit ⟨#[0xb1]⟩ 1 none ∈ hm_T := ⟨(hm_w 22 (by decide +kernel) rfl), (hm_w 15 (by decide +kernel) rfl), (hm_w 16 (by decide +kernel) rfl)⟩
theorem lo_RX0_1 : Cond.methodLink RX0 1 objectInit ∈ hm_T ∧ Cond.instanceMethod objectInit ∈ hm_T ∧ Cond.code objectInit ⟨#[0xb1]⟩ 1 none ∈ hm_T := ⟨(hm_w 29 (by decide +kernel) rfl), (hm_w 15 (by decide +kernel) rfl), (hm_w 16 (by decide +kernel) rfl)⟩
theorem lo_RX2_3 : Cond.methodLink RX2 3 objectInit ∈ hm_T ∧ Cond.instanceMethod objectInit ∈ hm_T ∧ Cond.code objectInit ⟨#[0xb1]⟩ 1 none ∈ hm_T := ⟨(hm_w 160 (by decide +kernel) rfl), (hm_w 15 (by decide +kernel) rfl), (hm_w 16 (by decide +kernel) rfl)⟩
theorem lo_RX1_1 : Cond.methodLink RX1 1 objectInit ∈ hm_T ∧ Cond.instanceMethod objectInit ∈ hm_T ∧ Cond.code objectInit ⟨#[0xb1]⟩ 1 none ∈ hm_T := ⟨(hm_w 166 (by decide +kernel) rfl), (hm_w 15 (by decide +kernel) rfl), (hm_w 16 (by decide +kernel) rfl)⟩
theorem lo_RX5_1 : Cond.methodLink RX5 1 objectInit ∈ hm_T ∧ Cond.instanceMethod objectInit ∈ hm_T ∧ Cond.code objectInit ⟨#[0xb1]⟩ 1 none ∈ hm_T := ⟨(hm_w 550 (by decide +kernel) rfl), (hm_w 15 (by decide +kernel) rfl), (hm_w 16 (by decide +kernel) rfl)⟩
end
section
/-! rows of hm_V that touch the memory -/
theorem hm_Rep.set {D : va_G} {dA : Nat → ClassId} {base : Nat} {σ σ' : hm_M} {H H' : Heap} {a : Nat} (hR : hm_Rep D dA base σ H) (ha : a < hm_n σ) (hz : H'.size = H.size) (ho : ∀ q, q ≠ base + a → H'[q]? = H[q]?) (hn : hm_n σ' = hm_n σ)
    (hb : ∀ b t j, b ≠ a → hm_v base σ' b t j = hm_v base σ b t j) (hc : hm_cl D dA base σ' H' a) (hd : ∀ b j, hm_n σ ≤ b → hm_I σ' b j = hm_I σ b j ∧ hm_L σ' b j = hm_L σ b j ∧ hm_R σ' b j = hm_R σ b j) : hm_Rep D dA base σ' H' := by
  refine ⟨by rw [hz, hn]; exact hR.1, fun b hb' => ?_, fun b j hb' => ?_⟩
  · by_cases e : b = a
    · subst e; exact hc
    · have h := hR.2.1 b (by rw [hn] at hb'; exact hb')
      have hq : H'[base + b]? = H[base + b]? := ho _ (by omega)
      unfold hm_cl at h ⊢
      split
      · rename_i hk
        rw [if_pos hk] at h
        obtain ⟨r, h1, h2⟩ := h
        exact ⟨r, h1, (h2.kept hq).to (fun k _ => (hb b _ k e).symm)⟩
      · rename_i hk
        rw [if_neg hk] at h
        rw [hq, h]
        congr 2
        funext j
        exact (hb b _ j e).symm
  · rw [hn] at hb'
    obtain ⟨h1, h2, h3⟩ := hd b j hb'
    rw [h1, h2, h3]
    exact hR.2.2 b j hb'
theorem hm_Rep.obj {D : va_G} {dA : Nat → ClassId} {base : Nat} {σ : hm_M} {H : Heap} {a ci : Nat} {C : String} {T : u_T} {N : Nat} (hR : hm_Rep D dA base σ H) (ha : a < hm_n σ) (hs : hm_S a = (ci, 0)) (hc : hm_Cl[ci]? = some (C, T, N)) : t_OB (base + a) (D.1 ci) N (D.2 ci) H (fun k => hm_v base σ a (hm_tag (hm_ty ci k)) k) := by
  have h := hR.2.1 a ha
  have hci : ci < 6 := (List.getElem?_eq_some_iff.mp hc).1
  unfold hm_cl at h
  rw [hs] at h
  rw [if_pos hci] at h
  obtain ⟨r, h1, h2⟩ := h
  cases (h1.symm.trans hc)
  exact h2
theorem hm_Rep.arr {D : va_G} {dA : Nat → ClassId} {base : Nat} {σ : hm_M} {H : Heap} {a kd n : Nat} (hR : hm_Rep D dA base σ H) (ha : a < hm_n σ) (hs : hm_S a = (kd, n)) (hk : 6 ≤ kd) : H[base + a]? = some (arrV (dA kd) n (fun j => hm_v base σ a (hm_at kd) j)) := by
  have h := hR.2.1 a ha
  unfold hm_cl at h
  rw [hs] at h
  rw [if_neg (by show ¬ kd < 6; omega)] at h
  exact h
theorem hm_v_I (base : Nat) (σ : hm_M) (a k : Nat) (x : Int32) (b t j : Nat) (h : b ≠ a) : hm_v base (hm_wI σ a k x) b t j = hm_v base σ b t j := by
  unfold hm_v
  split
  · rw [hm_I_wI, if_neg (fun q => h q.1)]
  · rfl
  · rfl
theorem hm_v_L (base : Nat) (σ : hm_M) (a k : Nat) (x : Int64) (b t j : Nat) (h : b ≠ a) : hm_v base (hm_wL σ a k x) b t j = hm_v base σ b t j := by
  unfold hm_v
  split
  · rfl
  · rw [hm_L_wL, if_neg (fun q => h q.1)]
  · rfl
theorem hm_v_R (base : Nat) (σ : hm_M) (a k : Nat) (x : Option Nat) (b t j : Nat) (h : b ≠ a) : hm_v base (hm_wR σ a k x) b t j = hm_v base σ b t j := by
  unfold hm_v
  split
  · rfl
  · rfl
  · rw [hm_R_wR, if_neg (fun q => h q.1)]
/-- σ' is σ with the value v at slot k of the cell a -/
def hm_up (σ σ' : hm_M) (a k t : Nat) (v : Value) : Prop := hm_n σ' = hm_n σ ∧ (∀ base b t j, b ≠ a → hm_v base σ' b t j = hm_v base σ b t j) ∧ (∀ base, hm_v base σ' a t k = hm_c base v) ∧ (∀ base t j, j ≠ k → hm_v base σ' a t j = hm_v base σ a t j) ∧ ∀ b j, b ≠ a → hm_I σ' b j = hm_I σ b j ∧ hm_L σ' b j = hm_L σ b j ∧ hm_R σ' b j = hm_R σ b j
theorem hm_upI (σ : hm_M) (a k : Nat) (x : Int32) : hm_up σ (hm_wI σ a k x) a k 0 (.int x) := by
  refine ⟨rfl, fun base b t j h => hm_v_I base σ a k x b t j h, fun base => by simp [hm_v, hm_I_wI, hm_c], fun base t j h => ?_, fun b j h => ⟨by rw [hm_I_wI, if_neg (fun q => h q.1)], rfl, rfl⟩⟩
  unfold hm_v
  split
  · rw [hm_I_wI, if_neg (fun q => h q.2)]
  · rfl
  · rfl
theorem hm_upL (σ : hm_M) (a k : Nat) (x : Int64) : hm_up σ (hm_wL σ a k x) a k 1 (.long x) := by
  refine ⟨rfl, fun base b t j h => hm_v_L base σ a k x b t j h, fun base => by simp [hm_v, hm_L_wL, hm_c], fun base t j h => ?_, fun b j h => ⟨rfl, by rw [hm_L_wL, if_neg (fun q => h q.1)], rfl⟩⟩
  unfold hm_v
  split
  · rfl
  · rw [hm_L_wL, if_neg (fun q => h q.2)]
  · rfl
theorem hm_upR (σ : hm_M) (a k : Nat) (r : Nat) : hm_up σ (hm_wR σ a k (some r)) a k 2 (.ref r) := by
  refine ⟨rfl, fun base b t j h => hm_v_R base σ a k _ b t j h, fun base => by simp [hm_v, hm_R_wR, hm_c, hm_rf], fun base t j h => ?_, fun b j h => ⟨rfl, rfl, by rw [hm_R_wR, if_neg (fun q => h q.1)]⟩⟩
  unfold hm_v
  split
  · rfl
  · rfl
  · rw [hm_R_wR, if_neg (fun q => h q.2)]
section HP
variable {l : Launch} {own : String} {cc : ByteArray} {nL : Nat} {ret : Option FieldType} {ini : Bool} {R : Room} {mc ms : Nat} {Q : Option Value → hm_M → Prop} {kc ks : Nat} {pc : Nat} {L : List Value} {st : List Value} {σ : hm_M}
theorem hm_get {idx ci k a : Nat} {v : Value} (hF : hm_F own idx ci k) (hs : hm_S a = (ci, 0)) (ha : a < hm_n σ) (hv : ∀ base, hm_v base σ a (hm_tag (hm_ty ci k)) k = hm_c base v) (hd : decode cc pc = .ok (.getfield idx, 3)) (kk : hm_V l own cc nL ret ini R mc ms Q kc ks (pc + 3) L (v :: st) σ) : hm_V l own cc nL ret ini R mc ms Q kc ks pc L (.ref a :: st) σ := by
  intro p e s m args below meth c D dA base H locs ls hC hR hlo hL
  obtain ⟨C, T, N, hc, hk, hl⟩ := hF
  obtain ⟨cell, q1, q2, q3, q4⟩ := hR.obj ha hs hc
  have hts := hC.2.2.2.2.2.2.1
  have hKn := hC.2.2.2.2.2.2.2.1.1.1 ci _ hc
  obtain ⟨hS, hfc, kC, hkC, hkind⟩ := hKn
  obtain ⟨cf, kf, fi, f, hi, hsl⟩ := hS k hk
  refine W.getf hC.1 hC.2.1 hC.2.2.2.2.2.1 (hts _ hl) hi (u_facts hfc hkC (u_lays hts (hm_lay hc).1 hk) hi).1 q1 (by rw [q3]; exact fun h => by cases h) (v := hm_c base v) ?_ rfl rfl hd (kk p e s m args below meth c D dA base H locs ls hC hR hlo hL)
  rw [hsl, q4 k hk]
  exact congrArg some (hv base)
theorem hm_getI {idx ci k a : Nat} (hF : hm_F own idx ci k) (ht : hm_tag (hm_ty ci k) = 0) (hs : hm_S a = (ci, 0)) (ha : a < hm_n σ) (hd : decode cc pc = .ok (.getfield idx, 3)) (kk : hm_V l own cc nL ret ini R mc ms Q kc ks (pc + 3) L (.int (hm_I σ a k) :: st) σ) : hm_V l own cc nL ret ini R mc ms Q kc ks pc L (.ref a :: st) σ :=
  hm_get hF hs ha (fun base => by rw [ht]; rfl) hd kk
theorem hm_getL {idx ci k a : Nat} (hF : hm_F own idx ci k) (ht : hm_tag (hm_ty ci k) = 1) (hs : hm_S a = (ci, 0)) (ha : a < hm_n σ) (hd : decode cc pc = .ok (.getfield idx, 3)) (kk : hm_V l own cc nL ret ini R mc ms Q kc ks (pc + 3) L (.long (hm_L σ a k) :: st) σ) : hm_V l own cc nL ret ini R mc ms Q kc ks pc L (.ref a :: st) σ :=
  hm_get hF hs ha (fun base => by rw [ht]; rfl) hd kk
theorem hm_getR {idx ci k a r : Nat} (hF : hm_F own idx ci k) (ht : hm_tag (hm_ty ci k) = 2) (hs : hm_S a = (ci, 0)) (ha : a < hm_n σ) (hr : hm_R σ a k = some r) (hd : decode cc pc = .ok (.getfield idx, 3)) (kk : hm_V l own cc nL ret ini R mc ms Q kc ks (pc + 3) L (.ref r :: st) σ) : hm_V l own cc nL ret ini R mc ms Q kc ks pc L (.ref a :: st) σ :=
  hm_get hF hs ha (fun base => by rw [ht]; show hm_rf base (hm_R σ a k) = _; rw [hr]; rfl) hd kk
theorem hm_put {idx ci k a : Nat} {v : Value} {σ' : hm_M} (hF : hm_F own idx ci k) (hf : hm_fin ci k = false ∨ (hm_fin ci k = true ∧ ini = true ∧ ((hm_Cl.getD ci (RX0, TX0, 0)).2.1 k).1 = own)) (hs : hm_S a = (ci, 0)) (ha : a < hm_n σ) (hu : hm_up σ σ' a k (hm_tag (hm_ty ci k)) v) (hn : ∀ base, narrow (hm_ty ci k) (hm_c base v) = hm_c base v) (hft : ∀ base, fits (hm_ty ci k) (hm_c base v) = true) (hd : decode cc pc = .ok (.putfield idx, 3))
    (kk : hm_V l own cc nL ret ini R mc ms Q kc ks (pc + 3) L st σ') : hm_V l own cc nL ret ini R mc ms Q kc ks pc L (v :: .ref a :: st) σ := by
  intro p e s m args below meth c D dA base H locs ls hC hR hlo hL
  obtain ⟨C, T, N, hc, hk, hl⟩ := hF
  have hT : hm_Cl.getD ci (RX0, TX0, 0) = (C, T, N) := by rw [List.getD_eq_getElem?_getD, hc]; rfl
  obtain ⟨cell, q1, q2, q3, q4⟩ := hR.obj ha hs hc
  have hts := hC.2.2.2.2.2.2.1
  have hown := hC.2.2.2.2.2.1
  have hK := hC.2.2.2.2.2.2.2.1.1
  obtain ⟨hin, hty, hnm⟩ := hm_lay hc
  have hap := va_apart (own := own) hts hin (hm_ty ci) hty hnm hK hc
  obtain ⟨hS, hfc, kC, hkC, hkind⟩ := hK.1 ci _ hc
  obtain ⟨cf, kf, fi, f, hi, hsl⟩ := hS k hk
  have hst := (u_facts hfc hkC (u_lays hts hin hk) hi).1
  obtain ⟨u1, u2, u3, u4, u5⟩ := hu
  have fin : ∀ H' : Heap, H'[base + a]? = some (cell.setSlot f.slot (hm_c base v)) → H'.size = H.size → (∀ q, q ≠ base + a → H'[q]? = H[q]?) → hm_Rep D dA base σ' H' := by
    intro H' e1 e2 e3
    refine hR.set ha e2 e3 u1 (u2 base) ?_ (fun b j hb => u5 b j (by omega))
    unfold hm_cl
    rw [hs]
    rw [if_pos (show ci < 6 from (List.getElem?_eq_some_iff.mp hc).1)]
    refine ⟨_, hc, t_OB.to (V := updV (fun k => hm_v base σ a (hm_tag (hm_ty ci k)) k) k (hm_c base v)) ⟨_, e1, q2, q3, ?_⟩ (fun j _ => ?_)⟩
    · rw [hsl]; exact t_set q4 hap hk _
    · unfold updV
      by_cases ej : j = k
      · subst ej; rw [if_pos rfl]; exact (u3 base).symm
      · rw [if_neg ej]; exact (u4 base _ j ej).symm
  rcases hf with hf | ⟨hf, hi2, ho⟩
  · unfold hm_fin at hf
    rw [hT] at hf
    have hlay := hts _ (hin _ (u_in_lay hk))
    unfold u_lay at hlay
    rw [if_neg (by rw [hf]; decide)] at hlay
    have h6 := u_store hfc hkC hkind hlay hi (hty k hk) (hn base) (hft base)
    refine W.putK hC.1 hC.2.1 (f := f) ⟨hown, hts _ hl, ⟨_, _, _, hi⟩, hst⟩ (by rw [q2]; exact h6) q1 q3 (by rw [hsl]; exact k2_hasslot (q4 k hk)) rfl rfl hd fun H' e1 e2 e3 => ?_
    exact kk p e s m args below meth c D dA base H' _ ls hC (fin H' e1 e2 e3) (fun q hq => by
      rcases List.mem_append.mp hq with h | h
      · exact hlo q h
      · rw [List.mem_singleton.mp h]; exact Nat.le_add_right _ _) hL
  · unfold hm_fin at hf
    rw [hT] at hf ho
    have hlay := hts _ (hin _ (u_in_lay hk))
    unfold u_lay at hlay
    rw [if_pos hf] at hlay
    have hcf : m.cls = cf := by
      obtain ⟨_, _, c', _, _, _, -, -, hf', -, -, -, hown2, -⟩ := Cond.laysFinal_spec hlay
      have e1 : c' = cf := by have := hi.symm.trans hf'; simp at this; exact this.1.symm
      have ho' : (T k).1 = own := ho
      rw [ho'] at hown2
      rw [← e1]; exact Option.some.inj (hown.symm.trans hown2)
    have h6 := u_fits hfc hkC hkind (Or.inr hlay) hi (hty k hk) (hn base) (hft base)
    refine W.putFinK hC.1 hC.2.1 hown (hts _ hl) hi hst hcf (hC.2.2.2.2.2.2.2.2 hi2) (by rw [q2]; exact h6) q1 q3 (by rw [hsl]; exact k2_hasslot (q4 k hk)) rfl rfl hd fun H' e1 e2 e3 => ?_
    exact kk p e s m args below meth c D dA base H' _ ls hC (fin H' e1 e2 e3) (fun q hq => by
      rcases List.mem_append.mp hq with h | h
      · exact hlo q h
      · rw [List.mem_singleton.mp h]; exact Nat.le_add_right _ _) hL
theorem hm_putI {idx ci k a : Nat} {x : Int32} (hF : hm_F own idx ci k) (ht : hm_ty ci k = .int) (hf : hm_fin ci k = false) (hs : hm_S a = (ci, 0)) (ha : a < hm_n σ) (hd : decode cc pc = .ok (.putfield idx, 3)) (kk : hm_V l own cc nL ret ini R mc ms Q kc ks (pc + 3) L st (hm_wI σ a k x)) : hm_V l own cc nL ret ini R mc ms Q kc ks pc L (.int x :: .ref a :: st) σ :=
  hm_put hF (Or.inl hf) hs ha (by rw [ht]; exact hm_upI σ a k x) (fun _ => by rw [ht]; rfl) (fun _ => by rw [ht]; rfl) hd kk
theorem hm_putZ {idx ci k a : Nat} {x : Int32} (hF : hm_F own idx ci k) (ht : hm_ty ci k = .boolean) (hx : x = 0 ∨ x = 1) (hf : hm_fin ci k = false) (hs : hm_S a = (ci, 0)) (ha : a < hm_n σ) (hd : decode cc pc = .ok (.putfield idx, 3)) (kk : hm_V l own cc nL ret ini R mc ms Q kc ks (pc + 3) L st (hm_wI σ a k x)) : hm_V l own cc nL ret ini R mc ms Q kc ks pc L (.int x :: .ref a :: st) σ :=
  hm_put hF (Or.inl hf) hs ha (by rw [ht]; exact hm_upI σ a k x) (fun _ => by rw [ht]; rcases hx with rfl | rfl <;> rfl) (fun _ => by rw [ht]; rcases hx with rfl | rfl <;> rfl) hd kk
theorem hm_putL {idx ci k a : Nat} {x : Int64} (hF : hm_F own idx ci k) (ht : hm_ty ci k = .long) (hf : hm_fin ci k = false) (hs : hm_S a = (ci, 0)) (ha : a < hm_n σ) (hd : decode cc pc = .ok (.putfield idx, 3)) (kk : hm_V l own cc nL ret ini R mc ms Q kc ks (pc + 3) L st (hm_wL σ a k x)) : hm_V l own cc nL ret ini R mc ms Q kc ks pc L (.long x :: .ref a :: st) σ :=
  hm_put hF (Or.inl hf) hs ha (by rw [ht]; exact hm_upL σ a k x) (fun _ => by rw [ht]; rfl) (fun _ => by rw [ht]; rfl) hd kk
theorem hm_putIF {idx ci k a : Nat} {x : Int32} (hF : hm_F own idx ci k) (ht : hm_ty ci k = .int) (hf : hm_fin ci k = true) (hi : ini = true) (ho : ((hm_Cl.getD ci (RX0, TX0, 0)).2.1 k).1 = own) (hs : hm_S a = (ci, 0)) (ha : a < hm_n σ) (hd : decode cc pc = .ok (.putfield idx, 3)) (kk : hm_V l own cc nL ret ini R mc ms Q kc ks (pc + 3) L st (hm_wI σ a k x)) : hm_V l own cc nL ret ini R mc ms Q kc ks pc L (.int x :: .ref a :: st) σ :=
  hm_put hF (Or.inr ⟨hf, hi, ho⟩) hs ha (by rw [ht]; exact hm_upI σ a k x) (fun _ => by rw [ht]; rfl) (fun _ => by rw [ht]; rfl) hd kk
theorem hm_putLF {idx ci k a : Nat} {x : Int64} (hF : hm_F own idx ci k) (ht : hm_ty ci k = .long) (hf : hm_fin ci k = true) (hi : ini = true) (ho : ((hm_Cl.getD ci (RX0, TX0, 0)).2.1 k).1 = own) (hs : hm_S a = (ci, 0)) (ha : a < hm_n σ) (hd : decode cc pc = .ok (.putfield idx, 3)) (kk : hm_V l own cc nL ret ini R mc ms Q kc ks (pc + 3) L st (hm_wL σ a k x)) : hm_V l own cc nL ret ini R mc ms Q kc ks pc L (.long x :: .ref a :: st) σ :=
  hm_put hF (Or.inr ⟨hf, hi, ho⟩) hs ha (by rw [ht]; exact hm_upL σ a k x) (fun _ => by rw [ht]; rfl) (fun _ => by rw [ht]; rfl) hd kk
def hm_isR (t : FieldType) : Bool := match t with
  | .object _ => true
  | .array _ => true
  | _ => false
theorem hm_putRF {idx ci k a r : Nat} (hF : hm_F own idx ci k) (ht : hm_isR (hm_ty ci k) = true) (hf : hm_fin ci k = true) (hi : ini = true) (ho : ((hm_Cl.getD ci (RX0, TX0, 0)).2.1 k).1 = own) (hs : hm_S a = (ci, 0)) (ha : a < hm_n σ) (hd : decode cc pc = .ok (.putfield idx, 3)) (kk : hm_V l own cc nL ret ini R mc ms Q kc ks (pc + 3) L st (hm_wR σ a k (some r))) : hm_V l own cc nL ret ini R mc ms Q kc ks pc L (.ref r :: .ref a :: st) σ := by
  have h2 : hm_tag (hm_ty ci k) = 2 := by
    generalize hm_ty ci k = t at ht
    cases t <;> first | rfl | (simp [hm_isR] at ht)
  refine hm_put hF (Or.inr ⟨hf, hi, ho⟩) hs ha (by rw [h2]; exact hm_upR σ a k r) (fun _ => ?_) (fun _ => ?_) hd kk
  · generalize hm_ty ci k = t at ht
    cases t <;> first | rfl | (simp [hm_isR] at ht)
  · generalize hm_ty ci k = t at ht
    cases t <;> first | rfl | (simp [hm_isR] at ht)
end HP
end
section
/-! rows of hm_V: arrays, new cells, calls -/
theorem hm_ix {i : Int32} {j n : Nat} (hi : i = nI j) (hj : j < n) (hn : n < 2 ^ 31) : vp_in i n ∧ i.toNatClampNeg = j := by
  subst hi
  exact ⟨vp_in_nI hj hn, nI_clamp (by omega)⟩
def hm_okt (t : FieldType) : Bool := match t with
  | .int => true
  | .boolean => true
  | .long => true
  | .object _ => true
  | .array _ => true
  | _ => false
theorem hm_okt_all {ci : Nat} {C : String} {T : u_T} {N : Nat} (h : hm_Cl[ci]? = some (C, T, N)) : ∀ k, k < N → hm_okt (hm_ty ci k) = true := by
  match ci, h with
  | 0, h => cases h; decide
  | 1, h => cases h; decide
  | 2, h => cases h; decide
  | 3, h => cases h; decide
  | 4, h => cases h; decide
  | 5, h => cases h; decide
  | ci + 6, h => simp [hm_Cl] at h
section HA
variable {l : Launch} {own : String} {cc : ByteArray} {nL : Nat} {ret : Option FieldType} {ini : Bool} {R : Room} {mc ms : Nat} {Q : Option Value → hm_M → Prop} {kc ks : Nat} {pc : Nat} {L : List Value} {st : List Value} {σ : hm_M}
theorem hm_iald {i : Int32} {a n : Nat} (j : Nat) (hs : hm_S a = (10, n)) (ha : a < hm_n σ) (hi : i = nI j) (hj : j < n) (hn : n < 2 ^ 31) (hd : decode cc pc = .ok (.iaload, 1)) (kk : hm_V l own cc nL ret ini R mc ms Q kc ks (pc + 1) L (.int (hm_I σ a j) :: st) σ) : hm_V l own cc nL ret ini R mc ms Q kc ks pc L (.int i :: .ref a :: st) σ := by
  intro p e s m args below meth c D dA base H locs ls hC hR hlo hL
  obtain ⟨h1, h2⟩ := hm_ix hi hj hn
  have hc := hR.arr ha hs (by decide)
  exact W.iald (v := .int (hm_I σ a j)) hC.1 hC.2.1 hc ((hC.2.2.2.2.2.2.2.1.1.2 0 _ rfl).1 n _) (fun q => by cases q) (by rw [arrV_size]; exact h1) (by rw [arrV_read _ _ (by rw [h2]; exact hj), h2]; rfl) rfl rfl hd (kk p e s m args below meth c D dA base H locs ls hC hR hlo hL)
theorem hm_zald {i : Int32} {a n : Nat} (j : Nat) (hs : hm_S a = (12, n)) (ha : a < hm_n σ) (hi : i = nI j) (hj : j < n) (hn : n < 2 ^ 31) (hd : decode cc pc = .ok (.baload, 1)) (kk : hm_V l own cc nL ret ini R mc ms Q kc ks (pc + 1) L (.int (hm_I σ a j) :: st) σ) : hm_V l own cc nL ret ini R mc ms Q kc ks pc L (.int i :: .ref a :: st) σ := by
  intro p e s m args below meth c D dA base H locs ls hC hR hlo hL
  obtain ⟨h1, h2⟩ := hm_ix hi hj hn
  have hc := hR.arr ha hs (by decide)
  exact W.zald (v := .int (hm_I σ a j)) hC.1 hC.2.1 hc ((hC.2.2.2.2.2.2.2.1.1.2 2 _ rfl).1 n _) (fun q => by cases q) (by rw [arrV_size]; exact h1) (by rw [arrV_read _ _ (by rw [h2]; exact hj), h2]; rfl) rfl rfl hd (kk p e s m args below meth c D dA base H locs ls hC hR hlo hL)
theorem hm_lald {i : Int32} {a n : Nat} (j : Nat) (hs : hm_S a = (11, n)) (ha : a < hm_n σ) (hi : i = nI j) (hj : j < n) (hn : n < 2 ^ 31) (hd : decode cc pc = .ok (.laload, 1)) (kk : hm_V l own cc nL ret ini R mc ms Q kc ks (pc + 1) L (.long (hm_L σ a j) :: st) σ) : hm_V l own cc nL ret ini R mc ms Q kc ks pc L (.int i :: .ref a :: st) σ := by
  intro p e s m args below meth c D dA base H locs ls hC hR hlo hL
  obtain ⟨h1, h2⟩ := hm_ix hi hj hn
  have hc := hR.arr ha hs (by decide)
  exact W.lald (v := .long (hm_L σ a j)) hC.1 hC.2.1 hc ((hC.2.2.2.2.2.2.2.1.1.2 1 _ rfl).1 n _) (fun q => by cases q) (by rw [arrV_size]; exact h1) (by rw [arrV_read _ _ (by rw [h2]; exact hj), h2]; rfl) rfl rfl hd (kk p e s m args below meth c D dA base H locs ls hC hR hlo hL)
/-- an array of references: 13 of Bearers, 14 of Portables -/
theorem hm_aald {i : Int32} {a n kd : Nat} (j : Nat) (v : Value) (hs : hm_S a = (kd, n)) (hk : kd = 13 ∨ kd = 14) (ha : a < hm_n σ) (hi : i = nI j) (hj : j < n) (hn : n < 2 ^ 31) (hv : v = .null ∧ hm_R σ a j = none ∨ ∃ r, v = .ref r ∧ hm_R σ a j = some r) (hd : decode cc pc = .ok (.aaload, 1)) (kk : hm_V l own cc nL ret ini R mc ms Q kc ks (pc + 1) L (v :: st) σ) : hm_V l own cc nL ret ini R mc ms Q kc ks pc L (.int i :: .ref a :: st) σ := by
  intro p e s m args below meth c D dA base H locs ls hC hR hlo hL
  obtain ⟨h1, h2⟩ := hm_ix hi hj hn
  have hc := hR.arr ha hs (by omega)
  have hz : hm_v base σ a (hm_at kd) j = hm_c base v := by
    rcases hk with rfl | rfl <;> rcases hv with ⟨rfl, e⟩ | ⟨r, rfl, e⟩ <;> simp [hm_v, hm_at, e, hm_rf, hm_c]
  rcases hk with rfl | rfl
  · exact W.aald (ty := .object RX0) (v := hm_c base v) hC.1 hC.2.1 hc ((hC.2.2.2.2.2.2.2.1.1.2 3 _ rfl).1 n _) rfl (fun q => by cases q) (by rw [arrV_size]; exact h1) (by rw [arrV_read _ _ (by rw [h2]; exact hj), h2]; exact congrArg some hz) rfl rfl hd (kk p e s m args below meth c D dA base H locs ls hC hR hlo hL)
  · exact W.aald (ty := .object RX2) (v := hm_c base v) hC.1 hC.2.1 hc ((hC.2.2.2.2.2.2.2.1.1.2 4 _ rfl).1 n _) rfl (fun q => by cases q) (by rw [arrV_size]; exact h1) (by rw [arrV_read _ _ (by rw [h2]; exact hj), h2]; exact congrArg some hz) rfl rfl hd (kk p e s m args below meth c D dA base H locs ls hC hR hlo hL)
theorem hm_Rep.ast {D : va_G} {dA : Nat → ClassId} {base : Nat} {σ σ' : hm_M} {H H' : Heap} {a kd n j : Nat} {v : Value} (hR : hm_Rep D dA base σ H) (ha : a < hm_n σ) (hs : hm_S a = (kd, n)) (hk : 6 ≤ kd) (hu : hm_up σ σ' a j (hm_at kd) v)
    (e1 : H'[base + a]? = some ((arrV (dA kd) n (fun j => hm_v base σ a (hm_at kd) j)).setSlot j (hm_c base v))) (e2 : H'.size = H.size) (e3 : ∀ q, q ≠ base + a → H'[q]? = H[q]?) : hm_Rep D dA base σ' H' := by
  obtain ⟨u1, u2, u3, u4, u5⟩ := hu
  refine hR.set ha e2 e3 u1 (u2 base) ?_ (fun b j hb => u5 b j (by omega))
  unfold hm_cl
  rw [hs]
  rw [if_neg (show ¬ kd < 6 by omega), e1, arrV_store]
  congr 2
  funext q
  unfold updV
  by_cases ej : q = j
  · subst ej; rw [if_pos rfl]; exact (u3 base).symm
  · rw [if_neg ej]; exact (u4 base _ q ej).symm
theorem hm_locs {base a j : Nat} {locs : List Loc} (h : ∀ q ∈ locs, base ≤ q.base) : ∀ q ∈ locs ++ [(⟨base + a, j⟩ : Loc)], base ≤ q.base := fun q hq => by
  rcases List.mem_append.mp hq with h1 | h1
  · exact h q h1
  · rw [List.mem_singleton.mp h1]; exact Nat.le_add_right _ _
theorem hm_iast {i x : Int32} {a n : Nat} (j : Nat) (hs : hm_S a = (10, n)) (ha : a < hm_n σ) (hi : i = nI j) (hj : j < n) (hn : n < 2 ^ 31) (hd : decode cc pc = .ok (.iastore, 1)) (kk : hm_V l own cc nL ret ini R mc ms Q kc ks (pc + 1) L st (hm_wI σ a j x)) : hm_V l own cc nL ret ini R mc ms Q kc ks pc L (.int x :: .int i :: .ref a :: st) σ := by
  intro p e s m args below meth c D dA base H locs ls hC hR hlo hL
  obtain ⟨h1, h2⟩ := hm_ix hi hj hn
  have hc := hR.arr ha hs (by decide)
  refine W.iast hC.1 hC.2.1 hc ((hC.2.2.2.2.2.2.2.1.1.2 0 _ rfl).1 n _) (fun q => by cases q) (by rw [arrV_size]; exact h1) rfl rfl hd fun H' e1 e2 e3 => ?_
  rw [h2] at e1
  exact kk p e s m args below meth c D dA base H' _ ls hC (hR.ast ha hs (by decide) (hm_upI σ a j x) e1 e2 e3) (hm_locs hlo) hL
theorem hm_zast {i x : Int32} {a n : Nat} (j : Nat) (hx : x = 0 ∨ x = 1) (hs : hm_S a = (12, n)) (ha : a < hm_n σ) (hi : i = nI j) (hj : j < n) (hn : n < 2 ^ 31) (hd : decode cc pc = .ok (.bastore, 1)) (kk : hm_V l own cc nL ret ini R mc ms Q kc ks (pc + 1) L st (hm_wI σ a j x)) : hm_V l own cc nL ret ini R mc ms Q kc ks pc L (.int x :: .int i :: .ref a :: st) σ := by
  intro p e s m args below meth c D dA base H locs ls hC hR hlo hL
  obtain ⟨h1, h2⟩ := hm_ix hi hj hn
  have hc := hR.arr ha hs (by decide)
  refine W.zast hC.1 hC.2.1 hc ((hC.2.2.2.2.2.2.2.1.1.2 2 _ rfl).1 n _) (fun q => by cases q) (by rw [arrV_size]; exact h1) rfl rfl hd fun H' e1 e2 e3 => ?_
  rw [h2, show narrow .boolean (.int x) = .int x by rcases hx with rfl | rfl <;> rfl] at e1
  exact kk p e s m args below meth c D dA base H' _ ls hC (hR.ast ha hs (by decide) (hm_upI σ a j x) e1 e2 e3) (hm_locs hlo) hL
theorem hm_last {i : Int32} {x : Int64} {a n : Nat} (j : Nat) (hs : hm_S a = (11, n)) (ha : a < hm_n σ) (hi : i = nI j) (hj : j < n) (hn : n < 2 ^ 31) (hd : decode cc pc = .ok (.lastore, 1)) (kk : hm_V l own cc nL ret ini R mc ms Q kc ks (pc + 1) L st (hm_wL σ a j x)) : hm_V l own cc nL ret ini R mc ms Q kc ks pc L (.long x :: .int i :: .ref a :: st) σ := by
  intro p e s m args below meth c D dA base H locs ls hC hR hlo hL
  obtain ⟨h1, h2⟩ := hm_ix hi hj hn
  have hc := hR.arr ha hs (by decide)
  refine W.last hC.1 hC.2.1 hc ((hC.2.2.2.2.2.2.2.1.1.2 1 _ rfl).1 n _) (fun q => by cases q) (by rw [arrV_size]; exact h1) rfl rfl hd fun H' e1 e2 e3 => ?_
  rw [h2] at e1
  exact kk p e s m args below meth c D dA base H' _ ls hC (hR.ast ha hs (by decide) (hm_upL σ a j x) e1 e2 e3) (hm_locs hlo) hL
theorem hm_aast {i : Int32} {a n kd ci r : Nat} (j : Nat) (hs : hm_S a = (kd, n)) (hk : kd = 13 ∧ ci = 0 ∨ kd = 14 ∧ ci = 2) (ha : a < hm_n σ) (hsr : hm_S r = (ci, 0)) (hr : r < hm_n σ) (hi : i = nI j) (hj : j < n) (hn : n < 2 ^ 31) (hd : decode cc pc = .ok (.aastore, 1)) (kk : hm_V l own cc nL ret ini R mc ms Q kc ks (pc + 1) L st (hm_wR σ a j (some r))) : hm_V l own cc nL ret ini R mc ms Q kc ks pc L (.ref r :: .int i :: .ref a :: st) σ := by
  intro p e s m args below meth c D dA base H locs ls hC hR hlo hL
  obtain ⟨h1, h2⟩ := hm_ix hi hj hn
  have hc := hR.arr ha hs (by omega)
  have hK := hC.2.2.2.2.2.2.2.1.1
  have h0 : ¬ i < 0 := fun q => h1 (Or.inl q)
  have key : ∀ (T : u_T) (N t0 : Nat) (C : String), hm_Cl[ci]? = some (C, T, N) → (hm_tys dA)[t0]? = some (dA kd, .object C) → hm_at kd = 2 → W p l e R s m args below meth c H locs kc ks (MQ below (hm_Qc D dA base Q) args s mc ms (fun q => base ≤ q)) (F0 m pc ls (.ref (base + r) :: .int i :: .ref (base + a) :: st.map (hm_c base))) := by
    intro T N t0 C hCl ht hat
    obtain ⟨cellV, g1, g2, g3, -⟩ := hR.obj hr hsr hCl
    have hcls := (hK.1 ci _ hCl).2
    obtain ⟨kA, comp, k1, k2, k3, -⟩ := (hK.2 t0 _ ht).2
    have hcomp : comp = D.1 ci := Option.some.inj (k3.symm.trans hcls.1)
    subst hcomp
    obtain ⟨kC, hkC, -⟩ := hcls.2
    refine W.aast hC.1 hC.2.1 hc (fun q h => by cases h) (fun h => by cases h) k1 k2 rfl hkC ⟨h0, by rw [arrV_size, h2]; exact hj⟩ g1 (fun q h => by rw [g3] at h; cases h) (by rw [g2]; exact hkC) (by rw [g2]; exact va_assign hcls) rfl rfl hd fun H' e1 e2 e3 => ?_
    rw [h2] at e1
    exact kk p e s m args below meth c D dA base H' _ ls hC (hR.ast (v := .ref r) ha hs (by omega) (by rw [hat]; exact hm_upR σ a j r) e1 e2 e3) (hm_locs hlo) hL
  rcases hk with ⟨rfl, rfl⟩ | ⟨rfl, rfl⟩
  · exact key TX0 5 3 RX0 rfl rfl rfl
  · exact key TX2 12 4 RX2 rfl rfl rfl
theorem hm_alen {a n : Nat} {v : Int32} {kd : Nat} (hs : hm_S a = (kd, n)) (hk : kd = 10 ∨ kd = 11) (ha : a < hm_n σ) (hv : Int32.ofNat n = v) (hd : decode cc pc = .ok (.arraylength, 1)) (kk : hm_V l own cc nL ret ini R mc ms Q kc ks (pc + 1) L (.int v :: st) σ) : hm_V l own cc nL ret ini R mc ms Q kc ks pc L (.ref a :: st) σ := by
  intro p e s m args below meth c D dA base H locs ls hC hR hlo hL
  have hc := hR.arr ha hs (by omega)
  subst hv
  rcases hk with rfl | rfl
  · exact W.alen (n := Int32.ofNat n) hC.1 hC.2.1 hc ((hC.2.2.2.2.2.2.2.1.1.2 0 _ rfl).1 n _) (by rw [arrV_size]) rfl rfl hd (kk p e s m args below meth c D dA base H locs ls hC hR hlo hL)
  · exact W.alen (n := Int32.ofNat n) hC.1 hC.2.1 hc ((hC.2.2.2.2.2.2.2.1.1.2 1 _ rfl).1 n _) (by rw [arrV_size]) rfl rfl hd (kk p e s m args below meth c D dA base H locs ls hC hR hlo hL)
/-- one cell more -/
theorem hm_Rep.grow {D : va_G} {dA : Nat → ClassId} {base : Nat} {σ : hm_M} {H H' : Heap} (hR : hm_Rep D dA base σ H) (hz : H'.size = base + hm_n σ + 1) (ho : ∀ q, q < base + hm_n σ → H'[q]? = H[q]?) (hc : hm_cl D dA base σ H' (hm_n σ)) : hm_Rep D dA base (hm_g σ) H' := by
  refine ⟨by rw [hz, hm_n_g]; omega, fun b hb => ?_, fun b j hb => ?_⟩
  · rw [hm_n_g] at hb
    by_cases e : b = hm_n σ
    · subst e; exact hc
    · have h := hR.2.1 b (by omega)
      have hq : H'[base + b]? = H[base + b]? := ho _ (by omega)
      unfold hm_cl at h ⊢
      split
      · rename_i hk
        rw [if_pos hk] at h
        obtain ⟨r, h1, h2⟩ := h
        exact ⟨r, h1, h2.kept hq⟩
      · rename_i hk
        rw [if_neg hk] at h
        rw [hq, h]
        rfl
  · rw [hm_n_g] at hb
    exact hR.2.2 b j (by omega)
theorem hm_new {idx ci N : Nat} {C : String} {T : u_T} (hN : hm_NC own idx C N) (hc : hm_Cl[ci]? = some (C, T, N)) (hs : hm_S (hm_n σ) = (ci, 0)) (h1 : kc + 1 ≤ R.cells) (h2 : ks + N ≤ R.slots) (hd : decode cc pc = .ok (.new idx, 3)) (kk : hm_V l own cc nL ret ini R mc ms Q (kc + 1) (ks + N) (pc + 3) L (.ref (hm_n σ) :: st) (hm_g σ)) : hm_V l own cc nL ret ini R mc ms Q kc ks pc L st σ := by
  intro p e s m args below meth c D dA base H locs ls hC hR hlo hL
  have hts := hC.2.2.2.2.2.2.1
  have hKn := hC.2.2.2.2.2.2.2.1.1.1 ci _ hc
  obtain ⟨hin, hty, hnm⟩ := hm_lay hc
  refine W.newcK hC.1 hC.2.1 hC.2.2.2.2.2.1 (hts _ hN.1) (hts _ hN.2.1) (hts _ hN.2.2) rfl hd h1 h2 hKn.2.1 hR.1 fun H' kC hkC e1 z1 o1 => ?_
  refine kk p e s m args below meth c D dA base H' locs ls hC (hR.grow z1 o1 ?_) hlo hL
  unfold hm_cl
  rw [hs]
  rw [if_pos (show ci < 6 from (List.getElem?_eq_some_iff.mp hc).1)]
  refine ⟨_, hc, (u_born (hm_ty ci) hts hin hKn hkC e1 hty).to fun k hk => ?_⟩
  obtain ⟨z1, z2, z3⟩ := hR.2.2 (hm_n σ) k (Nat.le_refl _)
  have h7 := hm_okt_all hc k hk
  generalize hm_ty ci k = t at h7
  cases t <;> first | (simp [hm_okt] at h7; done) | simp [defaultValue, hm_v, hm_tag, z1, z2, z3, hm_rf]
theorem hm_newa {n : Int32} {N kd : Nat} {at_ : ArrayType} (hk : kd = 10 ∧ at_ = .int ∨ kd = 11 ∧ at_ = .long ∨ kd = 12 ∧ at_ = .boolean) (hn : n = nI N) (hN : N ≤ 4096) (hs : hm_S (hm_n σ) = (kd, N)) (h1 : kc + 1 ≤ R.cells) (h2 : ks + N ≤ R.slots) (hd : decode cc pc = .ok (.newarray at_, 2)) (kk : hm_V l own cc nL ret ini R mc ms Q (kc + 1) (ks + N) (pc + 2) L (.ref (hm_n σ) :: st) (hm_g σ)) : hm_V l own cc nL ret ini R mc ms Q kc ks pc L (.int n :: st) σ := by
  intro p e s m args below meth c D dA base H locs ls hC hR hlo hL
  have hts := hC.2.2.2.2.2.2.1
  have hK := hC.2.2.2.2.2.2.2.1.1
  have hn0 : ¬ n < 0 := by rw [hn]; exact nI_pos (by omega)
  have hnN : n.toNatClampNeg = N := by rw [hn]; exact nI_clamp (by omega)
  have key : ∀ (t0 : Nat), (Cond.arrayClass (newarray.typeOf at_)).before args s = true → (hm_tys dA)[t0]? = some (dA kd, newarray.typeOf at_) → (∀ cA : ClassId, va_RA s cA (newarray.typeOf at_) ↔ s.vm.findClass ("[" ++ (newarray.typeOf at_).toString) = some cA) → N * componentBytes (newarray.typeOf at_) ≤ 536870912 → 6 ≤ kd → (∀ j, hm_v base σ (hm_n σ) (hm_at kd) j = defaultValue (newarray.typeOf at_)) →
      W p l e R s m args below meth c H locs kc ks (MQ below (hm_Qc D dA base Q) args s mc ms (fun q => base ≤ q)) (F0 m pc ls (.int n :: st.map (hm_c base))) := by
    intro t0 ha ht hra hby hk6 hdv
    refine va_newaK hC.1 hC.2.1 ha rfl hd rfl hn0 hnN hby h1 h2 hR.1 fun H' cA e1 z1 o1 hAr hNm => ?_
    have hcA : cA = dA kd := Option.some.inj (hNm.symm.trans ((hra _).mp (hK.2 t0 _ ht).2))
    subst hcA
    refine kk p e s m args below meth c D dA base H' locs ls hC (hR.grow z1 o1 ?_) hlo hL
    unfold hm_cl
    rw [hs]
    rw [if_neg (show ¬ kd < 6 by omega), e1]
    congr 2
    funext j
    exact (hdv j).symm
  rcases hk with ⟨rfl, rfl⟩ | ⟨rfl, rfl⟩ | ⟨rfl, rfl⟩
  · exact key 0 (hts _ hm_ac_int) rfl (fun _ => Iff.rfl) (by show N * 4 ≤ _; omega) (by decide) (fun j => by show Value.int (hm_I σ (hm_n σ) j) = _; rw [(hR.2.2 (hm_n σ) j (Nat.le_refl _)).1]; rfl)
  · exact key 1 (hts _ hm_ac_long) rfl (fun _ => Iff.rfl) (by show N * 8 ≤ _; omega) (by decide) (fun j => by show Value.long (hm_L σ (hm_n σ) j) = _; rw [(hR.2.2 (hm_n σ) j (Nat.le_refl _)).2.1]; rfl)
  · exact key 2 (hts _ hm_ac_boolean) rfl (fun _ => Iff.rfl) (by show N * 1 ≤ _; omega) (by decide) (fun j => by show Value.int (hm_I σ (hm_n σ) j) = _; rw [(hR.2.2 (hm_n σ) j (Nat.le_refl _)).1]; rfl)
theorem hm_anew {n : Int32} {N kd idx : Nat} {C : String} (hk : kd = 13 ∧ C = RX0 ∨ kd = 14 ∧ C = RX2) (hw : Cond.classLink own idx C ∈ hm_T) (hn : n = nI N) (hN : N ≤ 4096) (hs : hm_S (hm_n σ) = (kd, N)) (h1 : kc + 1 ≤ R.cells) (h2 : ks + N ≤ R.slots) (hd : decode cc pc = .ok (.anewarray idx, 3)) (kk : hm_V l own cc nL ret ini R mc ms Q (kc + 1) (ks + N) (pc + 3) L (.ref (hm_n σ) :: st) (hm_g σ)) : hm_V l own cc nL ret ini R mc ms Q kc ks pc L (.int n :: st) σ := by
  intro p e s m args below meth c D dA base H locs ls hC hR hlo hL
  have hts := hC.2.2.2.2.2.2.1
  have hK := hC.2.2.2.2.2.2.2.1
  have hn0 : ¬ n < 0 := by rw [hn]; exact nI_pos (by omega)
  have hnN : n.toNatClampNeg = N := by rw [hn]; exact nI_clamp (by omega)
  subst hnN
  have key : ∀ (t0 : Nat), va_AO C s → (hm_tys dA)[t0]? = some (dA kd, .object C) → 6 ≤ kd → hm_at kd = 2 →
      W p l e R s m args below meth c H locs kc ks (MQ below (hm_Qc D dA base Q) args s mc ms (fun q => base ≤ q)) (F0 m pc ls (.int n :: st.map (hm_c base))) := by
    intro t0 ha ht hk6 hat
    refine W.anew hC.1 hC.2.1 hC.2.2.2.2.2.1 (hts _ hw) ha.use rfl hd rfl hn0 (by omega) h1 h2 fun cA kA comp f1 f2 f3 f4 => ?_
    obtain ⟨kA', comp', -, -, -, f5⟩ := (hK.1.2 t0 _ ht).2
    have hcA : cA = dA kd := Option.some.inj (f1.symm.trans f5)
    subst hcA
    have hz : (F0 m (pc + 3) ls (.ref H.size :: st.map (hm_c base))) = F0 m (pc + 3) ls ((Value.ref (hm_n σ) :: st).map (hm_c base)) := by
      show F0 m (pc + 3) ls (.ref H.size :: st.map (hm_c base)) = F0 m (pc + 3) ls (.ref (base + hm_n σ) :: st.map (hm_c base))
      rw [hR.1]
    refine W.eq hz (kk p e s m args below meth c D dA base _ locs ls hC (hR.grow (by rw [Array.size_push, hR.1]) (fun q hq => by rw [Array.getElem?_push, if_neg (by rw [hR.1]; omega)]) ?_) hlo hL)
    unfold hm_cl
    rw [hs]
    rw [if_neg (show ¬ kd < 6 by omega), arrV_new, ← hR.1]
    simp only [Array.getElem?_push_size]
    congr 2
    funext j
    rw [hat]
    show _ = hm_rf base (hm_R σ (hm_n σ) j)
    rw [(hR.2.2 (hm_n σ) j (Nat.le_refl _)).2.2]
    rfl
  rcases hk with ⟨rfl, rfl⟩ | ⟨rfl, rfl⟩
  · exact key 3 hK.2.1 rfl (by decide) rfl
  · exact key 4 hK.2.2.1 rfl (by decide) rfl
theorem hm_objInit {idx a : Nat} (hw : Cond.methodLink own idx objectInit ∈ hm_T ∧ Cond.instanceMethod objectInit ∈ hm_T ∧ Cond.code objectInit ⟨#[0xb1]⟩ 1 none ∈ hm_T) (hf : 1 ≤ R.frames) (hr : (st.map fun v => v.category).sum + 12 ≤ R.locals) (hd : decode cc pc = .ok (.invokespecial idx, 3)) (kk : hm_V l own cc nL ret ini R mc ms Q kc ks (pc + 3) L st σ) : hm_V l own cc nL ret ini R mc ms Q kc ks pc L (.ref a :: st) σ := by
  intro p e s m args below meth c D dA base H locs ls hC hR hlo hL
  have hts := hC.2.2.2.2.2.2.1
  have hcat : ((st.map (hm_c base)).map fun v => v.category) = st.map fun v => v.category := by
    rw [List.map_map]; exact List.map_congr_left fun v _ => hm_c_cat base v
  exact W.objInit hC.1 hC.2.1 hC.2.2.2.2.2.1 (hts _ hw.1) (hts _ hw.2.1) (hts _ hw.2.2) rfl (hL.1.trans hC.2.2.1.symm) rfl hd hf (by show 2 * 0 + _ + 12 ≤ _; rw [hcat]; omega) (kk p e s m args below meth c D dA base H locs ls hC hR hlo hL)
end HA
end
section
/-! rows of hm_V: calls by contract -/
section HC
variable {l : Launch} {own : String} {cc : ByteArray} {nL : Nat} {ret : Option FieldType} {ini : Bool} {R : Room} {mc ms : Nat} {Q : Option Value → hm_M → Prop} {kc ks : Nat} {pc : Nat} {L : List Value} {st : List Value} {σ : hm_M}
theorem hm_after {p : Program} {e : Env} {s : State} {m : MethodId} {args : Array Value} {below : List Frame} {meth : Method} {c : Code} {D : va_G} {dA : Nat → ClassId} {base : Nat} {H : Heap} {locs : List Loc} {ls : Array Slot} {mcy msy : Nat} {rest : List Value} {Qy : Option Value → hm_M → Prop} {av : Array Value} {st' : List Value}
    (hC : hm_C D dA own cc nL ret ini p s m args meth c) (hlo : ∀ q ∈ locs, base ≤ q.base) (hL : hm_lo base nL ls L)
    (run : va_Run p l e R s m args below meth c H locs kc ks mcy msy (F0 m pc ls st') (rest.map (hm_c base)) (hm_Qc D dA base Qy av) (fun q => base ≤ q))
    (kk : ∀ r τ, Qy r τ → hm_V l own cc nL ret ini R mc ms Q (kc + mcy) (ks + msy) (pc + 3) L (r.toList ++ rest) τ) : W p l e R s m args below meth c H locs kc ks (MQ below (hm_Qc D dA base Q) args s mc ms (fun q => base ≤ q)) (F0 m pc ls st') := by
  intro T hT X
  obtain ⟨v, st₀, t, T', L', h0, X', hL', e1, e2, ⟨r, τ, ho, hQ, hRep⟩, go⟩ := run T hT X
  have hv : v = r.map (hm_c base) := Outcome.returned.inj ho
  subst hv
  obtain ⟨t2, a1, b1⟩ := kk r τ hQ p e s m args below meth c D dA base t.heap (locs ++ L') ls hC hRep (fun q hq => (List.mem_append.mp hq).elim (hlo q) (hL' q)) hL T' e1 X'
  refine ⟨t2, go t2 ?_, b1⟩
  have e3 : (r.map (hm_c base)).toList ++ rest.map (hm_c base) = (r.toList ++ rest).map (hm_c base) := by
    cases r <;> simp
  show Steps p.tables e below (T'.setTop (F0 m (pc + 3) ls ((r.map (hm_c base)).toList ++ rest.map (hm_c base)))) t2
  rw [e3]
  exact a1
theorem hm_catm (base : Nat) (st : List Value) : ((st.map (hm_c base)).map fun v => v.category) = st.map fun v => v.category := by
  rw [List.map_map]; exact List.map_congr_left fun v _ => hm_c_cat base v
theorem hm_callV {idx a n : Nat} {y : MethodName} {ccy : ByteArray} {nLy : Nat} {rety : Option FieldType} {dy mcy msy ci N : Nat} {T : u_T} {As rest : List Value} {Qy : Option Value → hm_M → Prop} (hM : hm_MV own idx y ccy nLy rety n) (hc : hm_Ct l y ccy nLy rety dy mcy msy (.ref a :: As) σ Qy) (hst : st = As.reverse ++ .ref a :: rest) (hn : As.length = n)
    (hs : hm_S a = (ci, 0)) (hci : hm_Cl[ci]? = some (y.cls, T, N)) (ha : a < hm_n σ) (hR : dy + 1 ≤ R.frames ∧ 8 + (nLy + 11) + 36 * dy ≤ R.locals) (hk : kc + mcy ≤ R.cells ∧ ks + msy ≤ R.slots) (hrest : (rest.map fun v => v.category).sum ≤ 8) (hd : decode cc pc = .ok (.invokevirtual idx, 3))
    (kk : ∀ r τ, Qy r τ → hm_V l own cc nL ret ini R mc ms Q (kc + mcy) (ks + msy) (pc + 3) L (r.toList ++ rest) τ) : hm_V l own cc nL ret ini R mc ms Q kc ks pc L st σ := by
  intro p e s m args below meth c D dA base H locs ls hC hRep hlo hL
  have hts := hC.2.2.2.2.2.2.1
  obtain ⟨⟨m1, m2, m3⟩, m4, m5, m6⟩ := hM
  refine hm_after (av := (Value.ref (base + a) :: As.map (hm_c base)).toArray) hC hlo hL (va_runV (Ts := hm_T) (own := own) (C := y.cls) (b := base + a) (As := As.map (hm_c base)) (n := n) (rm := hm_rm dy mcy msy) (ws := .code y ccy nLy rety :: hm_T) ⟨hC.1, hC.2.1, hC.2.2.1, hC.2.2.2.2.2.1, hts⟩ (hc D dA base) ⟨callB_of n hts (hm_good m1) rfl rfl rfl (hts _ m2) (hts _ m4) m3 ⟨hR.1, hR.2⟩, hts _ m5, hts _ m6⟩ ⟨hm_blind D dA base _ σ, ?_, fun U hU hW => ⟨rfl, by rw [hU]; exact hRep, hC.2.2.2.2.2.2.2.1.warm hW⟩⟩ rfl ?_ hL.1 ?_ (lv_room (by rw [hm_catm]; exact hrest)) hd hk) kk
  · obtain ⟨cell, q1, q2, q3, -⟩ := hRep.obj ha hs hci
    exact ⟨cell, q1, by rw [q3]; rfl, by rw [q2]; exact (hC.2.2.2.2.2.2.2.1.1.1 ci _ hci).2.1⟩
  · rw [List.length_map]; exact hn
  · show st.map (hm_c base) = _
    rw [hst]
    simp [hm_c]
theorem hm_callS {idx n : Nat} {y : MethodName} {ccy : ByteArray} {nLy : Nat} {rety : Option FieldType} {dy mcy msy : Nat} {As rest : List Value} {Qy : Option Value → hm_M → Prop} (hM : hm_MS own idx y ccy nLy rety n) (hc : hm_Ct l y ccy nLy rety dy mcy msy As σ Qy) (hst : st = As.reverse ++ rest) (hn : As.length = n)
    (hR : dy + 1 ≤ R.frames ∧ 8 + (nLy + 11) + 36 * dy ≤ R.locals) (hk : kc + mcy ≤ R.cells ∧ ks + msy ≤ R.slots) (hrest : (rest.map fun v => v.category).sum ≤ 8) (hd : decode cc pc = .ok (.invokestatic idx, 3))
    (kk : ∀ r τ, Qy r τ → hm_V l own cc nL ret ini R mc ms Q (kc + mcy) (ks + msy) (pc + 3) L (r.toList ++ rest) τ) : hm_V l own cc nL ret ini R mc ms Q kc ks pc L st σ := by
  intro p e s m args below meth c D dA base H locs ls hC hRep hlo hL
  have hts := hC.2.2.2.2.2.2.1
  obtain ⟨⟨m1, m2, m3⟩, m4, m5⟩ := hM
  refine hm_after (av := (As.map (hm_c base)).toArray) hC hlo hL (va_runS (Ts := hm_T) (own := own) (As := As.map (hm_c base)) (n := n) (rm := hm_rm dy mcy msy) (ws := .code y ccy nLy rety :: hm_T) ⟨hC.1, hC.2.1, hC.2.2.1, hC.2.2.2.2.2.1, hts⟩ (hc D dA base) ⟨callB_of n hts (hm_good m1) rfl rfl rfl (hts _ m2) (hts _ m4) m3 ⟨hR.1, hR.2⟩, hts _ m5⟩ ⟨hm_blind D dA base _ σ, fun U hU hW => ⟨rfl, by rw [hU]; exact hRep, hC.2.2.2.2.2.2.2.1.warm hW⟩⟩ rfl ?_ hL.1 ?_ (lv_room (by rw [hm_catm]; exact hrest)) hd hk) kk
  · rw [List.length_map]; exact hn
  · show st.map (hm_c base) = _
    rw [hst]
    simp
theorem hm_callI {idx a n : Nat} {y : MethodName} {ccy : ByteArray} {nLy : Nat} {dy mcy msy : Nat} {As rest : List Value} {Qy : Option Value → hm_M → Prop} (hM : hm_MI own idx y ccy nLy n) (hc : hm_Ct l y ccy nLy none dy mcy msy (.ref a :: As) σ Qy) (hst : st = As.reverse ++ .ref a :: rest) (hn : As.length = n)
    (hR : dy + 1 ≤ R.frames ∧ 8 + (nLy + 11) + 36 * dy ≤ R.locals) (hk : kc + mcy ≤ R.cells ∧ ks + msy ≤ R.slots) (hrest : (rest.map fun v => v.category).sum ≤ 8) (hd : decode cc pc = .ok (.invokespecial idx, 3))
    (kk : ∀ r τ, Qy r τ → hm_V l own cc nL ret ini R mc ms Q (kc + mcy) (ks + msy) (pc + 3) L (r.toList ++ rest) τ) : hm_V l own cc nL ret ini R mc ms Q kc ks pc L st σ := by
  intro p e s m args below meth c D dA base H locs ls hC hRep hlo hL
  have hts := hC.2.2.2.2.2.2.1
  obtain ⟨⟨m1, m2, m3⟩, m4, m5, m6⟩ := hM
  refine hm_after (av := (Value.ref (base + a) :: As.map (hm_c base)).toArray) hC hlo hL (va_runI (Ts := hm_T) (own := own) (b := base + a) (As := As.map (hm_c base)) (n := n) (rm := hm_rm dy mcy msy) (ws := .code y ccy nLy none :: hm_T) ⟨hC.1, hC.2.1, hC.2.2.1, hC.2.2.2.2.2.1, hts⟩ (hc D dA base) ⟨callB_of n hts (hm_good m1) rfl rfl rfl (hts _ m2) (hts _ m4) m3 ⟨hR.1, hR.2⟩, m6, hts _ m5⟩ ⟨hm_blind D dA base _ σ, fun U hU hW => ⟨rfl, by rw [hU]; exact hRep, hC.2.2.2.2.2.2.2.1.warm hW⟩⟩ rfl ?_ hL.1 ?_ (lv_room (by rw [hm_catm]; exact hrest)) hd hk) kk
  · rw [List.length_map]; exact hn
  · show st.map (hm_c base) = _
    rw [hst]
    simp [hm_c]
/-- the one constructor that is called as a nest mate's: Bearer's, by Radio -/
theorem hm_callB {a : Nat} {dy mcy msy : Nat} {rest : List Value} {Qy : Option Value → hm_M → Prop} (hi : Cond.instanceMethod yX0_init ∈ hm_T) (ho : own = RX3) (hc : hm_Ct l yX0_init cX0_init 1 none dy mcy msy [.ref a] σ Qy) (hst : st = .ref a :: rest)
    (hR : dy + 1 ≤ R.frames ∧ 8 + (1 + 11) + 36 * dy ≤ R.locals) (hk : kc + mcy ≤ R.cells ∧ ks + msy ≤ R.slots) (hrest : (rest.map fun v => v.category).sum ≤ 8) (hd : decode cc pc = .ok (.invokespecial 36, 3))
    (kk : ∀ r τ, Qy r τ → hm_V l own cc nL ret ini R mc ms Q (kc + mcy) (ks + msy) (pc + 3) L (r.toList ++ rest) τ) : hm_V l own cc nL ret ini R mc ms Q kc ks pc L st σ := by
  intro p e s m args below meth c D dA base H locs ls hC hRep hlo hL
  have hts := hC.2.2.2.2.2.2.1
  subst ho
  obtain ⟨m1, m2, m3⟩ := mc_yX0_init
  refine hm_after (av := (Value.ref (base + a) :: []).toArray) hC hlo hL (va_runIN (Ts := hm_T) (own := RX3) (host := RX4) (b := base + a) (As := []) (n := 0) (rm := hm_rm dy mcy msy) (ws := .code yX0_init cX0_init 1 none :: hm_T) ⟨hC.1, hC.2.1, hC.2.2.1, hC.2.2.2.2.2.1, hts⟩ (hc D dA base) ⟨va_cnB 0 hts (hm_good m1) rfl rfl rfl hC.2.2.2.2.2.2.2.1.2.2.2 (hts _ m2) m3 ⟨hR.1, hR.2⟩, rfl, hts _ hi⟩ ⟨hm_blind D dA base _ σ, fun U hU hW => ⟨rfl, by rw [hU]; exact hRep, hC.2.2.2.2.2.2.2.1.warm hW⟩⟩ rfl rfl hL.1 ?_ (lv_room (by rw [hm_catm]; exact hrest)) hd hk) kk
  show st.map (hm_c base) = _
  rw [hst]
  simp [hm_c]
end HC
end
section
/-! the reference's small methods -/
def bI (b : Bool) : Int32 := if b then 1 else 0
theorem bI_01 (b : Bool) : bI b = 0 ∨ bI b = 1 := by cases b <;> first | exact Or.inl rfl | exact Or.inr rfl
/-- where the reference's arrays lie -/
def md_tab (k : Nat) : Option Nat := match k with
  | 1 => some 28 | 3 => some 29 | 4 => some 30 | 5 => some 31 | 6 => some 32 | 7 => some 33 | 8 => some 34 | 9 => some 35 | 10 => some 36 | 11 => some 37
  | 13 => some 38 | 14 => some 39 | 15 => some 40 | 16 => some 41 | 17 => some 42 | 18 => some 43 | 19 => some 44 | 20 => some 45 | 21 => some 46 | 22 => some 47 | 23 => some 48
  | 32 => some 49 | 33 => some 50 | 34 => some 51 | _ => none
def md_M (σ : hm_M) : Prop := 52 ≤ hm_n σ ∧ ∀ k, hm_R σ 27 k = md_tab k
theorem hm_startQ {l : Launch} {y : MethodName} {cc : ByteArray} {nL : Nat} {ret : Option FieldType} {ini : Bool} {d mc ms : Nat} {As : List Value} {σ : hm_M} {Q : Option Value → hm_M → Prop} (L : List Value) (hy : plainName y.cls = true) (hi : ini = true → y.name = "<init>") (hL : hm_en nL As = L) (hn : (hm_sl As).length ≤ nL)
    (h : ∀ Q' : Option Value → hm_M → Prop, (∀ r τ, Q r τ → Q' r τ) → hm_V l y.cls cc nL ret ini (hm_rm d mc ms) mc ms Q' 0 0 0 L [] σ) : hm_Ct l y cc nL ret d mc ms As σ Q := hm_start L hy hi hL hn (h Q (fun _ _ q => q))
theorem hm_inc (b : Nat) : nI b + Int32.ofInt 1 = nI (b + 1) := (nI_succ b).symm
theorem hm_dec (b : Nat) : nI (b + 1) + Int32.ofInt (-1) = nI b := by
  rw [nI_succ]
  rw [Int32.add_assoc]
  exact (congrArg (nI b + ·) (show (1 : Int32) + Int32.ofInt (-1) = 0 by decide)).trans (Int32.add_zero _)
theorem bI_0 (b : Bool) : bI b = 0 ↔ b = false := by cases b <;> simp [bI]
theorem bI_1 (b : Bool) : bI b = 1 ↔ b = true := by cases b <;> simp [bI]
theorem any_take {β : Type} {l : List β} {f : β → Bool} {b : Nat} {x : β} (h : l[b]? = some x) : (l.take (b + 1)).any f = ((l.take b).any f || f x) := by
  rw [List.take_succ, List.any_append, h]; simp
theorem countP_take {β : Type} {l : List β} {f : β → Bool} {b : Nat} {x : β} (h : l[b]? = some x) : (l.take (b + 1)).countP f = (l.take b).countP f + (if f x then 1 else 0) := by
  rw [List.take_succ, List.countP_append, h]; simp [List.countP_cons]
theorem len2 {β : Type} (g : β → Nat) : ∀ (n : Nat) (l : List β), (∀ x ∈ l, g x < n) → (∀ p, l.countP (fun x => decide (g x = p)) ≤ 2) → l.length ≤ 2 * n := by
  intro n
  induction n with
  | zero =>
    intro l h _
    match l, h with
    | [], _ => simp
    | x :: t, h => exact absurd (h x List.mem_cons_self) (by omega)
  | succ n ih =>
    intro l h hc
    have h1 := ih (l.filter (fun x => !decide (g x = n))) (fun x hx => by
      obtain ⟨h2, h3⟩ := List.mem_filter.mp hx
      have := h x h2
      simp at h3
      omega) (fun p => Nat.le_trans (by rw [List.countP_filter]; exact List.countP_mono_left (fun x _ hx => by simp at hx ⊢; exact hx.1)) (hc p))
    have h2 : l.length = l.countP (fun x => decide (g x = n)) + (l.filter (fun x => !decide (g x = n))).length := by
      rw [← List.countP_eq_length_filter, List.length_eq_countP_add_countP (fun x => decide (g x = n))]
      congr 1
      exact List.countP_congr (fun x _ => by simp)
    have := hc n
    omega
section M1
variable (l : Launch)
set_option maxRecDepth 100000 in
theorem c5_in (σ : hm_M) (v lo hi : Int32) : hm_Ct l yX5_in cX5_in 3 (some .boolean) 0 0 0 [.int v, .int lo, .int hi] σ (fun r τ => r = some (.int (bI (decide (lo ≤ v) && decide (v ≤ hi)))) ∧ τ = σ) := by
  refine hm_startQ (ini := false) [.int v, .int lo, .int hi] (by decide) (by decide) rfl (Nat.le_of_ble_eq_true rfl) (fun Q hQ => ?_)
  refine hm_iload_n dX5_in_0 rfl ?_
  refine hm_iload_n dX5_in_1 rfl ?_
  refine hm_icmp_lt 14 dX5_in_2 (by decide) (fun h2 => ?_) (fun h2 => ?_)
  · skip
    refine hm_iconst dX5_in_14 (v := 0) (by decide) ?_
    refine hm_zret dX5_in_15 rfl (by decide) (by decide) (by first | exact Or.inl rfl | exact Or.inr rfl | assumption) ?_
    exact hQ _ _ ⟨by simp [bI, ← Int32.not_lt, *], rfl⟩
  · skip
    refine hm_iload_n dX5_in_5 rfl ?_
    refine hm_iload_n dX5_in_6 rfl ?_
    refine hm_icmp_gt 14 dX5_in_7 (by decide) (fun h7 => ?_) (fun h7 => ?_)
    · skip
      refine hm_iconst dX5_in_14 (v := 0) (by decide) ?_
      refine hm_zret dX5_in_15 rfl (by decide) (by decide) (by first | exact Or.inl rfl | exact Or.inr rfl | assumption) ?_
      exact hQ _ _ ⟨by simp [bI, ← Int32.not_lt, *], rfl⟩
    · skip
      refine hm_iconst dX5_in_10 (v := 1) (by decide) ?_
      refine hm_goto 15 dX5_in_11 (by decide) ?_
      refine hm_zret dX5_in_15 rfl (by decide) (by decide) (by first | exact Or.inl rfl | exact Or.inr rfl | assumption) ?_
      exact hQ _ _ ⟨by simp [bI, ← Int32.not_lt, *], rfl⟩
set_option maxRecDepth 100000 in
theorem c5_reaches (σ : hm_M) (h : md_M σ) (c : Int32) (pl : Nat) (hp : pl < 16) : hm_Ct l yX5_reaches cX5_reaches 3 (some .boolean) 0 0 0 [.ref 27, .int c, .int (nI pl)] σ (fun r τ => r = some (.int (bI (decide ((hm_I σ 36 pl >>> (c &&& 31)) &&& 1 = 1)))) ∧ τ = σ) := by
  obtain ⟨hN, hM⟩ := h
  refine hm_startQ (ini := false) [.ref 27, .int c, .int (nI pl)] (by decide) (by decide) rfl (Nat.le_of_ble_eq_true rfl) (fun Q hQ => ?_)
  refine hm_aload_n dX5_reaches_0 rfl ?_
  refine hm_getR lf_RX5_36 rfl rfl (by first | exact Nat.lt_of_lt_of_le (by decide) hN | assumption | (simp only [hm_n_wI, hm_n_wL, hm_n_wR, hm_n_g] at *; omega)) (hM 10) dX5_reaches_1 ?_
  refine hm_iload_n dX5_reaches_4 rfl ?_
  refine hm_iald _ rfl (by first | exact Nat.lt_of_lt_of_le (by decide) hN | assumption | (simp only [hm_n_wI, hm_n_wL, hm_n_wR, hm_n_g] at *; omega)) rfl (by omega) (by decide) dX5_reaches_5 ?_
  refine hm_iload_n dX5_reaches_6 rfl ?_
  refine hm_ishr dX5_reaches_7 ?_
  refine hm_iconst dX5_reaches_8 (v := 1) (by decide) ?_
  refine hm_iand dX5_reaches_9 ?_
  refine hm_iconst dX5_reaches_10 (v := 1) (by decide) ?_
  refine hm_icmp_ne 18 dX5_reaches_11 (by decide) (fun h11 => ?_) (fun h11 => ?_)
  · skip
    refine hm_iconst dX5_reaches_18 (v := 0) (by decide) ?_
    refine hm_zret dX5_reaches_19 rfl (by decide) (by decide) (by first | exact Or.inl rfl | exact Or.inr rfl | assumption) ?_
    exact hQ _ _ ⟨by simp [bI, *], rfl⟩
  · skip
    refine hm_iconst dX5_reaches_14 (v := 1) (by decide) ?_
    refine hm_goto 19 dX5_reaches_15 (by decide) ?_
    refine hm_zret dX5_reaches_19 rfl (by decide) (by decide) (by first | exact Or.inl rfl | exact Or.inr rfl | assumption) ?_
    exact hQ _ _ ⟨by simp [bI, *], rfl⟩
set_option maxRecDepth 100000 in
theorem c5_refuse (σ : hm_M) (h : md_M σ) (w : Nat) (hw : w < 7) : hm_Ct l yX5_refuse cX5_refuse 2 (some .int) 0 0 0 [.ref 27, .int (-(nI w))] σ (fun r τ => r = some (.int (-(nI w))) ∧ τ = hm_wI σ 49 w (hm_I σ 49 w + 1)) := by
  obtain ⟨hN, hM⟩ := h
  have e : - - nI w = nI w := by simp
  refine hm_startQ (ini := false) [.ref 27, .int (-(nI w))] (by decide) (by decide) rfl (Nat.le_of_ble_eq_true rfl) (fun Q hQ => ?_)
  refine hm_aload_n dX5_refuse_0 rfl ?_
  refine hm_getR lf_RX5_75 rfl rfl (by first | exact Nat.lt_of_lt_of_le (by decide) hN | assumption | (simp only [hm_n_wI, hm_n_wL, hm_n_wR, hm_n_g] at *; omega)) (hM 32) dX5_refuse_1 ?_
  refine hm_iload_n dX5_refuse_4 rfl ?_
  refine hm_ineg dX5_refuse_5 ?_
  refine hm_dup2 dX5_refuse_6 rfl rfl ?_
  refine hm_iald _ rfl (by first | exact Nat.lt_of_lt_of_le (by decide) hN | assumption | (simp only [hm_n_wI, hm_n_wL, hm_n_wR, hm_n_g] at *; omega)) e (by omega) (by decide) dX5_refuse_7 ?_
  refine hm_iconst dX5_refuse_8 (v := 1) (by decide) ?_
  refine hm_iadd dX5_refuse_9 ?_
  refine hm_iast _ rfl (by first | exact Nat.lt_of_lt_of_le (by decide) hN | assumption | (simp only [hm_n_wI, hm_n_wL, hm_n_wR, hm_n_g] at *; omega)) e (by omega) (by decide) dX5_refuse_10 ?_
  refine hm_iload_n dX5_refuse_11 rfl ?_
  refine hm_iret dX5_refuse_12 rfl (by decide) (by decide) ?_
  exact hQ _ _ ⟨rfl, rfl⟩
set_option maxRecDepth 100000 in
theorem c5_isCell (σ : hm_M) (h : md_M σ) (c : Int32) : hm_Ct l yX5_isCell cX5_isCell 2 (some .boolean) 1 0 0 [.ref 27, .int c] σ (fun r τ => r = some (.int (bI (decide (0 ≤ c) && decide (c ≤ hm_I σ 27 0 - 1)))) ∧ τ = σ) := by
  obtain ⟨hN, hM⟩ := h
  refine hm_startQ (ini := false) [.ref 27, .int c] (by decide) (by decide) rfl (Nat.le_of_ble_eq_true rfl) (fun Q hQ => ?_)
  refine hm_iload_n dX5_isCell_0 rfl ?_
  refine hm_iconst dX5_isCell_1 (v := 0) (by decide) ?_
  refine hm_aload_n dX5_isCell_2 rfl ?_
  refine hm_getI lf_RX5_84 rfl rfl (by first | exact Nat.lt_of_lt_of_le (by decide) hN | assumption | (simp only [hm_n_wI, hm_n_wL, hm_n_wR, hm_n_g] at *; omega)) dX5_isCell_3 ?_
  refine hm_iconst dX5_isCell_6 (v := 1) (by decide) ?_
  refine hm_isub dX5_isCell_7 ?_
  refine hm_callS lm_RX5_88 (c5_in l _ _ _ _) rfl rfl (by decide) (by decide) (Nat.le_of_ble_eq_true rfl) dX5_isCell_8 ?_
  rintro _ _ ⟨rfl, rfl⟩
  refine hm_zret dX5_isCell_11 rfl (by decide) (by decide) (bI_01 _) ?_
  exact hQ _ _ ⟨rfl, rfl⟩
end M1
end
section
/-! what a state of the system IS, and what each step does to it (pure) -/
abbrev sBr : Type := Nat × Nat × Nat × Int32 × Bool
abbrev sA : Type := (Nat → Nat → Nat) × (Nat → Nat → Int32) × (Nat → Nat → Int64) × List sBr × (Nat → Nat → List Int64)
def aN (α : sA) : Nat → Nat → Nat := α.1
def aI (α : sA) : Nat → Nat → Int32 := α.2.1
def aL (α : sA) : Nat → Nat → Int64 := α.2.2.1
def aB (α : sA) : List sBr := α.2.2.2.1
def aQ (α : sA) : Nat → Nat → List Int64 := α.2.2.2.2
def up2 {β : Type} (f : Nat → Nat → β) (a i : Nat) (v : β) : Nat → Nat → β := fun b j => if b = a ∧ j = i then v else f b j
def sN (α : sA) (f i v : Nat) : sA := (up2 α.1 f i v, α.2)
def sI (α : sA) (f i : Nat) (v : Int32) : sA := (α.1, up2 α.2.1 f i v, α.2.2)
def sL (α : sA) (f i : Nat) (v : Int64) : sA := (α.1, α.2.1, up2 α.2.2.1 f i v, α.2.2.2)
def sB (α : sA) (B : List sBr) : sA := (α.1, α.2.1, α.2.2.1, B, α.2.2.2.2)
def sQ (α : sA) (f i : Nat) (v : List Int64) : sA := (α.1, α.2.1, α.2.2.1, α.2.2.2.1, up2 α.2.2.2.2 f i v)
theorem aN_sN (α : sA) (f i v g j : Nat) : aN (sN α f i v) g j = if g = f ∧ j = i then v else aN α g j := rfl
theorem aN_sI (α : sA) (f i : Nat) (v : Int32) : aN (sI α f i v) = aN α := rfl
theorem aN_sL (α : sA) (f i : Nat) (v : Int64) : aN (sL α f i v) = aN α := rfl
theorem aN_sB (α : sA) (B : List sBr) : aN (sB α B) = aN α := rfl
theorem aN_sQ (α : sA) (f i : Nat) (v : List Int64) : aN (sQ α f i v) = aN α := rfl
theorem aI_sN (α : sA) (f i v : Nat) : aI (sN α f i v) = aI α := rfl
theorem aI_sI (α : sA) (f i : Nat) (v : Int32) (g j : Nat) : aI (sI α f i v) g j = if g = f ∧ j = i then v else aI α g j := rfl
theorem aI_sL (α : sA) (f i : Nat) (v : Int64) : aI (sL α f i v) = aI α := rfl
theorem aI_sB (α : sA) (B : List sBr) : aI (sB α B) = aI α := rfl
theorem aI_sQ (α : sA) (f i : Nat) (v : List Int64) : aI (sQ α f i v) = aI α := rfl
theorem aL_sN (α : sA) (f i v : Nat) : aL (sN α f i v) = aL α := rfl
theorem aL_sI (α : sA) (f i : Nat) (v : Int32) : aL (sI α f i v) = aL α := rfl
theorem aL_sL (α : sA) (f i : Nat) (v : Int64) (g j : Nat) : aL (sL α f i v) g j = if g = f ∧ j = i then v else aL α g j := rfl
theorem aL_sB (α : sA) (B : List sBr) : aL (sB α B) = aL α := rfl
theorem aL_sQ (α : sA) (f i : Nat) (v : List Int64) : aL (sQ α f i v) = aL α := rfl
theorem aB_sN (α : sA) (f i v : Nat) : aB (sN α f i v) = aB α := rfl
theorem aB_sI (α : sA) (f i : Nat) (v : Int32) : aB (sI α f i v) = aB α := rfl
theorem aB_sL (α : sA) (f i : Nat) (v : Int64) : aB (sL α f i v) = aB α := rfl
theorem aB_sB (α : sA) (B : List sBr) : aB (sB α B) = B := rfl
theorem aB_sQ (α : sA) (f i : Nat) (v : List Int64) : aB (sQ α f i v) = aB α := rfl
theorem aQ_sN (α : sA) (f i v : Nat) : aQ (sN α f i v) = aQ α := rfl
theorem aQ_sI (α : sA) (f i : Nat) (v : Int32) : aQ (sI α f i v) = aQ α := rfl
theorem aQ_sL (α : sA) (f i : Nat) (v : Int64) : aQ (sL α f i v) = aQ α := rfl
theorem aQ_sB (α : sA) (B : List sBr) : aQ (sB α B) = aQ α := rfl
theorem aQ_sQ (α : sA) (f i : Nat) (v : List Int64) (g j : Nat) : aQ (sQ α f i v) g j = if g = f ∧ j = i then v else aQ α g j := rfl
/- N: 0 cells, 1 portables, 2 beacon c, 3 place p, 4 reach pl, 5 noise 120 w + ch, 6 time, 7 heard in all p
   I: 0 entered p, 1 state p, 2 partner p, 3 since p, 4: (0 made, 1 actives, 2 ended, 3 handovers, 4 ups, 5 heard), 5 refusals k
   L: 0 key p, 1 exchange's key p, 2: (0 air up, 1 air down);  Q: 0 said p, 1 waiting p, 2 kept p
   a bearer: of, at, channel, fails, good -/
abbrev nCell (α : sA) : Nat := aN α 0 0
abbrev nPort (α : sA) : Nat := aN α 1 0
abbrev bOf (x : sBr) : Nat := x.1
abbrev bAt (x : sBr) : Nat := x.2.1
abbrev bCh (x : sBr) : Nat := x.2.2.1
abbrev bFl (x : sBr) : Int32 := x.2.2.2.1
abbrev bGd (x : sBr) : Bool := x.2.2.2.2
def pReach (α : sA) (c pl : Nat) : Bool := (aN α 4 pl).testBit c
def pSends (α : sA) (c ch : Nat) : Bool := decide (aN α 2 c = ch) || (aB α).any (fun x => decide (bAt x = c) && decide (bCh x = ch))
def pTalks (α : sA) (q ch : Nat) : Bool := (aB α).any (fun x => decide (bOf x = q) && decide (bCh x = ch))
def pCnt (f : Nat → Bool) : Nat → Nat
  | 0 => 0
  | k + 1 => pCnt f k + (if f k then 1 else 0)
def pOSend (α : sA) (c pl ch : Nat) : Nat := pCnt (fun d => decide (d ≠ c) && (pReach α d pl && pSends α d ch)) (nCell α)
def pOTalk (α : sA) (p c ch : Nat) : Nat := pCnt (fun q => decide (q ≠ p) && (pTalks α q ch && pReach α c (aN α 3 q))) (nPort α)
def pHAt (α : sA) (pl c ch : Nat) : Bool := pReach α c pl && (decide (aN α 5 (120 * pl + ch) = 0) && decide (pOSend α c pl ch = 0))
def pHBy (α : sA) (c p ch : Nat) : Bool := pReach α c (aN α 3 p) && (decide (aN α 5 (120 * (16 + c) + ch) = 0) && decide (pOTalk α p c ch = 0))
def pLev (α : sA) (p c ch : Nat) : Nat := (if aN α 5 (120 * aN α 3 p + ch) = 0 then 0 else 4) + (if aN α 5 (120 * (16 + c) + ch) = 0 then 0 else 4) + pOSend α c (aN α 3 p) ch + pOTalk α p c ch
def pNb (α : sA) (p : Nat) : Nat := (aB α).countP (fun x => decide (bOf x = p))
def pFst (α : sA) (p : Nat) : Option sBr := (aB α).find? (fun x => decide (bOf x = p))
def pHo (α : sA) (p : Nat) : Bool := decide (pNb α p = 1) && (match pFst α p with
  | some x => decide ((3 : Int32) ≤ bFl x)
  | none => false)
def pGood (α : sA) (p : Nat) : Bool := (aB α).any (fun x => decide (bOf x = p) && bGd x)
def pTaken (α : sA) (p c slot : Nat) : Bool := decide (aN α 2 c / 10 = slot) || (aB α).any (fun x => (decide (bAt x = c) || decide (bOf x = p)) && decide (bCh x / 10 = slot))
def pMix (key n : Int64) : Int64 :=
  let x := key ^^^ (n * 7046029254386353131)
  let x := (x ^^^ ((x.toUInt64 >>> ((29 : Int32).toInt64.toUInt64 &&& Int64.toUInt64 63)).toInt64)) * (-4658895280553007687)
  (x ^^^ ((x.toUInt64 >>> ((29 : Int32).toInt64.toUInt64 &&& Int64.toUInt64 63)).toInt64)) * (-4658895280553007687)
/-- the first of the numbers below n -/
def pFind (f : Nat → Bool) : Nat → Option Nat
  | 0 => none
  | k + 1 => match pFind f k with
    | some c => some c
    | none => if f k then some k else none
def pOwn (α : sA) (p : Nat) : Option Nat := if pHo α p then (pFst α p).map bAt else none
def pBest (α : sA) (p : Nat) : Option Nat :=
  match pFind (fun c => decide (pOwn α p ≠ some c) && pHAt α (aN α 3 p) c (aN α 2 c)) (nCell α) with
  | some c => some c
  | none => match pOwn α p with
    | some c => if pHAt α (aN α 3 p) c (aN α 2 c) then some c else none
    | none => none
def pLv (α : sA) (p c ch : Nat) : Nat := if pTaken α p c (ch / 10) then 4 else pLev α p c ch
def pChan (α : sA) (p c : Nat) : Nat → Option Nat × Nat
  | 0 => (none, 4)
  | k + 1 => if pLv α p c k < (pChan α p c k).2 then (some k, pLv α p c k) else pChan α p c k
def pCh (α : sA) (p c : Nat) : Option Nat := (pChan α p c 120).1
def pDue (α : sA) (p : Nat) : Bool := decide ((nI (aN α 6 0) - nI p) - (nI (aN α 6 0) - nI p) / 4 * 4 = 0)
def pWants (α : sA) (p : Nat) : Bool := pHo α p || ((decide (aI α 1 p = 1) || decide (aI α 1 p = 4)) && decide (pNb α p = 0))
def pAdd (α : sA) (p c ch : Nat) : sA := sI (sB α (aB α ++ [(p, c, ch, 0, false)])) 4 0 (aI α 4 0 + 1)
def pSetUp (α : sA) (p : Nat) : sA := if pWants α p && pDue α p then
    (match pBest α p with
    | some c => (match pCh α p c with
      | some ch => pAdd α p c ch
      | none => α)
    | none => α)
  else α
def pIsG (α : sA) (x : sBr) : Bool := pHAt α (aN α 3 (bOf x)) (bAt x) (bCh x) && pHBy α (bAt x) (bOf x) (bCh x)
def pSent (α : sA) (x : sBr) : sBr := (bOf x, bAt x, bCh x, if pIsG α x then 0 else bFl x + 1, pIsG α x)
def pSend (α : sA) : sA := sB α ((aB α).map (pSent α))
def pDropF (α : sA) : sA := sB α ((aB α).filter (fun x => !decide ((8 : Int32) ≤ bFl x)))
def pRmFst (p : Nat) : List sBr → List sBr
  | [] => []
  | x :: t => if bOf x = p then t else x :: pRmFst p t
def pLast (α : sA) (p : Nat) : Option sBr := (aB α).reverse.find? (fun x => decide (bOf x = p))
def pHandC (α : sA) (p : Nat) : Bool := decide (pNb α p = 2) && (match pLast α p with
  | some x => bGd x
  | none => false)
def pHand (α : sA) (p : Nat) : sA := if pHandC α p then sI (sB α (pRmFst p (aB α))) 4 3 (aI α 4 3 + 1) else α
def pIdle (α : sA) (p : Nat) : sA := sB (sQ (sQ (sI (sI α 1 p 0) 2 p (-9)) 0 p []) 1 p []) ((aB α).filter (fun x => !decide (bOf x = p)))
def pPar (α : sA) (p : Nat) : Nat := (aI α 2 p).toNatClampNeg
def pCaller (s : Int32) : Bool := decide (1 ≤ s) && decide (s ≤ 3)
def pCalled (s : Int32) : Bool := decide (4 ≤ s) && decide (s ≤ 6)
def pBoth (s t : Int32) : Bool := (decide (s = 7) && decide (t = 7)) || ((pCaller s && pCalled t) || (pCalled s && pCaller t))
def pTog (α : sA) (p : Nat) : Bool := decide (aI α 2 (pPar α p) = nI p) && pBoth (aI α 1 p) (aI α 1 (pPar α p))
def pEnded (α : sA) : sA := sI α 4 2 (aI α 4 2 + 1)
def pEnds (α : sA) (p : Nat) : sA := pEnded (if pTog α p then pIdle (pIdle α p) (pPar α p) else pIdle α p)
def pNoB (α : sA) (p : Nat) : sA := if (decide (aI α 1 p ≠ 0) && (decide (aI α 1 p ≠ 1) && decide (aI α 1 p ≠ 4))) && decide (pNb α p = 0) then pEnds α p else α
def pProven (α : sA) (p : Nat) : Bool := decide (pMix (aL α 0 p) ((nI (aN α 6 0)).toInt64) = pMix (aL α 1 p) ((nI (aN α 6 0)).toInt64))
def pPage (α : sA) (p : Nat) : sA := if decide (aI α 1 (pPar α p) = 0) && decide (aI α 0 (pPar α p) ≠ 0) then sI (sI (sI (sI α 1 p 3) 1 (pPar α p) 4) 2 (pPar α p) (nI p)) 3 (pPar α p) (nI (aN α 6 0)) else pEnds (sI α 1 p 3) p
def pCall (α : sA) (p : Nat) : sA :=
  if pGood α p then
    (if aI α 1 p = 1 then sI α 1 p 2
    else if aI α 1 p = 4 then sI α 1 p 5
    else if aI α 1 p = 2 then (if pProven α p then pPage α p else pEnds α p)
    else if aI α 1 p = 5 then (if pProven α p then sI α 1 p 6 else pEnds α p)
    else α)
  else α
def pUpB (α : sA) (p : Nat) (v : Int64) : Int64 := v ^^^ pMix (aL α 0 p) ((nI (aN α 6 0)).toInt64)
def pUp (α : sA) (p : Nat) : sA :=
  if decide (aI α 1 p = 7) && pGood α p then
    (match aQ α 0 p with
    | [] => α
    | v :: t =>
      let β := sI (sQ (sL α 2 0 (pUpB α p v)) 0 p t) 4 4 (aI α 4 4 + 1)
      if (aQ α 1 (pPar α p)).length < 16 then sQ β 1 (pPar α p) (aQ α 1 (pPar α p) ++ [pUpB α p v ^^^ pMix (aL α 1 p) ((nI (aN α 6 0)).toInt64)]) else β)
  else α
def pKeep (q : List Int64) (v : Int64) : List Int64 := if q.length < 20 then q ++ [v] else q.tail ++ [v]
def pDnB (α : sA) (p : Nat) (v : Int64) : Int64 := v ^^^ pMix (aL α 1 p) ((nI (aN α 6 0)).toInt64 + 1000000)
def pDown (rd : Nat → Nat) (α : sA) (p : Nat) : sA :=
  if (decide (aI α 1 p = 7) && pGood α p) && decide (rd p ≠ 0) then
    (match aQ α 1 p with
    | [] => α
    | v :: t => sI (sN (sQ (sQ (sL α 2 1 (pDnB α p v)) 1 p t) 2 p (pKeep (aQ α 2 p) (pDnB α p v ^^^ pMix (aL α 0 p) ((nI (aN α 6 0)).toInt64 + 1000000)))) 7 p (aN α 7 p + 1)) 4 5 (aI α 4 5 + 1))
  else α
def pPend (s : Int32) : Bool := decide (1 ≤ s) && decide (s ≤ 6)
def pOld (α : sA) (p : Nat) : sA := if pPend (aI α 1 p) && decide ((200 : Int32) < nI (aN α 6 0) - aI α 3 p) then pEnds α p else α
def pAll (f : sA → Nat → sA) (α : sA) : Nat → sA
  | 0 => α
  | k + 1 => f (pAll f α k) k
def pAllP (f : sA → Nat → sA) (α : sA) : sA := pAll f α (nPort α)
def pTick (α : sA) : sA := sN α 6 0 (aN α 6 0 + 1)
def pCalls (α : sA) : sA := pAllP pCall (pAllP pNoB (pAllP pHand (pDropF (pSend (pAllP pSetUp (pTick α))))))
def pVoice (α : sA) : sA := pAllP (pDown (fun p => (aQ α 1 p).length)) (pAllP pUp α)
def pFrame (α : sA) : sA := pAllP pOld (pVoice (pCalls α))
def pFrames (α : sA) : Nat → sA
  | 0 => α
  | k + 1 => pFrame (pFrames α k)
/-! the public calls: the answer and what comes of it -/
def pRef (α : sA) (w : Nat) : Int32 × sA := (-(nI w), sI α 5 w (aI α 5 w + 1))
def pIn (x : Int32) (n : Nat) : Bool := decide (0 ≤ x) && decide (x < nI n)
def oCell (α : sA) (ch : Int32) : Int32 × sA := if !pIn ch 120 then pRef α 1 else if nCell α = 4 then pRef α 6 else (nI (nCell α), sN (sN α 2 (nCell α) ch.toNatClampNeg) 0 0 (nCell α + 1))
def oPortable (α : sA) (pl : Int32) (key : Int64) : Int32 × sA := if !pIn pl 16 then pRef α 1 else if nPort α = 8 then pRef α 6 else (nI (nPort α), sN (sI (sL (sN α 3 (nPort α) pl.toNatClampNeg) 0 (nPort α) key) 2 (nPort α) (-9)) 1 0 (nPort α + 1))
def oReach (α : sA) (pl bits : Int32) : Int32 × sA := if !pIn pl 16 then pRef α 1 else if bits < 0 then pRef α 4 else if 15 < bits then pRef α 6 else (nI (aN α 4 pl.toNatClampNeg), sN α 4 pl.toNatClampNeg bits.toNatClampNeg)
def oNoise (α : sA) (w ch on : Int32) : Int32 × sA := if pIn w (16 + nCell α) && pIn ch 120 && decide (nI (aN α 5 (120 * w.toNatClampNeg + ch.toNatClampNeg)) ≠ on) then (1, sN α 5 (120 * w.toNatClampNeg + ch.toNatClampNeg) on.toNatClampNeg) else (0, α)
def oGo (α : sA) (p pl : Int32) : Int32 × sA := if !(pIn p (nPort α) && pIn pl 16) then pRef α 1 else (nI (aN α 3 p.toNatClampNeg), sN α 3 p.toNatClampNeg pl.toNatClampNeg)
def oEnter (α : sA) (p : Int32) (key : Int64) : Int32 × sA := if !pIn p (nPort α) then pRef α 1 else if aI α 1 p.toNatClampNeg ≠ 0 then pRef α 2 else (1, sL (sI α 0 p.toNatClampNeg 1) 1 p.toNatClampNeg key)
def oDial (α : sA) (p q : Int32) : Int32 × sA := if !(pIn p (nPort α) && (pIn q (nPort α) && decide (p ≠ q))) then pRef α 1 else if aI α 1 p.toNatClampNeg ≠ 0 then pRef α 2 else if aI α 0 p.toNatClampNeg = 0 ∨ aI α 0 q.toNatClampNeg = 0 then pRef α 3 else (1, sI (sI (sI α 1 p.toNatClampNeg 1) 2 p.toNatClampNeg q) 3 p.toNatClampNeg (nI (aN α 6 0)))
def oAnswer (α : sA) (p : Int32) : Int32 × sA := if !pIn p (nPort α) then pRef α 1 else if aI α 1 p.toNatClampNeg ≠ 6 then pRef α 2 else (1, sI (sI (sI α 1 p.toNatClampNeg 7) 1 (pPar α p.toNatClampNeg) 7) 4 1 (aI α 4 1 + 1))
def oHang (α : sA) (p : Int32) : Int32 × sA := if !pIn p (nPort α) then pRef α 1 else if aI α 1 p.toNatClampNeg = 0 then pRef α 2 else (1, pEnds α p.toNatClampNeg)
def oSay (α : sA) (p : Int32) (v : Int64) : Int32 × sA := if !pIn p (nPort α) then pRef α 1 else if aI α 1 p.toNatClampNeg ≠ 7 then pRef α 2 else if (aQ α 0 p.toNatClampNeg).length = 8 then pRef α 6 else (nI ((aQ α 0 p.toNatClampNeg).length + 1), sQ α 0 p.toNatClampNeg (aQ α 0 p.toNatClampNeg ++ [v]))
def oFrames (α : sA) (n : Int32) : Int32 × sA := if n < 1 then pRef α 4 else if 1000 < n ∨ 100000 < nI (aN α 6 0) + n then pRef α 6 else (aI (pFrames α n.toNatClampNeg) 4 5 - aI α 4 5, pFrames α n.toNatClampNeg)
def oHeard (α : sA) (p i : Int32) : Int64 := if pIn p (nPort α) && pIn i (aQ α 2 p.toNatClampNeg).length then (aQ α 2 p.toNatClampNeg).getD i.toNatClampNeg 0 else 0
def oPOf (α : sA) (p what : Int32) : Int32 := if !pIn p (nPort α) then -9 else
  if what = 0 then aI α 1 p.toNatClampNeg else if what = 1 then nI (aN α 3 p.toNatClampNeg) else if what = 2 then aI α 2 p.toNatClampNeg else if what = 3 then nI (pNb α p.toNatClampNeg) else if what = 4 then bI (pHo α p.toNatClampNeg)
  else if what = 5 then nI (aQ α 0 p.toNatClampNeg).length else if what = 6 then nI (aQ α 1 p.toNatClampNeg).length else if what = 7 then nI (aN α 7 p.toNatClampNeg) else if what = 8 then aI α 0 p.toNatClampNeg
  else if what = 9 then (if pPend (aI α 1 p.toNatClampNeg) then nI (aN α 6 0) - aI α 3 p.toNatClampNeg else 0) else -9
def oBearer (α : sA) (i what : Int32) : Int32 := if !pIn i (aB α).length then -9 else
  match (aB α)[i.toNatClampNeg]? with
  | none => -9
  | some x => if what = 0 then nI (bOf x) else if what = 1 then nI (bAt x) else if what = 2 then nI (bCh x) else if what = 3 then bFl x else if what = 4 then bI (bGd x) else -9
def oLevel (α : sA) (p c ch : Int32) : Int32 × sA := if pIn p (nPort α) && (pIn c (nCell α) && pIn ch 120) then (nI (pLev α p.toNatClampNeg c.toNatClampNeg ch.toNatClampNeg), α) else pRef α 1
def oBeacon (α : sA) (c pl : Int32) : Int32 := bI (pIn c (nCell α) && (pIn pl 16 && pHAt α pl.toNatClampNeg c.toNatClampNeg (aN α 2 c.toNatClampNeg)))
def oAir (α : sA) (what : Int32) : Int64 := if what = 0 then aL α 2 0 else if what = 1 then aL α 2 1 else 0
def oCount (α : sA) (what : Int32) : Int32 := if what = 0 then nI (aN α 6 0) else if what = 1 then nI (nCell α) else if what = 2 then nI (nPort α) else if what = 3 then nI (aB α).length else if what = 4 then aI α 4 0 else if what = 5 then aI α 4 1 else if what = 6 then aI α 4 2 else if what = 7 then aI α 4 3 else if what = 8 then aI α 4 4
  else if 11 ≤ what ∧ what ≤ 16 then aI α 5 (what - 10).toNatClampNeg else -9
end
section
/-! how the reference's cells hold a state -/
def md_lN (f i : Nat) : Nat × Nat := match f with
  | 0 => (27, 0) | 1 => (27, 2) | 2 => (28, i) | 3 => (29, i) | 4 => (36, i) | 5 => (37, i) | 6 => (27, 26) | _ => (47, i)
def md_bN (f : Nat) : Nat := match f with
  | 0 => 1 | 1 => 1 | 2 => 4 | 3 => 8 | 4 => 16 | 5 => 2400 | 6 => 1 | 7 => 8 | _ => 0
def md_lI (f i : Nat) : Nat × Nat := match f with
  | 0 => (31, i) | 1 => (33, i) | 2 => (34, i) | 3 => (35, i) | 4 => (27, 27 + i) | _ => (49, i)
def md_bI (f : Nat) : Nat := match f with
  | 0 => 8 | 1 => 8 | 2 => 8 | 3 => 8 | 4 => 5 | 5 => 7 | _ => 0
def md_lL (f i : Nat) : Nat × Nat := match f with
  | 0 => (30, i) | 1 => (32, i) | _ => (27, 24 + i)
def md_bL (f : Nat) : Nat := match f with
  | 0 => 8 | 1 => 8 | 2 => 2 | _ => 0
def md_B (B : List sBr) (σ : hm_M) : Prop := hm_I σ 27 12 = nI B.length ∧ ∀ (b : Nat) (x : sBr), B[b]? = some x → hm_I σ 38 b = nI (bOf x) ∧ hm_I σ 39 b = nI (bAt x) ∧ hm_I σ 40 b = nI (bCh x) ∧ hm_I σ 41 b = bFl x ∧ hm_I σ 42 b = bI (bGd x)
def md_Q (α : sA) (σ : hm_M) : Prop := ∀ p, p < 8 → hm_I σ 43 p = nI (aQ α 0 p).length ∧ hm_I σ 45 p = nI (aQ α 1 p).length ∧ (∀ k v, (aQ α 0 p)[k]? = some v → hm_L σ 44 (8 * p + k) = v) ∧ (∀ k v, (aQ α 1 p)[k]? = some v → hm_L σ 46 (16 * p + k) = v) ∧ (∀ k v, (aQ α 2 p)[k]? = some v → hm_L σ 48 (20 * p + k) = v)
def rM (α : sA) (σ : hm_M) : Prop := md_M σ ∧ (∀ f i, i < md_bN f → hm_I σ (md_lN f i).1 (md_lN f i).2 = nI (aN α f i)) ∧ (∀ f i, i < md_bI f → hm_I σ (md_lI f i).1 (md_lI f i).2 = aI α f i) ∧ (∀ f i, i < md_bL f → hm_L σ (md_lL f i).1 (md_lL f i).2 = aL α f i) ∧ md_B (aB α) σ ∧ md_Q α σ
theorem rM.m {α : sA} {σ : hm_M} (h : rM α σ) : md_M σ := h.1
theorem rM.n {α : sA} {σ : hm_M} (h : rM α σ) (f i : Nat) (hi : i < md_bN f) : hm_I σ (md_lN f i).1 (md_lN f i).2 = nI (aN α f i) := h.2.1 f i hi
theorem rM.i {α : sA} {σ : hm_M} (h : rM α σ) (f i : Nat) (hi : i < md_bI f) : hm_I σ (md_lI f i).1 (md_lI f i).2 = aI α f i := h.2.2.1 f i hi
theorem rM.l {α : sA} {σ : hm_M} (h : rM α σ) (f i : Nat) (hi : i < md_bL f) : hm_L σ (md_lL f i).1 (md_lL f i).2 = aL α f i := h.2.2.2.1 f i hi
theorem rM.b {α : sA} {σ : hm_M} (h : rM α σ) : md_B (aB α) σ := h.2.2.2.2.1
theorem rM.q {α : sA} {σ : hm_M} (h : rM α σ) : md_Q α σ := h.2.2.2.2.2
theorem md_lN_inj {f i g j : Nat} (hi : i < md_bN f) (hj : j < md_bN g) (h : md_lN f i = md_lN g j) : f = g ∧ i = j := by
  match f, g with
  | 0, 0 | 0, 1 | 0, 2 | 0, 3 | 0, 4 | 0, 5 | 0, 6 | 0, 7 | 1, 0 | 1, 1 | 1, 2 | 1, 3 | 1, 4 | 1, 5 | 1, 6 | 1, 7 | 2, 0 | 2, 1 | 2, 2 | 2, 3 | 2, 4 | 2, 5 | 2, 6 | 2, 7 | 3, 0 | 3, 1 | 3, 2 | 3, 3 | 3, 4 | 3, 5 | 3, 6 | 3, 7
  | 4, 0 | 4, 1 | 4, 2 | 4, 3 | 4, 4 | 4, 5 | 4, 6 | 4, 7 | 5, 0 | 5, 1 | 5, 2 | 5, 3 | 5, 4 | 5, 5 | 5, 6 | 5, 7 | 6, 0 | 6, 1 | 6, 2 | 6, 3 | 6, 4 | 6, 5 | 6, 6 | 6, 7 | 7, 0 | 7, 1 | 7, 2 | 7, 3 | 7, 4 | 7, 5 | 7, 6 | 7, 7 => simp [md_lN, md_bN] at * <;> omega
  | _ + 8, _ => simp [md_bN] at hi
  | _, _ + 8 => simp [md_bN] at hj
theorem md_lI_inj {f i g j : Nat} (hi : i < md_bI f) (hj : j < md_bI g) (h : md_lI f i = md_lI g j) : f = g ∧ i = j := by
  match f, g with
  | 0, 0 | 0, 1 | 0, 2 | 0, 3 | 0, 4 | 0, 5 | 1, 0 | 1, 1 | 1, 2 | 1, 3 | 1, 4 | 1, 5 | 2, 0 | 2, 1 | 2, 2 | 2, 3 | 2, 4 | 2, 5 | 3, 0 | 3, 1 | 3, 2 | 3, 3 | 3, 4 | 3, 5
  | 4, 0 | 4, 1 | 4, 2 | 4, 3 | 4, 4 | 4, 5 | 5, 0 | 5, 1 | 5, 2 | 5, 3 | 5, 4 | 5, 5 => simp [md_lI, md_bI] at * <;> omega
  | _ + 6, _ => simp [md_bI] at hi
  | _, _ + 6 => simp [md_bI] at hj
theorem md_lL_inj {f i g j : Nat} (hi : i < md_bL f) (hj : j < md_bL g) (h : md_lL f i = md_lL g j) : f = g ∧ i = j := by
  match f, g with
  | 0, 0 | 0, 1 | 0, 2 | 1, 0 | 1, 1 | 1, 2 | 2, 0 | 2, 1 | 2, 2 => simp [md_lL, md_bL] at * <;> omega
  | _ + 3, _ => simp [md_bL] at hi
  | _, _ + 3 => simp [md_bL] at hj
theorem md_lN_lI {f i g j : Nat} (hi : i < md_bN f) (hj : j < md_bI g) : md_lN f i ≠ md_lI g j := by
  match f, g with
  | 0, 0 | 0, 1 | 0, 2 | 0, 3 | 0, 4 | 0, 5 | 1, 0 | 1, 1 | 1, 2 | 1, 3 | 1, 4 | 1, 5 | 2, 0 | 2, 1 | 2, 2 | 2, 3 | 2, 4 | 2, 5 | 3, 0 | 3, 1 | 3, 2 | 3, 3 | 3, 4 | 3, 5
  | 4, 0 | 4, 1 | 4, 2 | 4, 3 | 4, 4 | 4, 5 | 5, 0 | 5, 1 | 5, 2 | 5, 3 | 5, 4 | 5, 5 | 6, 0 | 6, 1 | 6, 2 | 6, 3 | 6, 4 | 6, 5 | 7, 0 | 7, 1 | 7, 2 | 7, 3 | 7, 4 | 7, 5 => simp [md_lN, md_lI, md_bN, md_bI] at * <;> omega
  | _ + 8, _ => simp [md_bN] at hi
  | _, _ + 6 => simp [md_bI] at hj
/-- a place that holds neither bearers nor voice -/
def md_sc (q : Nat × Nat) : Prop := q.1 ≠ 38 ∧ q.1 ≠ 39 ∧ q.1 ≠ 40 ∧ q.1 ≠ 41 ∧ q.1 ≠ 42 ∧ q.1 ≠ 43 ∧ q.1 ≠ 45 ∧ q.1 ≠ 44 ∧ q.1 ≠ 46 ∧ q.1 ≠ 48 ∧ q.1 ≠ 50 ∧ q.1 ≠ 51 ∧ 27 ≤ q.1 ∧ q.1 < 52 ∧ q ≠ (27, 12)
theorem md_lN_sc {f i : Nat} (hi : i < md_bN f) : md_sc (md_lN f i) := by
  match f with
  | 0 | 1 | 2 | 3 | 4 | 5 | 6 | 7 => simp [md_lN, md_sc]
  | _ + 8 => simp [md_bN] at hi
theorem md_lI_sc {f i : Nat} (hi : i < md_bI f) : md_sc (md_lI f i) := by
  match f with
  | 0 | 1 | 2 | 3 | 4 | 5 => simp [md_lI, md_sc, md_bI] at * <;> omega
  | _ + 6 => simp [md_bI] at hi
theorem md_lL_sc {f i : Nat} (hi : i < md_bL f) : md_sc (md_lL f i) := by
  match f with
  | 0 | 1 | 2 => simp [md_lL, md_sc, md_bL] at * <;> omega
  | _ + 3 => simp [md_bL] at hi
theorem md_B_wI {B : List sBr} {σ : hm_M} {a k : Nat} {v : Int32} (h : md_B B σ) (hs : md_sc (a, k)) : md_B B (hm_wI σ a k v) := by
  obtain ⟨h1, h2⟩ := h
  obtain ⟨s1, s2, s3, s4, s5, -, -, -, -, -, -, -, -, -, s6⟩ := hs
  refine ⟨?_, fun b x hb => ?_⟩
  · rw [hm_I_wI, if_neg (fun q => s6 (by rw [← q.1, ← q.2]))]; exact h1
  · obtain ⟨e1, e2, e3, e4, e5⟩ := h2 b x hb
    refine ⟨?_, ?_, ?_, ?_, ?_⟩ <;> rw [hm_I_wI, if_neg (fun q => by first | exact s1 q.1.symm | exact s2 q.1.symm | exact s3 q.1.symm | exact s4 q.1.symm | exact s5 q.1.symm)] <;> assumption
theorem md_Q_wI {α : sA} {σ : hm_M} {a k : Nat} {v : Int32} (h : md_Q α σ) (hs : md_sc (a, k)) : md_Q α (hm_wI σ a k v) := by
  intro p hp
  obtain ⟨e1, e2, e3, e4, e5⟩ := h p hp
  obtain ⟨-, -, -, -, -, s6, s7, -⟩ := hs
  refine ⟨?_, ?_, e3, e4, e5⟩
  · rw [hm_I_wI, if_neg (fun q => s6 q.1.symm)]; exact e1
  · rw [hm_I_wI, if_neg (fun q => s7 q.1.symm)]; exact e2
theorem rM.upN {α : sA} {σ : hm_M} (h : rM α σ) (f i v : Nat) (hi : i < md_bN f) : rM (sN α f i v) (hm_wI σ (md_lN f i).1 (md_lN f i).2 (nI v)) := by
  refine ⟨h.1, fun g j hj => ?_, fun g j hj => ?_, h.2.2.2.1, md_B_wI h.b (md_lN_sc hi), md_Q_wI h.q (md_lN_sc hi)⟩
  · rw [hm_I_wI, aN_sN]
    by_cases e : g = f ∧ j = i
    · rw [if_pos e, if_pos (by rw [e.1, e.2]; exact ⟨rfl, rfl⟩)]
    · rw [if_neg e, if_neg (fun q => e (md_lN_inj hj hi (Prod.ext q.1 q.2)))]
      exact h.n g j hj
  · rw [hm_I_wI, if_neg (fun q => md_lN_lI hi hj (Prod.ext q.1.symm q.2.symm))]
    exact h.i g j hj
theorem rM.upI {α : sA} {σ : hm_M} (h : rM α σ) (f i : Nat) (v : Int32) (hi : i < md_bI f) : rM (sI α f i v) (hm_wI σ (md_lI f i).1 (md_lI f i).2 v) := by
  refine ⟨h.1, fun g j hj => ?_, fun g j hj => ?_, h.2.2.2.1, md_B_wI h.b (md_lI_sc hi), md_Q_wI h.q (md_lI_sc hi)⟩
  · rw [hm_I_wI, if_neg (fun q => md_lN_lI hj hi (Prod.ext q.1 q.2))]
    exact h.n g j hj
  · rw [hm_I_wI, aI_sI]
    by_cases e : g = f ∧ j = i
    · rw [if_pos e, if_pos (by rw [e.1, e.2]; exact ⟨rfl, rfl⟩)]
    · rw [if_neg e, if_neg (fun q => e (md_lI_inj hj hi (Prod.ext q.1 q.2)))]
      exact h.i g j hj
theorem rM.upL {α : sA} {σ : hm_M} (h : rM α σ) (f i : Nat) (v : Int64) (hi : i < md_bL f) : rM (sL α f i v) (hm_wL σ (md_lL f i).1 (md_lL f i).2 v) := by
  obtain ⟨-, -, -, -, -, -, -, s8, s9, s10, -⟩ := md_lL_sc hi
  refine ⟨h.1, h.2.1, h.2.2.1, fun g j hj => ?_, h.b, fun p hp => ?_⟩
  · rw [hm_L_wL, aL_sL]
    by_cases e : g = f ∧ j = i
    · rw [if_pos e, if_pos (by rw [e.1, e.2]; exact ⟨rfl, rfl⟩)]
    · rw [if_neg e, if_neg (fun q => e (md_lL_inj hj hi (Prod.ext q.1 q.2)))]
      exact h.l g j hj
  · obtain ⟨e1, e2, e3, e4, e5⟩ := h.q p hp
    refine ⟨e1, e2, fun k v hv => ?_, fun k v hv => ?_, fun k v hv => ?_⟩
    · rw [hm_L_wL, if_neg (fun q => s8 q.1.symm)]; exact e3 k v hv
    · rw [hm_L_wL, if_neg (fun q => s9 q.1.symm)]; exact e4 k v hv
    · rw [hm_L_wL, if_neg (fun q => s10 q.1.symm)]; exact e5 k v hv
/-- (4, 5) isn't the reference's: it counts what was heard -/
theorem rM.upH {α : sA} {σ : hm_M} (h : rM α σ) (v : Int32) : rM (sI α 4 5 v) σ := by
  refine ⟨h.1, h.2.1, fun g j hj => ?_, h.2.2.2.1, h.b, h.q⟩
  rw [aI_sI, if_neg (fun q => by rw [q.1, q.2] at hj; exact absurd hj (by decide))]
  exact h.i g j hj
/-- what the reference's methods leave: all that isn't its own, and its two scratch arrays -/
def md_fr (σ τ : hm_M) : Prop := hm_n τ = hm_n σ ∧ hm_R τ = hm_R σ ∧ ∀ a k, (a < 27 ∨ 50 ≤ a) → hm_I τ a k = hm_I σ a k ∧ hm_L τ a k = hm_L σ a k
theorem md_fr.rf (σ : hm_M) : md_fr σ σ := ⟨rfl, rfl, fun _ _ _ => ⟨rfl, rfl⟩⟩
theorem md_fr.tr {σ τ ρ : hm_M} (h : md_fr σ τ) (h' : md_fr τ ρ) : md_fr σ ρ := ⟨h'.1.trans h.1, h'.2.1.trans h.2.1, fun a k ha => ⟨(h'.2.2 a k ha).1.trans (h.2.2 a k ha).1, (h'.2.2 a k ha).2.trans (h.2.2 a k ha).2⟩⟩
theorem md_fr.wI {σ τ : hm_M} (h : md_fr σ τ) (a k : Nat) (v : Int32) (ha : 27 ≤ a ∧ a < 50) : md_fr σ (hm_wI τ a k v) := ⟨h.1, h.2.1, fun b j hb => ⟨by rw [hm_I_wI, if_neg (fun q => by omega)]; exact (h.2.2 b j hb).1, (h.2.2 b j hb).2⟩⟩
theorem md_fr.wL {σ τ : hm_M} (h : md_fr σ τ) (a k : Nat) (v : Int64) (ha : 27 ≤ a ∧ a < 50) : md_fr σ (hm_wL τ a k v) := ⟨h.1, h.2.1, fun b j hb => ⟨(h.2.2 b j hb).1, by rw [hm_L_wL, if_neg (fun q => by omega)]; exact (h.2.2 b j hb).2⟩⟩
/-! what holds of every state that is reached -/
def sW (α : sA) : Prop :=
  (nCell α ≤ 4 ∧ nPort α ≤ 8 ∧ aN α 6 0 ≤ 100000) ∧
  ((∀ c, aN α 2 c < 120) ∧ (∀ p, aN α 3 p < 16) ∧ (∀ pl, aN α 4 pl < 16) ∧ (∀ j, aN α 5 j ≤ 1)) ∧
  (∀ x ∈ aB α, bOf x < nPort α ∧ bAt x < nCell α ∧ bCh x < 120 ∧ bCh x / 10 ≠ aN α 2 (bAt x) / 10) ∧
  ((aB α).Pairwise (fun x y => (bAt x = bAt y ∨ bOf x = bOf y) → bCh x / 10 ≠ bCh y / 10)) ∧
  (∀ p, pNb α p ≤ 2) ∧
  (∀ p, (aQ α 0 p).length ≤ 8 ∧ (aQ α 1 p).length ≤ 16 ∧ (aQ α 2 p).length = min (aN α 7 p) 20 ∧ aN α 7 p ≤ aN α 6 0) ∧
  (∀ p, aI α 0 p = 0 ∨ aI α 0 p = 1) ∧
  (∀ p, p < nPort α → (aI α 1 p = 0 ∧ aI α 2 p = -9) ∨ ((1 ≤ aI α 1 p ∧ aI α 1 p ≤ 7) ∧ aI α 0 p = 1 ∧ ∃ q, q < nPort α ∧ q ≠ p ∧ aI α 2 p = nI q)) ∧
  (∀ p, nPort α ≤ p → aI α 0 p = 0 ∧ aI α 1 p = 0 ∧ aI α 3 p = 0 ∧ aL α 1 p = 0 ∧ aQ α 0 p = [] ∧ aQ α 1 p = [] ∧ aQ α 2 p = [] ∧ aN α 7 p = 0)
end
section
/-! the reference's methods that only read -/
theorem sW.c4 {α : sA} (w : sW α) : nCell α ≤ 4 := w.1.1
theorem sW.p8 {α : sA} (w : sW α) : nPort α ≤ 8 := w.1.2.1
theorem sW.t {α : sA} (w : sW α) : aN α 6 0 ≤ 100000 := w.1.2.2
theorem sW.bc {α : sA} (w : sW α) (c : Nat) : aN α 2 c < 120 := w.2.1.1 c
theorem sW.pl {α : sA} (w : sW α) (p : Nat) : aN α 3 p < 16 := w.2.1.2.1 p
theorem sW.rc {α : sA} (w : sW α) (p : Nat) : aN α 4 p < 16 := w.2.1.2.2.1 p
theorem sW.nz {α : sA} (w : sW α) (j : Nat) : aN α 5 j ≤ 1 := w.2.1.2.2.2 j
theorem sW.x {α : sA} (w : sW α) {x : sBr} (h : x ∈ aB α) : bOf x < nPort α ∧ bAt x < nCell α ∧ bCh x < 120 ∧ bCh x / 10 ≠ aN α 2 (bAt x) / 10 := w.2.2.1 x h
theorem sW.xb {α : sA} (w : sW α) {b : Nat} {x : sBr} (h : (aB α)[b]? = some x) : bOf x < 8 ∧ bAt x < 4 ∧ bCh x < 120 := by
  have h1 := w.x (List.mem_of_getElem? h)
  have := w.c4
  have := w.p8
  omega
theorem sW.pw {α : sA} (w : sW α) : (aB α).Pairwise (fun x y => (bAt x = bAt y ∨ bOf x = bOf y) → bCh x / 10 ≠ bCh y / 10) := w.2.2.2.1
theorem sW.nb {α : sA} (w : sW α) (p : Nat) : pNb α p ≤ 2 := w.2.2.2.2.1 p
theorem sW.q {α : sA} (w : sW α) (p : Nat) : (aQ α 0 p).length ≤ 8 ∧ (aQ α 1 p).length ≤ 16 ∧ (aQ α 2 p).length = min (aN α 7 p) 20 ∧ aN α 7 p ≤ aN α 6 0 := w.2.2.2.2.2.1 p
theorem sW.en {α : sA} (w : sW α) (p : Nat) : aI α 0 p = 0 ∨ aI α 0 p = 1 := w.2.2.2.2.2.2.1 p
theorem sW.st {α : sA} (w : sW α) {p : Nat} (h : p < nPort α) : (aI α 1 p = 0 ∧ aI α 2 p = -9) ∨ ((1 ≤ aI α 1 p ∧ aI α 1 p ≤ 7) ∧ aI α 0 p = 1 ∧ ∃ q, q < nPort α ∧ q ≠ p ∧ aI α 2 p = nI q) := w.2.2.2.2.2.2.2.1 p h
theorem sW.len {α : sA} (w : sW α) : (aB α).length ≤ 16 := by
  have h := len2 bOf 8 (aB α) (fun x hx => by have := (w.x hx).1; have := w.p8; omega) w.nb
  omega
theorem bit16 : ∀ v, v < 16 → ∀ c, c < 4 → decide ((nI v >>> (nI c &&& 31)) &&& 1 = 1) = v.testBit c := by decide
section M3
variable (l : Launch) {α : sA} {σ : hm_M}
theorem r5_reaches (h : rM α σ) (w : sW α) {c pl : Nat} (hc : c < 4) (hp : pl < 16) : hm_Ct l yX5_reaches cX5_reaches 3 (some .boolean) 0 0 0 [.ref 27, .int (nI c), .int (nI pl)] σ (fun r τ => r = some (.int (bI (pReach α c pl))) ∧ τ = σ) := by
  refine (c5_reaches l σ h.m (nI c) pl hp).mono ?_
  rintro r τ ⟨rfl, rfl⟩
  refine ⟨?_, rfl⟩
  have e : hm_I τ 36 pl = nI (aN α 4 pl) := h.n 4 pl hp
  rw [e, bit16 _ (w.rc pl) _ hc]
  rfl
set_option maxRecDepth 100000 in
theorem r5_sends (h : rM α σ) (w : sW α) {c ch : Nat} (hc : c < 4) (hch : ch < 120) : hm_Ct l yX5_sends cX5_sends 5 (some .boolean) 0 0 0 [.ref 27, .int (nI c), .int (nI ch)] σ (fun r τ => r = some (.int (bI (pSends α c ch))) ∧ τ = σ) := by
  obtain ⟨hN, hM⟩ := h.m
  obtain ⟨hb1, hb2⟩ := h.b
  have hlen := w.len
  have e0 : hm_I σ 28 c = nI (aN α 2 c) := h.n 2 c hc
  have h0 := w.bc c
  have q0 : nI (aN α 2 c) = nI ch ↔ aN α 2 c = ch := nI_eq (by omega) (by omega)
  refine hm_startQ (ini := false) [.ref 27, .int (nI c), .int (nI ch), hm_u, hm_u] (by decide) (by decide) rfl (Nat.le_of_ble_eq_true rfl) (fun Q hQ => ?_)
  have hl : ∀ (k b : Nat) (v u : Int32), b + k = (aB α).length → v = bI (decide (aN α 2 c = ch) || ((aB α).take b).any (fun x => decide (bAt x = c) && decide (bCh x = ch))) → u = nI b → hm_V l RX5 cX5_sends 5 (some .boolean) false (hm_rm 0 0 0) 0 0 Q 0 0 19 [.ref 27, .int (nI c), .int (nI ch), .int v, .int u] [] σ := by
    intro k
    induction k with
    | zero =>
      intro b v u hk hv hu
      subst hu
      have hb : b = (aB α).length := by omega
      subst hb
      rw [List.take_length] at hv
      refine hm_iload dX5_sends_19 rfl ?_
      refine hm_aload_n dX5_sends_21 rfl ?_
      refine hm_getI lf_RX5_109 rfl rfl (by first | exact Nat.lt_of_lt_of_le (by decide) hN | assumption | (simp only [hm_n_wI, hm_n_wL, hm_n_wR, hm_n_g] at *; omega)) dX5_sends_22 ?_
      rw [hb1]
      refine hm_icmp_ge 66 dX5_sends_25 (by decide) (fun _ => ?_) (fun h25 => absurd (nI_le (Nat.le_refl _) (by omega)) h25)
      refine hm_iload_n dX5_sends_66 rfl ?_
      refine hm_zret dX5_sends_67 rfl (by decide) (by decide) (by rw [hv]; exact bI_01 _) ?_
      exact hQ _ _ ⟨by rw [hv]; rfl, rfl⟩
    | succ k ih =>
      intro b v u hk hv hu
      subst hu
      obtain ⟨x, hx⟩ : ∃ x, (aB α)[b]? = some x := ⟨_, List.getElem?_eq_getElem (by omega)⟩
      obtain ⟨e1, e2, e3, e4, e5⟩ := hb2 b x hx
      obtain ⟨x1, x2, x3⟩ := w.xb hx
      have q2 : nI (bAt x) = nI c ↔ bAt x = c := nI_eq (by omega) (by omega)
      have q3 : nI (bCh x) = nI ch ↔ bCh x = ch := nI_eq (by omega) (by omega)
      have ih2 := ih (b + 1)
      rw [any_take hx, ← Bool.or_assoc] at ih2
      generalize (decide (aN α 2 c = ch) || ((aB α).take b).any (fun x => decide (bAt x = c) && decide (bCh x = ch))) = A at hv ih2
      subst hv
      refine hm_iload dX5_sends_19 rfl ?_
      refine hm_aload_n dX5_sends_21 rfl ?_
      refine hm_getI lf_RX5_109 rfl rfl (by first | exact Nat.lt_of_lt_of_le (by decide) hN | assumption | (simp only [hm_n_wI, hm_n_wL, hm_n_wR, hm_n_g] at *; omega)) dX5_sends_22 ?_
      rw [hb1]
      refine hm_icmp_ge 66 dX5_sends_25 (by decide) (fun h25 => absurd h25 (nI_ge (by omega) (by omega))) (fun _ => ?_)
      refine hm_iload_n dX5_sends_28 rfl ?_
      refine hm_if_ne 54 dX5_sends_29 (by decide) (fun h29 => ?_) (fun h29 => ?_)
      · skip
        refine hm_iconst dX5_sends_54 (v := 1) (by decide) ?_
        refine hm_goto 59 dX5_sends_55 (by decide) ?_
        refine hm_istore_n dX5_sends_59 (by decide) rfl ?_
        refine hm_iinc dX5_sends_60 rfl _ rfl (by decide) rfl ?_
        refine hm_goto 19 dX5_sends_63 (by decide) ?_
        exact ih2 _ _ (by omega) (by cases A <;> simp_all [bI]) (hm_inc b)
      · skip
        refine hm_aload_n dX5_sends_32 rfl ?_
        refine hm_getR lf_RX5_45 rfl rfl (by first | exact Nat.lt_of_lt_of_le (by decide) hN | assumption | (simp only [hm_n_wI, hm_n_wL, hm_n_wR, hm_n_g] at *; omega)) (hM 14) dX5_sends_33 ?_
        refine hm_iload dX5_sends_36 rfl ?_
        refine hm_iald _ rfl (by first | exact Nat.lt_of_lt_of_le (by decide) hN | assumption | (simp only [hm_n_wI, hm_n_wL, hm_n_wR, hm_n_g] at *; omega)) rfl (by omega) (by decide) dX5_sends_38 ?_
        rw [e2]
        refine hm_iload_n dX5_sends_39 rfl ?_
        refine hm_icmp_ne 58 dX5_sends_40 (by decide) (fun h40 => ?_) (fun h40 => ?_)
        · skip
          rw [q2] at h40
          refine hm_iconst dX5_sends_58 (v := 0) (by decide) ?_
          refine hm_istore_n dX5_sends_59 (by decide) rfl ?_
          refine hm_iinc dX5_sends_60 rfl _ rfl (by decide) rfl ?_
          refine hm_goto 19 dX5_sends_63 (by decide) ?_
          exact ih2 _ _ (by omega) (by cases A <;> simp_all [bI]) (hm_inc b)
        · skip
          rw [q2] at h40
          refine hm_aload_n dX5_sends_43 rfl ?_
          refine hm_getR lf_RX5_48 rfl rfl (by first | exact Nat.lt_of_lt_of_le (by decide) hN | assumption | (simp only [hm_n_wI, hm_n_wL, hm_n_wR, hm_n_g] at *; omega)) (hM 15) dX5_sends_44 ?_
          refine hm_iload dX5_sends_47 rfl ?_
          refine hm_iald _ rfl (by first | exact Nat.lt_of_lt_of_le (by decide) hN | assumption | (simp only [hm_n_wI, hm_n_wL, hm_n_wR, hm_n_g] at *; omega)) rfl (by omega) (by decide) dX5_sends_49 ?_
          rw [e3]
          refine hm_iload_n dX5_sends_50 rfl ?_
          refine hm_icmp_ne 58 dX5_sends_51 (by decide) (fun h51 => ?_) (fun h51 => ?_)
          · skip
            rw [q3] at h51
            refine hm_iconst dX5_sends_58 (v := 0) (by decide) ?_
            refine hm_istore_n dX5_sends_59 (by decide) rfl ?_
            refine hm_iinc dX5_sends_60 rfl _ rfl (by decide) rfl ?_
            refine hm_goto 19 dX5_sends_63 (by decide) ?_
            exact ih2 _ _ (by omega) (by cases A <;> simp_all [bI]) (hm_inc b)
          · skip
            rw [q3] at h51
            refine hm_iconst dX5_sends_54 (v := 1) (by decide) ?_
            refine hm_goto 59 dX5_sends_55 (by decide) ?_
            refine hm_istore_n dX5_sends_59 (by decide) rfl ?_
            refine hm_iinc dX5_sends_60 rfl _ rfl (by decide) rfl ?_
            refine hm_goto 19 dX5_sends_63 (by decide) ?_
            exact ih2 _ _ (by omega) (by cases A <;> simp_all [bI]) (hm_inc b)
  refine hm_aload_n dX5_sends_0 rfl ?_
  refine hm_getR lf_RX5_7 rfl rfl (by first | exact Nat.lt_of_lt_of_le (by decide) hN | assumption | (simp only [hm_n_wI, hm_n_wL, hm_n_wR, hm_n_g] at *; omega)) (hM 1) dX5_sends_1 ?_
  refine hm_iload_n dX5_sends_4 rfl ?_
  refine hm_iald _ rfl (by first | exact Nat.lt_of_lt_of_le (by decide) hN | assumption | (simp only [hm_n_wI, hm_n_wL, hm_n_wR, hm_n_g] at *; omega)) rfl (by omega) (by decide) dX5_sends_5 ?_
  rw [e0]
  refine hm_iload_n dX5_sends_6 rfl ?_
  refine hm_icmp_ne 14 dX5_sends_7 (by decide) (fun h7 => ?_) (fun h7 => ?_)
  · skip
    rw [q0] at h7
    refine hm_iconst dX5_sends_14 (v := 0) (by decide) ?_
    refine hm_istore_n dX5_sends_15 (by decide) rfl ?_
    refine hm_iconst dX5_sends_16 (v := 0) (by decide) ?_
    refine hm_istore dX5_sends_17 (by decide) rfl ?_
    exact hl _ 0 _ _ (Nat.zero_add _) (by simp [bI, h7]) rfl
  · skip
    rw [q0] at h7
    refine hm_iconst dX5_sends_10 (v := 1) (by decide) ?_
    refine hm_goto 15 dX5_sends_11 (by decide) ?_
    refine hm_istore_n dX5_sends_15 (by decide) rfl ?_
    refine hm_iconst dX5_sends_16 (v := 0) (by decide) ?_
    refine hm_istore dX5_sends_17 (by decide) rfl ?_
    exact hl _ 0 _ _ (Nat.zero_add _) (by simp [bI, h7]) rfl
set_option maxRecDepth 100000 in
theorem r5_othersSending (h : rM α σ) (w : sW α) {c pl ch : Nat} (hc : c < 4) (hp : pl < 16) (hch : ch < 120) : hm_Ct l yX5_othersSending cX5_othersSending 6 (some .int) 1 0 0 [.ref 27, .int (nI c), .int (nI pl), .int (nI ch)] σ (fun r τ => r = some (.int (nI (pOSend α c pl ch))) ∧ τ = σ) := by
  obtain ⟨hN, hM⟩ := h.m
  have e0 : hm_I σ 27 0 = nI (nCell α) := h.n 0 0 (by decide)
  have h4 := w.c4
  refine hm_startQ (ini := false) [.ref 27, .int (nI c), .int (nI pl), .int (nI ch), hm_u, hm_u] (by decide) (by decide) rfl (Nat.le_of_ble_eq_true rfl) (fun Q hQ => ?_)
  have hl : ∀ (k d : Nat) (v u : Int32), d + k = nCell α → v = nI (pCnt (fun d => decide (d ≠ c) && (pReach α d pl && pSends α d ch)) d) → u = nI d → hm_V l RX5 cX5_othersSending 6 (some .int) false (hm_rm 1 0 0) 0 0 Q 0 0 6 [.ref 27, .int (nI c), .int (nI pl), .int (nI ch), .int v, .int u] [] σ := by
    intro k
    induction k with
    | zero =>
      intro d v u hk hv hu
      subst hu
      have hd : d = nCell α := by omega
      subst hd
      refine hm_iload dX5_othersSending_6 rfl ?_
      refine hm_aload_n dX5_othersSending_8 rfl ?_
      refine hm_getI lf_RX5_84 rfl rfl (by first | exact Nat.lt_of_lt_of_le (by decide) hN | assumption | (simp only [hm_n_wI, hm_n_wL, hm_n_wR, hm_n_g] at *; omega)) dX5_othersSending_9 ?_
      rw [e0]
      refine hm_icmp_ge 57 dX5_othersSending_12 (by decide) (fun _ => ?_) (fun h12 => absurd (nI_le (Nat.le_refl _) (by omega)) h12)
      refine hm_iload dX5_othersSending_57 rfl ?_
      refine hm_iret dX5_othersSending_59 rfl (by decide) (by decide) ?_
      exact hQ _ _ ⟨by rw [hv]; rfl, rfl⟩
    | succ k ih =>
      intro d v u hk hv hu
      subst hu
      have q2 : nI d = nI c ↔ d = c := nI_eq (by omega) (by omega)
      have ih2 := ih (d + 1)
      rw [pCnt] at ih2
      subst hv
      refine hm_iload dX5_othersSending_6 rfl ?_
      refine hm_aload_n dX5_othersSending_8 rfl ?_
      refine hm_getI lf_RX5_84 rfl rfl (by first | exact Nat.lt_of_lt_of_le (by decide) hN | assumption | (simp only [hm_n_wI, hm_n_wL, hm_n_wR, hm_n_g] at *; omega)) dX5_othersSending_9 ?_
      rw [e0]
      refine hm_icmp_ge 57 dX5_othersSending_12 (by decide) (fun h12 => absurd h12 (nI_ge (by omega) (by omega))) (fun _ => ?_)
      refine hm_iload dX5_othersSending_15 rfl ?_
      refine hm_iload dX5_othersSending_17 rfl ?_
      refine hm_iload_n dX5_othersSending_19 rfl ?_
      refine hm_icmp_eq 47 dX5_othersSending_20 (by decide) (fun h20 => ?_) (fun h20 => ?_)
      · skip
        rw [q2] at h20
        refine hm_iconst dX5_othersSending_47 (v := 0) (by decide) ?_
        refine hm_iadd dX5_othersSending_48 ?_
        refine hm_istore dX5_othersSending_49 (by decide) rfl ?_
        refine hm_iinc dX5_othersSending_51 rfl _ rfl (by decide) rfl ?_
        refine hm_goto 6 dX5_othersSending_54 (by decide) ?_
        exact ih2 _ _ (by omega) (by simp_all [nI_succ]) (hm_inc d)
      · skip
        rw [q2] at h20
        refine hm_aload_n dX5_othersSending_23 rfl ?_
        refine hm_iload dX5_othersSending_24 rfl ?_
        refine hm_iload_n dX5_othersSending_26 rfl ?_
        refine hm_callV lm_RX5_128 (r5_reaches l h w (by omega) hp) rfl rfl rfl rfl (by first | exact Nat.lt_of_lt_of_le (by decide) hN | assumption | (simp only [hm_n_wI, hm_n_wL, hm_n_wR, hm_n_g] at *; omega)) (by decide) (by decide) (Nat.le_of_ble_eq_true rfl) dX5_othersSending_27 ?_
        rintro _ _ ⟨rfl, rfl⟩
        refine hm_if_eq 47 dX5_othersSending_30 (by decide) (fun h30 => ?_) (fun h30 => ?_)
        · skip
          rw [bI_0] at h30
          refine hm_iconst dX5_othersSending_47 (v := 0) (by decide) ?_
          refine hm_iadd dX5_othersSending_48 ?_
          refine hm_istore dX5_othersSending_49 (by decide) rfl ?_
          refine hm_iinc dX5_othersSending_51 rfl _ rfl (by decide) rfl ?_
          refine hm_goto 6 dX5_othersSending_54 (by decide) ?_
          exact ih2 _ _ (by omega) (by simp_all [nI_succ]) (hm_inc d)
        · skip
          rw [bI_0] at h30
          refine hm_aload_n dX5_othersSending_33 rfl ?_
          refine hm_iload dX5_othersSending_34 rfl ?_
          refine hm_iload_n dX5_othersSending_36 rfl ?_
          refine hm_callV lm_RX5_132 (r5_sends l h w (by omega) hch) rfl rfl rfl rfl (by first | exact Nat.lt_of_lt_of_le (by decide) hN | assumption | (simp only [hm_n_wI, hm_n_wL, hm_n_wR, hm_n_g] at *; omega)) (by decide) (by decide) (Nat.le_of_ble_eq_true rfl) dX5_othersSending_37 ?_
          rintro _ _ ⟨rfl, rfl⟩
          refine hm_if_eq 47 dX5_othersSending_40 (by decide) (fun h40 => ?_) (fun h40 => ?_)
          · skip
            rw [bI_0] at h40
            refine hm_iconst dX5_othersSending_47 (v := 0) (by decide) ?_
            refine hm_iadd dX5_othersSending_48 ?_
            refine hm_istore dX5_othersSending_49 (by decide) rfl ?_
            refine hm_iinc dX5_othersSending_51 rfl _ rfl (by decide) rfl ?_
            refine hm_goto 6 dX5_othersSending_54 (by decide) ?_
            exact ih2 _ _ (by omega) (by simp_all [nI_succ]) (hm_inc d)
          · skip
            rw [bI_0] at h40
            refine hm_iconst dX5_othersSending_43 (v := 1) (by decide) ?_
            refine hm_goto 48 dX5_othersSending_44 (by decide) ?_
            refine hm_iadd dX5_othersSending_48 ?_
            refine hm_istore dX5_othersSending_49 (by decide) rfl ?_
            refine hm_iinc dX5_othersSending_51 rfl _ rfl (by decide) rfl ?_
            refine hm_goto 6 dX5_othersSending_54 (by decide) ?_
            exact ih2 _ _ (by omega) (by simp_all [nI_succ]) (hm_inc d)
  refine hm_iconst dX5_othersSending_0 (v := 0) (by decide) ?_
  refine hm_istore dX5_othersSending_1 (by decide) rfl ?_
  refine hm_iconst dX5_othersSending_3 (v := 0) (by decide) ?_
  refine hm_istore dX5_othersSending_4 (by decide) rfl ?_
  exact hl _ 0 _ _ (Nat.zero_add _) rfl rfl
set_option maxRecDepth 100000 in
theorem r5_othersTalking (h : rM α σ) (w : sW α) {p c ch : Nat} (hpp : p < 8) (hc : c < 4) (hch : ch < 120) : hm_Ct l yX5_othersTalking cX5_othersTalking 8 (some .int) 1 0 0 [.ref 27, .int (nI p), .int (nI c), .int (nI ch)] σ (fun r τ => r = some (.int (nI (pOTalk α p c ch))) ∧ τ = σ) := by
  obtain ⟨hN, hM⟩ := h.m
  obtain ⟨hb1, hb2⟩ := h.b
  have hlen := w.len
  have e0 : hm_I σ 27 2 = nI (nPort α) := h.n 1 0 (by decide)
  have h8 := w.p8
  refine hm_startQ (ini := false) [.ref 27, .int (nI p), .int (nI c), .int (nI ch), hm_u, hm_u, hm_u, hm_u] (by decide) (by decide) rfl (Nat.le_of_ble_eq_true rfl) (fun Q hQ => ?_)
  have hl : ∀ (k q : Nat) (v u : Int32) (y1 y2 : Value), q + k = nPort α → v = nI (pCnt (fun q => decide (q ≠ p) && (pTalks α q ch && pReach α c (aN α 3 q))) q) → u = nI q → hm_V l RX5 cX5_othersTalking 8 (some .int) false (hm_rm 1 0 0) 0 0 Q 0 0 6 [.ref 27, .int (nI p), .int (nI c), .int (nI ch), .int v, .int u, y1, y2] [] σ := by
    intro k
    induction k with
    | zero =>
      intro d v u y1 y2 hk hv hu
      subst hu
      have hd : d = nPort α := by omega
      subst hd
      refine hm_iload dX5_othersTalking_6 rfl ?_
      refine hm_aload_n dX5_othersTalking_8 rfl ?_
      refine hm_getI lf_RX5_92 rfl rfl (by first | exact Nat.lt_of_lt_of_le (by decide) hN | assumption | (simp only [hm_n_wI, hm_n_wL, hm_n_wR, hm_n_g] at *; omega)) dX5_othersTalking_9 ?_
      rw [e0]
      refine hm_icmp_ge 113 dX5_othersTalking_12 (by decide) (fun _ => ?_) (fun h12 => absurd (nI_le (Nat.le_refl _) (by omega)) h12)
      refine hm_iload dX5_othersTalking_113 rfl ?_
      refine hm_iret dX5_othersTalking_115 rfl (by decide) (by decide) ?_
      exact hQ _ _ ⟨by rw [hv]; rfl, rfl⟩
    | succ k ih =>
      intro q v u y1 y2 hk hv hu
      subst hu
      have q2 : nI q = nI p ↔ q = p := nI_eq (by omega) (by omega)
      have e9 : hm_I σ 29 q = nI (aN α 3 q) := h.n 3 q (by show q < 8; omega)
      have ih2 := ih (q + 1)
      rw [pCnt] at ih2
      subst hv
      have hm : ∀ (k b : Nat) (v' u : Int32), b + k = (aB α).length → v' = bI (((aB α).take b).any (fun x => decide (bOf x = q) && decide (bCh x = ch))) → u = nI b → hm_V l RX5 cX5_othersTalking 8 (some .int) false (hm_rm 1 0 0) 0 0 Q 0 0 21 [.ref 27, .int (nI p), .int (nI c), .int (nI ch), .int (nI (pCnt (fun q => decide (q ≠ p) && (pTalks α q ch && pReach α c (aN α 3 q))) q)), .int (nI q), .int v', .int u] [] σ := by
        intro k'
        induction k' with
        | zero =>
          intro b v' u hk' hv hu
          subst hu
          have hb : b = (aB α).length := by omega
          subst hb
          rw [List.take_length] at hv
          have hv : v' = bI (pTalks α q ch) := hv
          refine hm_iload dX5_othersTalking_21 rfl ?_
          refine hm_aload_n dX5_othersTalking_23 rfl ?_
          refine hm_getI lf_RX5_109 rfl rfl (by first | exact Nat.lt_of_lt_of_le (by decide) hN | assumption | (simp only [hm_n_wI, hm_n_wL, hm_n_wR, hm_n_g] at *; omega)) dX5_othersTalking_24 ?_
          rw [hb1]
          refine hm_icmp_ge 71 dX5_othersTalking_27 (by decide) (fun _ => ?_) (fun h27 => absurd (nI_le (Nat.le_refl _) (by omega)) h27)
          refine hm_iload dX5_othersTalking_71 rfl ?_
          refine hm_iload dX5_othersTalking_73 rfl ?_
          refine hm_iload_n dX5_othersTalking_75 rfl ?_
          refine hm_icmp_eq 103 dX5_othersTalking_76 (by decide) (fun h76 => ?_) (fun h76 => ?_)
          · skip
            rw [q2] at h76
            refine hm_iconst dX5_othersTalking_103 (v := 0) (by decide) ?_
            refine hm_iadd dX5_othersTalking_104 ?_
            refine hm_istore dX5_othersTalking_105 (by decide) rfl ?_
            refine hm_iinc dX5_othersTalking_107 rfl _ rfl (by decide) rfl ?_
            refine hm_goto 6 dX5_othersTalking_110 (by decide) ?_
            exact ih2 _ _ _ _ (by omega) (by simp_all [nI_succ]) (hm_inc q)
          · skip
            rw [q2] at h76
            refine hm_iload dX5_othersTalking_79 rfl ?_
            refine hm_if_eq 103 dX5_othersTalking_81 (by decide) (fun h81 => ?_) (fun h81 => ?_)
            · skip
              rw [hv, bI_0] at h81
              refine hm_iconst dX5_othersTalking_103 (v := 0) (by decide) ?_
              refine hm_iadd dX5_othersTalking_104 ?_
              refine hm_istore dX5_othersTalking_105 (by decide) rfl ?_
              refine hm_iinc dX5_othersTalking_107 rfl _ rfl (by decide) rfl ?_
              refine hm_goto 6 dX5_othersTalking_110 (by decide) ?_
              exact ih2 _ _ _ _ (by omega) (by simp_all [nI_succ]) (hm_inc q)
            · skip
              rw [hv, bI_0] at h81
              refine hm_aload_n dX5_othersTalking_84 rfl ?_
              refine hm_iload_n dX5_othersTalking_85 rfl ?_
              refine hm_aload_n dX5_othersTalking_86 rfl ?_
              refine hm_getR lf_RX5_13 rfl rfl (by first | exact Nat.lt_of_lt_of_le (by decide) hN | assumption | (simp only [hm_n_wI, hm_n_wL, hm_n_wR, hm_n_g] at *; omega)) (hM 3) dX5_othersTalking_87 ?_
              refine hm_iload dX5_othersTalking_90 rfl ?_
              refine hm_iald _ rfl (by first | exact Nat.lt_of_lt_of_le (by decide) hN | assumption | (simp only [hm_n_wI, hm_n_wL, hm_n_wR, hm_n_g] at *; omega)) rfl (by omega) (by decide) dX5_othersTalking_92 ?_
              rw [e9]
              refine hm_callV lm_RX5_128 (r5_reaches l h w hc (w.pl q)) rfl rfl rfl rfl (by first | exact Nat.lt_of_lt_of_le (by decide) hN | assumption | (simp only [hm_n_wI, hm_n_wL, hm_n_wR, hm_n_g] at *; omega)) (by decide) (by decide) (Nat.le_of_ble_eq_true rfl) dX5_othersTalking_93 ?_
              rintro _ _ ⟨rfl, rfl⟩
              refine hm_if_eq 103 dX5_othersTalking_96 (by decide) (fun h96 => ?_) (fun h96 => ?_)
              · skip
                rw [bI_0] at h96
                refine hm_iconst dX5_othersTalking_103 (v := 0) (by decide) ?_
                refine hm_iadd dX5_othersTalking_104 ?_
                refine hm_istore dX5_othersTalking_105 (by decide) rfl ?_
                refine hm_iinc dX5_othersTalking_107 rfl _ rfl (by decide) rfl ?_
                refine hm_goto 6 dX5_othersTalking_110 (by decide) ?_
                exact ih2 _ _ _ _ (by omega) (by simp_all [nI_succ]) (hm_inc q)
              · skip
                rw [bI_0] at h96
                refine hm_iconst dX5_othersTalking_99 (v := 1) (by decide) ?_
                refine hm_goto 104 dX5_othersTalking_100 (by decide) ?_
                refine hm_iadd dX5_othersTalking_104 ?_
                refine hm_istore dX5_othersTalking_105 (by decide) rfl ?_
                refine hm_iinc dX5_othersTalking_107 rfl _ rfl (by decide) rfl ?_
                refine hm_goto 6 dX5_othersTalking_110 (by decide) ?_
                exact ih2 _ _ _ _ (by omega) (by simp_all [nI_succ]) (hm_inc q)
        | succ k' ihm =>
          intro b v' u hk' hv hu
          subst hu
          obtain ⟨x, hx⟩ : ∃ x, (aB α)[b]? = some x := ⟨_, List.getElem?_eq_getElem (by omega)⟩
          obtain ⟨e1, e2, e3, e4, e5⟩ := hb2 b x hx
          obtain ⟨x1, x2, x3⟩ := w.xb hx
          have q1 : nI (bOf x) = nI q ↔ bOf x = q := nI_eq (by omega) (by omega)
          have q3 : nI (bCh x) = nI ch ↔ bCh x = ch := nI_eq (by omega) (by omega)
          have ihm2 := ihm (b + 1)
          rw [any_take hx] at ihm2
          generalize (((aB α).take b).any (fun x => decide (bOf x = q) && decide (bCh x = ch))) = A at hv ihm2
          subst hv
          clear ihm ih ih2
          refine hm_iload dX5_othersTalking_21 rfl ?_
          refine hm_aload_n dX5_othersTalking_23 rfl ?_
          refine hm_getI lf_RX5_109 rfl rfl (by first | exact Nat.lt_of_lt_of_le (by decide) hN | assumption | (simp only [hm_n_wI, hm_n_wL, hm_n_wR, hm_n_g] at *; omega)) dX5_othersTalking_24 ?_
          rw [hb1]
          refine hm_icmp_ge 71 dX5_othersTalking_27 (by decide) (fun h27 => absurd h27 (nI_ge (by omega) (by omega))) (fun _ => ?_)
          refine hm_iload dX5_othersTalking_30 rfl ?_
          refine hm_if_ne 58 dX5_othersTalking_32 (by decide) (fun h32 => ?_) (fun h32 => ?_)
          · skip
            refine hm_iconst dX5_othersTalking_58 (v := 1) (by decide) ?_
            refine hm_goto 63 dX5_othersTalking_59 (by decide) ?_
            refine hm_istore dX5_othersTalking_63 (by decide) rfl ?_
            refine hm_iinc dX5_othersTalking_65 rfl _ rfl (by decide) rfl ?_
            refine hm_goto 21 dX5_othersTalking_68 (by decide) ?_
            exact ihm2 _ _ (by omega) (by cases A <;> simp_all [bI]) (hm_inc b)
          · skip
            refine hm_aload_n dX5_othersTalking_35 rfl ?_
            refine hm_getR lf_RX5_42 rfl rfl (by first | exact Nat.lt_of_lt_of_le (by decide) hN | assumption | (simp only [hm_n_wI, hm_n_wL, hm_n_wR, hm_n_g] at *; omega)) (hM 13) dX5_othersTalking_36 ?_
            refine hm_iload dX5_othersTalking_39 rfl ?_
            refine hm_iald _ rfl (by first | exact Nat.lt_of_lt_of_le (by decide) hN | assumption | (simp only [hm_n_wI, hm_n_wL, hm_n_wR, hm_n_g] at *; omega)) rfl (by omega) (by decide) dX5_othersTalking_41 ?_
            rw [e1]
            refine hm_iload dX5_othersTalking_42 rfl ?_
            refine hm_icmp_ne 62 dX5_othersTalking_44 (by decide) (fun h44 => ?_) (fun h44 => ?_)
            · skip
              rw [q1] at h44
              refine hm_iconst dX5_othersTalking_62 (v := 0) (by decide) ?_
              refine hm_istore dX5_othersTalking_63 (by decide) rfl ?_
              refine hm_iinc dX5_othersTalking_65 rfl _ rfl (by decide) rfl ?_
              refine hm_goto 21 dX5_othersTalking_68 (by decide) ?_
              exact ihm2 _ _ (by omega) (by cases A <;> simp_all [bI]) (hm_inc b)
            · skip
              rw [q1] at h44
              refine hm_aload_n dX5_othersTalking_47 rfl ?_
              refine hm_getR lf_RX5_48 rfl rfl (by first | exact Nat.lt_of_lt_of_le (by decide) hN | assumption | (simp only [hm_n_wI, hm_n_wL, hm_n_wR, hm_n_g] at *; omega)) (hM 15) dX5_othersTalking_48 ?_
              refine hm_iload dX5_othersTalking_51 rfl ?_
              refine hm_iald _ rfl (by first | exact Nat.lt_of_lt_of_le (by decide) hN | assumption | (simp only [hm_n_wI, hm_n_wL, hm_n_wR, hm_n_g] at *; omega)) rfl (by omega) (by decide) dX5_othersTalking_53 ?_
              rw [e3]
              refine hm_iload_n dX5_othersTalking_54 rfl ?_
              refine hm_icmp_ne 62 dX5_othersTalking_55 (by decide) (fun h55 => ?_) (fun h55 => ?_)
              · skip
                rw [q3] at h55
                refine hm_iconst dX5_othersTalking_62 (v := 0) (by decide) ?_
                refine hm_istore dX5_othersTalking_63 (by decide) rfl ?_
                refine hm_iinc dX5_othersTalking_65 rfl _ rfl (by decide) rfl ?_
                refine hm_goto 21 dX5_othersTalking_68 (by decide) ?_
                exact ihm2 _ _ (by omega) (by cases A <;> simp_all [bI]) (hm_inc b)
              · skip
                rw [q3] at h55
                refine hm_iconst dX5_othersTalking_58 (v := 1) (by decide) ?_
                refine hm_goto 63 dX5_othersTalking_59 (by decide) ?_
                refine hm_istore dX5_othersTalking_63 (by decide) rfl ?_
                refine hm_iinc dX5_othersTalking_65 rfl _ rfl (by decide) rfl ?_
                refine hm_goto 21 dX5_othersTalking_68 (by decide) ?_
                exact ihm2 _ _ (by omega) (by cases A <;> simp_all [bI]) (hm_inc b)
      refine hm_iload dX5_othersTalking_6 rfl ?_
      refine hm_aload_n dX5_othersTalking_8 rfl ?_
      refine hm_getI lf_RX5_92 rfl rfl (by first | exact Nat.lt_of_lt_of_le (by decide) hN | assumption | (simp only [hm_n_wI, hm_n_wL, hm_n_wR, hm_n_g] at *; omega)) dX5_othersTalking_9 ?_
      rw [e0]
      refine hm_icmp_ge 113 dX5_othersTalking_12 (by decide) (fun h12 => absurd h12 (nI_ge (by omega) (by omega))) (fun _ => ?_)
      refine hm_iconst dX5_othersTalking_15 (v := 0) (by decide) ?_
      refine hm_istore dX5_othersTalking_16 (by decide) rfl ?_
      refine hm_iconst dX5_othersTalking_18 (v := 0) (by decide) ?_
      refine hm_istore dX5_othersTalking_19 (by decide) rfl ?_
      exact hm _ 0 _ _ (Nat.zero_add _) rfl rfl
  refine hm_iconst dX5_othersTalking_0 (v := 0) (by decide) ?_
  refine hm_istore dX5_othersTalking_1 (by decide) rfl ?_
  refine hm_iconst dX5_othersTalking_3 (v := 0) (by decide) ?_
  refine hm_istore dX5_othersTalking_4 (by decide) rfl ?_
  exact hl _ 0 _ _ _ _ (Nat.zero_add _) rfl rfl
end M3
end
section
/-! the reference's methods that only read, on -/
theorem ix120 (a b : Nat) : (120 : Int32) * nI a + nI b = nI (120 * a + b) := by
  rw [show (120 : Int32) = nI 120 from rfl, pk_mul, nI_add]
theorem ix120c (a b : Nat) : (120 : Int32) * ((16 : Int32) + nI a) + nI b = nI (120 * (16 + a) + b) := by
  rw [show (16 : Int32) = nI 16 from rfl, nI_add, ix120]
theorem div10 {a : Nat} (h : a < 2 ^ 31) : nI a / 10 = nI (a / 10) := pk_div (d := 10) h (by decide) (by decide)
theorem nI_0' {n : Nat} (h : n < 2 ^ 31) : nI n = 0 ↔ n = 0 := nI_eq (b := 0) h (by decide)
theorem pCnt_le (f : Nat → Bool) : ∀ n, pCnt f n ≤ n
  | 0 => Nat.le_refl _
  | n + 1 => by
    have := pCnt_le f n
    simp only [pCnt]
    split <;> omega
theorem pOSend_le {α : sA} (w : sW α) (c pl ch : Nat) : pOSend α c pl ch ≤ 4 := Nat.le_trans (pCnt_le _ _) w.c4
theorem pOTalk_le {α : sA} (w : sW α) (p c ch : Nat) : pOTalk α p c ch ≤ 8 := Nat.le_trans (pCnt_le _ _) w.p8
section M4
variable (l : Launch) {α : sA} {σ : hm_M}
set_option maxRecDepth 100000 in
theorem r5_isHeardAt (h : rM α σ) (w : sW α) {pl c ch : Nat} (hp : pl < 16) (hc : c < 4) (hch : ch < 120) : hm_Ct l yX5_isHeardAt cX5_isHeardAt 4 (some .boolean) 2 0 0 [.ref 27, .int (nI pl), .int (nI c), .int (nI ch)] σ (fun r τ => r = some (.int (bI (pHAt α pl c ch))) ∧ τ = σ) := by
  obtain ⟨hN, hM⟩ := h.m
  have e1 : hm_I σ 37 (120 * pl + ch) = nI (aN α 5 (120 * pl + ch)) := h.n 5 _ (by show _ < 2400; omega)
  have n1 := w.nz (120 * pl + ch)
  have q1 : nI (aN α 5 (120 * pl + ch)) = 0 ↔ aN α 5 (120 * pl + ch) = 0 := nI_0' (by omega)
  have n2 := pOSend_le w c pl ch
  have q2 : nI (pOSend α c pl ch) = 0 ↔ pOSend α c pl ch = 0 := nI_0' (by omega)
  refine hm_startQ (ini := false) [.ref 27, .int (nI pl), .int (nI c), .int (nI ch)] (by decide) (by decide) rfl (Nat.le_of_ble_eq_true rfl) (fun Q hQ => ?_)
  refine hm_aload_n dX5_isHeardAt_0 rfl ?_
  refine hm_iload_n dX5_isHeardAt_1 rfl ?_
  refine hm_iload_n dX5_isHeardAt_2 rfl ?_
  refine hm_callV lm_RX5_128 (r5_reaches l h w hc hp) rfl rfl rfl rfl (by first | exact Nat.lt_of_lt_of_le (by decide) hN | assumption | (simp only [hm_n_wI, hm_n_wL, hm_n_wR, hm_n_g] at *; omega)) (by decide) (by decide) (Nat.le_of_ble_eq_true rfl) dX5_isHeardAt_3 ?_
  rintro _ _ ⟨rfl, rfl⟩
  refine hm_if_eq 37 dX5_isHeardAt_6 (by decide) (fun h6 => ?_) (fun h6 => ?_)
  · skip
    rw [bI_0] at h6
    refine hm_iconst dX5_isHeardAt_37 (v := 0) (by decide) ?_
    refine hm_zret dX5_isHeardAt_38 rfl (by decide) (by decide) (by first | exact Or.inl rfl | exact Or.inr rfl | assumption) ?_
    exact hQ _ _ ⟨by simp_all [pHAt, bI], rfl⟩
  · skip
    rw [bI_0] at h6
    refine hm_aload_n dX5_isHeardAt_9 rfl ?_
    refine hm_getR lf_RX5_39 rfl rfl (by first | exact Nat.lt_of_lt_of_le (by decide) hN | assumption | (simp only [hm_n_wI, hm_n_wL, hm_n_wR, hm_n_g] at *; omega)) (hM 11) dX5_isHeardAt_10 ?_
    refine hm_bipush dX5_isHeardAt_13 (v := 120) (by decide) ?_
    refine hm_iload_n dX5_isHeardAt_15 rfl ?_
    refine hm_imul dX5_isHeardAt_16 ?_
    refine hm_iload_n dX5_isHeardAt_17 rfl ?_
    refine hm_iadd dX5_isHeardAt_18 ?_
    refine hm_zald (120 * pl + ch) rfl (by first | exact Nat.lt_of_lt_of_le (by decide) hN | assumption | (simp only [hm_n_wI, hm_n_wL, hm_n_wR, hm_n_g] at *; omega)) (ix120 _ _) (by omega) (by decide) dX5_isHeardAt_19 ?_
    rw [e1]
    refine hm_if_ne 37 dX5_isHeardAt_20 (by decide) (fun h20 => ?_) (fun h20 => ?_)
    · skip
      rw [q1] at h20
      refine hm_iconst dX5_isHeardAt_37 (v := 0) (by decide) ?_
      refine hm_zret dX5_isHeardAt_38 rfl (by decide) (by decide) (by first | exact Or.inl rfl | exact Or.inr rfl | assumption) ?_
      exact hQ _ _ ⟨by simp_all [pHAt, bI], rfl⟩
    · skip
      rw [q1] at h20
      refine hm_aload_n dX5_isHeardAt_23 rfl ?_
      refine hm_iload_n dX5_isHeardAt_24 rfl ?_
      refine hm_iload_n dX5_isHeardAt_25 rfl ?_
      refine hm_iload_n dX5_isHeardAt_26 rfl ?_
      refine hm_callV lm_RX5_135 (r5_othersSending l h w hc hp hch) rfl rfl rfl rfl (by first | exact Nat.lt_of_lt_of_le (by decide) hN | assumption | (simp only [hm_n_wI, hm_n_wL, hm_n_wR, hm_n_g] at *; omega)) (by decide) (by decide) (Nat.le_of_ble_eq_true rfl) dX5_isHeardAt_27 ?_
      rintro _ _ ⟨rfl, rfl⟩
      refine hm_if_ne 37 dX5_isHeardAt_30 (by decide) (fun h30 => ?_) (fun h30 => ?_)
      · skip
        rw [q2] at h30
        refine hm_iconst dX5_isHeardAt_37 (v := 0) (by decide) ?_
        refine hm_zret dX5_isHeardAt_38 rfl (by decide) (by decide) (by first | exact Or.inl rfl | exact Or.inr rfl | assumption) ?_
        exact hQ _ _ ⟨by simp_all [pHAt, bI], rfl⟩
      · skip
        rw [q2] at h30
        refine hm_iconst dX5_isHeardAt_33 (v := 1) (by decide) ?_
        refine hm_goto 38 dX5_isHeardAt_34 (by decide) ?_
        refine hm_zret dX5_isHeardAt_38 rfl (by decide) (by decide) (by first | exact Or.inl rfl | exact Or.inr rfl | assumption) ?_
        exact hQ _ _ ⟨by simp_all [pHAt, bI], rfl⟩
set_option maxRecDepth 100000 in
theorem r5_isHeardBy (h : rM α σ) (w : sW α) {c p ch : Nat} (hc : c < 4) (hp : p < 8) (hch : ch < 120) : hm_Ct l yX5_isHeardBy cX5_isHeardBy 4 (some .boolean) 2 0 0 [.ref 27, .int (nI c), .int (nI p), .int (nI ch)] σ (fun r τ => r = some (.int (bI (pHBy α c p ch))) ∧ τ = σ) := by
  obtain ⟨hN, hM⟩ := h.m
  have e0 : hm_I σ 29 p = nI (aN α 3 p) := h.n 3 p hp
  have e1 : hm_I σ 37 (120 * (16 + c) + ch) = nI (aN α 5 (120 * (16 + c) + ch)) := h.n 5 _ (by show _ < 2400; omega)
  have n1 := w.nz (120 * (16 + c) + ch)
  have q1 : nI (aN α 5 (120 * (16 + c) + ch)) = 0 ↔ aN α 5 (120 * (16 + c) + ch) = 0 := nI_0' (by omega)
  have n2 := pOTalk_le w p c ch
  have q2 : nI (pOTalk α p c ch) = 0 ↔ pOTalk α p c ch = 0 := nI_0' (by omega)
  refine hm_startQ (ini := false) [.ref 27, .int (nI c), .int (nI p), .int (nI ch)] (by decide) (by decide) rfl (Nat.le_of_ble_eq_true rfl) (fun Q hQ => ?_)
  refine hm_aload_n dX5_isHeardBy_0 rfl ?_
  refine hm_iload_n dX5_isHeardBy_1 rfl ?_
  refine hm_aload_n dX5_isHeardBy_2 rfl ?_
  refine hm_getR lf_RX5_13 rfl rfl (by first | exact Nat.lt_of_lt_of_le (by decide) hN | assumption | (simp only [hm_n_wI, hm_n_wL, hm_n_wR, hm_n_g] at *; omega)) (hM 3) dX5_isHeardBy_3 ?_
  refine hm_iload_n dX5_isHeardBy_6 rfl ?_
  refine hm_iald _ rfl (by first | exact Nat.lt_of_lt_of_le (by decide) hN | assumption | (simp only [hm_n_wI, hm_n_wL, hm_n_wR, hm_n_g] at *; omega)) rfl (by omega) (by decide) dX5_isHeardBy_7 ?_
  rw [e0]
  refine hm_callV lm_RX5_128 (r5_reaches l h w hc (w.pl p)) rfl rfl rfl rfl (by first | exact Nat.lt_of_lt_of_le (by decide) hN | assumption | (simp only [hm_n_wI, hm_n_wL, hm_n_wR, hm_n_g] at *; omega)) (by decide) (by decide) (Nat.le_of_ble_eq_true rfl) dX5_isHeardBy_8 ?_
  rintro _ _ ⟨rfl, rfl⟩
  refine hm_if_eq 45 dX5_isHeardBy_11 (by decide) (fun h11 => ?_) (fun h11 => ?_)
  · skip
    rw [bI_0] at h11
    refine hm_iconst dX5_isHeardBy_45 (v := 0) (by decide) ?_
    refine hm_zret dX5_isHeardBy_46 rfl (by decide) (by decide) (by first | exact Or.inl rfl | exact Or.inr rfl | assumption) ?_
    exact hQ _ _ ⟨by simp_all [pHBy, bI], rfl⟩
  · skip
    rw [bI_0] at h11
    refine hm_aload_n dX5_isHeardBy_14 rfl ?_
    refine hm_getR lf_RX5_39 rfl rfl (by first | exact Nat.lt_of_lt_of_le (by decide) hN | assumption | (simp only [hm_n_wI, hm_n_wL, hm_n_wR, hm_n_g] at *; omega)) (hM 11) dX5_isHeardBy_15 ?_
    refine hm_bipush dX5_isHeardBy_18 (v := 120) (by decide) ?_
    refine hm_bipush dX5_isHeardBy_20 (v := 16) (by decide) ?_
    refine hm_iload_n dX5_isHeardBy_22 rfl ?_
    refine hm_iadd dX5_isHeardBy_23 ?_
    refine hm_imul dX5_isHeardBy_24 ?_
    refine hm_iload_n dX5_isHeardBy_25 rfl ?_
    refine hm_iadd dX5_isHeardBy_26 ?_
    refine hm_zald (120 * (16 + c) + ch) rfl (by first | exact Nat.lt_of_lt_of_le (by decide) hN | assumption | (simp only [hm_n_wI, hm_n_wL, hm_n_wR, hm_n_g] at *; omega)) (ix120c _ _) (by omega) (by decide) dX5_isHeardBy_27 ?_
    rw [e1]
    refine hm_if_ne 45 dX5_isHeardBy_28 (by decide) (fun h28 => ?_) (fun h28 => ?_)
    · skip
      rw [q1] at h28
      refine hm_iconst dX5_isHeardBy_45 (v := 0) (by decide) ?_
      refine hm_zret dX5_isHeardBy_46 rfl (by decide) (by decide) (by first | exact Or.inl rfl | exact Or.inr rfl | assumption) ?_
      exact hQ _ _ ⟨by simp_all [pHBy, bI], rfl⟩
    · skip
      rw [q1] at h28
      refine hm_aload_n dX5_isHeardBy_31 rfl ?_
      refine hm_iload_n dX5_isHeardBy_32 rfl ?_
      refine hm_iload_n dX5_isHeardBy_33 rfl ?_
      refine hm_iload_n dX5_isHeardBy_34 rfl ?_
      refine hm_callV lm_RX5_139 (r5_othersTalking l h w hp hc hch) rfl rfl rfl rfl (by first | exact Nat.lt_of_lt_of_le (by decide) hN | assumption | (simp only [hm_n_wI, hm_n_wL, hm_n_wR, hm_n_g] at *; omega)) (by decide) (by decide) (Nat.le_of_ble_eq_true rfl) dX5_isHeardBy_35 ?_
      rintro _ _ ⟨rfl, rfl⟩
      refine hm_if_ne 45 dX5_isHeardBy_38 (by decide) (fun h38 => ?_) (fun h38 => ?_)
      · skip
        rw [q2] at h38
        refine hm_iconst dX5_isHeardBy_45 (v := 0) (by decide) ?_
        refine hm_zret dX5_isHeardBy_46 rfl (by decide) (by decide) (by first | exact Or.inl rfl | exact Or.inr rfl | assumption) ?_
        exact hQ _ _ ⟨by simp_all [pHBy, bI], rfl⟩
      · skip
        rw [q2] at h38
        refine hm_iconst dX5_isHeardBy_41 (v := 1) (by decide) ?_
        refine hm_goto 46 dX5_isHeardBy_42 (by decide) ?_
        refine hm_zret dX5_isHeardBy_46 rfl (by decide) (by decide) (by first | exact Or.inl rfl | exact Or.inr rfl | assumption) ?_
        exact hQ _ _ ⟨by simp_all [pHBy, bI], rfl⟩
set_option maxRecDepth 100000 in
theorem r5_levelOf (h : rM α σ) (w : sW α) {p c ch : Nat} (hp : p < 8) (hc : c < 4) (hch : ch < 120) : hm_Ct l yX5_levelOf cX5_levelOf 4 (some .int) 2 0 0 [.ref 27, .int (nI p), .int (nI c), .int (nI ch)] σ (fun r τ => r = some (.int (nI (pLev α p c ch))) ∧ τ = σ) := by
  obtain ⟨hN, hM⟩ := h.m
  have hpl := w.pl p
  have e0 : hm_I σ 29 p = nI (aN α 3 p) := h.n 3 p hp
  have e1 : hm_I σ 37 (120 * (16 + c) + ch) = nI (aN α 5 (120 * (16 + c) + ch)) := h.n 5 _ (by show _ < 2400; omega)
  have e2 : hm_I σ 37 (120 * aN α 3 p + ch) = nI (aN α 5 (120 * aN α 3 p + ch)) := h.n 5 _ (by show _ < 2400; omega)
  have n1 := w.nz (120 * (16 + c) + ch)
  have n2 := w.nz (120 * aN α 3 p + ch)
  have q1 : nI (aN α 5 (120 * (16 + c) + ch)) = 0 ↔ aN α 5 (120 * (16 + c) + ch) = 0 := nI_0' (by omega)
  have q2 : nI (aN α 5 (120 * aN α 3 p + ch)) = 0 ↔ aN α 5 (120 * aN α 3 p + ch) = 0 := nI_0' (by omega)
  have f4 : (4 : Int32) = nI 4 := rfl
  have f0 : (0 : Int32) = nI 0 := rfl
  refine hm_startQ (ini := false) [.ref 27, .int (nI p), .int (nI c), .int (nI ch)] (by decide) (by decide) rfl (Nat.le_of_ble_eq_true rfl) (fun Q hQ => ?_)
  refine hm_aload_n dX5_levelOf_0 rfl ?_
  refine hm_getR lf_RX5_39 rfl rfl (by first | exact Nat.lt_of_lt_of_le (by decide) hN | assumption | (simp only [hm_n_wI, hm_n_wL, hm_n_wR, hm_n_g] at *; omega)) (hM 11) dX5_levelOf_1 ?_
  refine hm_bipush dX5_levelOf_4 (v := 120) (by decide) ?_
  refine hm_aload_n dX5_levelOf_6 rfl ?_
  refine hm_getR lf_RX5_13 rfl rfl (by first | exact Nat.lt_of_lt_of_le (by decide) hN | assumption | (simp only [hm_n_wI, hm_n_wL, hm_n_wR, hm_n_g] at *; omega)) (hM 3) dX5_levelOf_7 ?_
  refine hm_iload_n dX5_levelOf_10 rfl ?_
  refine hm_iald _ rfl (by first | exact Nat.lt_of_lt_of_le (by decide) hN | assumption | (simp only [hm_n_wI, hm_n_wL, hm_n_wR, hm_n_g] at *; omega)) rfl (by omega) (by decide) dX5_levelOf_11 ?_
  rw [e0]
  refine hm_imul dX5_levelOf_12 ?_
  refine hm_iload_n dX5_levelOf_13 rfl ?_
  refine hm_iadd dX5_levelOf_14 ?_
  refine hm_zald (120 * aN α 3 p + ch) rfl (by first | exact Nat.lt_of_lt_of_le (by decide) hN | assumption | (simp only [hm_n_wI, hm_n_wL, hm_n_wR, hm_n_g] at *; omega)) (ix120 _ _) (by omega) (by decide) dX5_levelOf_15 ?_
  rw [e2]
  refine hm_if_eq 23 dX5_levelOf_16 (by decide) (fun h16 => ?_) (fun h16 => ?_)
  · skip
    rw [q2] at h16
    refine hm_iconst dX5_levelOf_23 (v := 0) (by decide) ?_
    refine hm_aload_n dX5_levelOf_24 rfl ?_
    refine hm_getR lf_RX5_39 rfl rfl (by first | exact Nat.lt_of_lt_of_le (by decide) hN | assumption | (simp only [hm_n_wI, hm_n_wL, hm_n_wR, hm_n_g] at *; omega)) (hM 11) dX5_levelOf_25 ?_
    refine hm_bipush dX5_levelOf_28 (v := 120) (by decide) ?_
    refine hm_bipush dX5_levelOf_30 (v := 16) (by decide) ?_
    refine hm_iload_n dX5_levelOf_32 rfl ?_
    refine hm_iadd dX5_levelOf_33 ?_
    refine hm_imul dX5_levelOf_34 ?_
    refine hm_iload_n dX5_levelOf_35 rfl ?_
    refine hm_iadd dX5_levelOf_36 ?_
    refine hm_zald (120 * (16 + c) + ch) rfl (by first | exact Nat.lt_of_lt_of_le (by decide) hN | assumption | (simp only [hm_n_wI, hm_n_wL, hm_n_wR, hm_n_g] at *; omega)) (ix120c _ _) (by omega) (by decide) dX5_levelOf_37 ?_
    rw [e1]
    refine hm_if_eq 45 dX5_levelOf_38 (by decide) (fun h38 => ?_) (fun h38 => ?_)
    · skip
      rw [q1] at h38
      refine hm_iconst dX5_levelOf_45 (v := 0) (by decide) ?_
      refine hm_iadd dX5_levelOf_46 ?_
      refine hm_aload_n dX5_levelOf_47 rfl ?_
      refine hm_iload_n dX5_levelOf_48 rfl ?_
      refine hm_aload_n dX5_levelOf_49 rfl ?_
      refine hm_getR lf_RX5_13 rfl rfl (by first | exact Nat.lt_of_lt_of_le (by decide) hN | assumption | (simp only [hm_n_wI, hm_n_wL, hm_n_wR, hm_n_g] at *; omega)) (hM 3) dX5_levelOf_50 ?_
      refine hm_iload_n dX5_levelOf_53 rfl ?_
      refine hm_iald _ rfl (by first | exact Nat.lt_of_lt_of_le (by decide) hN | assumption | (simp only [hm_n_wI, hm_n_wL, hm_n_wR, hm_n_g] at *; omega)) rfl (by omega) (by decide) dX5_levelOf_54 ?_
      rw [e0]
      refine hm_iload_n dX5_levelOf_55 rfl ?_
      refine hm_callV lm_RX5_135 (r5_othersSending l h w hc hpl hch) rfl rfl rfl rfl (by first | exact Nat.lt_of_lt_of_le (by decide) hN | assumption | (simp only [hm_n_wI, hm_n_wL, hm_n_wR, hm_n_g] at *; omega)) (by decide) (by decide) (Nat.le_of_ble_eq_true rfl) dX5_levelOf_56 ?_
      rintro _ _ ⟨rfl, rfl⟩
      refine hm_iadd dX5_levelOf_59 ?_
      refine hm_aload_n dX5_levelOf_60 rfl ?_
      refine hm_iload_n dX5_levelOf_61 rfl ?_
      refine hm_iload_n dX5_levelOf_62 rfl ?_
      refine hm_iload_n dX5_levelOf_63 rfl ?_
      refine hm_callV lm_RX5_139 (r5_othersTalking l h w hp hc hch) rfl rfl rfl rfl (by first | exact Nat.lt_of_lt_of_le (by decide) hN | assumption | (simp only [hm_n_wI, hm_n_wL, hm_n_wR, hm_n_g] at *; omega)) (by decide) (by decide) (Nat.le_of_ble_eq_true rfl) dX5_levelOf_64 ?_
      rintro _ _ ⟨rfl, rfl⟩
      refine hm_iadd dX5_levelOf_67 ?_
      refine hm_iret dX5_levelOf_68 rfl (by decide) (by decide) ?_
      exact hQ _ _ ⟨by simp only [pLev, h16, h38, if_true, if_false, f4, f0, nI_add], rfl⟩
    · skip
      rw [q1] at h38
      refine hm_iconst dX5_levelOf_41 (v := 4) (by decide) ?_
      refine hm_goto 46 dX5_levelOf_42 (by decide) ?_
      refine hm_iadd dX5_levelOf_46 ?_
      refine hm_aload_n dX5_levelOf_47 rfl ?_
      refine hm_iload_n dX5_levelOf_48 rfl ?_
      refine hm_aload_n dX5_levelOf_49 rfl ?_
      refine hm_getR lf_RX5_13 rfl rfl (by first | exact Nat.lt_of_lt_of_le (by decide) hN | assumption | (simp only [hm_n_wI, hm_n_wL, hm_n_wR, hm_n_g] at *; omega)) (hM 3) dX5_levelOf_50 ?_
      refine hm_iload_n dX5_levelOf_53 rfl ?_
      refine hm_iald _ rfl (by first | exact Nat.lt_of_lt_of_le (by decide) hN | assumption | (simp only [hm_n_wI, hm_n_wL, hm_n_wR, hm_n_g] at *; omega)) rfl (by omega) (by decide) dX5_levelOf_54 ?_
      rw [e0]
      refine hm_iload_n dX5_levelOf_55 rfl ?_
      refine hm_callV lm_RX5_135 (r5_othersSending l h w hc hpl hch) rfl rfl rfl rfl (by first | exact Nat.lt_of_lt_of_le (by decide) hN | assumption | (simp only [hm_n_wI, hm_n_wL, hm_n_wR, hm_n_g] at *; omega)) (by decide) (by decide) (Nat.le_of_ble_eq_true rfl) dX5_levelOf_56 ?_
      rintro _ _ ⟨rfl, rfl⟩
      refine hm_iadd dX5_levelOf_59 ?_
      refine hm_aload_n dX5_levelOf_60 rfl ?_
      refine hm_iload_n dX5_levelOf_61 rfl ?_
      refine hm_iload_n dX5_levelOf_62 rfl ?_
      refine hm_iload_n dX5_levelOf_63 rfl ?_
      refine hm_callV lm_RX5_139 (r5_othersTalking l h w hp hc hch) rfl rfl rfl rfl (by first | exact Nat.lt_of_lt_of_le (by decide) hN | assumption | (simp only [hm_n_wI, hm_n_wL, hm_n_wR, hm_n_g] at *; omega)) (by decide) (by decide) (Nat.le_of_ble_eq_true rfl) dX5_levelOf_64 ?_
      rintro _ _ ⟨rfl, rfl⟩
      refine hm_iadd dX5_levelOf_67 ?_
      refine hm_iret dX5_levelOf_68 rfl (by decide) (by decide) ?_
      exact hQ _ _ ⟨by simp only [pLev, h16, h38, if_true, if_false, f4, f0, nI_add], rfl⟩
  · skip
    rw [q2] at h16
    refine hm_iconst dX5_levelOf_19 (v := 4) (by decide) ?_
    refine hm_goto 24 dX5_levelOf_20 (by decide) ?_
    refine hm_aload_n dX5_levelOf_24 rfl ?_
    refine hm_getR lf_RX5_39 rfl rfl (by first | exact Nat.lt_of_lt_of_le (by decide) hN | assumption | (simp only [hm_n_wI, hm_n_wL, hm_n_wR, hm_n_g] at *; omega)) (hM 11) dX5_levelOf_25 ?_
    refine hm_bipush dX5_levelOf_28 (v := 120) (by decide) ?_
    refine hm_bipush dX5_levelOf_30 (v := 16) (by decide) ?_
    refine hm_iload_n dX5_levelOf_32 rfl ?_
    refine hm_iadd dX5_levelOf_33 ?_
    refine hm_imul dX5_levelOf_34 ?_
    refine hm_iload_n dX5_levelOf_35 rfl ?_
    refine hm_iadd dX5_levelOf_36 ?_
    refine hm_zald (120 * (16 + c) + ch) rfl (by first | exact Nat.lt_of_lt_of_le (by decide) hN | assumption | (simp only [hm_n_wI, hm_n_wL, hm_n_wR, hm_n_g] at *; omega)) (ix120c _ _) (by omega) (by decide) dX5_levelOf_37 ?_
    rw [e1]
    refine hm_if_eq 45 dX5_levelOf_38 (by decide) (fun h38 => ?_) (fun h38 => ?_)
    · skip
      rw [q1] at h38
      refine hm_iconst dX5_levelOf_45 (v := 0) (by decide) ?_
      refine hm_iadd dX5_levelOf_46 ?_
      refine hm_aload_n dX5_levelOf_47 rfl ?_
      refine hm_iload_n dX5_levelOf_48 rfl ?_
      refine hm_aload_n dX5_levelOf_49 rfl ?_
      refine hm_getR lf_RX5_13 rfl rfl (by first | exact Nat.lt_of_lt_of_le (by decide) hN | assumption | (simp only [hm_n_wI, hm_n_wL, hm_n_wR, hm_n_g] at *; omega)) (hM 3) dX5_levelOf_50 ?_
      refine hm_iload_n dX5_levelOf_53 rfl ?_
      refine hm_iald _ rfl (by first | exact Nat.lt_of_lt_of_le (by decide) hN | assumption | (simp only [hm_n_wI, hm_n_wL, hm_n_wR, hm_n_g] at *; omega)) rfl (by omega) (by decide) dX5_levelOf_54 ?_
      rw [e0]
      refine hm_iload_n dX5_levelOf_55 rfl ?_
      refine hm_callV lm_RX5_135 (r5_othersSending l h w hc hpl hch) rfl rfl rfl rfl (by first | exact Nat.lt_of_lt_of_le (by decide) hN | assumption | (simp only [hm_n_wI, hm_n_wL, hm_n_wR, hm_n_g] at *; omega)) (by decide) (by decide) (Nat.le_of_ble_eq_true rfl) dX5_levelOf_56 ?_
      rintro _ _ ⟨rfl, rfl⟩
      refine hm_iadd dX5_levelOf_59 ?_
      refine hm_aload_n dX5_levelOf_60 rfl ?_
      refine hm_iload_n dX5_levelOf_61 rfl ?_
      refine hm_iload_n dX5_levelOf_62 rfl ?_
      refine hm_iload_n dX5_levelOf_63 rfl ?_
      refine hm_callV lm_RX5_139 (r5_othersTalking l h w hp hc hch) rfl rfl rfl rfl (by first | exact Nat.lt_of_lt_of_le (by decide) hN | assumption | (simp only [hm_n_wI, hm_n_wL, hm_n_wR, hm_n_g] at *; omega)) (by decide) (by decide) (Nat.le_of_ble_eq_true rfl) dX5_levelOf_64 ?_
      rintro _ _ ⟨rfl, rfl⟩
      refine hm_iadd dX5_levelOf_67 ?_
      refine hm_iret dX5_levelOf_68 rfl (by decide) (by decide) ?_
      exact hQ _ _ ⟨by simp only [pLev, h16, h38, if_true, if_false, f4, f0, nI_add], rfl⟩
    · skip
      rw [q1] at h38
      refine hm_iconst dX5_levelOf_41 (v := 4) (by decide) ?_
      refine hm_goto 46 dX5_levelOf_42 (by decide) ?_
      refine hm_iadd dX5_levelOf_46 ?_
      refine hm_aload_n dX5_levelOf_47 rfl ?_
      refine hm_iload_n dX5_levelOf_48 rfl ?_
      refine hm_aload_n dX5_levelOf_49 rfl ?_
      refine hm_getR lf_RX5_13 rfl rfl (by first | exact Nat.lt_of_lt_of_le (by decide) hN | assumption | (simp only [hm_n_wI, hm_n_wL, hm_n_wR, hm_n_g] at *; omega)) (hM 3) dX5_levelOf_50 ?_
      refine hm_iload_n dX5_levelOf_53 rfl ?_
      refine hm_iald _ rfl (by first | exact Nat.lt_of_lt_of_le (by decide) hN | assumption | (simp only [hm_n_wI, hm_n_wL, hm_n_wR, hm_n_g] at *; omega)) rfl (by omega) (by decide) dX5_levelOf_54 ?_
      rw [e0]
      refine hm_iload_n dX5_levelOf_55 rfl ?_
      refine hm_callV lm_RX5_135 (r5_othersSending l h w hc hpl hch) rfl rfl rfl rfl (by first | exact Nat.lt_of_lt_of_le (by decide) hN | assumption | (simp only [hm_n_wI, hm_n_wL, hm_n_wR, hm_n_g] at *; omega)) (by decide) (by decide) (Nat.le_of_ble_eq_true rfl) dX5_levelOf_56 ?_
      rintro _ _ ⟨rfl, rfl⟩
      refine hm_iadd dX5_levelOf_59 ?_
      refine hm_aload_n dX5_levelOf_60 rfl ?_
      refine hm_iload_n dX5_levelOf_61 rfl ?_
      refine hm_iload_n dX5_levelOf_62 rfl ?_
      refine hm_iload_n dX5_levelOf_63 rfl ?_
      refine hm_callV lm_RX5_139 (r5_othersTalking l h w hp hc hch) rfl rfl rfl rfl (by first | exact Nat.lt_of_lt_of_le (by decide) hN | assumption | (simp only [hm_n_wI, hm_n_wL, hm_n_wR, hm_n_g] at *; omega)) (by decide) (by decide) (Nat.le_of_ble_eq_true rfl) dX5_levelOf_64 ?_
      rintro _ _ ⟨rfl, rfl⟩
      refine hm_iadd dX5_levelOf_67 ?_
      refine hm_iret dX5_levelOf_68 rfl (by decide) (by decide) ?_
      exact hQ _ _ ⟨by simp only [pLev, h16, h38, if_true, if_false, f4, f0, nI_add], rfl⟩
set_option maxRecDepth 100000 in
theorem r5_bearersOf (h : rM α σ) (w : sW α) {p : Nat} (hp : p < 8) : hm_Ct l yX5_bearersOf cX5_bearersOf 4 (some .int) 0 0 0 [.ref 27, .int (nI p)] σ (fun r τ => r = some (.int (nI (pNb α p))) ∧ τ = σ) := by
  obtain ⟨hN, hM⟩ := h.m
  obtain ⟨hb1, hb2⟩ := h.b
  have hlen := w.len
  refine hm_startQ (ini := false) [.ref 27, .int (nI p), hm_u, hm_u] (by decide) (by decide) rfl (Nat.le_of_ble_eq_true rfl) (fun Q hQ => ?_)
  have hl : ∀ (k b : Nat) (v u : Int32), b + k = (aB α).length → v = nI (((aB α).take b).countP (fun x => decide (bOf x = p))) → u = nI b → hm_V l RX5 cX5_bearersOf 4 (some .int) false (hm_rm 0 0 0) 0 0 Q 0 0 4 [.ref 27, .int (nI p), .int v, .int u] [] σ := by
    intro k
    induction k with
    | zero =>
      intro b v u hk hv hu
      subst hu
      have hb : b = (aB α).length := by omega
      subst hb
      rw [List.take_length] at hv
      refine hm_iload_n dX5_bearersOf_4 rfl ?_
      refine hm_aload_n dX5_bearersOf_5 rfl ?_
      refine hm_getI lf_RX5_109 rfl rfl (by first | exact Nat.lt_of_lt_of_le (by decide) hN | assumption | (simp only [hm_n_wI, hm_n_wL, hm_n_wR, hm_n_g] at *; omega)) dX5_bearersOf_6 ?_
      rw [hb1]
      refine hm_icmp_ge 36 dX5_bearersOf_9 (by decide) (fun _ => ?_) (fun h9 => absurd (nI_le (Nat.le_refl _) (by omega)) h9)
      refine hm_iload_n dX5_bearersOf_36 rfl ?_
      refine hm_iret dX5_bearersOf_37 rfl (by decide) (by decide) ?_
      exact hQ _ _ ⟨by rw [hv]; rfl, rfl⟩
    | succ k ih =>
      intro b v u hk hv hu
      subst hu
      obtain ⟨x, hx⟩ : ∃ x, (aB α)[b]? = some x := ⟨_, List.getElem?_eq_getElem (by omega)⟩
      obtain ⟨e1, e2, e3, e4, e5⟩ := hb2 b x hx
      obtain ⟨x1, x2, x3⟩ := w.xb hx
      have q1 : nI (bOf x) = nI p ↔ bOf x = p := nI_eq (by omega) (by omega)
      have ih2 := ih (b + 1)
      rw [countP_take hx] at ih2
      subst hv
      refine hm_iload_n dX5_bearersOf_4 rfl ?_
      refine hm_aload_n dX5_bearersOf_5 rfl ?_
      refine hm_getI lf_RX5_109 rfl rfl (by first | exact Nat.lt_of_lt_of_le (by decide) hN | assumption | (simp only [hm_n_wI, hm_n_wL, hm_n_wR, hm_n_g] at *; omega)) dX5_bearersOf_6 ?_
      rw [hb1]
      refine hm_icmp_ge 36 dX5_bearersOf_9 (by decide) (fun h9 => absurd h9 (nI_ge (by omega) (by omega))) (fun _ => ?_)
      refine hm_iload_n dX5_bearersOf_12 rfl ?_
      refine hm_aload_n dX5_bearersOf_13 rfl ?_
      refine hm_getR lf_RX5_42 rfl rfl (by first | exact Nat.lt_of_lt_of_le (by decide) hN | assumption | (simp only [hm_n_wI, hm_n_wL, hm_n_wR, hm_n_g] at *; omega)) (hM 13) dX5_bearersOf_14 ?_
      refine hm_iload_n dX5_bearersOf_17 rfl ?_
      refine hm_iald _ rfl (by first | exact Nat.lt_of_lt_of_le (by decide) hN | assumption | (simp only [hm_n_wI, hm_n_wL, hm_n_wR, hm_n_g] at *; omega)) rfl (by omega) (by decide) dX5_bearersOf_18 ?_
      rw [e1]
      refine hm_iload_n dX5_bearersOf_19 rfl ?_
      refine hm_icmp_ne 27 dX5_bearersOf_20 (by decide) (fun h20 => ?_) (fun h20 => ?_)
      · skip
        rw [q1] at h20
        refine hm_iconst dX5_bearersOf_27 (v := 0) (by decide) ?_
        refine hm_iadd dX5_bearersOf_28 ?_
        refine hm_istore_n dX5_bearersOf_29 (by decide) rfl ?_
        refine hm_iinc dX5_bearersOf_30 rfl _ rfl (by decide) rfl ?_
        refine hm_goto 4 dX5_bearersOf_33 (by decide) ?_
        exact ih2 _ _ (by omega) (by simp_all [nI_succ]) (hm_inc b)
      · skip
        rw [q1] at h20
        refine hm_iconst dX5_bearersOf_23 (v := 1) (by decide) ?_
        refine hm_goto 28 dX5_bearersOf_24 (by decide) ?_
        refine hm_iadd dX5_bearersOf_28 ?_
        refine hm_istore_n dX5_bearersOf_29 (by decide) rfl ?_
        refine hm_iinc dX5_bearersOf_30 rfl _ rfl (by decide) rfl ?_
        refine hm_goto 4 dX5_bearersOf_33 (by decide) ?_
        exact ih2 _ _ (by omega) (by simp_all [nI_succ]) (hm_inc b)
  refine hm_iconst dX5_bearersOf_0 (v := 0) (by decide) ?_
  refine hm_istore_n dX5_bearersOf_1 (by decide) rfl ?_
  refine hm_iconst dX5_bearersOf_2 (v := 0) (by decide) ?_
  refine hm_istore_n dX5_bearersOf_3 (by decide) rfl ?_
  exact hl _ 0 _ _ (Nat.zero_add _) rfl rfl
set_option maxRecDepth 100000 in
theorem r5_isGood (h : rM α σ) (w : sW α) {p : Nat} (hp : p < 8) : hm_Ct l yX5_isGood cX5_isGood 4 (some .boolean) 0 0 0 [.ref 27, .int (nI p)] σ (fun r τ => r = some (.int (bI (pGood α p))) ∧ τ = σ) := by
  obtain ⟨hN, hM⟩ := h.m
  obtain ⟨hb1, hb2⟩ := h.b
  have hlen := w.len
  refine hm_startQ (ini := false) [.ref 27, .int (nI p), hm_u, hm_u] (by decide) (by decide) rfl (Nat.le_of_ble_eq_true rfl) (fun Q hQ => ?_)
  have hl : ∀ (k b : Nat) (v u : Int32), b + k = (aB α).length → v = bI (((aB α).take b).any (fun x => decide (bOf x = p) && bGd x)) → u = nI b → hm_V l RX5 cX5_isGood 4 (some .boolean) false (hm_rm 0 0 0) 0 0 Q 0 0 4 [.ref 27, .int (nI p), .int v, .int u] [] σ := by
    intro k
    induction k with
    | zero =>
      intro b v u hk hv hu
      subst hu
      have hb : b = (aB α).length := by omega
      subst hb
      rw [List.take_length] at hv
      refine hm_iload_n dX5_isGood_4 rfl ?_
      refine hm_aload_n dX5_isGood_5 rfl ?_
      refine hm_getI lf_RX5_109 rfl rfl (by first | exact Nat.lt_of_lt_of_le (by decide) hN | assumption | (simp only [hm_n_wI, hm_n_wL, hm_n_wR, hm_n_g] at *; omega)) dX5_isGood_6 ?_
      rw [hb1]
      refine hm_icmp_ge 47 dX5_isGood_9 (by decide) (fun _ => ?_) (fun h9 => absurd (nI_le (Nat.le_refl _) (by omega)) h9)
      refine hm_iload_n dX5_isGood_47 rfl ?_
      refine hm_zret dX5_isGood_48 rfl (by decide) (by decide) (by rw [hv]; exact bI_01 _) ?_
      exact hQ _ _ ⟨by rw [hv]; rfl, rfl⟩
    | succ k ih =>
      intro b v u hk hv hu
      subst hu
      obtain ⟨x, hx⟩ : ∃ x, (aB α)[b]? = some x := ⟨_, List.getElem?_eq_getElem (by omega)⟩
      obtain ⟨e1, e2, e3, e4, e5⟩ := hb2 b x hx
      obtain ⟨x1, x2, x3⟩ := w.xb hx
      have q1 : nI (bOf x) = nI p ↔ bOf x = p := nI_eq (by omega) (by omega)
      have ih2 := ih (b + 1)
      rw [any_take hx] at ih2
      generalize (((aB α).take b).any (fun x => decide (bOf x = p) && bGd x)) = A at hv ih2
      subst hv
      refine hm_iload_n dX5_isGood_4 rfl ?_
      refine hm_aload_n dX5_isGood_5 rfl ?_
      refine hm_getI lf_RX5_109 rfl rfl (by first | exact Nat.lt_of_lt_of_le (by decide) hN | assumption | (simp only [hm_n_wI, hm_n_wL, hm_n_wR, hm_n_g] at *; omega)) dX5_isGood_6 ?_
      rw [hb1]
      refine hm_icmp_ge 47 dX5_isGood_9 (by decide) (fun h9 => absurd h9 (nI_ge (by omega) (by omega))) (fun _ => ?_)
      refine hm_iload_n dX5_isGood_12 rfl ?_
      refine hm_if_ne 35 dX5_isGood_13 (by decide) (fun h13 => ?_) (fun h13 => ?_)
      · skip
        refine hm_iconst dX5_isGood_35 (v := 1) (by decide) ?_
        refine hm_goto 40 dX5_isGood_36 (by decide) ?_
        refine hm_istore_n dX5_isGood_40 (by decide) rfl ?_
        refine hm_iinc dX5_isGood_41 rfl _ rfl (by decide) rfl ?_
        refine hm_goto 4 dX5_isGood_44 (by decide) ?_
        exact ih2 _ _ (by omega) (by cases A <;> simp_all [bI]) (hm_inc b)
      · skip
        refine hm_aload_n dX5_isGood_16 rfl ?_
        refine hm_getR lf_RX5_42 rfl rfl (by first | exact Nat.lt_of_lt_of_le (by decide) hN | assumption | (simp only [hm_n_wI, hm_n_wL, hm_n_wR, hm_n_g] at *; omega)) (hM 13) dX5_isGood_17 ?_
        refine hm_iload_n dX5_isGood_20 rfl ?_
        refine hm_iald _ rfl (by first | exact Nat.lt_of_lt_of_le (by decide) hN | assumption | (simp only [hm_n_wI, hm_n_wL, hm_n_wR, hm_n_g] at *; omega)) rfl (by omega) (by decide) dX5_isGood_21 ?_
        rw [e1]
        refine hm_iload_n dX5_isGood_22 rfl ?_
        refine hm_icmp_ne 39 dX5_isGood_23 (by decide) (fun h23 => ?_) (fun h23 => ?_)
        · skip
          rw [q1] at h23
          refine hm_iconst dX5_isGood_39 (v := 0) (by decide) ?_
          refine hm_istore_n dX5_isGood_40 (by decide) rfl ?_
          refine hm_iinc dX5_isGood_41 rfl _ rfl (by decide) rfl ?_
          refine hm_goto 4 dX5_isGood_44 (by decide) ?_
          exact ih2 _ _ (by omega) (by cases A <;> simp_all [bI]) (hm_inc b)
        · skip
          rw [q1] at h23
          refine hm_aload_n dX5_isGood_26 rfl ?_
          refine hm_getR lf_RX5_54 rfl rfl (by first | exact Nat.lt_of_lt_of_le (by decide) hN | assumption | (simp only [hm_n_wI, hm_n_wL, hm_n_wR, hm_n_g] at *; omega)) (hM 17) dX5_isGood_27 ?_
          refine hm_iload_n dX5_isGood_30 rfl ?_
          refine hm_zald _ rfl (by first | exact Nat.lt_of_lt_of_le (by decide) hN | assumption | (simp only [hm_n_wI, hm_n_wL, hm_n_wR, hm_n_g] at *; omega)) rfl (by omega) (by decide) dX5_isGood_31 ?_
          rw [e5]
          refine hm_if_eq 39 dX5_isGood_32 (by decide) (fun h32 => ?_) (fun h32 => ?_)
          · skip
            rw [bI_0] at h32
            refine hm_iconst dX5_isGood_39 (v := 0) (by decide) ?_
            refine hm_istore_n dX5_isGood_40 (by decide) rfl ?_
            refine hm_iinc dX5_isGood_41 rfl _ rfl (by decide) rfl ?_
            refine hm_goto 4 dX5_isGood_44 (by decide) ?_
            exact ih2 _ _ (by omega) (by cases A <;> simp_all [bI]) (hm_inc b)
          · skip
            rw [bI_0] at h32
            refine hm_iconst dX5_isGood_35 (v := 1) (by decide) ?_
            refine hm_goto 40 dX5_isGood_36 (by decide) ?_
            refine hm_istore_n dX5_isGood_40 (by decide) rfl ?_
            refine hm_iinc dX5_isGood_41 rfl _ rfl (by decide) rfl ?_
            refine hm_goto 4 dX5_isGood_44 (by decide) ?_
            exact ih2 _ _ (by omega) (by cases A <;> simp_all [bI]) (hm_inc b)
  refine hm_iconst dX5_isGood_0 (v := 0) (by decide) ?_
  refine hm_istore_n dX5_isGood_1 (by decide) rfl ?_
  refine hm_iconst dX5_isGood_2 (v := 0) (by decide) ?_
  refine hm_istore_n dX5_isGood_3 (by decide) rfl ?_
  exact hl _ 0 _ _ (Nat.zero_add _) rfl rfl
set_option maxRecDepth 100000 in
theorem r5_isSlotTaken (h : rM α σ) (w : sW α) {p c sl : Nat} (hp : p < 8) (hc : c < 4) (hs : sl < 120) : hm_Ct l yX5_isSlotTaken cX5_isSlotTaken 6 (some .boolean) 0 0 0 [.ref 27, .int (nI p), .int (nI c), .int (nI sl)] σ (fun r τ => r = some (.int (bI (pTaken α p c sl))) ∧ τ = σ) := by
  obtain ⟨hN, hM⟩ := h.m
  obtain ⟨hb1, hb2⟩ := h.b
  have hlen := w.len
  have e0 : hm_I σ 28 c = nI (aN α 2 c) := h.n 2 c hc
  have h0 := w.bc c
  have q0 : nI (aN α 2 c / 10) = nI sl ↔ aN α 2 c / 10 = sl := nI_eq (by omega) (by omega)
  refine hm_startQ (ini := false) [.ref 27, .int (nI p), .int (nI c), .int (nI sl), hm_u, hm_u] (by decide) (by decide) rfl (Nat.le_of_ble_eq_true rfl) (fun Q hQ => ?_)
  have hl : ∀ (k b : Nat) (v u : Int32), b + k = (aB α).length → v = bI (decide (aN α 2 c / 10 = sl) || ((aB α).take b).any (fun x => (decide (bAt x = c) || decide (bOf x = p)) && decide (bCh x / 10 = sl))) → u = nI b → hm_V l RX5 cX5_isSlotTaken 6 (some .boolean) false (hm_rm 0 0 0) 0 0 Q 0 0 23 [.ref 27, .int (nI p), .int (nI c), .int (nI sl), .int v, .int u] [] σ := by
    intro k
    induction k with
    | zero =>
      intro b v u hk hv hu
      subst hu
      have hb : b = (aB α).length := by omega
      subst hb
      rw [List.take_length] at hv
      refine hm_iload dX5_isSlotTaken_23 rfl ?_
      refine hm_aload_n dX5_isSlotTaken_25 rfl ?_
      refine hm_getI lf_RX5_109 rfl rfl (by first | exact Nat.lt_of_lt_of_le (by decide) hN | assumption | (simp only [hm_n_wI, hm_n_wL, hm_n_wR, hm_n_g] at *; omega)) dX5_isSlotTaken_26 ?_
      rw [hb1]
      refine hm_icmp_ge 86 dX5_isSlotTaken_29 (by decide) (fun _ => ?_) (fun h29 => absurd (nI_le (Nat.le_refl _) (by omega)) h29)
      refine hm_iload dX5_isSlotTaken_86 rfl ?_
      refine hm_zret dX5_isSlotTaken_88 rfl (by decide) (by decide) (by rw [hv]; exact bI_01 _) ?_
      exact hQ _ _ ⟨by rw [hv]; rfl, rfl⟩
    | succ k ih =>
      intro b v u hk hv hu
      subst hu
      obtain ⟨x, hx⟩ : ∃ x, (aB α)[b]? = some x := ⟨_, List.getElem?_eq_getElem (by omega)⟩
      obtain ⟨e1, e2, e3, e4, e5⟩ := hb2 b x hx
      obtain ⟨x1, x2, x3⟩ := w.xb hx
      have q1 : nI (bOf x) = nI p ↔ bOf x = p := nI_eq (by omega) (by omega)
      have q2 : nI (bAt x) = nI c ↔ bAt x = c := nI_eq (by omega) (by omega)
      have q3 : nI (bCh x / 10) = nI sl ↔ bCh x / 10 = sl := nI_eq (by omega) (by omega)
      have ih2 := ih (b + 1)
      rw [any_take hx, ← Bool.or_assoc] at ih2
      generalize (decide (aN α 2 c / 10 = sl) || ((aB α).take b).any (fun x => (decide (bAt x = c) || decide (bOf x = p)) && decide (bCh x / 10 = sl))) = A at hv ih2
      subst hv
      refine hm_iload dX5_isSlotTaken_23 rfl ?_
      refine hm_aload_n dX5_isSlotTaken_25 rfl ?_
      refine hm_getI lf_RX5_109 rfl rfl (by first | exact Nat.lt_of_lt_of_le (by decide) hN | assumption | (simp only [hm_n_wI, hm_n_wL, hm_n_wR, hm_n_g] at *; omega)) dX5_isSlotTaken_26 ?_
      rw [hb1]
      refine hm_icmp_ge 86 dX5_isSlotTaken_29 (by decide) (fun h29 => absurd h29 (nI_ge (by omega) (by omega))) (fun _ => ?_)
      refine hm_iload dX5_isSlotTaken_32 rfl ?_
      refine hm_if_ne 73 dX5_isSlotTaken_34 (by decide) (fun h34 => ?_) (fun h34 => ?_)
      · skip
        refine hm_iconst dX5_isSlotTaken_73 (v := 1) (by decide) ?_
        refine hm_goto 78 dX5_isSlotTaken_74 (by decide) ?_
        refine hm_istore dX5_isSlotTaken_78 (by decide) rfl ?_
        refine hm_iinc dX5_isSlotTaken_80 rfl _ rfl (by decide) rfl ?_
        refine hm_goto 23 dX5_isSlotTaken_83 (by decide) ?_
        exact ih2 _ _ (by omega) (by cases A <;> simp_all [bI]) (hm_inc b)
      · skip
        refine hm_aload_n dX5_isSlotTaken_37 rfl ?_
        refine hm_getR lf_RX5_45 rfl rfl (by first | exact Nat.lt_of_lt_of_le (by decide) hN | assumption | (simp only [hm_n_wI, hm_n_wL, hm_n_wR, hm_n_g] at *; omega)) (hM 14) dX5_isSlotTaken_38 ?_
        refine hm_iload dX5_isSlotTaken_41 rfl ?_
        refine hm_iald _ rfl (by first | exact Nat.lt_of_lt_of_le (by decide) hN | assumption | (simp only [hm_n_wI, hm_n_wL, hm_n_wR, hm_n_g] at *; omega)) rfl (by omega) (by decide) dX5_isSlotTaken_43 ?_
        rw [e2]
        refine hm_iload_n dX5_isSlotTaken_44 rfl ?_
        refine hm_icmp_eq 59 dX5_isSlotTaken_45 (by decide) (fun h45 => ?_) (fun h45 => ?_)
        · skip
          rw [q2] at h45
          refine hm_aload_n dX5_isSlotTaken_59 rfl ?_
          refine hm_getR lf_RX5_48 rfl rfl (by first | exact Nat.lt_of_lt_of_le (by decide) hN | assumption | (simp only [hm_n_wI, hm_n_wL, hm_n_wR, hm_n_g] at *; omega)) (hM 15) dX5_isSlotTaken_60 ?_
          refine hm_iload dX5_isSlotTaken_63 rfl ?_
          refine hm_iald _ rfl (by first | exact Nat.lt_of_lt_of_le (by decide) hN | assumption | (simp only [hm_n_wI, hm_n_wL, hm_n_wR, hm_n_g] at *; omega)) rfl (by omega) (by decide) dX5_isSlotTaken_65 ?_
          refine hm_bipush dX5_isSlotTaken_66 (v := 10) (by decide) ?_
          refine hm_idiv dX5_isSlotTaken_68 (by decide) ?_
          rw [e3, div10 (by omega)]
          refine hm_iload_n dX5_isSlotTaken_69 rfl ?_
          refine hm_icmp_ne 77 dX5_isSlotTaken_70 (by decide) (fun h70 => ?_) (fun h70 => ?_)
          · skip
            rw [q3] at h70
            refine hm_iconst dX5_isSlotTaken_77 (v := 0) (by decide) ?_
            refine hm_istore dX5_isSlotTaken_78 (by decide) rfl ?_
            refine hm_iinc dX5_isSlotTaken_80 rfl _ rfl (by decide) rfl ?_
            refine hm_goto 23 dX5_isSlotTaken_83 (by decide) ?_
            exact ih2 _ _ (by omega) (by cases A <;> simp_all [bI]) (hm_inc b)
          · skip
            rw [q3] at h70
            refine hm_iconst dX5_isSlotTaken_73 (v := 1) (by decide) ?_
            refine hm_goto 78 dX5_isSlotTaken_74 (by decide) ?_
            refine hm_istore dX5_isSlotTaken_78 (by decide) rfl ?_
            refine hm_iinc dX5_isSlotTaken_80 rfl _ rfl (by decide) rfl ?_
            refine hm_goto 23 dX5_isSlotTaken_83 (by decide) ?_
            exact ih2 _ _ (by omega) (by cases A <;> simp_all [bI]) (hm_inc b)
        · skip
          rw [q2] at h45
          refine hm_aload_n dX5_isSlotTaken_48 rfl ?_
          refine hm_getR lf_RX5_42 rfl rfl (by first | exact Nat.lt_of_lt_of_le (by decide) hN | assumption | (simp only [hm_n_wI, hm_n_wL, hm_n_wR, hm_n_g] at *; omega)) (hM 13) dX5_isSlotTaken_49 ?_
          refine hm_iload dX5_isSlotTaken_52 rfl ?_
          refine hm_iald _ rfl (by first | exact Nat.lt_of_lt_of_le (by decide) hN | assumption | (simp only [hm_n_wI, hm_n_wL, hm_n_wR, hm_n_g] at *; omega)) rfl (by omega) (by decide) dX5_isSlotTaken_54 ?_
          rw [e1]
          refine hm_iload_n dX5_isSlotTaken_55 rfl ?_
          refine hm_icmp_ne 77 dX5_isSlotTaken_56 (by decide) (fun h56 => ?_) (fun h56 => ?_)
          · skip
            rw [q1] at h56
            refine hm_iconst dX5_isSlotTaken_77 (v := 0) (by decide) ?_
            refine hm_istore dX5_isSlotTaken_78 (by decide) rfl ?_
            refine hm_iinc dX5_isSlotTaken_80 rfl _ rfl (by decide) rfl ?_
            refine hm_goto 23 dX5_isSlotTaken_83 (by decide) ?_
            exact ih2 _ _ (by omega) (by cases A <;> simp_all [bI]) (hm_inc b)
          · skip
            rw [q1] at h56
            refine hm_aload_n dX5_isSlotTaken_59 rfl ?_
            refine hm_getR lf_RX5_48 rfl rfl (by first | exact Nat.lt_of_lt_of_le (by decide) hN | assumption | (simp only [hm_n_wI, hm_n_wL, hm_n_wR, hm_n_g] at *; omega)) (hM 15) dX5_isSlotTaken_60 ?_
            refine hm_iload dX5_isSlotTaken_63 rfl ?_
            refine hm_iald _ rfl (by first | exact Nat.lt_of_lt_of_le (by decide) hN | assumption | (simp only [hm_n_wI, hm_n_wL, hm_n_wR, hm_n_g] at *; omega)) rfl (by omega) (by decide) dX5_isSlotTaken_65 ?_
            refine hm_bipush dX5_isSlotTaken_66 (v := 10) (by decide) ?_
            refine hm_idiv dX5_isSlotTaken_68 (by decide) ?_
            rw [e3, div10 (by omega)]
            refine hm_iload_n dX5_isSlotTaken_69 rfl ?_
            refine hm_icmp_ne 77 dX5_isSlotTaken_70 (by decide) (fun h70 => ?_) (fun h70 => ?_)
            · skip
              rw [q3] at h70
              refine hm_iconst dX5_isSlotTaken_77 (v := 0) (by decide) ?_
              refine hm_istore dX5_isSlotTaken_78 (by decide) rfl ?_
              refine hm_iinc dX5_isSlotTaken_80 rfl _ rfl (by decide) rfl ?_
              refine hm_goto 23 dX5_isSlotTaken_83 (by decide) ?_
              exact ih2 _ _ (by omega) (by cases A <;> simp_all [bI]) (hm_inc b)
            · skip
              rw [q3] at h70
              refine hm_iconst dX5_isSlotTaken_73 (v := 1) (by decide) ?_
              refine hm_goto 78 dX5_isSlotTaken_74 (by decide) ?_
              refine hm_istore dX5_isSlotTaken_78 (by decide) rfl ?_
              refine hm_iinc dX5_isSlotTaken_80 rfl _ rfl (by decide) rfl ?_
              refine hm_goto 23 dX5_isSlotTaken_83 (by decide) ?_
              exact ih2 _ _ (by omega) (by cases A <;> simp_all [bI]) (hm_inc b)
  refine hm_aload_n dX5_isSlotTaken_0 rfl ?_
  refine hm_getR lf_RX5_7 rfl rfl (by first | exact Nat.lt_of_lt_of_le (by decide) hN | assumption | (simp only [hm_n_wI, hm_n_wL, hm_n_wR, hm_n_g] at *; omega)) (hM 1) dX5_isSlotTaken_1 ?_
  refine hm_iload_n dX5_isSlotTaken_4 rfl ?_
  refine hm_iald _ rfl (by first | exact Nat.lt_of_lt_of_le (by decide) hN | assumption | (simp only [hm_n_wI, hm_n_wL, hm_n_wR, hm_n_g] at *; omega)) rfl (by omega) (by decide) dX5_isSlotTaken_5 ?_
  refine hm_bipush dX5_isSlotTaken_6 (v := 10) (by decide) ?_
  refine hm_idiv dX5_isSlotTaken_8 (by decide) ?_
  rw [e0, div10 (by omega)]
  refine hm_iload_n dX5_isSlotTaken_9 rfl ?_
  refine hm_icmp_ne 17 dX5_isSlotTaken_10 (by decide) (fun h10 => ?_) (fun h10 => ?_)
  · skip
    rw [q0] at h10
    refine hm_iconst dX5_isSlotTaken_17 (v := 0) (by decide) ?_
    refine hm_istore dX5_isSlotTaken_18 (by decide) rfl ?_
    refine hm_iconst dX5_isSlotTaken_20 (v := 0) (by decide) ?_
    refine hm_istore dX5_isSlotTaken_21 (by decide) rfl ?_
    exact hl _ 0 _ _ (Nat.zero_add _) (by simp [bI, h10]) rfl
  · skip
    rw [q0] at h10
    refine hm_iconst dX5_isSlotTaken_13 (v := 1) (by decide) ?_
    refine hm_goto 18 dX5_isSlotTaken_14 (by decide) ?_
    refine hm_istore dX5_isSlotTaken_18 (by decide) rfl ?_
    refine hm_iconst dX5_isSlotTaken_20 (v := 0) (by decide) ?_
    refine hm_istore dX5_isSlotTaken_21 (by decide) rfl ?_
    exact hl _ 0 _ _ (Nat.zero_add _) (by simp [bI, h10]) rfl
end M4
end
section
/-! the reference: first bearer, mix, bearers that go, calls that end -/
theorem fi_some {β : Type} {f : β → Bool} {x : β} : ∀ {l : List β} {i : Nat}, l[i]? = some x → f x = true → (∀ (j : Nat) (y : β), j < i → l[j]? = some y → f y = false) → l.findIdx? f = some i ∧ l.find? f = some x := by
  intro l
  induction l with
  | nil => intro i h; simp at h
  | cons a t ih =>
    intro i h hf hl
    match i, h with
    | 0, h =>
      simp at h
      subst h
      simp [List.findIdx?_cons, List.find?_cons, hf]
    | i + 1, h =>
      have ha : f a = false := hl 0 a (by omega) rfl
      have h2 := ih (i := i) (by simpa using h) hf (fun j y hj hy => hl (j + 1) y (by omega) (by simpa using hy))
      simp [List.findIdx?_cons, List.find?_cons, ha, h2.1, h2.2]
theorem fi_none {β : Type} {f : β → Bool} {l : List β} (h : ∀ (j : Nat) (y : β), l[j]? = some y → f y = false) : l.findIdx? f = none ∧ l.find? f = none ∧ l.countP f = 0 := by
  have h' : ∀ y ∈ l, f y = false := fun y hy => by
    obtain ⟨j, hj⟩ := List.getElem?_of_mem hy
    exact h j y hj
  refine ⟨List.findIdx?_eq_none_iff.mpr h', List.find?_eq_none.mpr (fun y hy => by rw [h' y hy]; decide), List.countP_eq_zero.mpr (fun y hy => by rw [h' y hy]; decide)⟩
theorem fi_cases {β : Type} (f : β → Bool) (l : List β) : (l.findIdx? f = none ∧ l.find? f = none ∧ l.countP f = 0) ∨ ∃ i x, l.findIdx? f = some i ∧ l[i]? = some x ∧ f x = true ∧ l.find? f = some x ∧ i < l.length ∧ 0 < l.countP f ∧ ∀ (j : Nat) (y : β), j < i → l[j]? = some y → f y = false := by
  cases h : l.findIdx? f with
  | none =>
    left
    have := List.findIdx?_eq_none_iff.mp h
    refine ⟨rfl, (fi_none (fun j y hy => this y (List.mem_of_getElem? hy))).2⟩
  | some i =>
    right
    obtain ⟨h1, h2, h3⟩ := List.findIdx?_eq_some_iff_getElem.mp h
    have hx : l[i]? = some l[i] := List.getElem?_eq_getElem h1
    have h4 : ∀ (j : Nat) (y : β), j < i → l[j]? = some y → f y = false := fun j y hj hy => by
      have := h3 j hj
      have e : l[j]'(by omega) = y := Option.some.inj ((List.getElem?_eq_getElem (by omega)).symm.trans hy)
      rw [e] at this
      simpa using this
    exact ⟨i, l[i], rfl, hx, h2, (fi_some hx h2 h4).2, h1, List.countP_pos_iff.mpr ⟨l[i], List.getElem_mem h1, h2⟩, h4⟩
def pFi (α : sA) (p : Nat) : Option Nat := (aB α).findIdx? (fun x => decide (bOf x = p))
def oI (o : Option Nat) (d : Int32) : Int32 := match o with
  | some i => nI i
  | none => d
theorem rM.newB {α : sA} {σ τ : hm_M} {E : List sBr} (h : rM α σ) (h1 : ∀ a k, ¬ (38 ≤ a ∧ a ≤ 42) → ¬ (a = 27 ∧ k = 12) → hm_I τ a k = hm_I σ a k) (h2 : hm_L τ = hm_L σ) (h3 : hm_R τ = hm_R σ) (h4 : hm_n τ = hm_n σ) (h5 : md_B E τ) : rM (sB α E) τ := by
  refine ⟨⟨by rw [h4]; exact h.m.1, fun k => by rw [h3]; exact h.m.2 k⟩, fun f i hi => ?_, fun f i hi => ?_, fun f i hi => ?_, h5, fun p hp => ?_⟩
  · obtain ⟨s1, s2, s3, s4, s5, -, -, -, -, -, -, -, -, -, s6⟩ := md_lN_sc hi
    rw [h1 _ _ (by omega) (fun q => s6 (Prod.ext q.1 q.2))]; exact h.n f i hi
  · obtain ⟨s1, s2, s3, s4, s5, -, -, -, -, -, -, -, -, -, s6⟩ := md_lI_sc hi
    rw [h1 _ _ (by omega) (fun q => s6 (Prod.ext q.1 q.2))]; exact h.i f i hi
  · rw [h2]; exact h.l f i hi
  · obtain ⟨e1, e2, e3, e4, e5⟩ := h.q p hp
    refine ⟨?_, ?_, ?_, ?_, ?_⟩
    · rw [h1 _ _ (by omega) (by omega)]; exact e1
    · rw [h1 _ _ (by omega) (by omega)]; exact e2
    · rw [h2]; exact e3
    · rw [h2]; exact e4
    · rw [h2]; exact e5
section M5
variable (l : Launch) {α : sA} {σ : hm_M}
set_option maxRecDepth 100000 in
theorem r5_bearerOf (h : rM α σ) (w : sW α) {p : Nat} (hp : p < 8) : hm_Ct l yX5_bearerOf cX5_bearerOf 3 (some .int) 0 0 0 [.ref 27, .int (nI p)] σ (fun r τ => r = some (.int (oI (pFi α p) (-1))) ∧ τ = σ) := by
  obtain ⟨hN, hM⟩ := h.m
  obtain ⟨hb1, hb2⟩ := h.b
  have hlen := w.len
  refine hm_startQ (ini := false) [.ref 27, .int (nI p), hm_u] (by decide) (by decide) rfl (Nat.le_of_ble_eq_true rfl) (fun Q hQ => ?_)
  have hl : ∀ (k b : Nat) (u : Int32), b + k = (aB α).length → (∀ j y, j < b → (aB α)[j]? = some y → decide (bOf y = p) = false) → u = nI b → hm_V l RX5 cX5_bearerOf 3 (some .int) false (hm_rm 0 0 0) 0 0 Q 0 0 2 [.ref 27, .int (nI p), .int u] [] σ := by
    intro k
    induction k with
    | zero =>
      intro b u hk hv hu
      subst hu
      have hb : b = (aB α).length := by omega
      subst hb
      have hf := (fi_none (f := fun x => decide (bOf x = p)) (l := aB α) (fun j y hy => hv j y (List.getElem?_eq_some_iff.mp hy).1 hy)).1
      refine hm_iload_n dX5_bearerOf_2 rfl ?_
      refine hm_aload_n dX5_bearerOf_3 rfl ?_
      refine hm_getI lf_RX5_109 rfl rfl (by first | exact Nat.lt_of_lt_of_le (by decide) hN | assumption | (simp only [hm_n_wI, hm_n_wL, hm_n_wR, hm_n_g] at *; omega)) dX5_bearerOf_4 ?_
      rw [hb1]
      refine hm_icmp_ge 26 dX5_bearerOf_7 (by decide) (fun _ => ?_) (fun h7 => absurd (nI_le (Nat.le_refl _) (by omega)) h7)
      refine hm_iload_n dX5_bearerOf_26 rfl ?_
      refine hm_aload_n dX5_bearerOf_27 rfl ?_
      refine hm_getI lf_RX5_109 rfl rfl (by first | exact Nat.lt_of_lt_of_le (by decide) hN | assumption | (simp only [hm_n_wI, hm_n_wL, hm_n_wR, hm_n_g] at *; omega)) dX5_bearerOf_28 ?_
      rw [hb1]
      refine hm_icmp_ge 38 dX5_bearerOf_31 (by decide) (fun _ => ?_) (fun h31 => absurd (nI_le (Nat.le_refl _) (by omega)) h31)
      refine hm_iconst dX5_bearerOf_38 (v := -1) (by decide) ?_
      refine hm_iret dX5_bearerOf_39 rfl (by decide) (by decide) ?_
      exact hQ _ _ ⟨by unfold pFi; rw [hf]; rfl, rfl⟩
    | succ k ih =>
      intro b u hk hv hu
      subst hu
      obtain ⟨x, hx⟩ : ∃ x, (aB α)[b]? = some x := ⟨_, List.getElem?_eq_getElem (by omega)⟩
      obtain ⟨e1, e2, e3, e4, e5⟩ := hb2 b x hx
      obtain ⟨x1, x2, x3⟩ := w.xb hx
      have q1 : nI (bOf x) = nI p ↔ bOf x = p := nI_eq (by omega) (by omega)
      refine hm_iload_n dX5_bearerOf_2 rfl ?_
      refine hm_aload_n dX5_bearerOf_3 rfl ?_
      refine hm_getI lf_RX5_109 rfl rfl (by first | exact Nat.lt_of_lt_of_le (by decide) hN | assumption | (simp only [hm_n_wI, hm_n_wL, hm_n_wR, hm_n_g] at *; omega)) dX5_bearerOf_4 ?_
      rw [hb1]
      refine hm_icmp_ge 26 dX5_bearerOf_7 (by decide) (fun h7 => absurd h7 (nI_ge (by omega) (by omega))) (fun _ => ?_)
      refine hm_aload_n dX5_bearerOf_10 rfl ?_
      refine hm_getR lf_RX5_42 rfl rfl (by first | exact Nat.lt_of_lt_of_le (by decide) hN | assumption | (simp only [hm_n_wI, hm_n_wL, hm_n_wR, hm_n_g] at *; omega)) (hM 13) dX5_bearerOf_11 ?_
      refine hm_iload_n dX5_bearerOf_14 rfl ?_
      refine hm_iald _ rfl (by first | exact Nat.lt_of_lt_of_le (by decide) hN | assumption | (simp only [hm_n_wI, hm_n_wL, hm_n_wR, hm_n_g] at *; omega)) rfl (by omega) (by decide) dX5_bearerOf_15 ?_
      rw [e1]
      refine hm_iload_n dX5_bearerOf_16 rfl ?_
      refine hm_icmp_eq 26 dX5_bearerOf_17 (by decide) (fun h17 => ?_) (fun h17 => ?_)
      · skip
        rw [q1] at h17
        refine hm_iload_n dX5_bearerOf_26 rfl ?_
        refine hm_aload_n dX5_bearerOf_27 rfl ?_
        refine hm_getI lf_RX5_109 rfl rfl (by first | exact Nat.lt_of_lt_of_le (by decide) hN | assumption | (simp only [hm_n_wI, hm_n_wL, hm_n_wR, hm_n_g] at *; omega)) dX5_bearerOf_28 ?_
        rw [hb1]
        refine hm_icmp_ge 38 dX5_bearerOf_31 (by decide) (fun h31 => absurd h31 (nI_ge (by omega) (by omega))) (fun _ => ?_)
        refine hm_iload_n dX5_bearerOf_34 rfl ?_
        refine hm_goto 39 dX5_bearerOf_35 (by decide) ?_
        refine hm_iret dX5_bearerOf_39 rfl (by decide) (by decide) ?_
        exact hQ _ _ ⟨by unfold pFi; rw [(fi_some (f := fun x => decide (bOf x = p)) hx (by simp [h17]) hv).1]; rfl, rfl⟩
      · skip
        rw [q1] at h17
        refine hm_iinc dX5_bearerOf_20 rfl _ rfl (by decide) rfl ?_
        refine hm_goto 2 dX5_bearerOf_23 (by decide) ?_
        exact ih (b + 1) _ (by omega) (fun j y hj hy => by rcases Nat.lt_or_ge j b with q | q; exact hv j y q hy; rw [show j = b by omega, hx] at hy; cases hy; simp [h17]) (hm_inc b)
  refine hm_iconst dX5_bearerOf_0 (v := 0) (by decide) ?_
  refine hm_istore_n dX5_bearerOf_1 (by decide) rfl ?_
  exact hl _ 0 _ (Nat.zero_add _) (fun j y hj => absurd hj (by omega)) rfl
set_option maxRecDepth 100000 in
theorem r5_handsOver (h : rM α σ) (w : sW α) {p : Nat} (hp : p < 8) : hm_Ct l yX5_handsOver cX5_handsOver 2 (some .boolean) 1 0 0 [.ref 27, .int (nI p)] σ (fun r τ => r = some (.int (bI (pHo α p))) ∧ τ = σ) := by
  obtain ⟨hN, hM⟩ := h.m
  obtain ⟨hb1, hb2⟩ := h.b
  have hlen := w.len
  have hnb := w.nb p
  have q0 : nI (pNb α p) = 1 ↔ pNb α p = 1 := nI_eq (b := 1) (by omega) (by decide)
  refine hm_startQ (ini := false) [.ref 27, .int (nI p)] (by decide) (by decide) rfl (Nat.le_of_ble_eq_true rfl) (fun Q hQ => ?_)
  refine hm_aload_n dX5_handsOver_0 rfl ?_
  refine hm_iload_n dX5_handsOver_1 rfl ?_
  refine hm_callV lm_RX5_151 (r5_bearersOf l h w hp) rfl rfl rfl rfl (by first | exact Nat.lt_of_lt_of_le (by decide) hN | assumption | (simp only [hm_n_wI, hm_n_wL, hm_n_wR, hm_n_g] at *; omega)) (by decide) (by decide) (Nat.le_of_ble_eq_true rfl) dX5_handsOver_2 ?_
  rintro _ _ ⟨rfl, rfl⟩
  refine hm_iconst dX5_handsOver_5 (v := 1) (by decide) ?_
  refine hm_icmp_ne 27 dX5_handsOver_6 (by decide) (fun h6 => ?_) (fun h6 => ?_)
  · skip
    rw [q0] at h6
    refine hm_iconst dX5_handsOver_27 (v := 0) (by decide) ?_
    refine hm_zret dX5_handsOver_28 rfl (by decide) (by decide) (by first | exact Or.inl rfl | exact Or.inr rfl | assumption) ?_
    exact hQ _ _ ⟨by simp_all [pHo, bI, ← Int32.not_lt], rfl⟩
  · skip
    rw [q0] at h6
    rcases fi_cases (fun x => decide (bOf x = p)) (aB α) with ⟨-, -, c0⟩ | ⟨i, x, c1, c2, c3, c4, c5, c6, c7⟩
    (have c0' : pNb α p = 0 := c0)
    omega
    have d1 : pFi α p = some i := c1
    have d2 : pFst α p = some x := c4
    have d3 := (hb2 i x c2).2.2.2.1
    refine hm_aload_n dX5_handsOver_9 rfl ?_
    refine hm_getR lf_RX5_51 rfl rfl (by first | exact Nat.lt_of_lt_of_le (by decide) hN | assumption | (simp only [hm_n_wI, hm_n_wL, hm_n_wR, hm_n_g] at *; omega)) (hM 16) dX5_handsOver_10 ?_
    refine hm_aload_n dX5_handsOver_13 rfl ?_
    refine hm_iload_n dX5_handsOver_14 rfl ?_
    refine hm_callV lm_RX5_154 (r5_bearerOf l h w hp) rfl rfl rfl rfl (by first | exact Nat.lt_of_lt_of_le (by decide) hN | assumption | (simp only [hm_n_wI, hm_n_wL, hm_n_wR, hm_n_g] at *; omega)) (by decide) (by decide) (Nat.le_of_ble_eq_true rfl) dX5_handsOver_15 ?_
    rintro _ _ ⟨rfl, rfl⟩
    rw [d1]
    refine hm_iald i rfl (by first | exact Nat.lt_of_lt_of_le (by decide) hN | assumption | (simp only [hm_n_wI, hm_n_wL, hm_n_wR, hm_n_g] at *; omega)) rfl (by omega) (by decide) dX5_handsOver_18 ?_
    rw [d3]
    refine hm_iconst dX5_handsOver_19 (v := 3) (by decide) ?_
    refine hm_icmp_lt 27 dX5_handsOver_20 (by decide) (fun h20 => ?_) (fun h20 => ?_)
    · skip
      refine hm_iconst dX5_handsOver_27 (v := 0) (by decide) ?_
      refine hm_zret dX5_handsOver_28 rfl (by decide) (by decide) (by first | exact Or.inl rfl | exact Or.inr rfl | assumption) ?_
      exact hQ _ _ ⟨by simp_all [pHo, bI, ← Int32.not_lt], rfl⟩
    · skip
      refine hm_iconst dX5_handsOver_23 (v := 1) (by decide) ?_
      refine hm_goto 28 dX5_handsOver_24 (by decide) ?_
      refine hm_zret dX5_handsOver_28 rfl (by decide) (by decide) (by first | exact Or.inl rfl | exact Or.inr rfl | assumption) ?_
      exact hQ _ _ ⟨by simp_all [pHo, bI, ← Int32.not_lt], rfl⟩
set_option maxRecDepth 100000 in
theorem r5_mix (σ : hm_M) (key n : Int64) : hm_Ct l yX5_mix cX5_mix 8 (some .long) 0 0 0 [.ref 27, .long key, .long n] σ (fun r τ => r = some (.long (pMix key n)) ∧ τ = σ) := by
  refine hm_startQ (ini := false) [.ref 27, .long key, hm_u, .long n, hm_u, hm_u, hm_u, hm_u] (by decide) (by decide) rfl (Nat.le_of_ble_eq_true rfl) (fun Q hQ => ?_)
  refine hm_lload_n dX5_mix_0 rfl ?_
  refine hm_lload_n dX5_mix_1 rfl ?_
  refine hm_ldc2 dX5_mix_2 lk_RX5_214 ?_
  refine hm_lmul dX5_mix_5 ?_
  refine hm_lxor dX5_mix_6 ?_
  refine hm_lstore dX5_mix_7 (by decide) rfl ?_
  refine hm_iconst dX5_mix_9 (v := 0) (by decide) ?_
  refine hm_istore dX5_mix_10 (by decide) rfl ?_
  skip
  refine hm_iload dX5_mix_12 rfl ?_
  refine hm_iconst dX5_mix_14 (v := 2) (by decide) ?_
  refine hm_icmp_ge 38 dX5_mix_15 (by decide) (fun h15 => absurd h15 (by decide)) (fun _ => ?_)
  refine hm_lload dX5_mix_18 rfl ?_
  refine hm_lload dX5_mix_20 rfl ?_
  refine hm_bipush dX5_mix_22 (v := 29) (by decide) ?_
  refine hm_lushr dX5_mix_24 ?_
  refine hm_lxor dX5_mix_25 ?_
  refine hm_ldc2 dX5_mix_26 lk_RX5_216 ?_
  refine hm_lmul dX5_mix_29 ?_
  refine hm_lstore dX5_mix_30 (by decide) rfl ?_
  refine hm_iinc dX5_mix_32 rfl _ rfl (by decide) rfl ?_
  refine hm_goto 12 dX5_mix_35 (by decide) ?_
  skip
  refine hm_iload dX5_mix_12 rfl ?_
  refine hm_iconst dX5_mix_14 (v := 2) (by decide) ?_
  refine hm_icmp_ge 38 dX5_mix_15 (by decide) (fun h15 => absurd h15 (by decide)) (fun _ => ?_)
  refine hm_lload dX5_mix_18 rfl ?_
  refine hm_lload dX5_mix_20 rfl ?_
  refine hm_bipush dX5_mix_22 (v := 29) (by decide) ?_
  refine hm_lushr dX5_mix_24 ?_
  refine hm_lxor dX5_mix_25 ?_
  refine hm_ldc2 dX5_mix_26 lk_RX5_216 ?_
  refine hm_lmul dX5_mix_29 ?_
  refine hm_lstore dX5_mix_30 (by decide) rfl ?_
  refine hm_iinc dX5_mix_32 rfl _ rfl (by decide) rfl ?_
  refine hm_goto 12 dX5_mix_35 (by decide) ?_
  skip
  refine hm_iload dX5_mix_12 rfl ?_
  refine hm_iconst dX5_mix_14 (v := 2) (by decide) ?_
  refine hm_icmp_ge 38 dX5_mix_15 (by decide) (fun _ => ?_) (fun h15 => absurd (by decide) h15)
  refine hm_lload dX5_mix_38 rfl ?_
  refine hm_lret dX5_mix_40 rfl (by decide) (by decide) ?_
  exact hQ _ _ ⟨rfl, rfl⟩
theorem r5_isCaller (σ : hm_M) (s : Int32) : hm_Ct l yX5_isCaller cX5_isCaller 1 (some .boolean) 1 0 0 [.int s] σ (fun r τ => r = some (.int (bI (pCaller s))) ∧ τ = σ) := by
  refine hm_startQ (ini := false) [.int s] (by decide) (by decide) rfl (Nat.le_of_ble_eq_true rfl) (fun Q hQ => ?_)
  refine hm_iload_n dX5_isCaller_0 rfl ?_
  refine hm_iconst dX5_isCaller_1 (v := 1) (by decide) ?_
  refine hm_iconst dX5_isCaller_2 (v := 3) (by decide) ?_
  refine hm_callS lm_RX5_88 (c5_in l _ _ _ _) rfl rfl (by decide) (by decide) (Nat.le_of_ble_eq_true rfl) dX5_isCaller_3 ?_
  rintro _ _ ⟨rfl, rfl⟩
  refine hm_zret dX5_isCaller_6 rfl (by decide) (by decide) (bI_01 _) ?_
  exact hQ _ _ ⟨rfl, rfl⟩
end M5
end
section
/-! the reference: a bearer goes, a portable becomes idle, a call ends -/
def md_ar (τ : hm_M) (j : Nat) (x : sBr) : Prop := hm_I τ 38 j = nI (bOf x) ∧ hm_I τ 39 j = nI (bAt x) ∧ hm_I τ 40 j = nI (bCh x) ∧ hm_I τ 41 j = bFl x ∧ hm_I τ 42 j = bI (bGd x)
def md_cp (τ : hm_M) (k : Nat) : hm_M := hm_wI (hm_wI (hm_wI (hm_wI (hm_wI τ 38 k (hm_I τ 38 (k + 1))) 39 k (hm_I τ 39 (k + 1))) 40 k (hm_I τ 40 (k + 1))) 41 k (hm_I τ 41 (k + 1))) 42 k (hm_I τ 42 (k + 1))
theorem md_cp_o (τ : hm_M) (k a j : Nat) (h : ¬ (38 ≤ a ∧ a ≤ 42) ∨ j ≠ k) : hm_I (md_cp τ k) a j = hm_I τ a j := by
  unfold md_cp
  rw [hm_I_wI, if_neg (by omega), hm_I_wI, if_neg (by omega), hm_I_wI, if_neg (by omega), hm_I_wI, if_neg (by omega), hm_I_wI, if_neg (by omega)]
theorem md_cp_ar {τ : hm_M} {k : Nat} {x : sBr} (h : md_ar τ (k + 1) x) : md_ar (md_cp τ k) k x := by
  obtain ⟨h1, h2, h3, h4, h5⟩ := h
  refine ⟨?_, ?_, ?_, ?_, ?_⟩ <;> simp [md_cp, hm_I_wI, *]
theorem md_cp_ne {τ : hm_M} {k j : Nat} {x : sBr} (h : md_ar τ j x) (hj : j ≠ k) : md_ar (md_cp τ k) j x := by
  obtain ⟨h1, h2, h3, h4, h5⟩ := h
  refine ⟨?_, ?_, ?_, ?_, ?_⟩ <;> rw [md_cp_o _ _ _ _ (Or.inr hj)] <;> assumption
section M6
variable (l : Launch) {α : sA} {σ : hm_M}
set_option maxRecDepth 100000 in
theorem r5_dropBearer (h : rM α σ) (hlen : (aB α).length ≤ 16) {b : Nat} (hb : b < (aB α).length) : hm_Ct l yX5_dropBearer cX5_dropBearer 3 none 0 0 0 [.ref 27, .int (nI b)] σ (fun r τ => r = none ∧ rM (sB α ((aB α).eraseIdx b)) τ ∧ md_fr σ τ) := by
  obtain ⟨hN, hM⟩ := h.m
  obtain ⟨hb1, hb2⟩ := h.b
  refine hm_startQ (ini := false) [.ref 27, .int (nI b), hm_u] (by decide) (by decide) rfl (Nat.le_of_ble_eq_true rfl) (fun Q hQ => ?_)
  have hl : ∀ (m k : Nat) (τ : hm_M) (u : Int32), k + m + 1 = (aB α).length → b ≤ k → u = nI k → hm_I τ 27 12 = nI ((aB α).length - 1) → (∀ j x, j < k → ((aB α).eraseIdx b)[j]? = some x → md_ar τ j x) → (∀ j x, k ≤ j → (aB α)[j]? = some x → md_ar τ j x) → (∀ a k, ¬ (38 ≤ a ∧ a ≤ 42) → ¬ (a = 27 ∧ k = 12) → hm_I τ a k = hm_I σ a k) → hm_L τ = hm_L σ → hm_R τ = hm_R σ → hm_n τ = hm_n σ → hm_V l RX5 cX5_dropBearer 3 none false (hm_rm 0 0 0) 0 0 Q 0 0 12 [.ref 27, .int (nI b), .int u] [] τ := by
    intro m
    induction m with
    | zero =>
      intro k τ u hk hbk hu i1 i2 i3 i4 i5 i6 i7
      subst hu
      have hN : 52 ≤ hm_n τ := by rw [i7]; exact hN
      have hM : ∀ k, hm_R τ 27 k = md_tab k := fun k => by rw [i6]; exact hM k
      refine hm_iload_n dX5_dropBearer_12 rfl ?_
      refine hm_aload_n dX5_dropBearer_13 rfl ?_
      refine hm_getI lf_RX5_109 rfl rfl (by first | exact Nat.lt_of_lt_of_le (by decide) hN | assumption | (simp only [hm_n_wI, hm_n_wL, hm_n_wR, hm_n_g] at *; omega)) dX5_dropBearer_14 ?_
      rw [i1]
      refine hm_icmp_ge 96 dX5_dropBearer_17 (by decide) (fun _ => ?_) (fun h17 => absurd (nI_le (by omega) (by omega)) h17)
      refine hm_vret dX5_dropBearer_96 rfl (by decide) (by decide) ?_
      refine hQ _ _ ⟨rfl, h.newB i4 i5 i6 i7 ⟨?_, fun j x hj => ?_⟩, i7, i6, fun a k ha => ⟨i4 a k (by omega) (by omega), by rw [i5]⟩⟩
      rw [i1, List.length_eraseIdx, if_pos hb]
      (have := (List.getElem?_eq_some_iff.mp hj).1)
      rw [List.length_eraseIdx, if_pos hb] at this
      exact i2 j x (by omega) hj
    | succ m ih =>
      intro k τ u hk hbk hu i1 i2 i3 i4 i5 i6 i7
      subst hu
      have hN : 52 ≤ hm_n τ := by rw [i7]; exact hN
      have hM : ∀ k, hm_R τ 27 k = md_tab k := fun k => by rw [i6]; exact hM k
      obtain ⟨x, hx⟩ : ∃ x, (aB α)[k + 1]? = some x := ⟨_, List.getElem?_eq_getElem (by omega)⟩
      have hax := i3 (k + 1) x (by omega) hx
      have e5 := hax.2.2.2.2
      refine hm_iload_n dX5_dropBearer_12 rfl ?_
      refine hm_aload_n dX5_dropBearer_13 rfl ?_
      refine hm_getI lf_RX5_109 rfl rfl (by first | exact Nat.lt_of_lt_of_le (by decide) hN | assumption | (simp only [hm_n_wI, hm_n_wL, hm_n_wR, hm_n_g] at *; omega)) dX5_dropBearer_14 ?_
      rw [i1]
      refine hm_icmp_ge 96 dX5_dropBearer_17 (by decide) (fun h17 => absurd h17 (nI_ge (by omega) (by omega))) (fun _ => ?_)
      refine hm_aload_n dX5_dropBearer_20 rfl ?_
      refine hm_getR lf_RX5_42 rfl rfl (by first | exact Nat.lt_of_lt_of_le (by decide) hN | assumption | (simp only [hm_n_wI, hm_n_wL, hm_n_wR, hm_n_g] at *; omega)) (hM 13) dX5_dropBearer_21 ?_
      refine hm_iload_n dX5_dropBearer_24 rfl ?_
      refine hm_aload_n dX5_dropBearer_25 rfl ?_
      refine hm_getR lf_RX5_42 rfl rfl (by first | exact Nat.lt_of_lt_of_le (by decide) hN | assumption | (simp only [hm_n_wI, hm_n_wL, hm_n_wR, hm_n_g] at *; omega)) (hM 13) dX5_dropBearer_26 ?_
      refine hm_iload_n dX5_dropBearer_29 rfl ?_
      refine hm_iconst dX5_dropBearer_30 (v := 1) (by decide) ?_
      refine hm_iadd dX5_dropBearer_31 ?_
      refine hm_iald (k + 1) rfl (by first | exact Nat.lt_of_lt_of_le (by decide) hN | assumption | (simp only [hm_n_wI, hm_n_wL, hm_n_wR, hm_n_g] at *; omega)) (nI_1 k) (by omega) (by decide) dX5_dropBearer_32 ?_
      refine hm_iast _ rfl (by first | exact Nat.lt_of_lt_of_le (by decide) hN | assumption | (simp only [hm_n_wI, hm_n_wL, hm_n_wR, hm_n_g] at *; omega)) rfl (by omega) (by decide) dX5_dropBearer_33 ?_
      refine hm_aload_n dX5_dropBearer_34 rfl ?_
      refine hm_getR lf_RX5_45 rfl rfl (by first | exact Nat.lt_of_lt_of_le (by decide) hN | assumption | (simp only [hm_n_wI, hm_n_wL, hm_n_wR, hm_n_g] at *; omega)) (hM 14) dX5_dropBearer_35 ?_
      refine hm_iload_n dX5_dropBearer_38 rfl ?_
      refine hm_aload_n dX5_dropBearer_39 rfl ?_
      refine hm_getR lf_RX5_45 rfl rfl (by first | exact Nat.lt_of_lt_of_le (by decide) hN | assumption | (simp only [hm_n_wI, hm_n_wL, hm_n_wR, hm_n_g] at *; omega)) (hM 14) dX5_dropBearer_40 ?_
      refine hm_iload_n dX5_dropBearer_43 rfl ?_
      refine hm_iconst dX5_dropBearer_44 (v := 1) (by decide) ?_
      refine hm_iadd dX5_dropBearer_45 ?_
      refine hm_iald (k + 1) rfl (by first | exact Nat.lt_of_lt_of_le (by decide) hN | assumption | (simp only [hm_n_wI, hm_n_wL, hm_n_wR, hm_n_g] at *; omega)) (nI_1 k) (by omega) (by decide) dX5_dropBearer_46 ?_
      refine hm_iast _ rfl (by first | exact Nat.lt_of_lt_of_le (by decide) hN | assumption | (simp only [hm_n_wI, hm_n_wL, hm_n_wR, hm_n_g] at *; omega)) rfl (by omega) (by decide) dX5_dropBearer_47 ?_
      refine hm_aload_n dX5_dropBearer_48 rfl ?_
      refine hm_getR lf_RX5_48 rfl rfl (by first | exact Nat.lt_of_lt_of_le (by decide) hN | assumption | (simp only [hm_n_wI, hm_n_wL, hm_n_wR, hm_n_g] at *; omega)) (hM 15) dX5_dropBearer_49 ?_
      refine hm_iload_n dX5_dropBearer_52 rfl ?_
      refine hm_aload_n dX5_dropBearer_53 rfl ?_
      refine hm_getR lf_RX5_48 rfl rfl (by first | exact Nat.lt_of_lt_of_le (by decide) hN | assumption | (simp only [hm_n_wI, hm_n_wL, hm_n_wR, hm_n_g] at *; omega)) (hM 15) dX5_dropBearer_54 ?_
      refine hm_iload_n dX5_dropBearer_57 rfl ?_
      refine hm_iconst dX5_dropBearer_58 (v := 1) (by decide) ?_
      refine hm_iadd dX5_dropBearer_59 ?_
      refine hm_iald (k + 1) rfl (by first | exact Nat.lt_of_lt_of_le (by decide) hN | assumption | (simp only [hm_n_wI, hm_n_wL, hm_n_wR, hm_n_g] at *; omega)) (nI_1 k) (by omega) (by decide) dX5_dropBearer_60 ?_
      refine hm_iast _ rfl (by first | exact Nat.lt_of_lt_of_le (by decide) hN | assumption | (simp only [hm_n_wI, hm_n_wL, hm_n_wR, hm_n_g] at *; omega)) rfl (by omega) (by decide) dX5_dropBearer_61 ?_
      refine hm_aload_n dX5_dropBearer_62 rfl ?_
      refine hm_getR lf_RX5_51 rfl rfl (by first | exact Nat.lt_of_lt_of_le (by decide) hN | assumption | (simp only [hm_n_wI, hm_n_wL, hm_n_wR, hm_n_g] at *; omega)) (hM 16) dX5_dropBearer_63 ?_
      refine hm_iload_n dX5_dropBearer_66 rfl ?_
      refine hm_aload_n dX5_dropBearer_67 rfl ?_
      refine hm_getR lf_RX5_51 rfl rfl (by first | exact Nat.lt_of_lt_of_le (by decide) hN | assumption | (simp only [hm_n_wI, hm_n_wL, hm_n_wR, hm_n_g] at *; omega)) (hM 16) dX5_dropBearer_68 ?_
      refine hm_iload_n dX5_dropBearer_71 rfl ?_
      refine hm_iconst dX5_dropBearer_72 (v := 1) (by decide) ?_
      refine hm_iadd dX5_dropBearer_73 ?_
      refine hm_iald (k + 1) rfl (by first | exact Nat.lt_of_lt_of_le (by decide) hN | assumption | (simp only [hm_n_wI, hm_n_wL, hm_n_wR, hm_n_g] at *; omega)) (nI_1 k) (by omega) (by decide) dX5_dropBearer_74 ?_
      refine hm_iast _ rfl (by first | exact Nat.lt_of_lt_of_le (by decide) hN | assumption | (simp only [hm_n_wI, hm_n_wL, hm_n_wR, hm_n_g] at *; omega)) rfl (by omega) (by decide) dX5_dropBearer_75 ?_
      refine hm_aload_n dX5_dropBearer_76 rfl ?_
      refine hm_getR lf_RX5_54 rfl rfl (by first | exact Nat.lt_of_lt_of_le (by decide) hN | assumption | (simp only [hm_n_wI, hm_n_wL, hm_n_wR, hm_n_g] at *; omega)) (hM 17) dX5_dropBearer_77 ?_
      refine hm_iload_n dX5_dropBearer_80 rfl ?_
      refine hm_aload_n dX5_dropBearer_81 rfl ?_
      refine hm_getR lf_RX5_54 rfl rfl (by first | exact Nat.lt_of_lt_of_le (by decide) hN | assumption | (simp only [hm_n_wI, hm_n_wL, hm_n_wR, hm_n_g] at *; omega)) (hM 17) dX5_dropBearer_82 ?_
      refine hm_iload_n dX5_dropBearer_85 rfl ?_
      refine hm_iconst dX5_dropBearer_86 (v := 1) (by decide) ?_
      refine hm_iadd dX5_dropBearer_87 ?_
      refine hm_zald (k + 1) rfl (by first | exact Nat.lt_of_lt_of_le (by decide) hN | assumption | (simp only [hm_n_wI, hm_n_wL, hm_n_wR, hm_n_g] at *; omega)) (nI_1 k) (by omega) (by decide) dX5_dropBearer_88 ?_
      refine hm_zast _ (by show hm_I τ 42 (k + 1) = 0 ∨ hm_I τ 42 (k + 1) = 1; rw [e5]; exact bI_01 _) rfl (by first | exact Nat.lt_of_lt_of_le (by decide) hN | assumption | (simp only [hm_n_wI, hm_n_wL, hm_n_wR, hm_n_g] at *; omega)) rfl (by omega) (by decide) dX5_dropBearer_89 ?_
      refine hm_iinc dX5_dropBearer_90 rfl _ rfl (by decide) rfl ?_
      refine hm_goto 12 dX5_dropBearer_93 (by decide) ?_
      refine ih (k + 1) (md_cp τ k) _ (by omega) (by omega) (hm_inc k) ?_ (fun j y hj hy => ?_) (fun j y hj hy => ?_) (fun a j h1 h2 => ?_) i5 i6 i7
      rw [md_cp_o _ _ _ _ (Or.inl (by omega))]; exact i1
      (rcases Nat.lt_or_ge j k with q | q)
      exact md_cp_ne (i2 j y q hy) (by omega)
      (obtain rfl : j = k := by omega)
      rw [List.getElem?_eraseIdx, if_neg (by omega), hx] at hy
      cases hy
      exact md_cp_ar hax
      exact md_cp_ne (i3 j y (by omega) hy) (by omega)
      rw [md_cp_o _ _ _ _ (Or.inl h1)]; exact i4 a j h1 h2
  refine hm_aload_n dX5_dropBearer_0 rfl ?_
  refine hm_dup dX5_dropBearer_1 rfl ?_
  refine hm_getI lf_RX5_109 rfl rfl (by first | exact Nat.lt_of_lt_of_le (by decide) hN | assumption | (simp only [hm_n_wI, hm_n_wL, hm_n_wR, hm_n_g] at *; omega)) dX5_dropBearer_2 ?_
  rw [hb1]
  refine hm_iconst dX5_dropBearer_5 (v := 1) (by decide) ?_
  refine hm_isub dX5_dropBearer_6 ?_
  refine hm_putI lf_RX5_109 rfl rfl rfl (by first | exact Nat.lt_of_lt_of_le (by decide) hN | assumption | (simp only [hm_n_wI, hm_n_wL, hm_n_wR, hm_n_g] at *; omega)) dX5_dropBearer_7 ?_
  refine hm_iload_n dX5_dropBearer_10 rfl ?_
  refine hm_istore_n dX5_dropBearer_11 (by decide) rfl ?_
  refine hl ((aB α).length - 1 - b) b _ _ (by omega) (Nat.le_refl _) rfl ?_ (fun j x hj hx => ?_) (fun j x hj hx => ?_) (fun a k h1 h2 => ?_) rfl rfl rfl
  (rw [hm_I_wI, if_pos ⟨rfl, rfl⟩]; exact pk_sub (a := (aB α).length) (b := 1) (by omega))
  rw [List.getElem?_eraseIdx, if_pos hj] at hx; exact hb2 j x hx
  exact hb2 j x hx
  rw [hm_I_wI, if_neg h2]
theorem hm_m1 (x : Int32) : x + Int32.ofInt (-1) = x - 1 := by
  rw [Int32.sub_eq_add_neg, show Int32.ofInt (-1) = -1 by decide]
theorem sB_sB (α : sA) (B C : List sBr) : sB (sB α B) C = sB α C := rfl
theorem er_mid {β : Type} (l1 l2 : List β) (x : β) : (l1 ++ x :: l2).eraseIdx l1.length = l1 ++ l2 := by
  rw [List.eraseIdx_append_of_length_le (Nat.le_refl _)]
  simp
theorem rM.mid {α : sA} {τ : hm_M} (h : rM α τ) (B : List sBr) (e : aB α = B) : rM (sB α B) τ := by
  subst e; exact h
set_option maxRecDepth 100000 in
theorem r5_idle (h : rM α σ) (hlen : (aB α).length ≤ 16) (hof : ∀ x ∈ aB α, bOf x < 8) {p : Nat} (hp : p < 8) : hm_Ct l yX5_idle cX5_idle 3 none 1 0 0 [.ref 27, .int (nI p)] σ (fun r τ => r = none ∧ rM (pIdle α p) τ ∧ md_fr σ τ) := by
  obtain ⟨hN, hM⟩ := h.m
  obtain ⟨hb1, hb2⟩ := h.b
  have hr : rM (sQ (sQ (sI (sI α 1 p 0) 2 p (-9)) 0 p []) 1 p []) (hm_wI (hm_wI (hm_wI (hm_wI σ 33 p 0) 34 p (-9)) 43 p 0) 45 p 0) := by
    have h1 := (h.upI 1 p 0 hp).upI 2 p (-9) hp
    refine ⟨h1.m, fun f i hi => ?_, fun f i hi => ?_, h1.2.2.2.1, ⟨?_, fun b x hb => ?_⟩, fun q hq => ?_⟩
    · obtain ⟨-, -, -, -, -, s6, s7, -⟩ := md_lN_sc hi
      rw [hm_I_wI, if_neg (fun q => s7 q.1), hm_I_wI, if_neg (fun q => s6 q.1)]; exact h1.n f i hi
    · obtain ⟨-, -, -, -, -, s6, s7, -⟩ := md_lI_sc hi
      rw [hm_I_wI, if_neg (fun q => s7 q.1), hm_I_wI, if_neg (fun q => s6 q.1)]; exact h1.i f i hi
    · exact hb1
    · exact hb2 b x hb
    · obtain ⟨e1, e2, e3, e4, e5⟩ := h.q q hq
      refine ⟨?_, ?_, ?_, ?_, e5⟩
      · simp only [hm_I_wI, aQ_sQ]
        by_cases hqp : q = p
        · subst hqp; simp; rfl
        · simpa [hqp, aQ_sI] using e1
      · simp only [hm_I_wI, aQ_sQ]
        by_cases hqp : q = p
        · subst hqp; simp; rfl
        · simpa [hqp, aQ_sI] using e2
      · intro k v hv
        simp only [aQ_sQ] at hv
        by_cases hqp : q = p
        · subst hqp; simp at hv
        · simp [hqp] at hv; exact e3 k v hv
      · intro k v hv
        simp only [aQ_sQ] at hv
        by_cases hqp : q = p
        · subst hqp; simp at hv
        · simp [hqp] at hv; exact e4 k v hv
  have hfr : md_fr σ (hm_wI (hm_wI (hm_wI (hm_wI σ 33 p 0) 34 p (-9)) 43 p 0) 45 p 0) := ((((md_fr.rf σ).wI 33 p 0 (by decide)).wI 34 p (-9) (by decide)).wI 43 p 0 (by decide)).wI 45 p 0 (by decide)
  generalize hβ : (sQ (sQ (sI (sI α 1 p 0) 2 p (-9)) 0 p []) 1 p []) = β at hr
  have hgoal : pIdle α p = sB β ((aB α).filter (fun x => !decide (bOf x = p))) := by rw [← hβ]; rfl
  have hBβ : aB β = aB α := by rw [← hβ]; rfl
  refine hm_startQ (ini := false) [.ref 27, .int (nI p), hm_u] (by decide) (by decide) rfl (Nat.le_of_ble_eq_true rfl) (fun Q hQ => ?_)
  have hl : ∀ (b : Nat) (τ : hm_M) (u : Int32), b ≤ (aB α).length → rM (sB β ((aB α).take b ++ ((aB α).drop b).filter (fun x => !decide (bOf x = p)))) τ → md_fr σ τ → u = nI b - 1 → hm_V l RX5 cX5_idle 3 none false (hm_rm 1 0 0) 0 0 Q 0 0 36 [.ref 27, .int (nI p), .int u] [] τ := by
    intro b
    induction b with
    | zero =>
      intro τ u hb hτ hf hu
      subst hu
      obtain ⟨hN, hM⟩ := hτ.m
      refine hm_iload_n dX5_idle_36 rfl ?_
      refine hm_if_lt 61 dX5_idle_37 (by decide) (fun _ => ?_) (fun h37 => absurd (by decide) h37)
      refine hm_vret dX5_idle_61 rfl (by decide) (by decide) ?_
      exact hQ _ _ ⟨rfl, by rw [hgoal]; simpa using hτ, hf⟩
    | succ b ih =>
      intro τ u hb hτ hf hu
      have hu : u = nI b := by rw [hu]; exact nI_pred b
      subst hu
      obtain ⟨hN, hM⟩ := hτ.m
      obtain ⟨x, hx⟩ : ∃ x, (aB α)[b]? = some x := ⟨_, List.getElem?_eq_getElem (by omega)⟩
      have hxm := hof x (List.mem_of_getElem? hx)
      have q1 : nI (bOf x) = nI p ↔ bOf x = p := nI_eq (by omega) (by omega)
      have hd : (aB α).drop b = x :: (aB α).drop (b + 1) := by rw [← List.getElem_cons_drop (show b < (aB α).length by omega)]; congr 1; exact Option.some.inj ((List.getElem?_eq_getElem _).symm.trans hx)
      have ht : (aB α).take (b + 1) = (aB α).take b ++ [x] := by rw [List.take_succ, hx]; rfl
      rw [ht, List.append_assoc, List.singleton_append] at hτ
      have htl : ((aB α).take b).length = b := by rw [List.length_take]; omega
      have hC : (aB (sB β ((aB α).take b ++ x :: ((aB α).drop (b + 1)).filter (fun x => !decide (bOf x = p)))))[b]? = some x := by
        rw [aB_sB, List.getElem?_append_right (by omega), htl, Nat.sub_self]; rfl
      have e1 := (hτ.b.2 b x hC).1
      have ih2 := ih
      rw [hd, List.filter_cons] at ih2
      have hlC : (aB (sB β ((aB α).take b ++ x :: ((aB α).drop (b + 1)).filter (fun x => !decide (bOf x = p))))).length ≤ 16 := by
        have := List.length_filter_le (fun x => !decide (bOf x = p)) ((aB α).drop (b + 1))
        rw [List.length_drop] at this
        rw [aB_sB, List.length_append, htl, List.length_cons]
        omega
      have hbl : b < (aB (sB β ((aB α).take b ++ x :: ((aB α).drop (b + 1)).filter (fun x => !decide (bOf x = p))))).length := (List.getElem?_eq_some_iff.mp hC).1
      have her : (aB (sB β ((aB α).take b ++ x :: ((aB α).drop (b + 1)).filter (fun x => !decide (bOf x = p))))).eraseIdx b = (aB α).take b ++ ((aB α).drop (b + 1)).filter (fun x => !decide (bOf x = p)) := by
        rw [aB_sB]
        have := er_mid ((aB α).take b) (((aB α).drop (b + 1)).filter (fun x => !decide (bOf x = p))) x
        rw [htl] at this
        exact this
      refine hm_iload_n dX5_idle_36 rfl ?_
      refine hm_if_lt 61 dX5_idle_37 (by decide) (fun h37 => absurd h37 (nI_pos (by omega))) (fun _ => ?_)
      refine hm_aload_n dX5_idle_40 rfl ?_
      refine hm_getR lf_RX5_42 rfl rfl (by first | exact Nat.lt_of_lt_of_le (by decide) hN | assumption | (simp only [hm_n_wI, hm_n_wL, hm_n_wR, hm_n_g] at *; omega)) (hM 13) dX5_idle_41 ?_
      refine hm_iload_n dX5_idle_44 rfl ?_
      refine hm_iald _ rfl (by first | exact Nat.lt_of_lt_of_le (by decide) hN | assumption | (simp only [hm_n_wI, hm_n_wL, hm_n_wR, hm_n_g] at *; omega)) rfl (by omega) (by decide) dX5_idle_45 ?_
      rw [e1]
      refine hm_iload_n dX5_idle_46 rfl ?_
      refine hm_icmp_ne 55 dX5_idle_47 (by decide) (fun h47 => ?_) (fun h47 => ?_)
      · skip
        rw [q1] at h47
        refine hm_iinc dX5_idle_55 rfl _ rfl (by decide) rfl ?_
        refine hm_goto 36 dX5_idle_58 (by decide) ?_
        first | (refine ih2 _ _ (by omega) ?_ (hf.tr hf2) (hm_m1 _); simpa [h47, sB_sB] using hρ) | (refine ih2 _ _ (by omega) ?_ hf (hm_m1 _); simpa [h47] using hτ)
      · skip
        rw [q1] at h47
        refine hm_aload_n dX5_idle_50 rfl ?_
        refine hm_iload_n dX5_idle_51 rfl ?_
        refine hm_callV lm_RX5_112 (r5_dropBearer l hτ hlC hbl) rfl rfl rfl rfl (by first | exact Nat.lt_of_lt_of_le (by decide) hN | assumption | (simp only [hm_n_wI, hm_n_wL, hm_n_wR, hm_n_g] at *; omega)) (by decide) (by decide) (Nat.le_of_ble_eq_true rfl) dX5_idle_52 ?_
        rintro _ ρ ⟨rfl, hρ, hf2⟩
        rw [her] at hρ
        obtain ⟨hN, hM⟩ := hρ.m
        refine hm_iinc dX5_idle_55 rfl _ rfl (by decide) rfl ?_
        refine hm_goto 36 dX5_idle_58 (by decide) ?_
        first | (refine ih2 _ _ (by omega) ?_ (hf.tr hf2) (hm_m1 _); simpa [h47, sB_sB] using hρ) | (refine ih2 _ _ (by omega) ?_ hf (hm_m1 _); simpa [h47] using hτ)
  refine hm_aload_n dX5_idle_0 rfl ?_
  refine hm_getR lf_RX5_27 rfl rfl (by first | exact Nat.lt_of_lt_of_le (by decide) hN | assumption | (simp only [hm_n_wI, hm_n_wL, hm_n_wR, hm_n_g] at *; omega)) (hM 7) dX5_idle_1 ?_
  refine hm_iload_n dX5_idle_4 rfl ?_
  refine hm_iconst dX5_idle_5 (v := 0) (by decide) ?_
  refine hm_iast _ rfl (by first | exact Nat.lt_of_lt_of_le (by decide) hN | assumption | (simp only [hm_n_wI, hm_n_wL, hm_n_wR, hm_n_g] at *; omega)) rfl (by omega) (by decide) dX5_idle_6 ?_
  refine hm_aload_n dX5_idle_7 rfl ?_
  refine hm_getR lf_RX5_30 rfl rfl (by first | exact Nat.lt_of_lt_of_le (by decide) hN | assumption | (simp only [hm_n_wI, hm_n_wL, hm_n_wR, hm_n_g] at *; omega)) (hM 8) dX5_idle_8 ?_
  refine hm_iload_n dX5_idle_11 rfl ?_
  refine hm_bipush dX5_idle_12 (v := -9) (by decide) ?_
  refine hm_iast _ rfl (by first | exact Nat.lt_of_lt_of_le (by decide) hN | assumption | (simp only [hm_n_wI, hm_n_wL, hm_n_wR, hm_n_g] at *; omega)) rfl (by omega) (by decide) dX5_idle_14 ?_
  refine hm_aload_n dX5_idle_15 rfl ?_
  refine hm_getR lf_RX5_57 rfl rfl (by first | exact Nat.lt_of_lt_of_le (by decide) hN | assumption | (simp only [hm_n_wI, hm_n_wL, hm_n_wR, hm_n_g] at *; omega)) (hM 18) dX5_idle_16 ?_
  refine hm_iload_n dX5_idle_19 rfl ?_
  refine hm_iconst dX5_idle_20 (v := 0) (by decide) ?_
  refine hm_iast _ rfl (by first | exact Nat.lt_of_lt_of_le (by decide) hN | assumption | (simp only [hm_n_wI, hm_n_wL, hm_n_wR, hm_n_g] at *; omega)) rfl (by omega) (by decide) dX5_idle_21 ?_
  refine hm_aload_n dX5_idle_22 rfl ?_
  refine hm_getR lf_RX5_63 rfl rfl (by first | exact Nat.lt_of_lt_of_le (by decide) hN | assumption | (simp only [hm_n_wI, hm_n_wL, hm_n_wR, hm_n_g] at *; omega)) (hM 20) dX5_idle_23 ?_
  refine hm_iload_n dX5_idle_26 rfl ?_
  refine hm_iconst dX5_idle_27 (v := 0) (by decide) ?_
  refine hm_iast _ rfl (by first | exact Nat.lt_of_lt_of_le (by decide) hN | assumption | (simp only [hm_n_wI, hm_n_wL, hm_n_wR, hm_n_g] at *; omega)) rfl (by omega) (by decide) dX5_idle_28 ?_
  refine hm_aload_n dX5_idle_29 rfl ?_
  refine hm_getI lf_RX5_109 rfl rfl (by first | exact Nat.lt_of_lt_of_le (by decide) hN | assumption | (simp only [hm_n_wI, hm_n_wL, hm_n_wR, hm_n_g] at *; omega)) dX5_idle_30 ?_
  refine hm_iconst dX5_idle_33 (v := 1) (by decide) ?_
  refine hm_isub dX5_idle_34 ?_
  refine hm_istore_n dX5_idle_35 (by decide) rfl ?_
  refine hl (aB α).length _ _ (Nat.le_refl _) (by rw [List.take_length, List.drop_length, List.filter_nil, List.append_nil]; exact hr.mid _ hBβ) hfr (by show hm_I σ 27 12 - 1 = _; rw [hb1])
end M6
end
section
/-! what holds of a state goes on holding -/
theorem sW.z {α : sA} (w : sW α) {p : Nat} (h : nPort α ≤ p) : aI α 0 p = 0 ∧ aI α 1 p = 0 ∧ aI α 3 p = 0 ∧ aL α 1 p = 0 ∧ aQ α 0 p = [] ∧ aQ α 1 p = [] ∧ aQ α 2 p = [] ∧ aN α 7 p = 0 := w.2.2.2.2.2.2.2.2 p h
theorem sW.sub {α : sA} (w : sW α) {B : List sBr} (h : B.Sublist (aB α)) : sW (sB α B) :=
  ⟨w.1, w.2.1, fun x hx => w.x (h.subset hx), w.pw.sublist h, fun p => Nat.le_trans (h.countP_le (p := fun x => decide (bOf x = p))) (w.nb p), w.2.2.2.2.2.1, w.2.2.2.2.2.2.1, w.2.2.2.2.2.2.2.1, w.2.2.2.2.2.2.2.2⟩
theorem sW.cnt {α : sA} (w : sW α) (f i : Nat) (hf : 4 ≤ f) (v : Int32) : sW (sI α f i v) := by
  have e : ∀ g, g < 4 → aI (sI α f i v) g = aI α g := fun g hg => funext fun j => by rw [aI_sI, if_neg (by omega)]
  refine ⟨w.1, w.2.1, w.2.2.1, w.2.2.2.1, w.2.2.2.2.1, w.2.2.2.2.2.1, fun p => ?_, fun p hp => ?_, fun p hp => ?_⟩
  · rw [e 0 (by omega)]; exact w.en p
  · rw [e 0 (by omega), e 1 (by omega), e 2 (by omega)]; exact w.st hp
  · rw [e 0 (by omega), e 1 (by omega), e 3 (by omega)]; exact w.z hp
/-- a portable's state moves on: it isn't idle, and won't be -/
theorem sW.mv {α : sA} (w : sW α) {p : Nat} (hp : p < nPort α) (hs : aI α 1 p ≠ 0) {v : Int32} (hv : 1 ≤ v ∧ v ≤ 7) : sW (sI α 1 p v) := by
  refine ⟨w.1, w.2.1, w.2.2.1, w.2.2.2.1, w.2.2.2.2.1, w.2.2.2.2.2.1, w.2.2.2.2.2.2.1, fun q hq => ?_, fun q hq => ?_⟩
  · have hq' : q < nPort α := hq
    by_cases e : q = p
    · subst e
      rcases w.st hq' with h | ⟨-, h2, q', h3⟩
      · exact absurd h.1 hs
      · right
        refine ⟨?_, h2, q', h3⟩
        rw [aI_sI, if_pos ⟨rfl, rfl⟩]; exact hv
    · have := w.st hq'
      simpa [nPort, aN_sI, aI_sI, e] using this
  · have hq' : nPort α ≤ q := hq
    have := w.z hq'
    rw [aI_sI, if_neg (by omega), aI_sI, if_neg (by omega), aI_sI, if_neg (by omega)]
    exact this
theorem sW.idle {α : sA} (w : sW α) {p : Nat} (hp : p < nPort α) : sW (pIdle α p) := by
  refine ⟨w.1, w.2.1, fun x hx => w.x ((List.mem_filter.mp hx).1), w.pw.sublist List.filter_sublist, fun q => Nat.le_trans (List.filter_sublist.countP_le (p := fun x => decide (bOf x = q))) (w.nb q), fun q => ?_, fun q => ?_, fun q hq => ?_, fun q hq => ?_⟩
  · have := w.q q
    simp only [pIdle, aN_sN, aN_sI, aN_sL, aN_sB, aN_sQ, aI_sN, aI_sI, aI_sL, aI_sB, aI_sQ, aL_sN, aL_sI, aL_sL, aL_sB, aL_sQ, aB_sN, aB_sI, aB_sL, aB_sB, aB_sQ, aQ_sN, aQ_sI, aQ_sL, aQ_sB, aQ_sQ]
    refine ⟨?_, ?_, this.2.2.1, this.2.2.2⟩
    · split
      · simp at *
      · split
        · simp
        · exact this.1
    · split
      · simp
      · rw [if_neg (by omega)]; exact this.2.1
  · have := w.en q
    simp only [pIdle, aN_sN, aN_sI, aN_sL, aN_sB, aN_sQ, aI_sN, aI_sI, aI_sL, aI_sB, aI_sQ, aL_sN, aL_sI, aL_sL, aL_sB, aL_sQ, aB_sN, aB_sI, aB_sL, aB_sB, aB_sQ, aQ_sN, aQ_sI, aQ_sL, aQ_sB, aQ_sQ]
    simpa using this
  · have hq' : q < nPort α := hq
    have := w.st hq'
    simp only [pIdle, aN_sN, aN_sI, aN_sL, aN_sB, aN_sQ, aI_sN, aI_sI, aI_sL, aI_sB, aI_sQ, aL_sN, aL_sI, aL_sL, aL_sB, aL_sQ, aB_sN, aB_sI, aB_sL, aB_sB, aB_sQ, aQ_sN, aQ_sI, aQ_sL, aQ_sB, aQ_sQ]
    by_cases e : q = p
    · left; simp [e]
    · simpa [nPort, aN_sN, aN_sI, aN_sL, aN_sB, aN_sQ, aI_sN, aI_sI, aI_sL, aI_sB, aI_sQ, aL_sN, aL_sI, aL_sL, aL_sB, aL_sQ, aB_sN, aB_sI, aB_sL, aB_sB, aB_sQ, aQ_sN, aQ_sI, aQ_sL, aQ_sB, aQ_sQ, e] using this
  · have hq' : nPort α ≤ q := hq
    have := w.z hq'
    have e : q ≠ p := by omega
    simp only [pIdle, aN_sN, aN_sI, aN_sL, aN_sB, aN_sQ, aI_sN, aI_sI, aI_sL, aI_sB, aI_sQ, aL_sN, aL_sI, aL_sL, aL_sB, aL_sQ, aB_sN, aB_sI, aB_sL, aB_sB, aB_sQ, aQ_sN, aQ_sI, aQ_sL, aQ_sB, aQ_sQ]
    simpa [e] using this
theorem sW.par {α : sA} (w : sW α) {p : Nat} (hp : p < nPort α) (hs : aI α 1 p ≠ 0) : pPar α p < nPort α ∧ pPar α p ≠ p ∧ aI α 2 p = nI (pPar α p) ∧ aI α 0 p = 1 ∧ 1 ≤ aI α 1 p ∧ aI α 1 p ≤ 7 := by
  rcases w.st hp with h | ⟨h1, h2, q, h3, h4, h5⟩
  · exact absurd h.1 hs
  · have hp8 := w.p8
    have e : pPar α p = q := by unfold pPar; rw [h5, nI_clamp (by omega)]
    rw [e]
    exact ⟨h3, h4, h5, h2, h1⟩
theorem sW.ends {α : sA} (w : sW α) {p : Nat} (hp : p < nPort α) (hs : aI α 1 p ≠ 0) : sW (pEnds α p) := by
  have h := w.par hp hs
  unfold pEnds pEnded
  refine sW.cnt ?_ 4 2 (by omega) _
  split
  · exact (w.idle hp).idle h.1
  · exact w.idle hp
theorem sW.noB {α : sA} (w : sW α) {p : Nat} (hp : p < nPort α) : sW (pNoB α p) := by
  unfold pNoB
  split
  · rename_i h
    simp at h
    exact w.ends hp h.1.1
  · exact w
theorem sW.dropF {α : sA} (w : sW α) : sW (pDropF α) := w.sub List.filter_sublist
theorem rm_sub (p : Nat) : ∀ l : List sBr, (pRmFst p l).Sublist l
  | [] => List.Sublist.refl _
  | x :: t => by
    unfold pRmFst
    split
    · exact List.sublist_cons_self x t
    · exact (rm_sub p t).cons_cons x
theorem sW.hand {α : sA} (w : sW α) (p : Nat) : sW (pHand α p) := by
  unfold pHand
  split
  · exact (w.sub (rm_sub p _)).cnt 4 3 (by omega) _
  · exact w
theorem sW.send {α : sA} (w : sW α) : sW (pSend α) := by
  refine ⟨w.1, w.2.1, fun x hx => ?_, ?_, fun p => ?_, w.2.2.2.2.2.1, w.2.2.2.2.2.2.1, w.2.2.2.2.2.2.2.1, w.2.2.2.2.2.2.2.2⟩
  · obtain ⟨y, hy, rfl⟩ := List.mem_map.mp hx
    have := w.x hy
    exact this
  · exact List.pairwise_map.mpr w.pw
  · have := w.nb p
    unfold pNb at this ⊢
    show ((aB α).map (pSent α)).countP _ ≤ 2
    rw [List.countP_map]
    exact this
theorem pChan_ok (α : sA) (p c : Nat) : ∀ k, (pChan α p c k).2 ≤ 4 ∧ ∀ ch, (pChan α p c k).1 = some ch → ch < k ∧ pTaken α p c (ch / 10) = false := by
  intro k
  induction k with
  | zero => exact ⟨Nat.le_refl _, fun ch h => by cases h⟩
  | succ k ih =>
    unfold pChan
    split
    · rename_i h
      refine ⟨by omega, fun ch hc => ?_⟩
      cases hc
      refine ⟨by omega, ?_⟩
      unfold pLv at h
      split at h
      · omega
      · rename_i h2; simpa using h2
    · exact ⟨ih.1, fun ch hc => ⟨by have := (ih.2 ch hc).1; omega, (ih.2 ch hc).2⟩⟩
theorem pFind_ok (f : Nat → Bool) : ∀ n c, pFind f n = some c → c < n ∧ f c = true
  | 0, c, h => by cases h
  | n + 1, c, h => by
    unfold pFind at h
    split at h
    · rename_i c' h'
      cases h
      have := pFind_ok f n c h'
      exact ⟨by omega, this.2⟩
    · split at h
      · cases h; rename_i h2; exact ⟨by omega, h2⟩
      · cases h
theorem pFst_mem {α : sA} {p : Nat} {x : sBr} (h : pFst α p = some x) : x ∈ aB α ∧ bOf x = p := by
  unfold pFst at h
  exact ⟨List.mem_of_find?_eq_some h, by simpa using List.find?_some h⟩
theorem pBest_lt {α : sA} (w : sW α) {p c : Nat} (h : pBest α p = some c) : c < nCell α := by
  unfold pBest at h
  split at h
  · rename_i c' h'
    cases h
    exact (pFind_ok _ _ _ h').1
  · split at h
    · rename_i c' h'
      split at h
      · cases h
        unfold pOwn at h'
        split at h'
        · cases hf : pFst α p with
          | none => rw [hf] at h'; cases h'
          | some x =>
            rw [hf] at h'
            cases h'
            exact (w.x (pFst_mem hf).1).2.1
        · cases h'
      · cases h
    · cases h
theorem sW.setUp {α : sA} (w : sW α) {p : Nat} (hp : p < nPort α) : sW (pSetUp α p) := by
  unfold pSetUp
  split
  · rename_i hw
    split
    · rename_i c hc
      split
      · rename_i ch hch
        have hcl := pBest_lt w hc
        obtain ⟨h1, h2⟩ := (pChan_ok α p c 120).2 ch (by unfold pCh at hch; exact hch)
        have hnb : pNb α p ≤ 1 := by
          simp [pWants, pHo] at hw
          omega
        unfold pTaken at h2
        obtain ⟨h2a, h2b⟩ := Bool.or_eq_false_iff.mp h2
        have h2a : ¬ aN α 2 c / 10 = ch / 10 := by simpa using h2a
        have h2b := List.any_eq_false.mp h2b
        refine sW.cnt ?_ 4 0 (by omega) _
        refine ⟨w.1, w.2.1, fun x hx => ?_, ?_, fun q => ?_, w.2.2.2.2.2.1, w.2.2.2.2.2.2.1, w.2.2.2.2.2.2.2.1, w.2.2.2.2.2.2.2.2⟩
        · rcases List.mem_append.mp hx with hx | hx
          · exact w.x hx
          · cases List.mem_singleton.mp hx
            exact ⟨hp, hcl, h1, fun e => h2a e.symm⟩
        · refine List.pairwise_append.mpr ⟨w.pw, List.pairwise_singleton _ _, fun x hx y hy => ?_⟩
          cases List.mem_singleton.mp hy
          intro hor
          have h3 := h2b x hx
          simp at h3
          exact h3 hor
        · have := w.nb q
          unfold pNb at this ⊢
          show ((aB α) ++ [(p, c, ch, 0, false)]).countP _ ≤ 2
          rw [List.countP_append]
          by_cases e : p = q
          · subst e
            unfold pNb at hnb
            simp [List.countP_cons]
            omega
          · simp [List.countP_cons, e]
            exact this
      · exact w
    · exact w
  · exact w
theorem sW.page {α : sA} (w : sW α) {p : Nat} (hp : p < nPort α) (hs : aI α 1 p ≠ 0) : sW (pPage α p) := by
  have h := w.par hp hs
  have w1 := w.mv hp hs (v := 3) (by decide)
  unfold pPage
  split
  · rename_i hc
    simp at hc
    have hen : aI α 0 (pPar α p) = 1 := (w.en _).resolve_left hc.2
    have hne : pPar α p ≠ p := h.2.1
    refine ⟨w.1, w.2.1, w.2.2.1, w.2.2.2.1, w.2.2.2.2.1, w.2.2.2.2.2.1, fun q => ?_, fun q hq => ?_, fun q hq => ?_⟩
    · have := w.en q
      simpa [aN_sN, aN_sI, aN_sL, aN_sB, aN_sQ, aI_sN, aI_sI, aI_sL, aI_sB, aI_sQ, aL_sN, aL_sI, aL_sL, aL_sB, aL_sQ, aB_sN, aB_sI, aB_sL, aB_sB, aB_sQ, aQ_sN, aQ_sI, aQ_sL, aQ_sB, aQ_sQ] using this
    · have hq' : q < nPort α := hq
      have := w.st hq'
      by_cases e : q = pPar α p
      · right
        rw [e]
        simp only [aN_sN, aN_sI, aN_sL, aN_sB, aN_sQ, aI_sN, aI_sI, aI_sL, aI_sB, aI_sQ, aL_sN, aL_sI, aL_sL, aL_sB, aL_sQ, aB_sN, aB_sI, aB_sL, aB_sB, aB_sQ, aQ_sN, aQ_sI, aQ_sL, aQ_sB, aQ_sQ]
        refine ⟨by simp, by simpa using hen, p, hp, fun e2 => hne e2.symm, by simp⟩
      · by_cases e2 : q = p
        · right
          rw [e2]
          simp only [aN_sN, aN_sI, aN_sL, aN_sB, aN_sQ, aI_sN, aI_sI, aI_sL, aI_sB, aI_sQ, aL_sN, aL_sI, aL_sL, aL_sB, aL_sQ, aB_sN, aB_sI, aB_sL, aB_sB, aB_sQ, aQ_sN, aQ_sI, aQ_sL, aQ_sB, aQ_sQ]
          refine ⟨by simp [show ¬ p = pPar α p from fun e3 => hne e3.symm], by simpa using h.2.2.2.1, pPar α p, h.1, hne, by simp [show ¬ p = pPar α p from fun e3 => hne e3.symm]; exact h.2.2.1⟩
        · simpa [nPort, aN_sN, aN_sI, aN_sL, aN_sB, aN_sQ, aI_sN, aI_sI, aI_sL, aI_sB, aI_sQ, aL_sN, aL_sI, aL_sL, aL_sB, aL_sQ, aB_sN, aB_sI, aB_sL, aB_sB, aB_sQ, aQ_sN, aQ_sI, aQ_sL, aQ_sB, aQ_sQ, e, e2] using this
    · have hq' : nPort α ≤ q := hq
      have e : q ≠ pPar α p := by omega
      have e2 : q ≠ p := by omega
      have := w.z hq'
      simpa [aN_sN, aN_sI, aN_sL, aN_sB, aN_sQ, aI_sN, aI_sI, aI_sL, aI_sB, aI_sQ, aL_sN, aL_sI, aL_sL, aL_sB, aL_sQ, aB_sN, aB_sI, aB_sL, aB_sB, aB_sQ, aQ_sN, aQ_sI, aQ_sL, aQ_sB, aQ_sQ, e, e2] using this
  · exact w1.ends hp (by rw [aI_sI, if_pos ⟨rfl, rfl⟩]; decide)
theorem sW.call {α : sA} (w : sW α) {p : Nat} (hp : p < nPort α) : sW (pCall α p) := by
  unfold pCall
  split
  · split
    · rename_i h; exact w.mv hp (by rw [h]; decide) (by decide)
    · split
      · rename_i h; exact w.mv hp (by rw [h]; decide) (by decide)
      · split
        · rename_i h
          split
          · exact w.page hp (by rw [h]; decide)
          · exact w.ends hp (by rw [h]; decide)
        · split
          · rename_i h
            split
            · exact w.mv hp (by rw [h]; decide) (by decide)
            · exact w.ends hp (by rw [h]; decide)
          · exact w
  · exact w
theorem sW.L {α : sA} (w : sW α) (f i : Nat) (v : Int64) (h : f = 1 → i < nPort α) : sW (sL α f i v) := by
  refine ⟨w.1, w.2.1, w.2.2.1, w.2.2.2.1, w.2.2.2.2.1, w.2.2.2.2.2.1, w.2.2.2.2.2.2.1, w.2.2.2.2.2.2.2.1, fun q hq => ?_⟩
  have hq' : nPort α ≤ q := hq
  have := w.z hq'
  rw [aL_sL, if_neg (fun e => by have := h e.1.symm; omega)]
  exact this
theorem sW.Q {α : sA} (w : sW α) (f i : Nat) (v : List Int64) (hf : f = 0 ∧ v.length ≤ 8 ∨ f = 1 ∧ v.length ≤ 16) (hi : i < nPort α) : sW (sQ α f i v) := by
  refine ⟨w.1, w.2.1, w.2.2.1, w.2.2.2.1, w.2.2.2.2.1, fun q => ?_, w.2.2.2.2.2.2.1, w.2.2.2.2.2.2.2.1, fun q hq => ?_⟩
  · have := w.q q
    rw [aQ_sQ, aQ_sQ, aQ_sQ]
    refine ⟨?_, ?_, ?_, this.2.2.2⟩
    · split
      · omega
      · exact this.1
    · split
      · omega
      · exact this.2.1
    · rw [if_neg (by omega)]; exact this.2.2.1
  · have hq' : nPort α ≤ q := hq
    have := w.z hq'
    rw [aQ_sQ, aQ_sQ, aQ_sQ, if_neg (by omega), if_neg (by omega), if_neg (by omega)]
    exact this
theorem sW.up {α : sA} (w : sW α) {p : Nat} (hp : p < nPort α) : sW (pUp α p) := by
  unfold pUp
  split
  · rename_i h
    simp at h
    have hpar := w.par hp (by rw [h.1]; decide)
    split
    · exact w
    · rename_i v t hq
      have hl := (w.q p).1
      rw [hq] at hl
      simp at hl
      have w1 : sW (sI (sQ (sL α 2 0 (pUpB α p v)) 0 p t) 4 4 (aI α 4 4 + 1)) := ((w.L 2 0 _ (by omega)).Q 0 p t (Or.inl ⟨rfl, by omega⟩) hp).cnt 4 4 (by omega) _
      dsimp only
      split
      · refine w1.Q 1 _ _ (Or.inr ⟨rfl, ?_⟩) hpar.1
        simp
        omega
      · exact w1
  · exact w
theorem keep_len (q : List Int64) (v : Int64) (h : Nat) (hq : q.length = min h 20) : (pKeep q v).length = min (h + 1) 20 := by
  unfold pKeep
  split
  · simp; omega
  · simp; omega
theorem sW.down {α : sA} (w : sW α) {p : Nat} (hp : p < nPort α) (rd : Nat → Nat) (hh : aN α 7 p + 1 ≤ aN α 6 0) : sW (pDown rd α p) := by
  unfold pDown
  split
  · split
    · exact w
    · rename_i v t hq
      have hl := (w.q p).2.1
      rw [hq] at hl
      simp at hl
      refine sW.cnt ?_ 4 5 (by omega) _
      have w1 := (w.L 2 1 (pDnB α p v) (by omega)).Q 1 p t (Or.inr ⟨rfl, by omega⟩) hp
      refine ⟨w1.1, w1.2.1, w1.2.2.1, w1.2.2.2.1, w1.2.2.2.2.1, fun q => ?_, w1.2.2.2.2.2.2.1, w1.2.2.2.2.2.2.2.1, fun q hq' => ?_⟩
      · have h2 := w1.q q
        simp only [aN_sN, aN_sQ, aN_sL, aQ_sN, aQ_sQ, aQ_sL] at h2 ⊢
        by_cases e : q = p
        · subst e
          simp at h2 ⊢
          refine ⟨h2.1, h2.2.1, ?_, hh⟩
          exact keep_len _ _ _ (w.q q).2.2.1
        · simpa [e] using h2
      · have hq2 : nPort α ≤ q := hq'
        have e : q ≠ p := by omega
        have h2 := w1.z hq2
        simpa [aN_sN, aN_sI, aN_sL, aN_sB, aN_sQ, aI_sN, aI_sI, aI_sL, aI_sB, aI_sQ, aL_sN, aL_sI, aL_sL, aL_sB, aL_sQ, aB_sN, aB_sI, aB_sL, aB_sB, aB_sQ, aQ_sN, aQ_sI, aQ_sL, aQ_sB, aQ_sQ, e] using h2
  · exact w
theorem sW.old {α : sA} (w : sW α) {p : Nat} (hp : p < nPort α) : sW (pOld α p) := by
  unfold pOld
  split
  · rename_i h
    refine w.ends hp (fun e => ?_)
    rw [e] at h
    simp [pPend] at h
  · exact w
theorem sW.tick {α : sA} (w : sW α) (h : aN α 6 0 < 100000) : sW (pTick α) := by
  unfold pTick
  refine ⟨⟨w.1.1, w.1.2.1, by simp [aN_sN]; omega⟩, ⟨fun c => ?_, fun c => ?_, fun c => ?_, fun c => ?_⟩, fun x hx => ?_, w.2.2.2.1, w.2.2.2.2.1, fun p => ?_, w.2.2.2.2.2.2.1, w.2.2.2.2.2.2.2.1, fun p hp => ?_⟩
  · simpa [aN_sN] using w.bc c
  · simpa [aN_sN] using w.pl c
  · simpa [aN_sN] using w.rc c
  · simpa [aN_sN] using w.nz c
  · simpa [aN_sN] using w.x hx
  · have := w.q p
    simp [aN_sN, aQ_sN]
    omega
  · have : nPort α ≤ p := hp
    simpa [aN_sN, aI_sN, aL_sN, aQ_sN] using w.z this
end
section
/-! the reference: a call ends; sending -/
def bK (x : sBr) : Nat × Nat × Nat := (bOf x, bAt x, bCh x)
theorem any_key (C : List sBr) (F : Nat × Nat × Nat → Bool) : C.any (fun x => F (bK x)) = (C.map bK).any F := by rw [List.any_map]; rfl
section KY
variable {α : sA} {C : List sBr} (hk : C.map bK = (aB α).map bK)
theorem ky_any (F : Nat × Nat × Nat → Bool) (hk : C.map bK = (aB α).map bK) : C.any (fun x => F (bK x)) = (aB α).any (fun x => F (bK x)) := by rw [any_key, any_key, hk]
theorem ky_sends (hk : C.map bK = (aB α).map bK) : pSends (sB α C) = pSends α := by
  funext c ch
  have := ky_any (α := α) (C := C) (fun k => decide (k.2.1 = c) && decide (k.2.2 = ch)) hk
  unfold pSends
  rw [aB_sB, aN_sB]
  exact congrArg _ this
theorem ky_talks (hk : C.map bK = (aB α).map bK) : pTalks (sB α C) = pTalks α := by
  funext c ch
  exact ky_any (α := α) (C := C) (fun k => decide (k.1 = c) && decide (k.2.2 = ch)) hk
theorem ky_hat (hk : C.map bK = (aB α).map bK) : pHAt (sB α C) = pHAt α := by
  funext pl c ch
  unfold pHAt pOSend
  rw [ky_sends hk]
  rfl
theorem ky_hby (hk : C.map bK = (aB α).map bK) : pHBy (sB α C) = pHBy α := by
  funext pl c ch
  unfold pHBy pOTalk
  rw [ky_talks hk]
  rfl
theorem ky_isg (hk : C.map bK = (aB α).map bK) : pIsG (sB α C) = pIsG α := by
  funext x
  unfold pIsG
  rw [ky_hat hk, ky_hby hk]
  rfl
theorem sW.key (w : sW α) (hk : C.map bK = (aB α).map bK) : sW (sB α C) := by
  refine ⟨w.1, w.2.1, fun x hx => ?_, ?_, fun p => ?_, w.2.2.2.2.2.1, w.2.2.2.2.2.2.1, w.2.2.2.2.2.2.2.1, w.2.2.2.2.2.2.2.2⟩
  · have : bK x ∈ (aB α).map bK := by rw [← hk]; exact List.mem_map.mpr ⟨x, hx, rfl⟩
    obtain ⟨y, hy, e⟩ := List.mem_map.mp this
    have h := w.x hy
    have e1 : bOf y = bOf x := congrArg (·.1) e
    have e2 : bAt y = bAt x := congrArg (·.2.1) e
    have e3 : bCh y = bCh x := congrArg (·.2.2) e
    rw [e1, e2, e3] at h
    exact h
  · have h := w.pw
    have h1 : ((aB α).map bK).Pairwise (fun x y => (x.2.1 = y.2.1 ∨ x.1 = y.1) → x.2.2 / 10 ≠ y.2.2 / 10) := List.pairwise_map.mpr h
    rw [← hk] at h1
    exact List.pairwise_map.mp h1
  · have h := w.nb p
    unfold pNb at h ⊢
    have e : ∀ D : List sBr, D.countP (fun x => decide (bOf x = p)) = (D.map bK).countP (fun k => decide (k.1 = p)) := fun D => by rw [List.countP_map]; rfl
    rw [aB_sB, e, hk, ← e]
    exact h
end KY
theorem set_mid {β : Type} (l1 l2 : List β) (x y : β) : (l1 ++ x :: l2).set l1.length y = l1 ++ y :: l2 := by
  rw [List.set_append_right _ _ (Nat.le_refl _)]
  simp
/-- one bearer's own two numbers change -/
theorem rM.setX {α : sA} {τ : hm_M} (h : rM α τ) {b : Nat} {x : sBr} (hx : (aB α)[b]? = some x) (fl : Int32) (g : Bool) : rM (sB α ((aB α).set b (bOf x, bAt x, bCh x, fl, g))) (hm_wI (hm_wI τ 41 b fl) 42 b (bI g)) := by
  obtain ⟨hb1, hb2⟩ := h.b
  refine h.newB (fun a k h1 h2 => ?_) rfl rfl rfl ⟨?_, fun j y hj => ?_⟩
  · rw [hm_I_wI, if_neg (by omega), hm_I_wI, if_neg (by omega)]
  · rw [hm_I_wI, if_neg (by omega), hm_I_wI, if_neg (by omega), List.length_set]; exact hb1
  · rw [List.getElem?_set] at hj
    by_cases e : b = j
    · subst e
      rw [if_pos rfl, if_pos (List.getElem?_eq_some_iff.mp hx).1] at hj
      cases hj
      obtain ⟨e1, e2, e3, -, -⟩ := hb2 b x hx
      refine ⟨?_, ?_, ?_, ?_, ?_⟩ <;> simp [hm_I_wI, *]
    · rw [if_neg e] at hj
      obtain ⟨e1, e2, e3, e4, e5⟩ := hb2 j y hj
      have e' : ¬ j = b := fun q => e q.symm
      refine ⟨?_, ?_, ?_, ?_, ?_⟩ <;> simp [hm_I_wI, *]
theorem rM.setG {α : sA} {τ : hm_M} (h : rM α τ) {b : Nat} {x : sBr} (hx : (aB α)[b]? = some x) (g : Bool) : rM (sB α ((aB α).set b (bOf x, bAt x, bCh x, bFl x, g))) (hm_wI τ 42 b (bI g)) := by
  have h1 := h.setX hx (bFl x) g
  have e : hm_wI (hm_wI τ 41 b (bFl x)) 42 b (bI g) = hm_wI τ 42 b (bI g) := by
    have e4 := (h.b.2 b x hx).2.2.2.1
    unfold hm_wI
    congr 1
    funext a j
    by_cases q : a = 42 ∧ j = b
    · simp [q]
    · rw [if_neg q, if_neg q]
      show (if a = 41 ∧ j = b then bFl x else τ.1 a j) = τ.1 a j
      by_cases q2 : a = 41 ∧ j = b
      · rw [if_pos q2, q2.1, q2.2]; exact e4.symm
      · rw [if_neg q2]
  rw [e] at h1
  exact h1
theorem rM.setF {α : sA} {τ : hm_M} (h : rM α τ) {b : Nat} {x : sBr} (hx : (aB α)[b]? = some x) (fl : Int32) : rM (sB α ((aB α).set b (bOf x, bAt x, bCh x, fl, bGd x))) (hm_wI τ 41 b fl) := by
  have h1 := h.setX hx fl (bGd x)
  have e : hm_wI (hm_wI τ 41 b fl) 42 b (bI (bGd x)) = hm_wI τ 41 b fl := by
    have e5 := (h.b.2 b x hx).2.2.2.2
    unfold hm_wI
    congr 1
    funext a j
    by_cases q : a = 42 ∧ j = b
    · rw [if_pos q, if_neg (by omega), q.1, q.2]; exact e5.symm
    · rw [if_neg q]
  rw [e] at h1
  exact h1
section M8
variable (l : Launch) {α : sA} {σ : hm_M}
theorem r5_called (σ : hm_M) (s : Int32) : hm_Ct l yX5_in cX5_in 3 (some .boolean) 0 0 0 [.int s, .int 4, .int 6] σ (fun r τ => r = some (.int (bI (pCalled s))) ∧ τ = σ) := c5_in l σ s 4 6
set_option maxRecDepth 100000 in
theorem r5_ends (h : rM α σ) (w : sW α) {p : Nat} (hp : p < nPort α) (hs : aI α 1 p ≠ 0) : hm_Ct l yX5_ends cX5_ends 5 none 2 0 0 [.ref 27, .int (nI p)] σ (fun r τ => r = none ∧ rM (pEnds α p) τ ∧ md_fr σ τ) := by
  obtain ⟨hN, hM⟩ := h.m
  have h8 := w.p8
  obtain ⟨hq, hne, hpar, -, -⟩ := w.par hp hs
  have e1 : hm_I σ 34 p = nI (pPar α p) := (h.i 2 p (by show p < 8; omega)).trans hpar
  have e2 : hm_I σ 33 p = aI α 1 p := h.i 1 p (by show p < 8; omega)
  have e3 : hm_I σ 33 (pPar α p) = aI α 1 (pPar α p) := h.i 1 (pPar α p) (by show pPar α p < 8; omega)
  have e4 : hm_I σ 34 (pPar α p) = aI α 2 (pPar α p) := h.i 2 (pPar α p) (by show pPar α p < 8; omega)
  have hof : ∀ β : sA, sW β → ∀ x ∈ aB β, bOf x < 8 := fun β wβ x hx => by have := (wβ.x hx).1; have := wβ.p8; omega
  refine hm_startQ (ini := false) [.ref 27, .int (nI p), hm_u, hm_u, hm_u] (by decide) (by decide) rfl (Nat.le_of_ble_eq_true rfl) (fun Q hQ => ?_)
  have j2 : ∀ v y : Int32, v = bI (pTog α p) → hm_V l RX5 cX5_ends 5 none false (hm_rm 2 0 0) 0 0 Q 0 0 108 [.ref 27, .int (nI p), .int (nI (pPar α p)), .int y, hm_u] [.int v] σ := by
    intro v y hv
    subst hv
    refine hm_istore dX5_ends_108 (by decide) rfl ?_
    refine hm_aload_n dX5_ends_110 rfl ?_
    refine hm_iload_n dX5_ends_111 rfl ?_
    refine hm_callV lm_RX5_119 (r5_idle l h w.len (hof α w) (by omega)) rfl rfl rfl rfl (by first | exact Nat.lt_of_lt_of_le (by decide) hN | assumption | (simp only [hm_n_wI, hm_n_wL, hm_n_wR, hm_n_g] at *; omega)) (by decide) (by decide) (Nat.le_of_ble_eq_true rfl) dX5_ends_112 ?_
    rintro _ τ ⟨rfl, hτ, hf⟩
    obtain ⟨hN, hM⟩ := hτ.m
    refine hm_iload dX5_ends_115 rfl ?_
    refine hm_if_eq 125 dX5_ends_117 (by decide) (fun h117 => ?_) (fun h117 => ?_)
    · skip
      rw [bI_0] at h117
      have e5 : hm_I τ 27 29 = aI (pIdle α p) 4 2 := hτ.i 4 2 (by decide)
      refine hm_aload_n dX5_ends_125 rfl ?_
      refine hm_dup dX5_ends_126 rfl ?_
      refine hm_getI lf_RX5_122 rfl rfl (by first | exact Nat.lt_of_lt_of_le (by decide) hN | assumption | (simp only [hm_n_wI, hm_n_wL, hm_n_wR, hm_n_g] at *; omega)) dX5_ends_127 ?_
      rw [e5]
      refine hm_iconst dX5_ends_130 (v := 1) (by decide) ?_
      refine hm_iadd dX5_ends_131 ?_
      refine hm_putI lf_RX5_122 rfl rfl rfl (by first | exact Nat.lt_of_lt_of_le (by decide) hN | assumption | (simp only [hm_n_wI, hm_n_wL, hm_n_wR, hm_n_g] at *; omega)) dX5_ends_132 ?_
      refine hm_vret dX5_ends_135 rfl (by decide) (by decide) ?_
      first | (have e6 : pTog α p = true := by simpa using h117) | skip
      first | exact hQ _ _ ⟨rfl, by unfold pEnds; rw [if_pos e6]; exact hρ.upI 4 2 _ (by decide), (hf.tr hf2).wI 27 29 _ (by decide)⟩ | exact hQ _ _ ⟨rfl, by unfold pEnds; rw [if_neg (by rw [h117]; decide)]; exact hτ.upI 4 2 _ (by decide), hf.wI 27 29 _ (by decide)⟩
    · skip
      rw [bI_0] at h117
      refine hm_aload_n dX5_ends_120 rfl ?_
      refine hm_iload_n dX5_ends_121 rfl ?_
      refine hm_callV lm_RX5_119 (r5_idle l hτ (w.idle hp).len (hof _ (w.idle hp)) (by omega)) rfl rfl rfl rfl (by first | exact Nat.lt_of_lt_of_le (by decide) hN | assumption | (simp only [hm_n_wI, hm_n_wL, hm_n_wR, hm_n_g] at *; omega)) (by decide) (by decide) (Nat.le_of_ble_eq_true rfl) dX5_ends_122 ?_
      rintro _ ρ ⟨rfl, hρ, hf2⟩
      obtain ⟨hN, hM⟩ := hρ.m
      have e5 : hm_I ρ 27 29 = aI (pIdle (pIdle α p) (pPar α p)) 4 2 := hρ.i 4 2 (by decide)
      refine hm_aload_n dX5_ends_125 rfl ?_
      refine hm_dup dX5_ends_126 rfl ?_
      refine hm_getI lf_RX5_122 rfl rfl (by first | exact Nat.lt_of_lt_of_le (by decide) hN | assumption | (simp only [hm_n_wI, hm_n_wL, hm_n_wR, hm_n_g] at *; omega)) dX5_ends_127 ?_
      rw [e5]
      refine hm_iconst dX5_ends_130 (v := 1) (by decide) ?_
      refine hm_iadd dX5_ends_131 ?_
      refine hm_putI lf_RX5_122 rfl rfl rfl (by first | exact Nat.lt_of_lt_of_le (by decide) hN | assumption | (simp only [hm_n_wI, hm_n_wL, hm_n_wR, hm_n_g] at *; omega)) dX5_ends_132 ?_
      refine hm_vret dX5_ends_135 rfl (by decide) (by decide) ?_
      first | (have e6 : pTog α p = true := by simpa using h117) | skip
      first | exact hQ _ _ ⟨rfl, by unfold pEnds; rw [if_pos e6]; exact hρ.upI 4 2 _ (by decide), (hf.tr hf2).wI 27 29 _ (by decide)⟩ | exact hQ _ _ ⟨rfl, by unfold pEnds; rw [if_neg (by rw [h117]; decide)]; exact hτ.upI 4 2 _ (by decide), hf.wI 27 29 _ (by decide)⟩
  have j1 : ∀ v : Int32, v = bI (pBoth (aI α 1 p) (aI α 1 (pPar α p))) → hm_V l RX5 cX5_ends 5 none false (hm_rm 2 0 0) 0 0 Q 0 0 88 [.ref 27, .int (nI p), .int (nI (pPar α p)), hm_u, hm_u] [.int v] σ := by
    intro v hv
    subst hv
    refine hm_istore_n dX5_ends_88 (by decide) rfl ?_
    refine hm_aload_n dX5_ends_89 rfl ?_
    refine hm_getR lf_RX5_30 rfl rfl (by first | exact Nat.lt_of_lt_of_le (by decide) hN | assumption | (simp only [hm_n_wI, hm_n_wL, hm_n_wR, hm_n_g] at *; omega)) (hM 8) dX5_ends_90 ?_
    refine hm_iload_n dX5_ends_93 rfl ?_
    refine hm_iald _ rfl (by first | exact Nat.lt_of_lt_of_le (by decide) hN | assumption | (simp only [hm_n_wI, hm_n_wL, hm_n_wR, hm_n_g] at *; omega)) rfl (by omega) (by decide) dX5_ends_94 ?_
    rw [e4]
    refine hm_iload_n dX5_ends_95 rfl ?_
    refine hm_icmp_ne 107 dX5_ends_96 (by decide) (fun h96 => ?_) (fun h96 => ?_)
    · skip
      refine hm_iconst dX5_ends_107 (v := 0) (by decide) ?_
      exact j2 _ _ (by unfold pTog; simp_all [bI])
    · skip
      refine hm_iload_n dX5_ends_99 rfl ?_
      refine hm_if_eq 107 dX5_ends_100 (by decide) (fun h100 => ?_) (fun h100 => ?_)
      · skip
        rw [bI_0] at h100
        refine hm_iconst dX5_ends_107 (v := 0) (by decide) ?_
        exact j2 _ _ (by unfold pTog; simp_all [bI])
      · skip
        rw [bI_0] at h100
        refine hm_iconst dX5_ends_103 (v := 1) (by decide) ?_
        refine hm_goto 108 dX5_ends_104 (by decide) ?_
        exact j2 _ _ (by unfold pTog; simp_all [bI])
  refine hm_aload_n dX5_ends_0 rfl ?_
  refine hm_getR lf_RX5_30 rfl rfl (by first | exact Nat.lt_of_lt_of_le (by decide) hN | assumption | (simp only [hm_n_wI, hm_n_wL, hm_n_wR, hm_n_g] at *; omega)) (hM 8) dX5_ends_1 ?_
  refine hm_iload_n dX5_ends_4 rfl ?_
  refine hm_iald _ rfl (by first | exact Nat.lt_of_lt_of_le (by decide) hN | assumption | (simp only [hm_n_wI, hm_n_wL, hm_n_wR, hm_n_g] at *; omega)) rfl (by omega) (by decide) dX5_ends_5 ?_
  rw [e1]
  refine hm_istore_n dX5_ends_6 (by decide) rfl ?_
  refine hm_aload_n dX5_ends_7 rfl ?_
  refine hm_getR lf_RX5_27 rfl rfl (by first | exact Nat.lt_of_lt_of_le (by decide) hN | assumption | (simp only [hm_n_wI, hm_n_wL, hm_n_wR, hm_n_g] at *; omega)) (hM 7) dX5_ends_8 ?_
  refine hm_iload_n dX5_ends_11 rfl ?_
  refine hm_iald _ rfl (by first | exact Nat.lt_of_lt_of_le (by decide) hN | assumption | (simp only [hm_n_wI, hm_n_wL, hm_n_wR, hm_n_g] at *; omega)) rfl (by omega) (by decide) dX5_ends_12 ?_
  rw [e2]
  refine hm_bipush dX5_ends_13 (v := 7) (by decide) ?_
  refine hm_icmp_ne 29 dX5_ends_15 (by decide) (fun h15 => ?_) (fun h15 => ?_)
  · skip
    refine hm_aload_n dX5_ends_29 rfl ?_
    refine hm_getR lf_RX5_27 rfl rfl (by first | exact Nat.lt_of_lt_of_le (by decide) hN | assumption | (simp only [hm_n_wI, hm_n_wL, hm_n_wR, hm_n_g] at *; omega)) (hM 7) dX5_ends_30 ?_
    refine hm_iload_n dX5_ends_33 rfl ?_
    refine hm_iald _ rfl (by first | exact Nat.lt_of_lt_of_le (by decide) hN | assumption | (simp only [hm_n_wI, hm_n_wL, hm_n_wR, hm_n_g] at *; omega)) rfl (by omega) (by decide) dX5_ends_34 ?_
    rw [e2]
    refine hm_callS lm_RX5_116 (r5_isCaller l _ _) rfl rfl (by decide) (by decide) (Nat.le_of_ble_eq_true rfl) dX5_ends_35 ?_
    rintro _ _ ⟨rfl, rfl⟩
    refine hm_if_eq 56 dX5_ends_38 (by decide) (fun h38 => ?_) (fun h38 => ?_)
    · skip
      rw [bI_0] at h38
      refine hm_aload_n dX5_ends_56 rfl ?_
      refine hm_getR lf_RX5_27 rfl rfl (by first | exact Nat.lt_of_lt_of_le (by decide) hN | assumption | (simp only [hm_n_wI, hm_n_wL, hm_n_wR, hm_n_g] at *; omega)) (hM 7) dX5_ends_57 ?_
      refine hm_iload_n dX5_ends_60 rfl ?_
      refine hm_iald _ rfl (by first | exact Nat.lt_of_lt_of_le (by decide) hN | assumption | (simp only [hm_n_wI, hm_n_wL, hm_n_wR, hm_n_g] at *; omega)) rfl (by omega) (by decide) dX5_ends_61 ?_
      rw [e2]
      refine hm_iconst dX5_ends_62 (v := 4) (by decide) ?_
      refine hm_bipush dX5_ends_63 (v := 6) (by decide) ?_
      refine hm_callS lm_RX5_88 (r5_called l _ _) rfl rfl (by decide) (by decide) (Nat.le_of_ble_eq_true rfl) dX5_ends_65 ?_
      rintro _ _ ⟨rfl, rfl⟩
      refine hm_if_eq 87 dX5_ends_68 (by decide) (fun h68 => ?_) (fun h68 => ?_)
      · skip
        rw [bI_0] at h68
        refine hm_iconst dX5_ends_87 (v := 0) (by decide) ?_
        exact j1 _ (by clear j1 j2 hQ hof; simp_all [pBoth, bI])
      · skip
        rw [bI_0] at h68
        refine hm_aload_n dX5_ends_71 rfl ?_
        refine hm_getR lf_RX5_27 rfl rfl (by first | exact Nat.lt_of_lt_of_le (by decide) hN | assumption | (simp only [hm_n_wI, hm_n_wL, hm_n_wR, hm_n_g] at *; omega)) (hM 7) dX5_ends_72 ?_
        refine hm_iload_n dX5_ends_75 rfl ?_
        refine hm_iald _ rfl (by first | exact Nat.lt_of_lt_of_le (by decide) hN | assumption | (simp only [hm_n_wI, hm_n_wL, hm_n_wR, hm_n_g] at *; omega)) rfl (by omega) (by decide) dX5_ends_76 ?_
        rw [e3]
        refine hm_callS lm_RX5_116 (r5_isCaller l _ _) rfl rfl (by decide) (by decide) (Nat.le_of_ble_eq_true rfl) dX5_ends_77 ?_
        rintro _ _ ⟨rfl, rfl⟩
        refine hm_if_eq 87 dX5_ends_80 (by decide) (fun h80 => ?_) (fun h80 => ?_)
        · skip
          rw [bI_0] at h80
          refine hm_iconst dX5_ends_87 (v := 0) (by decide) ?_
          exact j1 _ (by clear j1 j2 hQ hof; simp_all [pBoth, bI])
        · skip
          rw [bI_0] at h80
          refine hm_iconst dX5_ends_83 (v := 1) (by decide) ?_
          refine hm_goto 88 dX5_ends_84 (by decide) ?_
          exact j1 _ (by clear j1 j2 hQ hof; simp_all [pBoth, bI])
    · skip
      rw [bI_0] at h38
      refine hm_aload_n dX5_ends_41 rfl ?_
      refine hm_getR lf_RX5_27 rfl rfl (by first | exact Nat.lt_of_lt_of_le (by decide) hN | assumption | (simp only [hm_n_wI, hm_n_wL, hm_n_wR, hm_n_g] at *; omega)) (hM 7) dX5_ends_42 ?_
      refine hm_iload_n dX5_ends_45 rfl ?_
      refine hm_iald _ rfl (by first | exact Nat.lt_of_lt_of_le (by decide) hN | assumption | (simp only [hm_n_wI, hm_n_wL, hm_n_wR, hm_n_g] at *; omega)) rfl (by omega) (by decide) dX5_ends_46 ?_
      rw [e3]
      refine hm_iconst dX5_ends_47 (v := 4) (by decide) ?_
      refine hm_bipush dX5_ends_48 (v := 6) (by decide) ?_
      refine hm_callS lm_RX5_88 (r5_called l _ _) rfl rfl (by decide) (by decide) (Nat.le_of_ble_eq_true rfl) dX5_ends_50 ?_
      rintro _ _ ⟨rfl, rfl⟩
      refine hm_if_ne 83 dX5_ends_53 (by decide) (fun h53 => ?_) (fun h53 => ?_)
      · skip
        rw [bI_0] at h53
        refine hm_iconst dX5_ends_83 (v := 1) (by decide) ?_
        refine hm_goto 88 dX5_ends_84 (by decide) ?_
        exact j1 _ (by clear j1 j2 hQ hof; simp_all [pBoth, bI])
      · skip
        rw [bI_0] at h53
        refine hm_aload_n dX5_ends_56 rfl ?_
        refine hm_getR lf_RX5_27 rfl rfl (by first | exact Nat.lt_of_lt_of_le (by decide) hN | assumption | (simp only [hm_n_wI, hm_n_wL, hm_n_wR, hm_n_g] at *; omega)) (hM 7) dX5_ends_57 ?_
        refine hm_iload_n dX5_ends_60 rfl ?_
        refine hm_iald _ rfl (by first | exact Nat.lt_of_lt_of_le (by decide) hN | assumption | (simp only [hm_n_wI, hm_n_wL, hm_n_wR, hm_n_g] at *; omega)) rfl (by omega) (by decide) dX5_ends_61 ?_
        rw [e2]
        refine hm_iconst dX5_ends_62 (v := 4) (by decide) ?_
        refine hm_bipush dX5_ends_63 (v := 6) (by decide) ?_
        refine hm_callS lm_RX5_88 (r5_called l _ _) rfl rfl (by decide) (by decide) (Nat.le_of_ble_eq_true rfl) dX5_ends_65 ?_
        rintro _ _ ⟨rfl, rfl⟩
        refine hm_if_eq 87 dX5_ends_68 (by decide) (fun h68 => ?_) (fun h68 => ?_)
        · skip
          rw [bI_0] at h68
          refine hm_iconst dX5_ends_87 (v := 0) (by decide) ?_
          exact j1 _ (by clear j1 j2 hQ hof; simp_all [pBoth, bI])
        · skip
          rw [bI_0] at h68
          refine hm_aload_n dX5_ends_71 rfl ?_
          refine hm_getR lf_RX5_27 rfl rfl (by first | exact Nat.lt_of_lt_of_le (by decide) hN | assumption | (simp only [hm_n_wI, hm_n_wL, hm_n_wR, hm_n_g] at *; omega)) (hM 7) dX5_ends_72 ?_
          refine hm_iload_n dX5_ends_75 rfl ?_
          refine hm_iald _ rfl (by first | exact Nat.lt_of_lt_of_le (by decide) hN | assumption | (simp only [hm_n_wI, hm_n_wL, hm_n_wR, hm_n_g] at *; omega)) rfl (by omega) (by decide) dX5_ends_76 ?_
          rw [e3]
          refine hm_callS lm_RX5_116 (r5_isCaller l _ _) rfl rfl (by decide) (by decide) (Nat.le_of_ble_eq_true rfl) dX5_ends_77 ?_
          rintro _ _ ⟨rfl, rfl⟩
          refine hm_if_eq 87 dX5_ends_80 (by decide) (fun h80 => ?_) (fun h80 => ?_)
          · skip
            rw [bI_0] at h80
            refine hm_iconst dX5_ends_87 (v := 0) (by decide) ?_
            exact j1 _ (by clear j1 j2 hQ hof; simp_all [pBoth, bI])
          · skip
            rw [bI_0] at h80
            refine hm_iconst dX5_ends_83 (v := 1) (by decide) ?_
            refine hm_goto 88 dX5_ends_84 (by decide) ?_
            exact j1 _ (by clear j1 j2 hQ hof; simp_all [pBoth, bI])
  · skip
    refine hm_aload_n dX5_ends_18 rfl ?_
    refine hm_getR lf_RX5_27 rfl rfl (by first | exact Nat.lt_of_lt_of_le (by decide) hN | assumption | (simp only [hm_n_wI, hm_n_wL, hm_n_wR, hm_n_g] at *; omega)) (hM 7) dX5_ends_19 ?_
    refine hm_iload_n dX5_ends_22 rfl ?_
    refine hm_iald _ rfl (by first | exact Nat.lt_of_lt_of_le (by decide) hN | assumption | (simp only [hm_n_wI, hm_n_wL, hm_n_wR, hm_n_g] at *; omega)) rfl (by omega) (by decide) dX5_ends_23 ?_
    rw [e3]
    refine hm_bipush dX5_ends_24 (v := 7) (by decide) ?_
    refine hm_icmp_eq 83 dX5_ends_26 (by decide) (fun h26 => ?_) (fun h26 => ?_)
    · skip
      refine hm_iconst dX5_ends_83 (v := 1) (by decide) ?_
      refine hm_goto 88 dX5_ends_84 (by decide) ?_
      exact j1 _ (by clear j1 j2 hQ hof; simp_all [pBoth, bI])
    · skip
      refine hm_aload_n dX5_ends_29 rfl ?_
      refine hm_getR lf_RX5_27 rfl rfl (by first | exact Nat.lt_of_lt_of_le (by decide) hN | assumption | (simp only [hm_n_wI, hm_n_wL, hm_n_wR, hm_n_g] at *; omega)) (hM 7) dX5_ends_30 ?_
      refine hm_iload_n dX5_ends_33 rfl ?_
      refine hm_iald _ rfl (by first | exact Nat.lt_of_lt_of_le (by decide) hN | assumption | (simp only [hm_n_wI, hm_n_wL, hm_n_wR, hm_n_g] at *; omega)) rfl (by omega) (by decide) dX5_ends_34 ?_
      rw [e2]
      refine hm_callS lm_RX5_116 (r5_isCaller l _ _) rfl rfl (by decide) (by decide) (Nat.le_of_ble_eq_true rfl) dX5_ends_35 ?_
      rintro _ _ ⟨rfl, rfl⟩
      refine hm_if_eq 56 dX5_ends_38 (by decide) (fun h38 => ?_) (fun h38 => ?_)
      · skip
        rw [bI_0] at h38
        refine hm_aload_n dX5_ends_56 rfl ?_
        refine hm_getR lf_RX5_27 rfl rfl (by first | exact Nat.lt_of_lt_of_le (by decide) hN | assumption | (simp only [hm_n_wI, hm_n_wL, hm_n_wR, hm_n_g] at *; omega)) (hM 7) dX5_ends_57 ?_
        refine hm_iload_n dX5_ends_60 rfl ?_
        refine hm_iald _ rfl (by first | exact Nat.lt_of_lt_of_le (by decide) hN | assumption | (simp only [hm_n_wI, hm_n_wL, hm_n_wR, hm_n_g] at *; omega)) rfl (by omega) (by decide) dX5_ends_61 ?_
        rw [e2]
        refine hm_iconst dX5_ends_62 (v := 4) (by decide) ?_
        refine hm_bipush dX5_ends_63 (v := 6) (by decide) ?_
        refine hm_callS lm_RX5_88 (r5_called l _ _) rfl rfl (by decide) (by decide) (Nat.le_of_ble_eq_true rfl) dX5_ends_65 ?_
        rintro _ _ ⟨rfl, rfl⟩
        refine hm_if_eq 87 dX5_ends_68 (by decide) (fun h68 => ?_) (fun h68 => ?_)
        · skip
          rw [bI_0] at h68
          refine hm_iconst dX5_ends_87 (v := 0) (by decide) ?_
          exact j1 _ (by clear j1 j2 hQ hof; simp_all [pBoth, bI])
        · skip
          rw [bI_0] at h68
          refine hm_aload_n dX5_ends_71 rfl ?_
          refine hm_getR lf_RX5_27 rfl rfl (by first | exact Nat.lt_of_lt_of_le (by decide) hN | assumption | (simp only [hm_n_wI, hm_n_wL, hm_n_wR, hm_n_g] at *; omega)) (hM 7) dX5_ends_72 ?_
          refine hm_iload_n dX5_ends_75 rfl ?_
          refine hm_iald _ rfl (by first | exact Nat.lt_of_lt_of_le (by decide) hN | assumption | (simp only [hm_n_wI, hm_n_wL, hm_n_wR, hm_n_g] at *; omega)) rfl (by omega) (by decide) dX5_ends_76 ?_
          rw [e3]
          refine hm_callS lm_RX5_116 (r5_isCaller l _ _) rfl rfl (by decide) (by decide) (Nat.le_of_ble_eq_true rfl) dX5_ends_77 ?_
          rintro _ _ ⟨rfl, rfl⟩
          refine hm_if_eq 87 dX5_ends_80 (by decide) (fun h80 => ?_) (fun h80 => ?_)
          · skip
            rw [bI_0] at h80
            refine hm_iconst dX5_ends_87 (v := 0) (by decide) ?_
            exact j1 _ (by clear j1 j2 hQ hof; simp_all [pBoth, bI])
          · skip
            rw [bI_0] at h80
            refine hm_iconst dX5_ends_83 (v := 1) (by decide) ?_
            refine hm_goto 88 dX5_ends_84 (by decide) ?_
            exact j1 _ (by clear j1 j2 hQ hof; simp_all [pBoth, bI])
      · skip
        rw [bI_0] at h38
        refine hm_aload_n dX5_ends_41 rfl ?_
        refine hm_getR lf_RX5_27 rfl rfl (by first | exact Nat.lt_of_lt_of_le (by decide) hN | assumption | (simp only [hm_n_wI, hm_n_wL, hm_n_wR, hm_n_g] at *; omega)) (hM 7) dX5_ends_42 ?_
        refine hm_iload_n dX5_ends_45 rfl ?_
        refine hm_iald _ rfl (by first | exact Nat.lt_of_lt_of_le (by decide) hN | assumption | (simp only [hm_n_wI, hm_n_wL, hm_n_wR, hm_n_g] at *; omega)) rfl (by omega) (by decide) dX5_ends_46 ?_
        rw [e3]
        refine hm_iconst dX5_ends_47 (v := 4) (by decide) ?_
        refine hm_bipush dX5_ends_48 (v := 6) (by decide) ?_
        refine hm_callS lm_RX5_88 (r5_called l _ _) rfl rfl (by decide) (by decide) (Nat.le_of_ble_eq_true rfl) dX5_ends_50 ?_
        rintro _ _ ⟨rfl, rfl⟩
        refine hm_if_ne 83 dX5_ends_53 (by decide) (fun h53 => ?_) (fun h53 => ?_)
        · skip
          rw [bI_0] at h53
          refine hm_iconst dX5_ends_83 (v := 1) (by decide) ?_
          refine hm_goto 88 dX5_ends_84 (by decide) ?_
          exact j1 _ (by clear j1 j2 hQ hof; simp_all [pBoth, bI])
        · skip
          rw [bI_0] at h53
          refine hm_aload_n dX5_ends_56 rfl ?_
          refine hm_getR lf_RX5_27 rfl rfl (by first | exact Nat.lt_of_lt_of_le (by decide) hN | assumption | (simp only [hm_n_wI, hm_n_wL, hm_n_wR, hm_n_g] at *; omega)) (hM 7) dX5_ends_57 ?_
          refine hm_iload_n dX5_ends_60 rfl ?_
          refine hm_iald _ rfl (by first | exact Nat.lt_of_lt_of_le (by decide) hN | assumption | (simp only [hm_n_wI, hm_n_wL, hm_n_wR, hm_n_g] at *; omega)) rfl (by omega) (by decide) dX5_ends_61 ?_
          rw [e2]
          refine hm_iconst dX5_ends_62 (v := 4) (by decide) ?_
          refine hm_bipush dX5_ends_63 (v := 6) (by decide) ?_
          refine hm_callS lm_RX5_88 (r5_called l _ _) rfl rfl (by decide) (by decide) (Nat.le_of_ble_eq_true rfl) dX5_ends_65 ?_
          rintro _ _ ⟨rfl, rfl⟩
          refine hm_if_eq 87 dX5_ends_68 (by decide) (fun h68 => ?_) (fun h68 => ?_)
          · skip
            rw [bI_0] at h68
            refine hm_iconst dX5_ends_87 (v := 0) (by decide) ?_
            exact j1 _ (by clear j1 j2 hQ hof; simp_all [pBoth, bI])
          · skip
            rw [bI_0] at h68
            refine hm_aload_n dX5_ends_71 rfl ?_
            refine hm_getR lf_RX5_27 rfl rfl (by first | exact Nat.lt_of_lt_of_le (by decide) hN | assumption | (simp only [hm_n_wI, hm_n_wL, hm_n_wR, hm_n_g] at *; omega)) (hM 7) dX5_ends_72 ?_
            refine hm_iload_n dX5_ends_75 rfl ?_
            refine hm_iald _ rfl (by first | exact Nat.lt_of_lt_of_le (by decide) hN | assumption | (simp only [hm_n_wI, hm_n_wL, hm_n_wR, hm_n_g] at *; omega)) rfl (by omega) (by decide) dX5_ends_76 ?_
            rw [e3]
            refine hm_callS lm_RX5_116 (r5_isCaller l _ _) rfl rfl (by decide) (by decide) (Nat.le_of_ble_eq_true rfl) dX5_ends_77 ?_
            rintro _ _ ⟨rfl, rfl⟩
            refine hm_if_eq 87 dX5_ends_80 (by decide) (fun h80 => ?_) (fun h80 => ?_)
            · skip
              rw [bI_0] at h80
              refine hm_iconst dX5_ends_87 (v := 0) (by decide) ?_
              exact j1 _ (by clear j1 j2 hQ hof; simp_all [pBoth, bI])
            · skip
              rw [bI_0] at h80
              refine hm_iconst dX5_ends_83 (v := 1) (by decide) ?_
              refine hm_goto 88 dX5_ends_84 (by decide) ?_
              exact j1 _ (by clear j1 j2 hQ hof; simp_all [pBoth, bI])
set_option maxRecDepth 100000 in
theorem r5_send (h : rM α σ) (w : sW α) : hm_Ct l yX5_send cX5_send 2 none 3 0 0 [.ref 27] σ (fun r τ => r = none ∧ rM (pSend α) τ ∧ md_fr σ τ) := by
  obtain ⟨hN, hM⟩ := h.m
  have hlen := w.len
  refine hm_startQ (ini := false) [.ref 27, hm_u] (by decide) (by decide) rfl (Nat.le_of_ble_eq_true rfl) (fun Q hQ => ?_)
  have hl2 : ∀ (k b : Nat) (τ : hm_M) (u : Int32), b + k = (aB α).length → rM (sB α (((aB α).take b).map (pSent α) ++ ((aB α).drop b).map (fun x => (bOf x, bAt x, bCh x, bFl x, pIsG α x)))) τ → md_fr σ τ → u = nI b → hm_V l RX5 cX5_send 2 none false (hm_rm 3 0 0) 0 0 Q 0 0 84 [.ref 27, .int u] [] τ := by
    intro k
    induction k with
    | zero =>
      intro b τ u hk hτ hf hu
      subst hu
      have hb : b = (aB α).length := by omega
      subst hb
      rw [List.take_length, List.drop_length, List.map_nil, List.append_nil] at hτ
      obtain ⟨hN, hM⟩ := hτ.m
      have hb1 : hm_I τ 27 12 = nI (aB α).length := by rw [hτ.b.1, aB_sB, List.length_map]
      refine hm_iload_n dX5_send_84 rfl ?_
      refine hm_aload_n dX5_send_85 rfl ?_
      refine hm_getI lf_RX5_109 rfl rfl (by first | exact Nat.lt_of_lt_of_le (by decide) hN | assumption | (simp only [hm_n_wI, hm_n_wL, hm_n_wR, hm_n_g] at *; omega)) dX5_send_86 ?_
      rw [hb1]
      refine hm_icmp_ge 125 dX5_send_89 (by decide) (fun _ => ?_) (fun h89 => absurd (nI_le (Nat.le_refl _) (by omega)) h89)
      refine hm_vret dX5_send_125 rfl (by decide) (by decide) ?_
      exact hQ _ _ ⟨rfl, hτ, hf⟩
    | succ k ih =>
      intro b τ u hk hτ hf hu
      subst hu
      obtain ⟨hN, hM⟩ := hτ.m
      obtain ⟨x, hx⟩ : ∃ x, (aB α)[b]? = some x := ⟨_, List.getElem?_eq_getElem (by omega)⟩
      have hd : (aB α).drop b = x :: (aB α).drop (b + 1) := by rw [← List.getElem_cons_drop (show b < (aB α).length by omega)]; congr 1; exact Option.some.inj ((List.getElem?_eq_getElem _).symm.trans hx)
      have ht : (aB α).take (b + 1) = (aB α).take b ++ [x] := by rw [List.take_succ, hx]; rfl
      have htl : (((aB α).take b).map (pSent α)).length = b := by rw [List.length_map, List.length_take]; omega
      rw [hd, List.map_cons] at hτ
      have hb1 : hm_I τ 27 12 = nI (aB α).length := by
        rw [hτ.b.1, aB_sB, List.length_append, htl, List.length_cons, List.length_map, List.length_drop]
        congr 1
        omega
      generalize hA : ((aB α).take b).map (pSent α) = A at hτ htl
      generalize hZ : ((aB α).drop (b + 1)).map (fun x => (bOf x, bAt x, bCh x, bFl x, pIsG α x)) = Z at hτ
      have hC : (aB (sB α (A ++ (bOf x, bAt x, bCh x, bFl x, pIsG α x) :: Z)))[b]? = some (bOf x, bAt x, bCh x, bFl x, pIsG α x) := by
        rw [aB_sB, List.getElem?_append_right (by omega), htl, Nat.sub_self]; rfl
      have e4 : hm_I τ 41 b = bFl x := (hτ.b.2 b _ hC).2.2.2.1
      have e5 : hm_I τ 42 b = bI (pIsG α x) := (hτ.b.2 b _ hC).2.2.2.2
      have hset : ∀ v, v = (if pIsG α x then 0 else bFl x + 1) → rM (sB α (((aB α).take (b + 1)).map (pSent α) ++ ((aB α).drop (b + 1)).map (fun x => (bOf x, bAt x, bCh x, bFl x, pIsG α x)))) (hm_wI τ 41 b v) := by
        intro v hv
        have h2 := hτ.setF hC v
        rw [aB_sB] at h2
        have h3 := set_mid A Z (bOf x, bAt x, bCh x, bFl x, pIsG α x) (bOf x, bAt x, bCh x, v, pIsG α x)
        rw [htl] at h3
        rw [ht, List.map_append, hA, hZ, List.append_assoc]
        have h4 : ([x].map (pSent α)) ++ Z = (bOf x, bAt x, bCh x, v, pIsG α x) :: Z := by rw [hv]; rfl
        rw [h4, ← h3]
        exact h2
      refine hm_iload_n dX5_send_84 rfl ?_
      refine hm_aload_n dX5_send_85 rfl ?_
      refine hm_getI lf_RX5_109 rfl rfl (by first | exact Nat.lt_of_lt_of_le (by decide) hN | assumption | (simp only [hm_n_wI, hm_n_wL, hm_n_wR, hm_n_g] at *; omega)) dX5_send_86 ?_
      rw [hb1]
      refine hm_icmp_ge 125 dX5_send_89 (by decide) (fun h89 => absurd h89 (nI_ge (by omega) (by omega))) (fun _ => ?_)
      refine hm_aload_n dX5_send_92 rfl ?_
      refine hm_getR lf_RX5_51 rfl rfl (by first | exact Nat.lt_of_lt_of_le (by decide) hN | assumption | (simp only [hm_n_wI, hm_n_wL, hm_n_wR, hm_n_g] at *; omega)) (hM 16) dX5_send_93 ?_
      refine hm_iload_n dX5_send_96 rfl ?_
      refine hm_aload_n dX5_send_97 rfl ?_
      refine hm_getR lf_RX5_54 rfl rfl (by first | exact Nat.lt_of_lt_of_le (by decide) hN | assumption | (simp only [hm_n_wI, hm_n_wL, hm_n_wR, hm_n_g] at *; omega)) (hM 17) dX5_send_98 ?_
      refine hm_iload_n dX5_send_101 rfl ?_
      refine hm_zald _ rfl (by first | exact Nat.lt_of_lt_of_le (by decide) hN | assumption | (simp only [hm_n_wI, hm_n_wL, hm_n_wR, hm_n_g] at *; omega)) rfl (by omega) (by decide) dX5_send_102 ?_
      rw [e5]
      refine hm_if_eq 110 dX5_send_103 (by decide) (fun h103 => ?_) (fun h103 => ?_)
      · skip
        rw [bI_0] at h103
        refine hm_aload_n dX5_send_110 rfl ?_
        refine hm_getR lf_RX5_51 rfl rfl (by first | exact Nat.lt_of_lt_of_le (by decide) hN | assumption | (simp only [hm_n_wI, hm_n_wL, hm_n_wR, hm_n_g] at *; omega)) (hM 16) dX5_send_111 ?_
        refine hm_iload_n dX5_send_114 rfl ?_
        refine hm_iald _ rfl (by first | exact Nat.lt_of_lt_of_le (by decide) hN | assumption | (simp only [hm_n_wI, hm_n_wL, hm_n_wR, hm_n_g] at *; omega)) rfl (by omega) (by decide) dX5_send_115 ?_
        rw [e4]
        refine hm_iconst dX5_send_116 (v := 1) (by decide) ?_
        refine hm_iadd dX5_send_117 ?_
        refine hm_iast _ rfl (by first | exact Nat.lt_of_lt_of_le (by decide) hN | assumption | (simp only [hm_n_wI, hm_n_wL, hm_n_wR, hm_n_g] at *; omega)) rfl (by omega) (by decide) dX5_send_118 ?_
        refine hm_iinc dX5_send_119 rfl _ rfl (by decide) rfl ?_
        refine hm_goto 84 dX5_send_122 (by decide) ?_
        exact ih (b + 1) _ _ (by omega) (hset _ (by simp [h103])) (hf.wI 41 b _ (by decide)) (hm_inc b)
      · skip
        rw [bI_0] at h103
        refine hm_iconst dX5_send_106 (v := 0) (by decide) ?_
        refine hm_goto 118 dX5_send_107 (by decide) ?_
        refine hm_iast _ rfl (by first | exact Nat.lt_of_lt_of_le (by decide) hN | assumption | (simp only [hm_n_wI, hm_n_wL, hm_n_wR, hm_n_g] at *; omega)) rfl (by omega) (by decide) dX5_send_118 ?_
        refine hm_iinc dX5_send_119 rfl _ rfl (by decide) rfl ?_
        refine hm_goto 84 dX5_send_122 (by decide) ?_
        exact ih (b + 1) _ _ (by omega) (hset _ (by simp [h103])) (hf.wI 41 b _ (by decide)) (hm_inc b)
  have hl1 : ∀ (k b : Nat) (τ : hm_M) (u : Int32), b + k = (aB α).length → rM (sB α (((aB α).take b).map (fun x => (bOf x, bAt x, bCh x, bFl x, pIsG α x)) ++ (aB α).drop b)) τ → md_fr σ τ → u = nI b → hm_V l RX5 cX5_send 2 none false (hm_rm 3 0 0) 0 0 Q 0 0 2 [.ref 27, .int u] [] τ := by
    intro k
    induction k with
    | zero =>
      intro b τ u hk hτ hf hu
      subst hu
      have hb : b = (aB α).length := by omega
      subst hb
      rw [List.take_length, List.drop_length, List.append_nil] at hτ
      obtain ⟨hN, hM⟩ := hτ.m
      have hb1 : hm_I τ 27 12 = nI (aB α).length := by rw [hτ.b.1, aB_sB, List.length_map]
      refine hm_iload_n dX5_send_2 rfl ?_
      refine hm_aload_n dX5_send_3 rfl ?_
      refine hm_getI lf_RX5_109 rfl rfl (by first | exact Nat.lt_of_lt_of_le (by decide) hN | assumption | (simp only [hm_n_wI, hm_n_wL, hm_n_wR, hm_n_g] at *; omega)) dX5_send_4 ?_
      rw [hb1]
      refine hm_icmp_ge 82 dX5_send_7 (by decide) (fun _ => ?_) (fun h7 => absurd (nI_le (Nat.le_refl _) (by omega)) h7)
      refine hm_iconst dX5_send_82 (v := 0) (by decide) ?_
      refine hm_istore_n dX5_send_83 (by decide) rfl ?_
      exact hl2 _ 0 _ _ (Nat.zero_add _) hτ hf rfl
    | succ k ih =>
      intro b τ u hk hτ hf hu
      subst hu
      obtain ⟨hN, hM⟩ := hτ.m
      obtain ⟨x, hx⟩ : ∃ x, (aB α)[b]? = some x := ⟨_, List.getElem?_eq_getElem (by omega)⟩
      obtain ⟨x1, x2, x3⟩ := w.xb hx
      have hd : (aB α).drop b = x :: (aB α).drop (b + 1) := by rw [← List.getElem_cons_drop (show b < (aB α).length by omega)]; congr 1; exact Option.some.inj ((List.getElem?_eq_getElem _).symm.trans hx)
      have ht : (aB α).take (b + 1) = (aB α).take b ++ [x] := by rw [List.take_succ, hx]; rfl
      have htl : (((aB α).take b).map (fun x => ((bOf x, bAt x, bCh x, bFl x, pIsG α x) : sBr))).length = b := by rw [List.length_map, List.length_take]; omega
      have hky : (((aB α).take b).map (fun x => ((bOf x, bAt x, bCh x, bFl x, pIsG α x) : sBr)) ++ (aB α).drop b).map bK = (aB α).map bK := by
        rw [List.map_append, List.map_map]
        have : (bK ∘ fun x => ((bOf x, bAt x, bCh x, bFl x, pIsG α x) : sBr)) = bK := rfl
        rw [this, ← List.map_append, List.take_append_drop]
      have wτ := w.key hky
      have q1 := ky_hat hky
      have q2 := ky_hby hky
      rw [hd] at hτ wτ q1 q2
      have hb1 : hm_I τ 27 12 = nI (aB α).length := by
        rw [hτ.b.1, aB_sB, List.length_append, htl, List.length_cons, List.length_drop]
        congr 1
        omega
      generalize hA : ((aB α).take b).map (fun x => ((bOf x, bAt x, bCh x, bFl x, pIsG α x) : sBr)) = A at hτ htl wτ q1 q2
      generalize hZ : (aB α).drop (b + 1) = Z at hτ wτ q1 q2
      have hC : (aB (sB α (A ++ x :: Z)))[b]? = some x := by
        rw [aB_sB, List.getElem?_append_right (by omega), htl, Nat.sub_self]; rfl
      obtain ⟨e1, e2, e3, e4, e5⟩ := hτ.b.2 b _ hC
      have e6 : hm_I τ 29 (bOf x) = nI (aN α 3 (bOf x)) := hτ.n 3 _ x1
      have hset : ∀ v, v = bI (pIsG α x) → rM (sB α (((aB α).take (b + 1)).map (fun x => ((bOf x, bAt x, bCh x, bFl x, pIsG α x) : sBr)) ++ (aB α).drop (b + 1))) (hm_wI τ 42 b v) := by
        intro v hv
        subst hv
        have h2 := hτ.setG hC (pIsG α x)
        rw [aB_sB] at h2
        have h3 := set_mid A Z x (bOf x, bAt x, bCh x, bFl x, pIsG α x)
        rw [htl] at h3
        rw [ht, List.map_append, hA, hZ, List.append_assoc]
        have h4 : ([x].map (fun x => ((bOf x, bAt x, bCh x, bFl x, pIsG α x) : sBr))) ++ Z = (bOf x, bAt x, bCh x, bFl x, pIsG α x) :: Z := rfl
        rw [h4, ← h3]
        exact h2
      refine hm_iload_n dX5_send_2 rfl ?_
      refine hm_aload_n dX5_send_3 rfl ?_
      refine hm_getI lf_RX5_109 rfl rfl (by first | exact Nat.lt_of_lt_of_le (by decide) hN | assumption | (simp only [hm_n_wI, hm_n_wL, hm_n_wR, hm_n_g] at *; omega)) dX5_send_4 ?_
      rw [hb1]
      refine hm_icmp_ge 82 dX5_send_7 (by decide) (fun h7 => absurd h7 (nI_ge (by omega) (by omega))) (fun _ => ?_)
      refine hm_aload_n dX5_send_10 rfl ?_
      refine hm_getR lf_RX5_54 rfl rfl (by first | exact Nat.lt_of_lt_of_le (by decide) hN | assumption | (simp only [hm_n_wI, hm_n_wL, hm_n_wR, hm_n_g] at *; omega)) (hM 17) dX5_send_11 ?_
      refine hm_iload_n dX5_send_14 rfl ?_
      refine hm_aload_n dX5_send_15 rfl ?_
      refine hm_aload_n dX5_send_16 rfl ?_
      refine hm_getR lf_RX5_13 rfl rfl (by first | exact Nat.lt_of_lt_of_le (by decide) hN | assumption | (simp only [hm_n_wI, hm_n_wL, hm_n_wR, hm_n_g] at *; omega)) (hM 3) dX5_send_17 ?_
      refine hm_aload_n dX5_send_20 rfl ?_
      refine hm_getR lf_RX5_42 rfl rfl (by first | exact Nat.lt_of_lt_of_le (by decide) hN | assumption | (simp only [hm_n_wI, hm_n_wL, hm_n_wR, hm_n_g] at *; omega)) (hM 13) dX5_send_21 ?_
      refine hm_iload_n dX5_send_24 rfl ?_
      refine hm_iald _ rfl (by first | exact Nat.lt_of_lt_of_le (by decide) hN | assumption | (simp only [hm_n_wI, hm_n_wL, hm_n_wR, hm_n_g] at *; omega)) rfl (by omega) (by decide) dX5_send_25 ?_
      rw [e1]
      refine hm_iald _ rfl (by first | exact Nat.lt_of_lt_of_le (by decide) hN | assumption | (simp only [hm_n_wI, hm_n_wL, hm_n_wR, hm_n_g] at *; omega)) rfl (by omega) (by decide) dX5_send_26 ?_
      rw [e6]
      refine hm_aload_n dX5_send_27 rfl ?_
      refine hm_getR lf_RX5_45 rfl rfl (by first | exact Nat.lt_of_lt_of_le (by decide) hN | assumption | (simp only [hm_n_wI, hm_n_wL, hm_n_wR, hm_n_g] at *; omega)) (hM 14) dX5_send_28 ?_
      refine hm_iload_n dX5_send_31 rfl ?_
      refine hm_iald _ rfl (by first | exact Nat.lt_of_lt_of_le (by decide) hN | assumption | (simp only [hm_n_wI, hm_n_wL, hm_n_wR, hm_n_g] at *; omega)) rfl (by omega) (by decide) dX5_send_32 ?_
      rw [e2]
      refine hm_aload_n dX5_send_33 rfl ?_
      refine hm_getR lf_RX5_48 rfl rfl (by first | exact Nat.lt_of_lt_of_le (by decide) hN | assumption | (simp only [hm_n_wI, hm_n_wL, hm_n_wR, hm_n_g] at *; omega)) (hM 15) dX5_send_34 ?_
      refine hm_iload_n dX5_send_37 rfl ?_
      refine hm_iald _ rfl (by first | exact Nat.lt_of_lt_of_le (by decide) hN | assumption | (simp only [hm_n_wI, hm_n_wL, hm_n_wR, hm_n_g] at *; omega)) rfl (by omega) (by decide) dX5_send_38 ?_
      rw [e3]
      refine hm_callV lm_RX5_148 (r5_isHeardAt l hτ wτ (w.pl _) x2 x3) rfl rfl rfl rfl (by first | exact Nat.lt_of_lt_of_le (by decide) hN | assumption | (simp only [hm_n_wI, hm_n_wL, hm_n_wR, hm_n_g] at *; omega)) (by decide) (by decide) (Nat.le_of_ble_eq_true rfl) dX5_send_39 ?_
      rintro _ _ ⟨rfl, rfl⟩
      rw [q1]
      refine hm_if_eq 74 dX5_send_42 (by decide) (fun h42 => ?_) (fun h42 => ?_)
      · skip
        rw [bI_0] at h42
        refine hm_iconst dX5_send_74 (v := 0) (by decide) ?_
        refine hm_zast _ (by first | exact Or.inl rfl | exact Or.inr rfl | assumption) rfl (by first | exact Nat.lt_of_lt_of_le (by decide) hN | assumption | (simp only [hm_n_wI, hm_n_wL, hm_n_wR, hm_n_g] at *; omega)) rfl (by omega) (by decide) dX5_send_75 ?_
        refine hm_iinc dX5_send_76 rfl _ rfl (by decide) rfl ?_
        refine hm_goto 2 dX5_send_79 (by decide) ?_
        exact ih (b + 1) _ _ (by omega) (hset _ (by unfold pIsG; simp_all [bI])) (hf.wI 42 b _ (by decide)) (hm_inc b)
      · skip
        rw [bI_0] at h42
        refine hm_aload_n dX5_send_45 rfl ?_
        refine hm_aload_n dX5_send_46 rfl ?_
        refine hm_getR lf_RX5_45 rfl rfl (by first | exact Nat.lt_of_lt_of_le (by decide) hN | assumption | (simp only [hm_n_wI, hm_n_wL, hm_n_wR, hm_n_g] at *; omega)) (hM 14) dX5_send_47 ?_
        refine hm_iload_n dX5_send_50 rfl ?_
        refine hm_iald _ rfl (by first | exact Nat.lt_of_lt_of_le (by decide) hN | assumption | (simp only [hm_n_wI, hm_n_wL, hm_n_wR, hm_n_g] at *; omega)) rfl (by omega) (by decide) dX5_send_51 ?_
        rw [e2]
        refine hm_aload_n dX5_send_52 rfl ?_
        refine hm_getR lf_RX5_42 rfl rfl (by first | exact Nat.lt_of_lt_of_le (by decide) hN | assumption | (simp only [hm_n_wI, hm_n_wL, hm_n_wR, hm_n_g] at *; omega)) (hM 13) dX5_send_53 ?_
        refine hm_iload_n dX5_send_56 rfl ?_
        refine hm_iald _ rfl (by first | exact Nat.lt_of_lt_of_le (by decide) hN | assumption | (simp only [hm_n_wI, hm_n_wL, hm_n_wR, hm_n_g] at *; omega)) rfl (by omega) (by decide) dX5_send_57 ?_
        rw [e1]
        refine hm_aload_n dX5_send_58 rfl ?_
        refine hm_getR lf_RX5_48 rfl rfl (by first | exact Nat.lt_of_lt_of_le (by decide) hN | assumption | (simp only [hm_n_wI, hm_n_wL, hm_n_wR, hm_n_g] at *; omega)) (hM 15) dX5_send_59 ?_
        refine hm_iload_n dX5_send_62 rfl ?_
        refine hm_iald _ rfl (by first | exact Nat.lt_of_lt_of_le (by decide) hN | assumption | (simp only [hm_n_wI, hm_n_wL, hm_n_wR, hm_n_g] at *; omega)) rfl (by omega) (by decide) dX5_send_63 ?_
        rw [e3]
        refine hm_callV lm_RX5_166 (r5_isHeardBy l hτ wτ x2 x1 x3) rfl rfl rfl rfl (by first | exact Nat.lt_of_lt_of_le (by decide) hN | assumption | (simp only [hm_n_wI, hm_n_wL, hm_n_wR, hm_n_g] at *; omega)) (by decide) (by decide) (Nat.le_of_ble_eq_true rfl) dX5_send_64 ?_
        rintro _ _ ⟨rfl, rfl⟩
        rw [q2]
        refine hm_if_eq 74 dX5_send_67 (by decide) (fun h67 => ?_) (fun h67 => ?_)
        · skip
          rw [bI_0] at h67
          refine hm_iconst dX5_send_74 (v := 0) (by decide) ?_
          refine hm_zast _ (by first | exact Or.inl rfl | exact Or.inr rfl | assumption) rfl (by first | exact Nat.lt_of_lt_of_le (by decide) hN | assumption | (simp only [hm_n_wI, hm_n_wL, hm_n_wR, hm_n_g] at *; omega)) rfl (by omega) (by decide) dX5_send_75 ?_
          refine hm_iinc dX5_send_76 rfl _ rfl (by decide) rfl ?_
          refine hm_goto 2 dX5_send_79 (by decide) ?_
          exact ih (b + 1) _ _ (by omega) (hset _ (by unfold pIsG; simp_all [bI])) (hf.wI 42 b _ (by decide)) (hm_inc b)
        · skip
          rw [bI_0] at h67
          refine hm_iconst dX5_send_70 (v := 1) (by decide) ?_
          refine hm_goto 75 dX5_send_71 (by decide) ?_
          refine hm_zast _ (by first | exact Or.inl rfl | exact Or.inr rfl | assumption) rfl (by first | exact Nat.lt_of_lt_of_le (by decide) hN | assumption | (simp only [hm_n_wI, hm_n_wL, hm_n_wR, hm_n_g] at *; omega)) rfl (by omega) (by decide) dX5_send_75 ?_
          refine hm_iinc dX5_send_76 rfl _ rfl (by decide) rfl ?_
          refine hm_goto 2 dX5_send_79 (by decide) ?_
          exact ih (b + 1) _ _ (by omega) (hset _ (by unfold pIsG; simp_all [bI])) (hf.wI 42 b _ (by decide)) (hm_inc b)
  refine hm_iconst dX5_send_0 (v := 0) (by decide) ?_
  refine hm_istore_n dX5_send_1 (by decide) rfl ?_
  exact hl1 _ 0 _ _ (Nat.zero_add _) (h.mid _ rfl) (md_fr.rf σ) rfl
end M8
end
section
/-! the reference: setting up -/
theorem b_nf {b : Bool} (h : ¬ b = false) : b = true := by cases b <;> simp_all
theorem oI_eq {o : Option Nat} {c : Nat} (ho : ∀ i, o = some i → i < 2 ^ 31) (hc : c < 2 ^ 31) : nI c = oI o (-1) ↔ o = some c := by
  cases o with
  | none =>
    constructor
    · intro h
      have h2 : nI c = -1 := h
      exact absurd (by rw [h2]; decide) (nI_pos hc)
    · intro h; cases h
  | some i =>
    have hi := ho i rfl
    show nI c = nI i ↔ _
    rw [nI_eq hc hi]
    constructor
    · intro h; rw [h]
    · intro h; cases h; rfl
theorem pOwn_lt {α : sA} (w : sW α) {p i : Nat} (h : pOwn α p = some i) : i < 4 := by
  unfold pOwn at h
  split at h
  · cases hf : pFst α p with
    | none => rw [hf] at h; cases h
    | some x =>
      rw [hf] at h
      cases h
      have := (w.x (pFst_mem hf).1).2.1
      have := w.c4
      omega
  · cases h
/-- a bearer more, in the reference's cells -/
theorem rM.add {α : sA} {σ : hm_M} (h : rM α σ) (hl : (aB α).length < 16) (p c ch : Nat) : rM (pAdd α p c ch) (hm_wI (hm_wI (hm_wI (hm_wI (hm_wI (hm_wI (hm_wI σ 38 (aB α).length (nI p)) 39 (aB α).length (nI c)) 40 (aB α).length (nI ch)) 41 (aB α).length 0) 42 (aB α).length 0) 27 12 (nI (aB α).length + 1)) 27 27 (aI α 4 0 + 1)) := by
  obtain ⟨hb1, hb2⟩ := h.b
  suffices hB : rM (sB α (aB α ++ [(p, c, ch, 0, false)])) (hm_wI (hm_wI (hm_wI (hm_wI (hm_wI (hm_wI σ 38 (aB α).length (nI p)) 39 (aB α).length (nI c)) 40 (aB α).length (nI ch)) 41 (aB α).length 0) 42 (aB α).length 0) 27 12 (nI (aB α).length + 1)) from hB.upI 4 0 (aI α 4 0 + 1) (by decide)
  refine h.newB (fun a k h1 h2 => ?_) rfl rfl rfl ⟨?_, fun j y hj => ?_⟩
  · rw [hm_I_wI, if_neg h2, hm_I_wI, if_neg (by omega), hm_I_wI, if_neg (by omega), hm_I_wI, if_neg (by omega), hm_I_wI, if_neg (by omega), hm_I_wI, if_neg (by omega)]
  · rw [hm_I_wI, if_pos ⟨rfl, rfl⟩, List.length_append]; exact nI_1 _
  · by_cases e : j < (aB α).length
    · rw [List.getElem?_append_left e] at hj
      obtain ⟨e1, e2, e3, e4, e5⟩ := hb2 j y hj
      have e' : ¬ j = (aB α).length := by omega
      refine ⟨?_, ?_, ?_, ?_, ?_⟩ <;> simp [hm_I_wI, e', e1, e2, e3, e4, e5]
    · rw [List.getElem?_append_right (by omega)] at hj
      have hz : j - (aB α).length < 1 := (List.getElem?_eq_some_iff.mp hj).1
      have e' : j = (aB α).length := by omega
      subst e'
      rw [Nat.sub_self] at hj
      cases hj
      refine ⟨?_, ?_, ?_, ?_, ?_⟩ <;> simp [hm_I_wI, bI]
theorem pChan_2 (α : sA) (p c k : Nat) : (pChan α p c k).2 ≤ 4 := (pChan_ok α p c k).1
section M9
variable (l : Launch) {α : sA} {σ : hm_M}
set_option maxRecDepth 100000 in
set_option maxHeartbeats 4000000 in
theorem r5_setUp (h : rM α σ) (w : sW α) {p : Nat} (hp : p < nPort α) : hm_Ct l yX5_setUp cX5_setUp 10 none 3 0 0 [.ref 27, .int (nI p)] σ (fun r τ => r = none ∧ rM (pSetUp α p) τ ∧ md_fr σ τ) := by
  obtain ⟨hN, hM⟩ := h.m
  obtain ⟨hb1, hb2⟩ := h.b
  have h8 := w.p8
  have h4 := w.c4
  have hp8 : p < 8 := by omega
  have hlen := w.len
  have hnb := w.nb p
  have hpl := w.pl p
  have e1 : hm_I σ 33 p = aI α 1 p := h.i 1 p hp8
  have e2 : hm_I σ 27 26 = nI (aN α 6 0) := h.n 6 0 (by decide)
  have e3 : hm_I σ 27 0 = nI (nCell α) := h.n 0 0 (by decide)
  have e4 : hm_I σ 29 p = nI (aN α 3 p) := h.n 3 p hp8
  have e5 : ∀ c, c < 4 → hm_I σ 28 c = nI (aN α 2 c) := fun c hc => h.n 2 c hc
  have e6 : hm_I σ 27 27 = aI α 4 0 := h.i 4 0 (by decide)
  have q0 : nI (pNb α p) = 0 ↔ pNb α p = 0 := nI_0' (by omega)
  refine hm_startQ (ini := false) [.ref 27, .int (nI p), hm_u, hm_u, hm_u, hm_u, hm_u, hm_u, hm_u, hm_u] (by decide) (by decide) rfl (Nat.le_of_ble_eq_true rfl) (fun Q hQ => ?_)
  -- the channel
  have j194 : pWants α p = true → pDue α p = true → ∀ c, pBest α p = some c → ∀ (k ch : Nat) (v6 v7 v8 y2 y3 y4 : Int32) (y9 : Value), ch + k = 120 → v6 = oI (pChan α p c ch).1 (-1) → v7 = nI (pChan α p c ch).2 → v8 = nI ch → hm_V l RX5 cX5_setUp 10 none false (hm_rm 3 0 0) 0 0 Q 0 0 194 [.ref 27, .int (nI p), .int y2, .int y3, .int y4, .int (nI c), .int v6, .int v7, .int v8, y9] [] σ := by
    intro hw hdue c hc k
    have hc4 : c < 4 := by have := pBest_lt w hc; omega
    induction k with
    | zero =>
      intro ch v6 v7 v8 y2 y3 y4 y9 hk hv6 hv7 hv8
      have h120 : ch = 120 := by omega
      subst hv6
      subst hv7
      subst hv8
      have hok := (pChan_ok α p c ch).2
      have hpc : pCh α p c = (pChan α p c ch).1 := by rw [h120]; rfl
      cases hch : (pChan α p c ch).1 with
      | none =>
        refine hm_iload dX5_setUp_194 rfl ?_
        refine hm_bipush dX5_setUp_196 (v := 120) (by decide) ?_
        refine hm_icmp_ge 269 dX5_setUp_198 (by decide) (fun _ => ?_) (fun h198 => absurd (nI_le (a := 120) (by omega) (by omega)) h198)
        refine hm_iload dX5_setUp_269 rfl ?_
        refine hm_if_lt 346 dX5_setUp_271 (by decide) (fun _ => ?_) (fun h271 => absurd (by show (-1 : Int32) < 0; decide) h271)
        refine hm_vret dX5_setUp_346 rfl (by decide) (by decide) ?_
        exact hQ _ _ ⟨rfl, by unfold pSetUp; rw [hw, hdue, hc]; simp only [Bool.and_self, if_true, hpc, hch]; exact h, md_fr.rf σ⟩
      | some c9 =>
        have hch2 := (hok c9 hch).1
        have hadd : pSetUp α p = pAdd α p c c9 := by unfold pSetUp; rw [hw, hdue, hc]; simp only [Bool.and_self, if_true, hpc, hch]
        have hl16 : (aB α).length < 16 := by
          have := (w.setUp hp).len
          rw [hadd] at this
          have e : (aB (pAdd α p c c9)).length = (aB α).length + 1 := by show (aB α ++ [_]).length = _; rw [List.length_append]; rfl
          omega
        refine hm_iload dX5_setUp_194 rfl ?_
        refine hm_bipush dX5_setUp_196 (v := 120) (by decide) ?_
        refine hm_icmp_ge 269 dX5_setUp_198 (by decide) (fun _ => ?_) (fun h198 => absurd (nI_le (a := 120) (by omega) (by omega)) h198)
        refine hm_iload dX5_setUp_269 rfl ?_
        refine hm_if_lt 346 dX5_setUp_271 (by decide) (fun h271 => absurd h271 (nI_pos (n := c9) (by omega))) (fun _ => ?_)
        refine hm_aload_n dX5_setUp_274 rfl ?_
        refine hm_getR lf_RX5_42 rfl rfl (by first | exact Nat.lt_of_lt_of_le (by decide) hN | assumption | (simp only [hm_n_wI, hm_n_wL, hm_n_wR, hm_n_g] at *; omega)) (hM 13) dX5_setUp_275 ?_
        refine hm_aload_n dX5_setUp_278 rfl ?_
        refine hm_getI lf_RX5_109 rfl rfl (by first | exact Nat.lt_of_lt_of_le (by decide) hN | assumption | (simp only [hm_n_wI, hm_n_wL, hm_n_wR, hm_n_g] at *; omega)) dX5_setUp_279 ?_
        simp only [hm_I_wI, hb1, Nat.reduceEqDiff, false_and, reduceIte]
        refine hm_iload_n dX5_setUp_282 rfl ?_
        refine hm_iast _ rfl (by first | exact Nat.lt_of_lt_of_le (by decide) hN | assumption | (simp only [hm_n_wI, hm_n_wL, hm_n_wR, hm_n_g] at *; omega)) rfl (by omega) (by decide) dX5_setUp_283 ?_
        refine hm_aload_n dX5_setUp_284 rfl ?_
        refine hm_getR lf_RX5_45 rfl rfl (by first | exact Nat.lt_of_lt_of_le (by decide) hN | assumption | (simp only [hm_n_wI, hm_n_wL, hm_n_wR, hm_n_g] at *; omega)) (hM 14) dX5_setUp_285 ?_
        refine hm_aload_n dX5_setUp_288 rfl ?_
        refine hm_getI lf_RX5_109 rfl rfl (by first | exact Nat.lt_of_lt_of_le (by decide) hN | assumption | (simp only [hm_n_wI, hm_n_wL, hm_n_wR, hm_n_g] at *; omega)) dX5_setUp_289 ?_
        simp only [hm_I_wI, hb1, Nat.reduceEqDiff, false_and, reduceIte]
        refine hm_iload dX5_setUp_292 rfl ?_
        refine hm_iast _ rfl (by first | exact Nat.lt_of_lt_of_le (by decide) hN | assumption | (simp only [hm_n_wI, hm_n_wL, hm_n_wR, hm_n_g] at *; omega)) rfl (by omega) (by decide) dX5_setUp_294 ?_
        refine hm_aload_n dX5_setUp_295 rfl ?_
        refine hm_getR lf_RX5_48 rfl rfl (by first | exact Nat.lt_of_lt_of_le (by decide) hN | assumption | (simp only [hm_n_wI, hm_n_wL, hm_n_wR, hm_n_g] at *; omega)) (hM 15) dX5_setUp_296 ?_
        refine hm_aload_n dX5_setUp_299 rfl ?_
        refine hm_getI lf_RX5_109 rfl rfl (by first | exact Nat.lt_of_lt_of_le (by decide) hN | assumption | (simp only [hm_n_wI, hm_n_wL, hm_n_wR, hm_n_g] at *; omega)) dX5_setUp_300 ?_
        simp only [hm_I_wI, hb1, Nat.reduceEqDiff, false_and, reduceIte]
        refine hm_iload dX5_setUp_303 rfl ?_
        refine hm_iast _ rfl (by first | exact Nat.lt_of_lt_of_le (by decide) hN | assumption | (simp only [hm_n_wI, hm_n_wL, hm_n_wR, hm_n_g] at *; omega)) rfl (by omega) (by decide) dX5_setUp_305 ?_
        refine hm_aload_n dX5_setUp_306 rfl ?_
        refine hm_getR lf_RX5_51 rfl rfl (by first | exact Nat.lt_of_lt_of_le (by decide) hN | assumption | (simp only [hm_n_wI, hm_n_wL, hm_n_wR, hm_n_g] at *; omega)) (hM 16) dX5_setUp_307 ?_
        refine hm_aload_n dX5_setUp_310 rfl ?_
        refine hm_getI lf_RX5_109 rfl rfl (by first | exact Nat.lt_of_lt_of_le (by decide) hN | assumption | (simp only [hm_n_wI, hm_n_wL, hm_n_wR, hm_n_g] at *; omega)) dX5_setUp_311 ?_
        simp only [hm_I_wI, hb1, Nat.reduceEqDiff, false_and, reduceIte]
        refine hm_iconst dX5_setUp_314 (v := 0) (by decide) ?_
        refine hm_iast _ rfl (by first | exact Nat.lt_of_lt_of_le (by decide) hN | assumption | (simp only [hm_n_wI, hm_n_wL, hm_n_wR, hm_n_g] at *; omega)) rfl (by omega) (by decide) dX5_setUp_315 ?_
        refine hm_aload_n dX5_setUp_316 rfl ?_
        refine hm_getR lf_RX5_54 rfl rfl (by first | exact Nat.lt_of_lt_of_le (by decide) hN | assumption | (simp only [hm_n_wI, hm_n_wL, hm_n_wR, hm_n_g] at *; omega)) (hM 17) dX5_setUp_317 ?_
        refine hm_aload_n dX5_setUp_320 rfl ?_
        refine hm_getI lf_RX5_109 rfl rfl (by first | exact Nat.lt_of_lt_of_le (by decide) hN | assumption | (simp only [hm_n_wI, hm_n_wL, hm_n_wR, hm_n_g] at *; omega)) dX5_setUp_321 ?_
        simp only [hm_I_wI, hb1, Nat.reduceEqDiff, false_and, reduceIte]
        refine hm_iconst dX5_setUp_324 (v := 0) (by decide) ?_
        refine hm_zast _ (by first | exact Or.inl rfl | exact Or.inr rfl | assumption) rfl (by first | exact Nat.lt_of_lt_of_le (by decide) hN | assumption | (simp only [hm_n_wI, hm_n_wL, hm_n_wR, hm_n_g] at *; omega)) rfl (by omega) (by decide) dX5_setUp_325 ?_
        refine hm_aload_n dX5_setUp_326 rfl ?_
        refine hm_dup dX5_setUp_327 rfl ?_
        refine hm_getI lf_RX5_109 rfl rfl (by first | exact Nat.lt_of_lt_of_le (by decide) hN | assumption | (simp only [hm_n_wI, hm_n_wL, hm_n_wR, hm_n_g] at *; omega)) dX5_setUp_328 ?_
        simp only [hm_I_wI, hb1, Nat.reduceEqDiff, false_and, reduceIte]
        refine hm_iconst dX5_setUp_331 (v := 1) (by decide) ?_
        refine hm_iadd dX5_setUp_332 ?_
        refine hm_putI lf_RX5_109 rfl rfl rfl (by first | exact Nat.lt_of_lt_of_le (by decide) hN | assumption | (simp only [hm_n_wI, hm_n_wL, hm_n_wR, hm_n_g] at *; omega)) dX5_setUp_333 ?_
        refine hm_aload_n dX5_setUp_336 rfl ?_
        refine hm_dup dX5_setUp_337 rfl ?_
        refine hm_getI lf_RX5_163 rfl rfl (by first | exact Nat.lt_of_lt_of_le (by decide) hN | assumption | (simp only [hm_n_wI, hm_n_wL, hm_n_wR, hm_n_g] at *; omega)) dX5_setUp_338 ?_
        simp only [hm_I_wI, e6, Nat.reduceEqDiff, false_and, and_false, reduceIte]
        refine hm_iconst dX5_setUp_341 (v := 1) (by decide) ?_
        refine hm_iadd dX5_setUp_342 ?_
        refine hm_putI lf_RX5_163 rfl rfl rfl (by first | exact Nat.lt_of_lt_of_le (by decide) hN | assumption | (simp only [hm_n_wI, hm_n_wL, hm_n_wR, hm_n_g] at *; omega)) dX5_setUp_343 ?_
        refine hm_vret dX5_setUp_346 rfl (by decide) (by decide) ?_
        exact hQ _ _ ⟨rfl, by rw [hadd]; exact h.add hl16 p c c9, (((((((md_fr.rf σ).wI 38 _ _ (by decide)).wI 39 _ _ (by decide)).wI 40 _ _ (by decide)).wI 41 _ _ (by decide)).wI 42 _ _ (by decide)).wI 27 _ _ (by decide)).wI 27 _ _ (by decide)⟩
    | succ k ih =>
      intro ch v6 v7 v8 y2 y3 y4 y9 hk hv6 hv7 hv8
      subst hv8
      have hm4 := pChan_2 α p c ch
      have hstep : ∀ (lv : Int32) , lv = nI (pLv α p c ch) → hm_V l RX5 cX5_setUp 10 none false (hm_rm 3 0 0) 0 0 Q 0 0 229 [.ref 27, .int (nI p), .int y2, .int y3, .int y4, .int (nI c), .int v6, .int v7, .int (nI ch), y9] [.int lv] σ := by
        intro lv hlv
        have hlb : pLv α p c ch ≤ 20 := by
          unfold pLv
          split
          · omega
          · have := pOSend_le w c (aN α 3 p) ch
            have := pOTalk_le w p c ch
            unfold pLev
            split <;> split <;> omega
        subst hlv hv6 hv7
        have q1 : nI (pChan α p c ch).2 ≤ nI (pLv α p c ch) ↔ (pChan α p c ch).2 ≤ pLv α p c ch := nI_leI (by omega) (by omega)
        have e120 : pChan α p c (ch + 1) = if pLv α p c ch < (pChan α p c ch).2 then (some ch, pLv α p c ch) else pChan α p c ch := rfl
        by_cases hlt : pLv α p c ch < (pChan α p c ch).2
        · rw [if_pos hlt] at e120
          have hge : ¬ nI (pChan α p c ch).2 ≤ nI (pLv α p c ch) := by rw [q1]; omega
          refine hm_istore dX5_setUp_229 (by decide) rfl ?_
          refine hm_iload dX5_setUp_231 rfl ?_
          refine hm_iload dX5_setUp_233 rfl ?_
          refine hm_icmp_ge 243 dX5_setUp_235 (by decide) (fun h235 => absurd h235 (hge)) (fun _ => ?_)
          refine hm_iload dX5_setUp_238 rfl ?_
          refine hm_goto 245 dX5_setUp_240 (by decide) ?_
          refine hm_istore dX5_setUp_245 (by decide) rfl ?_
          refine hm_iload dX5_setUp_247 rfl ?_
          refine hm_iload dX5_setUp_249 rfl ?_
          refine hm_icmp_ge 259 dX5_setUp_251 (by decide) (fun h251 => absurd h251 (hge)) (fun _ => ?_)
          refine hm_iload dX5_setUp_254 rfl ?_
          refine hm_goto 261 dX5_setUp_256 (by decide) ?_
          refine hm_istore dX5_setUp_261 (by decide) rfl ?_
          refine hm_iinc dX5_setUp_263 rfl _ rfl (by decide) rfl ?_
          refine hm_goto 194 dX5_setUp_266 (by decide) ?_
          exact ih (ch + 1) _ _ _ _ _ _ _ (by omega) (by rw [e120]; rfl) (by rw [e120]) (hm_inc ch)
        · rw [if_neg hlt] at e120
          have hge : nI (pChan α p c ch).2 ≤ nI (pLv α p c ch) := by rw [q1]; omega
          refine hm_istore dX5_setUp_229 (by decide) rfl ?_
          refine hm_iload dX5_setUp_231 rfl ?_
          refine hm_iload dX5_setUp_233 rfl ?_
          refine hm_icmp_ge 243 dX5_setUp_235 (by decide) (fun _ => ?_) (fun h235 => absurd (hge) h235)
          refine hm_iload dX5_setUp_243 rfl ?_
          refine hm_istore dX5_setUp_245 (by decide) rfl ?_
          refine hm_iload dX5_setUp_247 rfl ?_
          refine hm_iload dX5_setUp_249 rfl ?_
          refine hm_icmp_ge 259 dX5_setUp_251 (by decide) (fun _ => ?_) (fun h251 => absurd (hge) h251)
          refine hm_iload dX5_setUp_259 rfl ?_
          refine hm_istore dX5_setUp_261 (by decide) rfl ?_
          refine hm_iinc dX5_setUp_263 rfl _ rfl (by decide) rfl ?_
          refine hm_goto 194 dX5_setUp_266 (by decide) ?_
          exact ih (ch + 1) _ _ _ _ _ _ _ (by omega) (by rw [e120]) (by rw [e120]) (hm_inc ch)
      refine hm_iload dX5_setUp_194 rfl ?_
      refine hm_bipush dX5_setUp_196 (v := 120) (by decide) ?_
      refine hm_icmp_ge 269 dX5_setUp_198 (by decide) (fun h198 => absurd h198 ((nI_ge (b := 120) (by omega) (by decide)))) (fun _ => ?_)
      refine hm_aload_n dX5_setUp_201 rfl ?_
      refine hm_iload_n dX5_setUp_202 rfl ?_
      refine hm_iload dX5_setUp_203 rfl ?_
      refine hm_iload dX5_setUp_205 rfl ?_
      refine hm_bipush dX5_setUp_207 (v := 10) (by decide) ?_
      refine hm_idiv dX5_setUp_209 (by decide) ?_
      rw [div10 (by omega)]
      refine hm_callV lm_RX5_160 (r5_isSlotTaken l h w hp8 hc4 (by omega)) rfl rfl rfl rfl (by first | exact Nat.lt_of_lt_of_le (by decide) hN | assumption | (simp only [hm_n_wI, hm_n_wL, hm_n_wR, hm_n_g] at *; omega)) (by decide) (by decide) (Nat.le_of_ble_eq_true rfl) dX5_setUp_210 ?_
      rintro _ _ ⟨rfl, rfl⟩
      refine hm_if_eq 220 dX5_setUp_213 (by decide) (fun h213 => ?_) (fun h213 => ?_)
      · skip
        rw [bI_0] at h213
        refine hm_aload_n dX5_setUp_220 rfl ?_
        refine hm_iload_n dX5_setUp_221 rfl ?_
        refine hm_iload dX5_setUp_222 rfl ?_
        refine hm_iload dX5_setUp_224 rfl ?_
        refine hm_callV lm_RX5_145 (r5_levelOf l h w hp8 hc4 (by omega)) rfl rfl rfl rfl (by first | exact Nat.lt_of_lt_of_le (by decide) hN | assumption | (simp only [hm_n_wI, hm_n_wL, hm_n_wR, hm_n_g] at *; omega)) (by decide) (by decide) (Nat.le_of_ble_eq_true rfl) dX5_setUp_226 ?_
        rintro _ _ ⟨rfl, rfl⟩
        exact hstep _ (by unfold pLv; simp [h213]; try rfl)
      · skip
        rw [bI_0] at h213
        refine hm_iconst dX5_setUp_216 (v := 4) (by decide) ?_
        refine hm_goto 229 dX5_setUp_217 (by decide) ?_
        exact hstep _ (by unfold pLv; simp [h213]; try rfl)
  have j179 : pWants α p = true → pDue α p = true → ∀ (v5 y2 y3 y4 : Int32) (y6 y7 y8 y9 : Value), v5 = oI (pBest α p) (-1) → y6.category = 1 → y7.category = 1 → hm_V l RX5 cX5_setUp 10 none false (hm_rm 3 0 0) 0 0 Q 0 0 179 [.ref 27, .int (nI p), .int y2, .int y3, .int y4, .int v5, y6, y7, y8, y9] [] σ := by
    intro hw hdue v5 y2 y3 y4 y6 y7 y8 y9 hv5 hy6 hy7
    subst hv5
    have hpv6 : ∀ v : Value, v.category = 1 → (v.category != 2) = true := fun v hv => by rw [hv]; rfl
    cases hc : pBest α p with
    | none =>
      refine hm_iload dX5_setUp_179 rfl ?_
      refine hm_if_ge 185 dX5_setUp_181 (by decide) (fun h181 => absurd h181 (by show ¬ (0 : Int32) ≤ -1; decide)) (fun _ => ?_)
      refine hm_vret dX5_setUp_184 rfl (by decide) (by decide) ?_
      exact hQ _ _ ⟨rfl, by unfold pSetUp; rw [hw, hdue, hc]; exact h, md_fr.rf σ⟩
    | some c =>
      have hc4 : c < 4 := by have := pBest_lt w hc; omega
      refine hm_iload dX5_setUp_179 rfl ?_
      refine hm_if_ge 185 dX5_setUp_181 (by decide) (fun _ => ?_) (fun h181 => absurd (nI_pos' (by omega)) h181)
      refine hm_iconst dX5_setUp_185 (v := -1) (by decide) ?_
      refine hm_istore dX5_setUp_186 (by decide) rfl ?_
      refine hm_iconst dX5_setUp_188 (v := 4) (by decide) ?_
      refine hm_istore dX5_setUp_189 (by decide) rfl ?_
      refine hm_iconst dX5_setUp_191 (v := 0) (by decide) ?_
      refine hm_istore dX5_setUp_192 (by decide) rfl ?_
      exact j194 hw hdue c hc 120 0 _ _ _ _ _ _ _ rfl rfl rfl rfl
  have j86 : pWants α p = true → pDue α p = true → ∀ (k c : Nat) (v5 v6 y2 y3 : Int32), c + k = nCell α → y2 = bI (pHo α p) → v5 = oI (pFind (fun c => decide (pOwn α p ≠ some c) && pHAt α (aN α 3 p) c (aN α 2 c)) c) (-1) → v6 = nI c → hm_V l RX5 cX5_setUp 10 none false (hm_rm 3 0 0) 0 0 Q 0 0 86 [.ref 27, .int (nI p), .int y2, .int y3, .int (oI (pOwn α p) (-1)), .int v5, .int v6, hm_u, hm_u, hm_u] [] σ := by
    intro hw hdue k
    induction k with
    | zero =>
      intro c v5 v6 y2 y3 hk hy2 hv5 hv6
      subst hv6 hv5 hy2
      obtain rfl : c = nCell α := by omega
      have hB : pBest α p = match pFind (fun c => decide (pOwn α p ≠ some c) && pHAt α (aN α 3 p) c (aN α 2 c)) (nCell α) with
          | some c => some c
          | none => match pOwn α p with
            | some c => if pHAt α (aN α 3 p) c (aN α 2 c) then some c else none
            | none => none := rfl
      cases hf : pFind (fun c => decide (pOwn α p ≠ some c) && pHAt α (aN α 3 p) c (aN α 2 c)) (nCell α) with
      | some b =>
        have hb := (pFind_ok _ _ _ hf).1
        rw [hf] at hB
        refine hm_iload dX5_setUp_86 rfl ?_
        refine hm_aload_n dX5_setUp_88 rfl ?_
        refine hm_getI lf_RX5_84 rfl rfl (by first | exact Nat.lt_of_lt_of_le (by decide) hN | assumption | (simp only [hm_n_wI, hm_n_wL, hm_n_wR, hm_n_g] at *; omega)) dX5_setUp_89 ?_
        rw [e3]
        refine hm_icmp_ge 144 dX5_setUp_92 (by decide) (fun _ => ?_) (fun h92 => absurd (nI_le (Nat.le_refl _) (by omega)) h92)
        refine hm_iload dX5_setUp_144 rfl ?_
        refine hm_if_ge 179 dX5_setUp_146 (by decide) (fun _ => ?_) (fun h146 => absurd (nI_pos' (by omega)) h146)
        exact j179 hw hdue _ _ _ _ _ _ _ _ (by rw [hB]) rfl rfl
      | none =>
        rw [hf] at hB
        cases ho : pHo α p with
        | false =>
          have hown : pOwn α p = none := by unfold pOwn; rw [ho]; rfl
          rw [hown] at hB
          refine hm_iload dX5_setUp_86 rfl ?_
          refine hm_aload_n dX5_setUp_88 rfl ?_
          refine hm_getI lf_RX5_84 rfl rfl (by first | exact Nat.lt_of_lt_of_le (by decide) hN | assumption | (simp only [hm_n_wI, hm_n_wL, hm_n_wR, hm_n_g] at *; omega)) dX5_setUp_89 ?_
          rw [e3]
          refine hm_icmp_ge 144 dX5_setUp_92 (by decide) (fun _ => ?_) (fun h92 => absurd (nI_le (Nat.le_refl _) (by omega)) h92)
          refine hm_iload dX5_setUp_144 rfl ?_
          refine hm_if_ge 179 dX5_setUp_146 (by decide) (fun h146 => absurd h146 (by show ¬ (0 : Int32) ≤ -1; decide)) (fun _ => ?_)
          refine hm_iload_n dX5_setUp_149 rfl ?_
          refine hm_if_eq 179 dX5_setUp_150 (by decide) (fun _ => ?_) (fun h150 => absurd (rfl) h150)
          exact j179 hw hdue _ _ _ _ _ _ _ _ (by rw [hB]) rfl rfl
        | true =>
          rcases fi_cases (fun x => decide (bOf x = p)) (aB α) with ⟨-, -, c0⟩ | ⟨i, x, c1, c2, c3, c4, c5, c6, c7⟩
          · exfalso
            have c0' : pNb α p = 0 := c0
            unfold pHo at ho
            rw [c0'] at ho
            simp at ho
          · have hown : pOwn α p = some (bAt x) := by
              have d2 : pFst α p = some x := c4
              unfold pOwn; rw [ho, d2]; rfl
            have hx4 := (w.xb c2).2.1
            rw [hown] at hB ⊢
            refine hm_iload dX5_setUp_86 rfl ?_
            refine hm_aload_n dX5_setUp_88 rfl ?_
            refine hm_getI lf_RX5_84 rfl rfl (by first | exact Nat.lt_of_lt_of_le (by decide) hN | assumption | (simp only [hm_n_wI, hm_n_wL, hm_n_wR, hm_n_g] at *; omega)) dX5_setUp_89 ?_
            rw [e3]
            refine hm_icmp_ge 144 dX5_setUp_92 (by decide) (fun _ => ?_) (fun h92 => absurd (nI_le (Nat.le_refl _) (by omega)) h92)
            refine hm_iload dX5_setUp_144 rfl ?_
            refine hm_if_ge 179 dX5_setUp_146 (by decide) (fun h146 => absurd h146 (by show ¬ (0 : Int32) ≤ -1; decide)) (fun _ => ?_)
            refine hm_iload_n dX5_setUp_149 rfl ?_
            refine hm_if_eq 179 dX5_setUp_150 (by decide) (fun h150 => absurd h150 (by decide)) (fun _ => ?_)
            refine hm_aload_n dX5_setUp_153 rfl ?_
            refine hm_aload_n dX5_setUp_154 rfl ?_
            refine hm_getR lf_RX5_13 rfl rfl (by first | exact Nat.lt_of_lt_of_le (by decide) hN | assumption | (simp only [hm_n_wI, hm_n_wL, hm_n_wR, hm_n_g] at *; omega)) (hM 3) dX5_setUp_155 ?_
            refine hm_iload_n dX5_setUp_158 rfl ?_
            refine hm_iald _ rfl (by first | exact Nat.lt_of_lt_of_le (by decide) hN | assumption | (simp only [hm_n_wI, hm_n_wL, hm_n_wR, hm_n_g] at *; omega)) rfl (by omega) (by decide) dX5_setUp_159 ?_
            rw [e4]
            refine hm_iload dX5_setUp_160 rfl ?_
            refine hm_aload_n dX5_setUp_162 rfl ?_
            refine hm_getR lf_RX5_7 rfl rfl (by first | exact Nat.lt_of_lt_of_le (by decide) hN | assumption | (simp only [hm_n_wI, hm_n_wL, hm_n_wR, hm_n_g] at *; omega)) (hM 1) dX5_setUp_163 ?_
            refine hm_iload dX5_setUp_166 rfl ?_
            refine hm_iald (bAt x) rfl (by first | exact Nat.lt_of_lt_of_le (by decide) hN | assumption | (simp only [hm_n_wI, hm_n_wL, hm_n_wR, hm_n_g] at *; omega)) rfl (by omega) (by decide) dX5_setUp_168 ?_
            rw [e5 _ hx4]
            refine hm_callV lm_RX5_148 (r5_isHeardAt l h w hpl hx4 (w.bc _)) rfl rfl rfl rfl (by first | exact Nat.lt_of_lt_of_le (by decide) hN | assumption | (simp only [hm_n_wI, hm_n_wL, hm_n_wR, hm_n_g] at *; omega)) (by decide) (by decide) (Nat.le_of_ble_eq_true rfl) dX5_setUp_169 ?_
            rintro _ _ ⟨rfl, rfl⟩
            refine hm_if_eq 179 dX5_setUp_172 (by decide) (fun h172 => ?_) (fun h172 => ?_)
            · skip
              rw [bI_0] at h172
              exact j179 hw hdue _ _ _ _ _ _ _ _ (by rw [hB]; simp [h172]; try rfl) rfl rfl
            · skip
              rw [bI_0] at h172
              refine hm_iload dX5_setUp_175 rfl ?_
              refine hm_istore dX5_setUp_177 (by decide) rfl ?_
              exact j179 hw hdue _ _ _ _ _ _ _ _ (by rw [hB]; simp [h172]; try rfl) rfl rfl
    | succ k ih =>
      intro c v5 v6 y2 y3 hk hy2 hv5 hv6
      subst hv6 hv5
      have hc4 : c < 4 := by omega
      have q3 : nI c = oI (pOwn α p) (-1) ↔ pOwn α p = some c := oI_eq (fun i hi => by have := pOwn_lt w hi; omega) (by omega)
      have ih2 := ih (c + 1)
      have hfe : pFind (fun c => decide (pOwn α p ≠ some c) && pHAt α (aN α 3 p) c (aN α 2 c)) (c + 1) = match pFind (fun c => decide (pOwn α p ≠ some c) && pHAt α (aN α 3 p) c (aN α 2 c)) c with
          | some b => some b
          | none => if decide (pOwn α p ≠ some c) && pHAt α (aN α 3 p) c (aN α 2 c) then some c else none := rfl
      cases hf : pFind (fun c => decide (pOwn α p ≠ some c) && pHAt α (aN α 3 p) c (aN α 2 c)) c with
      | some b =>
        have hb := (pFind_ok _ _ _ hf).1
        rw [hf] at hfe
        refine hm_iload dX5_setUp_86 rfl ?_
        refine hm_aload_n dX5_setUp_88 rfl ?_
        refine hm_getI lf_RX5_84 rfl rfl (by first | exact Nat.lt_of_lt_of_le (by decide) hN | assumption | (simp only [hm_n_wI, hm_n_wL, hm_n_wR, hm_n_g] at *; omega)) dX5_setUp_89 ?_
        rw [e3]
        refine hm_icmp_ge 144 dX5_setUp_92 (by decide) (fun h92 => absurd h92 (nI_ge (by omega) (by omega))) (fun _ => ?_)
        refine hm_iload dX5_setUp_95 rfl ?_
        refine hm_if_ge 134 dX5_setUp_97 (by decide) (fun _ => ?_) (fun h97 => absurd (nI_pos' (by omega)) h97)
        refine hm_iload dX5_setUp_134 rfl ?_
        refine hm_istore dX5_setUp_136 (by decide) rfl ?_
        refine hm_iinc dX5_setUp_138 rfl _ rfl (by decide) rfl ?_
        refine hm_goto 86 dX5_setUp_141 (by decide) ?_
        exact ih2 _ _ _ _ (by omega) hy2 (by rw [hfe]) (hm_inc c)
      | none =>
        rw [hf] at hfe
        refine hm_iload dX5_setUp_86 rfl ?_
        refine hm_aload_n dX5_setUp_88 rfl ?_
        refine hm_getI lf_RX5_84 rfl rfl (by first | exact Nat.lt_of_lt_of_le (by decide) hN | assumption | (simp only [hm_n_wI, hm_n_wL, hm_n_wR, hm_n_g] at *; omega)) dX5_setUp_89 ?_
        rw [e3]
        refine hm_icmp_ge 144 dX5_setUp_92 (by decide) (fun h92 => absurd h92 (nI_ge (by omega) (by omega))) (fun _ => ?_)
        refine hm_iload dX5_setUp_95 rfl ?_
        refine hm_if_ge 134 dX5_setUp_97 (by decide) (fun h97 => absurd h97 (by show ¬ (0 : Int32) ≤ -1; decide)) (fun _ => ?_)
        refine hm_iload dX5_setUp_100 rfl ?_
        refine hm_iload dX5_setUp_102 rfl ?_
        refine hm_icmp_eq 134 dX5_setUp_104 (by decide) (fun h104 => ?_) (fun h104 => ?_)
        · skip
          rw [q3] at h104
          refine hm_iload dX5_setUp_134 rfl ?_
          refine hm_istore dX5_setUp_136 (by decide) rfl ?_
          refine hm_iinc dX5_setUp_138 rfl _ rfl (by decide) rfl ?_
          refine hm_goto 86 dX5_setUp_141 (by decide) ?_
          exact ih2 _ _ _ _ (by omega) hy2 (by rw [hfe]; simp [*]; try rfl) (hm_inc c)
        · skip
          rw [q3] at h104
          refine hm_aload_n dX5_setUp_107 rfl ?_
          refine hm_aload_n dX5_setUp_108 rfl ?_
          refine hm_getR lf_RX5_13 rfl rfl (by first | exact Nat.lt_of_lt_of_le (by decide) hN | assumption | (simp only [hm_n_wI, hm_n_wL, hm_n_wR, hm_n_g] at *; omega)) (hM 3) dX5_setUp_109 ?_
          refine hm_iload_n dX5_setUp_112 rfl ?_
          refine hm_iald _ rfl (by first | exact Nat.lt_of_lt_of_le (by decide) hN | assumption | (simp only [hm_n_wI, hm_n_wL, hm_n_wR, hm_n_g] at *; omega)) rfl (by omega) (by decide) dX5_setUp_113 ?_
          rw [e4]
          refine hm_iload dX5_setUp_114 rfl ?_
          refine hm_aload_n dX5_setUp_116 rfl ?_
          refine hm_getR lf_RX5_7 rfl rfl (by first | exact Nat.lt_of_lt_of_le (by decide) hN | assumption | (simp only [hm_n_wI, hm_n_wL, hm_n_wR, hm_n_g] at *; omega)) (hM 1) dX5_setUp_117 ?_
          refine hm_iload dX5_setUp_120 rfl ?_
          refine hm_iald _ rfl (by first | exact Nat.lt_of_lt_of_le (by decide) hN | assumption | (simp only [hm_n_wI, hm_n_wL, hm_n_wR, hm_n_g] at *; omega)) rfl (by omega) (by decide) dX5_setUp_122 ?_
          rw [e5 _ hc4]
          refine hm_callV lm_RX5_148 (r5_isHeardAt l h w hpl hc4 (w.bc _)) rfl rfl rfl rfl (by first | exact Nat.lt_of_lt_of_le (by decide) hN | assumption | (simp only [hm_n_wI, hm_n_wL, hm_n_wR, hm_n_g] at *; omega)) (by decide) (by decide) (Nat.le_of_ble_eq_true rfl) dX5_setUp_123 ?_
          rintro _ _ ⟨rfl, rfl⟩
          refine hm_if_eq 134 dX5_setUp_126 (by decide) (fun h126 => ?_) (fun h126 => ?_)
          · skip
            rw [bI_0] at h126
            refine hm_iload dX5_setUp_134 rfl ?_
            refine hm_istore dX5_setUp_136 (by decide) rfl ?_
            refine hm_iinc dX5_setUp_138 rfl _ rfl (by decide) rfl ?_
            refine hm_goto 86 dX5_setUp_141 (by decide) ?_
            exact ih2 _ _ _ _ (by omega) hy2 (by rw [hfe]; simp [*]; try rfl) (hm_inc c)
          · skip
            rw [bI_0] at h126
            refine hm_iload dX5_setUp_129 rfl ?_
            refine hm_goto 136 dX5_setUp_131 (by decide) ?_
            refine hm_istore dX5_setUp_136 (by decide) rfl ?_
            refine hm_iinc dX5_setUp_138 rfl _ rfl (by decide) rfl ?_
            refine hm_goto 86 dX5_setUp_141 (by decide) ?_
            exact ih2 _ _ _ _ (by omega) hy2 (by rw [hfe]; simp [*]; try rfl) (hm_inc c)
  have j48 : pWants α p = true → ∀ (y2 y3 : Int32), y2 = bI (pHo α p) → hm_V l RX5 cX5_setUp 10 none false (hm_rm 3 0 0) 0 0 Q 0 0 48 [.ref 27, .int (nI p), .int y2, .int y3, hm_u, hm_u, hm_u, hm_u, hm_u, hm_u] [] σ := by
    intro hw y2 y3 hy2
    have hno : pDue α p = false → rM (pSetUp α p) σ := fun hd => by unfold pSetUp; rw [hw, hd]; exact h
    subst hy2
    cases ho : pHo α p with
    | false =>
      have hown : pOwn α p = none := by unfold pOwn; rw [ho]; rfl
      rw [hown, ho] at j86
      refine hm_aload_n dX5_setUp_48 rfl ?_
      refine hm_getI lf_RX5_103 rfl rfl (by first | exact Nat.lt_of_lt_of_le (by decide) hN | assumption | (simp only [hm_n_wI, hm_n_wL, hm_n_wR, hm_n_g] at *; omega)) dX5_setUp_49 ?_
      rw [e2]
      refine hm_iload_n dX5_setUp_52 rfl ?_
      refine hm_isub dX5_setUp_53 ?_
      refine hm_iconst dX5_setUp_54 (v := 4) (by decide) ?_
      refine hm_irem dX5_setUp_55 (by decide) ?_
      refine hm_if_eq 60 dX5_setUp_56 (by decide) (fun h56 => ?_) (fun h56 => ?_)
      · skip
        refine hm_iload_n dX5_setUp_60 rfl ?_
        refine hm_if_eq 77 dX5_setUp_61 (by decide) (fun _ => ?_) (fun h61 => absurd (rfl) h61)
        refine hm_iconst dX5_setUp_77 (v := -1) (by decide) ?_
        refine hm_istore dX5_setUp_78 (by decide) rfl ?_
        refine hm_iconst dX5_setUp_80 (v := -1) (by decide) ?_
        refine hm_istore dX5_setUp_81 (by decide) rfl ?_
        refine hm_iconst dX5_setUp_83 (v := 0) (by decide) ?_
        refine hm_istore dX5_setUp_84 (by decide) rfl ?_
        exact j86 hw (by unfold pDue; simpa using h56) _ 0 _ _ _ _ (Nat.zero_add _) rfl rfl rfl
      · skip
        refine hm_vret dX5_setUp_59 rfl (by decide) (by decide) ?_
        exact hQ _ _ ⟨rfl, hno (by unfold pDue; simpa using h56), md_fr.rf σ⟩
    | true =>
      rcases fi_cases (fun x => decide (bOf x = p)) (aB α) with ⟨-, -, c0⟩ | ⟨i, x, c1, c2, c3, c4, c5, c6, c7⟩
      · exfalso
        have c0' : pNb α p = 0 := c0
        unfold pHo at ho
        rw [c0'] at ho
        simp at ho
      · have hown : pOwn α p = some (bAt x) := by
          have d2 : pFst α p = some x := c4
          unfold pOwn; rw [ho, d2]; rfl
        have d1 : pFi α p = some i := c1
        have d3 := (hb2 i x c2).2.1
        rw [hown, ho] at j86
        refine hm_aload_n dX5_setUp_48 rfl ?_
        refine hm_getI lf_RX5_103 rfl rfl (by first | exact Nat.lt_of_lt_of_le (by decide) hN | assumption | (simp only [hm_n_wI, hm_n_wL, hm_n_wR, hm_n_g] at *; omega)) dX5_setUp_49 ?_
        rw [e2]
        refine hm_iload_n dX5_setUp_52 rfl ?_
        refine hm_isub dX5_setUp_53 ?_
        refine hm_iconst dX5_setUp_54 (v := 4) (by decide) ?_
        refine hm_irem dX5_setUp_55 (by decide) ?_
        refine hm_if_eq 60 dX5_setUp_56 (by decide) (fun h56 => ?_) (fun h56 => ?_)
        · skip
          refine hm_iload_n dX5_setUp_60 rfl ?_
          refine hm_if_eq 77 dX5_setUp_61 (by decide) (fun h61 => absurd h61 (by decide)) (fun _ => ?_)
          refine hm_aload_n dX5_setUp_64 rfl ?_
          refine hm_getR lf_RX5_45 rfl rfl (by first | exact Nat.lt_of_lt_of_le (by decide) hN | assumption | (simp only [hm_n_wI, hm_n_wL, hm_n_wR, hm_n_g] at *; omega)) (hM 14) dX5_setUp_65 ?_
          refine hm_aload_n dX5_setUp_68 rfl ?_
          refine hm_iload_n dX5_setUp_69 rfl ?_
          refine hm_callV lm_RX5_154 (r5_bearerOf l h w hp8) rfl rfl rfl rfl (by first | exact Nat.lt_of_lt_of_le (by decide) hN | assumption | (simp only [hm_n_wI, hm_n_wL, hm_n_wR, hm_n_g] at *; omega)) (by decide) (by decide) (Nat.le_of_ble_eq_true rfl) dX5_setUp_70 ?_
          rintro _ _ ⟨rfl, rfl⟩
          rw [d1]
          refine hm_iald i rfl (by first | exact Nat.lt_of_lt_of_le (by decide) hN | assumption | (simp only [hm_n_wI, hm_n_wL, hm_n_wR, hm_n_g] at *; omega)) rfl (by omega) (by decide) dX5_setUp_73 ?_
          rw [d3]
          refine hm_goto 78 dX5_setUp_74 (by decide) ?_
          refine hm_istore dX5_setUp_78 (by decide) rfl ?_
          refine hm_iconst dX5_setUp_80 (v := -1) (by decide) ?_
          refine hm_istore dX5_setUp_81 (by decide) rfl ?_
          refine hm_iconst dX5_setUp_83 (v := 0) (by decide) ?_
          refine hm_istore dX5_setUp_84 (by decide) rfl ?_
          exact j86 hw (by unfold pDue; simpa using h56) _ 0 _ _ _ _ (Nat.zero_add _) rfl rfl rfl
        · skip
          refine hm_vret dX5_setUp_59 rfl (by decide) (by decide) ?_
          exact hQ _ _ ⟨rfl, hno (by unfold pDue; simpa using h56), md_fr.rf σ⟩
  have j39 : ∀ (v y2 : Int32), y2 = bI (pHo α p) → v = bI ((decide (aI α 1 p = 1) || decide (aI α 1 p = 4)) && decide (pNb α p = 0)) → hm_V l RX5 cX5_setUp 10 none false (hm_rm 3 0 0) 0 0 Q 0 0 39 [.ref 27, .int (nI p), .int y2, hm_u, hm_u, hm_u, hm_u, hm_u, hm_u, hm_u] [.int v] σ := by
    intro v y2 hy2 hv
    subst hy2 hv
    refine hm_istore_n dX5_setUp_39 (by decide) rfl ?_
    refine hm_iload_n dX5_setUp_40 rfl ?_
    refine hm_if_ne 48 dX5_setUp_41 (by decide) (fun h41 => ?_) (fun h41 => ?_)
    · skip
      rw [bI_0] at h41
      exact j48 (by unfold pWants; first | (rw [b_nf h45]; simp; done) | (rw [b_nf h41]; rfl)) _ _ rfl
    · skip
      rw [bI_0] at h41
      refine hm_iload_n dX5_setUp_44 rfl ?_
      refine hm_if_eq 59 dX5_setUp_45 (by decide) (fun h45 => ?_) (fun h45 => ?_)
      · skip
        rw [bI_0] at h45
        refine hm_vret dX5_setUp_59 rfl (by decide) (by decide) ?_
        exact hQ _ _ ⟨rfl, by unfold pSetUp pWants; rw [h41, h45]; exact h, md_fr.rf σ⟩
      · skip
        rw [bI_0] at h45
        exact j48 (by unfold pWants; first | (rw [b_nf h45]; simp; done) | (rw [b_nf h41]; rfl)) _ _ rfl
  refine hm_aload_n dX5_setUp_0 rfl ?_
  refine hm_iload_n dX5_setUp_1 rfl ?_
  refine hm_callV lm_RX5_157 (r5_handsOver l h w hp8) rfl rfl rfl rfl (by first | exact Nat.lt_of_lt_of_le (by decide) hN | assumption | (simp only [hm_n_wI, hm_n_wL, hm_n_wR, hm_n_g] at *; omega)) (by decide) (by decide) (Nat.le_of_ble_eq_true rfl) dX5_setUp_2 ?_
  rintro _ _ ⟨rfl, rfl⟩
  refine hm_istore_n dX5_setUp_5 (by decide) rfl ?_
  refine hm_aload_n dX5_setUp_6 rfl ?_
  refine hm_getR lf_RX5_27 rfl rfl (by first | exact Nat.lt_of_lt_of_le (by decide) hN | assumption | (simp only [hm_n_wI, hm_n_wL, hm_n_wR, hm_n_g] at *; omega)) (hM 7) dX5_setUp_7 ?_
  refine hm_iload_n dX5_setUp_10 rfl ?_
  refine hm_iald _ rfl (by first | exact Nat.lt_of_lt_of_le (by decide) hN | assumption | (simp only [hm_n_wI, hm_n_wL, hm_n_wR, hm_n_g] at *; omega)) rfl (by omega) (by decide) dX5_setUp_11 ?_
  rw [e1]
  refine hm_iconst dX5_setUp_12 (v := 1) (by decide) ?_
  refine hm_icmp_eq 26 dX5_setUp_13 (by decide) (fun h13 => ?_) (fun h13 => ?_)
  · skip
    refine hm_aload_n dX5_setUp_26 rfl ?_
    refine hm_iload_n dX5_setUp_27 rfl ?_
    refine hm_callV lm_RX5_151 (r5_bearersOf l h w hp8) rfl rfl rfl rfl (by first | exact Nat.lt_of_lt_of_le (by decide) hN | assumption | (simp only [hm_n_wI, hm_n_wL, hm_n_wR, hm_n_g] at *; omega)) (by decide) (by decide) (Nat.le_of_ble_eq_true rfl) dX5_setUp_28 ?_
    rintro _ _ ⟨rfl, rfl⟩
    refine hm_if_ne 38 dX5_setUp_31 (by decide) (fun h31 => ?_) (fun h31 => ?_)
    · skip
      rw [q0] at h31
      refine hm_iconst dX5_setUp_38 (v := 0) (by decide) ?_
      exact j39 _ _ rfl (by simp [bI, *])
    · skip
      rw [q0] at h31
      refine hm_iconst dX5_setUp_34 (v := 1) (by decide) ?_
      refine hm_goto 39 dX5_setUp_35 (by decide) ?_
      exact j39 _ _ rfl (by simp [bI, *])
  · skip
    refine hm_aload_n dX5_setUp_16 rfl ?_
    refine hm_getR lf_RX5_27 rfl rfl (by first | exact Nat.lt_of_lt_of_le (by decide) hN | assumption | (simp only [hm_n_wI, hm_n_wL, hm_n_wR, hm_n_g] at *; omega)) (hM 7) dX5_setUp_17 ?_
    refine hm_iload_n dX5_setUp_20 rfl ?_
    refine hm_iald _ rfl (by first | exact Nat.lt_of_lt_of_le (by decide) hN | assumption | (simp only [hm_n_wI, hm_n_wL, hm_n_wR, hm_n_g] at *; omega)) rfl (by omega) (by decide) dX5_setUp_21 ?_
    rw [e1]
    refine hm_iconst dX5_setUp_22 (v := 4) (by decide) ?_
    refine hm_icmp_ne 38 dX5_setUp_23 (by decide) (fun h23 => ?_) (fun h23 => ?_)
    · skip
      refine hm_iconst dX5_setUp_38 (v := 0) (by decide) ?_
      exact j39 _ _ rfl (by simp [bI, *])
    · skip
      refine hm_aload_n dX5_setUp_26 rfl ?_
      refine hm_iload_n dX5_setUp_27 rfl ?_
      refine hm_callV lm_RX5_151 (r5_bearersOf l h w hp8) rfl rfl rfl rfl (by first | exact Nat.lt_of_lt_of_le (by decide) hN | assumption | (simp only [hm_n_wI, hm_n_wL, hm_n_wR, hm_n_g] at *; omega)) (by decide) (by decide) (Nat.le_of_ble_eq_true rfl) dX5_setUp_28 ?_
      rintro _ _ ⟨rfl, rfl⟩
      refine hm_if_ne 38 dX5_setUp_31 (by decide) (fun h31 => ?_) (fun h31 => ?_)
      · skip
        rw [q0] at h31
        refine hm_iconst dX5_setUp_38 (v := 0) (by decide) ?_
        exact j39 _ _ rfl (by simp [bI, *])
      · skip
        rw [q0] at h31
        refine hm_iconst dX5_setUp_34 (v := 1) (by decide) ?_
        refine hm_goto 39 dX5_setUp_35 (by decide) ?_
        exact j39 _ _ rfl (by simp [bI, *])
end M9
end
section
/-! the reference: bearers that go, calls without one -/
theorem rm_er (p : Nat) : ∀ (B : List sBr) (i : Nat), B.findIdx? (fun x => decide (bOf x = p)) = some i → pRmFst p B = B.eraseIdx i := by
  intro B
  induction B with
  | nil => intro i h; simp at h
  | cons x t ih =>
    intro i h
    rw [List.findIdx?_cons] at h
    unfold pRmFst
    by_cases e : bOf x = p
    · simp [e] at h
      subst h
      simp [e]
    · simp [e] at h
      obtain ⟨j, h1, rfl⟩ := h
      simp [e, ih j h1]
/-- two bearers: the second one is the last one -/
theorem two_last {β : Type} {f : β → Bool} {l : List β} {i : Nat} (h2 : l.countP f = 2) (hi : l.findIdx? f = some i) : ∃ j x, i < j ∧ l[j]? = some x ∧ f x = true ∧ (∀ (m : Nat) (y : β), i < m → m < j → l[m]? = some y → f y = false) ∧ l.reverse.find? f = some x := by
  rcases fi_cases f l with ⟨h, -, -⟩ | ⟨i', x0, c1, c2, c3, c4, c5, c6, c7⟩
  · rw [h] at hi; cases hi
  rw [hi] at c1
  cases c1
  have hsp : l = l.take (i + 1) ++ l.drop (i + 1) := (List.take_append_drop _ _).symm
  have ht : l.take (i + 1) = l.take i ++ [x0] := by rw [List.take_succ, c2]; rfl
  have hc0 : (l.take i).countP f = 0 := List.countP_eq_zero.mpr fun y hy => by
    obtain ⟨m, hm⟩ := List.getElem?_of_mem hy
    have hml : m < i := by
      have := (List.getElem?_eq_some_iff.mp hm).1
      rw [List.length_take] at this
      omega
    rw [List.getElem?_take, if_pos hml] at hm
    rw [c7 m y hml hm]
    decide
  have hcd : (l.drop (i + 1)).countP f = 1 := by
    have h3 := h2
    rw [hsp, List.countP_append, ht, List.countP_append, hc0] at h3
    simp [List.countP_cons, c3] at h3
    omega
  rcases fi_cases f (l.drop (i + 1)) with ⟨-, -, h⟩ | ⟨k, x, d1, d2, d3, d4, d5, d6, d7⟩
  · omega
  refine ⟨i + 1 + k, x, by omega, by rw [← List.getElem?_drop]; exact d2, d3, fun m y h3 h4 h5 => ?_, ?_⟩
  · refine d7 (m - (i + 1)) y (by omega) ?_
    rw [List.getElem?_drop]
    rw [show i + 1 + (m - (i + 1)) = m by omega]
    exact h5
  · generalize hr : l.drop (i + 1) = r at d1 d2 d3 d5 d7 hcd hsp
    have hsr : r = r.take (k + 1) ++ r.drop (k + 1) := (List.take_append_drop _ _).symm
    have htr : r.take (k + 1) = r.take k ++ [x] := by rw [List.take_succ, d2]; rfl
    have hz : (r.drop (k + 1)).countP f = 0 := by
      have h3 := hcd
      rw [hsr, List.countP_append, htr, List.countP_append] at h3
      simp [List.countP_cons, d3] at h3
      omega
    rw [hsp, hsr, htr, List.reverse_append, List.reverse_append, List.reverse_append, List.append_assoc, List.append_assoc, List.find?_append]
    have hn : (r.drop (k + 1)).reverse.find? f = none := List.find?_eq_none.mpr fun y hy => List.countP_eq_zero.mp hz y (List.mem_reverse.mp hy)
    rw [hn]
    simp [List.find?_cons, d3]
theorem pAll_nP {f : sA → Nat → sA} (hf : ∀ β p, nPort (f β p) = nPort β) (α : sA) : ∀ k, nPort (pAll f α k) = nPort α
  | 0 => rfl
  | k + 1 => (hf _ _).trans (pAll_nP hf α k)
theorem pAll_sW {f : sA → Nat → sA} (hf : ∀ β p, nPort (f β p) = nPort β) (hw : ∀ β p, sW β → p < nPort β → sW (f β p)) {α : sA} (w : sW α) : ∀ k, k ≤ nPort α → sW (pAll f α k)
  | 0, _ => w
  | k + 1, h => hw _ _ (pAll_sW hf hw w k (by omega)) (by rw [pAll_nP hf]; omega)
theorem nP_idle (α : sA) (p : Nat) : nPort (pIdle α p) = nPort α := rfl
theorem nP_ends (α : sA) (p : Nat) : nPort (pEnds α p) = nPort α := by
  unfold pEnds pEnded
  split <;> rfl
theorem nP_noB (α : sA) (p : Nat) : nPort (pNoB α p) = nPort α := by
  unfold pNoB
  split
  · exact nP_ends α p
  · rfl
theorem nP_hand (α : sA) (p : Nat) : nPort (pHand α p) = nPort α := by
  unfold pHand
  split <;> rfl
section M10
variable (l : Launch) {α : sA} {σ : hm_M}
set_option maxRecDepth 100000 in
set_option maxHeartbeats 4000000 in
theorem r5_goOrStay (h : rM α σ) (w : sW α) : hm_Ct l yX5_goOrStay cX5_goOrStay 3 none 3 0 0 [.ref 27] σ (fun r τ => r = none ∧ rM (pAllP pNoB (pAllP pHand (pDropF α))) τ ∧ md_fr σ τ) := by
  obtain ⟨hN, hM⟩ := h.m
  obtain ⟨hb1, hb2⟩ := h.b
  have hlen := w.len
  have h8 := w.p8
  have w1 := w.dropF
  have n2 : nPort (pAllP pHand (pDropF α)) = nPort α := pAll_nP nP_hand _ _
  have w2 : sW (pAllP pHand (pDropF α)) := pAll_sW nP_hand (fun β p wb _ => wb.hand p) w1 _ (Nat.le_refl _)
  refine hm_startQ (ini := false) [.ref 27, hm_u, hm_u] (by decide) (by decide) rfl (Nat.le_of_ble_eq_true rfl) (fun Q hQ => ?_)
  have hl3 : ∀ (k p : Nat) (τ : hm_M) (u : Int32) (y : Value), p + k = nPort α → rM (pAll pNoB (pAllP pHand (pDropF α)) p) τ → md_fr σ τ → u = nI p → hm_V l RX5 cX5_goOrStay 3 none false (hm_rm 3 0 0) 0 0 Q 0 0 112 [.ref 27, .int u, y] [] τ := by
    intro k
    induction k with
    | zero =>
      intro p τ u y hk hτ hf hu
      subst hu
      obtain ⟨hN, hM⟩ := hτ.m
      have hpn : p = nPort α := by omega
      have e0 : hm_I τ 27 2 = nI (nPort α) := (hτ.n 1 0 (by decide)).trans (congrArg nI ((pAll_nP nP_noB _ p).trans n2))
      refine hm_iload_n dX5_goOrStay_112 rfl ?_
      refine hm_aload_n dX5_goOrStay_113 rfl ?_
      refine hm_getI lf_RX5_92 rfl rfl (by first | exact Nat.lt_of_lt_of_le (by decide) hN | assumption | (simp only [hm_n_wI, hm_n_wL, hm_n_wR, hm_n_g] at *; omega)) dX5_goOrStay_114 ?_
      rw [e0]
      refine hm_icmp_ge 168 dX5_goOrStay_117 (by decide) (fun _ => ?_) (fun h117 => absurd (nI_le (by omega) (by omega)) h117)
      refine hm_vret dX5_goOrStay_168 rfl (by decide) (by decide) ?_
      exact hQ _ _ ⟨rfl, by unfold pAllP; rw [show nPort (pAll pHand (pDropF α) (nPort (pDropF α))) = nPort α from n2, ← hpn]; exact hτ, hf⟩
    | succ k ih =>
      intro p τ u y hk hτ hf hu
      subst hu
      obtain ⟨hN, hM⟩ := hτ.m
      have wτ : sW (pAll pNoB (pAllP pHand (pDropF α)) p) := pAll_sW nP_noB (fun β p wb hp => wb.noB hp) w2 p (by omega)
      have nτ : nPort (pAll pNoB (pAllP pHand (pDropF α)) p) = nPort α := (pAll_nP nP_noB _ p).trans n2
      have e0 : hm_I τ 27 2 = nI (nPort α) := (hτ.n 1 0 (by decide)).trans (congrArg nI nτ)
      have hstep : pAll pNoB (pAllP pHand (pDropF α)) (p + 1) = pNoB (pAll pNoB (pAllP pHand (pDropF α)) p) p := rfl
      have ih2 := ih (p + 1)
      rw [hstep] at ih2
      generalize pAll pNoB (pAllP pHand (pDropF α)) p = β at hτ wτ nτ ih2
      have e1 : hm_I τ 33 p = aI β 1 p := hτ.i 1 p (by show p < 8; omega)
      have hnb := wτ.nb p
      have q0 : nI (pNb β p) = 0 ↔ pNb β p = 0 := nI_0' (by omega)
      refine hm_iload_n dX5_goOrStay_112 rfl ?_
      refine hm_aload_n dX5_goOrStay_113 rfl ?_
      refine hm_getI lf_RX5_92 rfl rfl (by first | exact Nat.lt_of_lt_of_le (by decide) hN | assumption | (simp only [hm_n_wI, hm_n_wL, hm_n_wR, hm_n_g] at *; omega)) dX5_goOrStay_114 ?_
      rw [e0]
      refine hm_icmp_ge 168 dX5_goOrStay_117 (by decide) (fun h117 => absurd h117 (nI_ge (by omega) (by omega))) (fun _ => ?_)
      refine hm_aload_n dX5_goOrStay_120 rfl ?_
      refine hm_getR lf_RX5_27 rfl rfl (by first | exact Nat.lt_of_lt_of_le (by decide) hN | assumption | (simp only [hm_n_wI, hm_n_wL, hm_n_wR, hm_n_g] at *; omega)) (hM 7) dX5_goOrStay_121 ?_
      refine hm_iload_n dX5_goOrStay_124 rfl ?_
      refine hm_iald _ rfl (by first | exact Nat.lt_of_lt_of_le (by decide) hN | assumption | (simp only [hm_n_wI, hm_n_wL, hm_n_wR, hm_n_g] at *; omega)) rfl (by omega) (by decide) dX5_goOrStay_125 ?_
      rw [e1]
      refine hm_if_eq 162 dX5_goOrStay_126 (by decide) (fun h126 => ?_) (fun h126 => ?_)
      · skip
        refine hm_iinc dX5_goOrStay_162 rfl _ rfl (by decide) rfl ?_
        refine hm_goto 112 dX5_goOrStay_165 (by decide) ?_
        first | exact ih2 _ _ _ (by omega) (by unfold pNoB; rw [if_pos (by simp [*])]; exact hρ) (hf.tr hf2) (hm_inc p) | exact ih2 _ _ _ (by omega) (by unfold pNoB; rw [if_neg (by simp [*])]; exact hτ) hf (hm_inc p)
      · skip
        refine hm_aload_n dX5_goOrStay_129 rfl ?_
        refine hm_getR lf_RX5_27 rfl rfl (by first | exact Nat.lt_of_lt_of_le (by decide) hN | assumption | (simp only [hm_n_wI, hm_n_wL, hm_n_wR, hm_n_g] at *; omega)) (hM 7) dX5_goOrStay_130 ?_
        refine hm_iload_n dX5_goOrStay_133 rfl ?_
        refine hm_iald _ rfl (by first | exact Nat.lt_of_lt_of_le (by decide) hN | assumption | (simp only [hm_n_wI, hm_n_wL, hm_n_wR, hm_n_g] at *; omega)) rfl (by omega) (by decide) dX5_goOrStay_134 ?_
        rw [e1]
        refine hm_iconst dX5_goOrStay_135 (v := 1) (by decide) ?_
        refine hm_icmp_eq 162 dX5_goOrStay_136 (by decide) (fun h136 => ?_) (fun h136 => ?_)
        · skip
          refine hm_iinc dX5_goOrStay_162 rfl _ rfl (by decide) rfl ?_
          refine hm_goto 112 dX5_goOrStay_165 (by decide) ?_
          first | exact ih2 _ _ _ (by omega) (by unfold pNoB; rw [if_pos (by simp [*])]; exact hρ) (hf.tr hf2) (hm_inc p) | exact ih2 _ _ _ (by omega) (by unfold pNoB; rw [if_neg (by simp [*])]; exact hτ) hf (hm_inc p)
        · skip
          refine hm_aload_n dX5_goOrStay_139 rfl ?_
          refine hm_getR lf_RX5_27 rfl rfl (by first | exact Nat.lt_of_lt_of_le (by decide) hN | assumption | (simp only [hm_n_wI, hm_n_wL, hm_n_wR, hm_n_g] at *; omega)) (hM 7) dX5_goOrStay_140 ?_
          refine hm_iload_n dX5_goOrStay_143 rfl ?_
          refine hm_iald _ rfl (by first | exact Nat.lt_of_lt_of_le (by decide) hN | assumption | (simp only [hm_n_wI, hm_n_wL, hm_n_wR, hm_n_g] at *; omega)) rfl (by omega) (by decide) dX5_goOrStay_144 ?_
          rw [e1]
          refine hm_iconst dX5_goOrStay_145 (v := 4) (by decide) ?_
          refine hm_icmp_eq 162 dX5_goOrStay_146 (by decide) (fun h146 => ?_) (fun h146 => ?_)
          · skip
            refine hm_iinc dX5_goOrStay_162 rfl _ rfl (by decide) rfl ?_
            refine hm_goto 112 dX5_goOrStay_165 (by decide) ?_
            first | exact ih2 _ _ _ (by omega) (by unfold pNoB; rw [if_pos (by simp [*])]; exact hρ) (hf.tr hf2) (hm_inc p) | exact ih2 _ _ _ (by omega) (by unfold pNoB; rw [if_neg (by simp [*])]; exact hτ) hf (hm_inc p)
          · skip
            refine hm_aload_n dX5_goOrStay_149 rfl ?_
            refine hm_iload_n dX5_goOrStay_150 rfl ?_
            refine hm_callV lm_RX5_151 (r5_bearersOf l hτ wτ (by omega)) rfl rfl rfl rfl (by first | exact Nat.lt_of_lt_of_le (by decide) hN | assumption | (simp only [hm_n_wI, hm_n_wL, hm_n_wR, hm_n_g] at *; omega)) (by decide) (by decide) (Nat.le_of_ble_eq_true rfl) dX5_goOrStay_151 ?_
            rintro _ _ ⟨rfl, rfl⟩
            refine hm_if_ne 162 dX5_goOrStay_154 (by decide) (fun h154 => ?_) (fun h154 => ?_)
            · skip
              rw [q0] at h154
              refine hm_iinc dX5_goOrStay_162 rfl _ rfl (by decide) rfl ?_
              refine hm_goto 112 dX5_goOrStay_165 (by decide) ?_
              first | exact ih2 _ _ _ (by omega) (by unfold pNoB; rw [if_pos (by simp [*])]; exact hρ) (hf.tr hf2) (hm_inc p) | exact ih2 _ _ _ (by omega) (by unfold pNoB; rw [if_neg (by simp [*])]; exact hτ) hf (hm_inc p)
            · skip
              rw [q0] at h154
              refine hm_aload_n dX5_goOrStay_157 rfl ?_
              refine hm_iload_n dX5_goOrStay_158 rfl ?_
              refine hm_callV lm_RX5_125 (r5_ends l hτ wτ (by omega) h126) rfl rfl rfl rfl (by first | exact Nat.lt_of_lt_of_le (by decide) hN | assumption | (simp only [hm_n_wI, hm_n_wL, hm_n_wR, hm_n_g] at *; omega)) (by decide) (by decide) (Nat.le_of_ble_eq_true rfl) dX5_goOrStay_159 ?_
              rintro _ ρ ⟨rfl, hρ, hf2⟩
              obtain ⟨hN, hM⟩ := hρ.m
              refine hm_iinc dX5_goOrStay_162 rfl _ rfl (by decide) rfl ?_
              refine hm_goto 112 dX5_goOrStay_165 (by decide) ?_
              first | exact ih2 _ _ _ (by omega) (by unfold pNoB; rw [if_pos (by simp [*])]; exact hρ) (hf.tr hf2) (hm_inc p) | exact ih2 _ _ _ (by omega) (by unfold pNoB; rw [if_neg (by simp [*])]; exact hτ) hf (hm_inc p)
  have hl2 : ∀ (k p : Nat) (τ : hm_M) (u : Int32) (y : Value), p + k = nPort α → rM (pAll pHand (pDropF α) p) τ → md_fr σ τ → u = nI p → hm_V l RX5 cX5_goOrStay 3 none false (hm_rm 3 0 0) 0 0 Q 0 0 35 [.ref 27, .int u, y] [] τ := by
    intro k
    induction k with
    | zero =>
      intro p τ u y hk hτ hf hu
      subst hu
      obtain ⟨hN, hM⟩ := hτ.m
      have hpn : p = nPort α := by omega
      have e0 : hm_I τ 27 2 = nI (nPort α) := (hτ.n 1 0 (by decide)).trans (congrArg nI (pAll_nP nP_hand _ p))
      refine hm_iload_n dX5_goOrStay_35 rfl ?_
      refine hm_aload_n dX5_goOrStay_36 rfl ?_
      refine hm_getI lf_RX5_92 rfl rfl (by first | exact Nat.lt_of_lt_of_le (by decide) hN | assumption | (simp only [hm_n_wI, hm_n_wL, hm_n_wR, hm_n_g] at *; omega)) dX5_goOrStay_37 ?_
      rw [e0]
      refine hm_icmp_ge 110 dX5_goOrStay_40 (by decide) (fun _ => ?_) (fun h40 => absurd (nI_le (by omega) (by omega)) h40)
      refine hm_iconst dX5_goOrStay_110 (v := 0) (by decide) ?_
      refine hm_istore_n dX5_goOrStay_111 (by decide) rfl ?_
      exact hl3 _ 0 _ _ _ (Nat.zero_add _) (by show rM (pAllP pHand (pDropF α)) τ; unfold pAllP; rw [show nPort (pDropF α) = nPort α from rfl, ← hpn]; exact hτ) hf rfl
    | succ k ih =>
      intro p τ u y hk hτ hf hu
      subst hu
      obtain ⟨hN, hM⟩ := hτ.m
      have wτ : sW (pAll pHand (pDropF α) p) := pAll_sW nP_hand (fun β p wb hp => wb.hand p) w1 p (by show p ≤ nPort α; omega)
      have nτ : nPort (pAll pHand (pDropF α) p) = nPort α := pAll_nP nP_hand _ p
      have e0 : hm_I τ 27 2 = nI (nPort α) := (hτ.n 1 0 (by decide)).trans (congrArg nI nτ)
      have hstep : pAll pHand (pDropF α) (p + 1) = pHand (pAll pHand (pDropF α) p) p := rfl
      have ih2 := ih (p + 1)
      rw [hstep] at ih2
      generalize pAll pHand (pDropF α) p = β at hτ wτ nτ ih2
      have hnb := wτ.nb p
      have hlb := wτ.len
      obtain ⟨c1, c2⟩ := hτ.b
      have q0 : nI (pNb β p) = 2 ↔ pNb β p = 2 := nI_eq (b := 2) (by omega) (by decide)
      by_cases hn2 : pNb β p = 2
      · rcases fi_cases (fun x => decide (bOf x = p)) (aB β) with ⟨-, -, d0⟩ | ⟨i, x0, d1, d2, d3, d4, d5, d6, d7⟩
        · have d0' : pNb β p = 0 := d0
          omega
        obtain ⟨j, x, f1, f2, f3, f4, f5⟩ := two_last hn2 d1
        have hfi : pFi β p = some i := d1
        have hlast : pLast β p = some x := f5
        have hjl := (List.getElem?_eq_some_iff.mp f2).1
        have hC : pHandC β p = bGd x := by unfold pHandC; rw [hn2, hlast]; rfl
        have hw : ∀ (n m : Nat) (v : Int32), m + n = j → i < m → v = nI m → hm_V l RX5 cX5_goOrStay 3 none false (hm_rm 3 0 0) 0 0 Q 0 0 60 [.ref 27, .int (nI p), .int v] [] τ := by
          intro n
          induction n with
          | zero =>
            intro m v hm him hv
            subst hv
            obtain rfl : m = j := by omega
            have g1 := (c2 m x f2).1
            have g5 := (c2 m x f2).2.2.2.2
            have gp : bOf x = p := by simpa using f3
            have e9 : hm_I τ 27 30 = aI β 4 3 := hτ.i 4 3 (by decide)
            refine hm_aload_n dX5_goOrStay_60 rfl ?_
            refine hm_getR lf_RX5_42 rfl rfl (by first | exact Nat.lt_of_lt_of_le (by decide) hN | assumption | (simp only [hm_n_wI, hm_n_wL, hm_n_wR, hm_n_g] at *; omega)) (hM 13) dX5_goOrStay_61 ?_
            refine hm_iload_n dX5_goOrStay_64 rfl ?_
            refine hm_iald _ rfl (by first | exact Nat.lt_of_lt_of_le (by decide) hN | assumption | (simp only [hm_n_wI, hm_n_wL, hm_n_wR, hm_n_g] at *; omega)) rfl (by omega) (by decide) dX5_goOrStay_65 ?_
            rw [g1, gp]
            refine hm_iload_n dX5_goOrStay_66 rfl ?_
            refine hm_icmp_eq 76 dX5_goOrStay_67 (by decide) (fun _ => ?_) (fun h67 => absurd (rfl) h67)
            refine hm_aload_n dX5_goOrStay_76 rfl ?_
            refine hm_getR lf_RX5_54 rfl rfl (by first | exact Nat.lt_of_lt_of_le (by decide) hN | assumption | (simp only [hm_n_wI, hm_n_wL, hm_n_wR, hm_n_g] at *; omega)) (hM 17) dX5_goOrStay_77 ?_
            refine hm_iload_n dX5_goOrStay_80 rfl ?_
            refine hm_zald _ rfl (by first | exact Nat.lt_of_lt_of_le (by decide) hN | assumption | (simp only [hm_n_wI, hm_n_wL, hm_n_wR, hm_n_g] at *; omega)) rfl (by omega) (by decide) dX5_goOrStay_81 ?_
            rw [g5]
            refine hm_if_eq 104 dX5_goOrStay_82 (by decide) (fun h82 => ?_) (fun h82 => ?_)
            · skip
              rw [bI_0] at h82
              refine hm_iinc dX5_goOrStay_104 rfl _ rfl (by decide) rfl ?_
              refine hm_goto 35 dX5_goOrStay_107 (by decide) ?_
              first | exact ih2 _ _ _ (by omega) (by unfold pHand; rw [if_pos (by rw [hC]; exact b_nf h82), rm_er p _ i d1]; exact hρ.upI 4 3 _ (by decide)) ((hf.tr hf2).wI 27 30 _ (by decide)) (hm_inc p) | exact ih2 _ _ _ (by omega) (by unfold pHand; rw [if_neg (by rw [hC, h82]; decide)]; exact hτ) hf (hm_inc p)
            · skip
              rw [bI_0] at h82
              refine hm_aload_n dX5_goOrStay_85 rfl ?_
              refine hm_aload_n dX5_goOrStay_86 rfl ?_
              refine hm_iload_n dX5_goOrStay_87 rfl ?_
              refine hm_callV lm_RX5_154 (r5_bearerOf l hτ wτ (by omega)) rfl rfl rfl rfl (by first | exact Nat.lt_of_lt_of_le (by decide) hN | assumption | (simp only [hm_n_wI, hm_n_wL, hm_n_wR, hm_n_g] at *; omega)) (by decide) (by decide) (Nat.le_of_ble_eq_true rfl) dX5_goOrStay_88 ?_
              rintro _ _ ⟨rfl, rfl⟩
              rw [hfi]
              refine hm_callV lm_RX5_112 (r5_dropBearer l hτ hlb d5) rfl rfl rfl rfl (by first | exact Nat.lt_of_lt_of_le (by decide) hN | assumption | (simp only [hm_n_wI, hm_n_wL, hm_n_wR, hm_n_g] at *; omega)) (by decide) (by decide) (Nat.le_of_ble_eq_true rfl) dX5_goOrStay_91 ?_
              rintro _ ρ ⟨rfl, hρ, hf2⟩
              obtain ⟨hN, hM⟩ := hρ.m
              have e9 : hm_I ρ 27 30 = aI β 4 3 := hρ.i 4 3 (by decide)
              refine hm_aload_n dX5_goOrStay_94 rfl ?_
              refine hm_dup dX5_goOrStay_95 rfl ?_
              refine hm_getI lf_RX5_169 rfl rfl (by first | exact Nat.lt_of_lt_of_le (by decide) hN | assumption | (simp only [hm_n_wI, hm_n_wL, hm_n_wR, hm_n_g] at *; omega)) dX5_goOrStay_96 ?_
              rw [e9]
              refine hm_iconst dX5_goOrStay_99 (v := 1) (by decide) ?_
              refine hm_iadd dX5_goOrStay_100 ?_
              refine hm_putI lf_RX5_169 rfl rfl rfl (by first | exact Nat.lt_of_lt_of_le (by decide) hN | assumption | (simp only [hm_n_wI, hm_n_wL, hm_n_wR, hm_n_g] at *; omega)) dX5_goOrStay_101 ?_
              refine hm_iinc dX5_goOrStay_104 rfl _ rfl (by decide) rfl ?_
              refine hm_goto 35 dX5_goOrStay_107 (by decide) ?_
              first | exact ih2 _ _ _ (by omega) (by unfold pHand; rw [if_pos (by rw [hC]; exact b_nf h82), rm_er p _ i d1]; exact hρ.upI 4 3 _ (by decide)) ((hf.tr hf2).wI 27 30 _ (by decide)) (hm_inc p) | exact ih2 _ _ _ (by omega) (by unfold pHand; rw [if_neg (by rw [hC, h82]; decide)]; exact hτ) hf (hm_inc p)
          | succ n ihn =>
            intro m v hm him hv
            subst hv
            obtain ⟨y2, hy2⟩ : ∃ y2, (aB β)[m]? = some y2 := ⟨_, List.getElem?_eq_getElem (by omega)⟩
            have g1 := (c2 m y2 hy2).1
            have g2 : ¬ bOf y2 = p := by simpa using f4 m y2 him (by omega) hy2
            have gb := (wτ.xb hy2).1
            have q3 : nI (bOf y2) = nI p ↔ bOf y2 = p := nI_eq (by omega) (by omega)
            refine hm_aload_n dX5_goOrStay_60 rfl ?_
            refine hm_getR lf_RX5_42 rfl rfl (by first | exact Nat.lt_of_lt_of_le (by decide) hN | assumption | (simp only [hm_n_wI, hm_n_wL, hm_n_wR, hm_n_g] at *; omega)) (hM 13) dX5_goOrStay_61 ?_
            refine hm_iload_n dX5_goOrStay_64 rfl ?_
            refine hm_iald _ rfl (by first | exact Nat.lt_of_lt_of_le (by decide) hN | assumption | (simp only [hm_n_wI, hm_n_wL, hm_n_wR, hm_n_g] at *; omega)) rfl (by omega) (by decide) dX5_goOrStay_65 ?_
            rw [g1]
            refine hm_iload_n dX5_goOrStay_66 rfl ?_
            refine hm_icmp_eq 76 dX5_goOrStay_67 (by decide) (fun h67 => absurd h67 (fun e => g2 (q3.mp e))) (fun _ => ?_)
            refine hm_iinc dX5_goOrStay_70 rfl _ rfl (by decide) rfl ?_
            refine hm_goto 60 dX5_goOrStay_73 (by decide) ?_
            exact ihn (m + 1) _ (by omega) (by omega) (hm_inc m)
        refine hm_iload_n dX5_goOrStay_35 rfl ?_
        refine hm_aload_n dX5_goOrStay_36 rfl ?_
        refine hm_getI lf_RX5_92 rfl rfl (by first | exact Nat.lt_of_lt_of_le (by decide) hN | assumption | (simp only [hm_n_wI, hm_n_wL, hm_n_wR, hm_n_g] at *; omega)) dX5_goOrStay_37 ?_
        rw [e0]
        refine hm_icmp_ge 110 dX5_goOrStay_40 (by decide) (fun h40 => absurd h40 (nI_ge (by omega) (by omega))) (fun _ => ?_)
        refine hm_aload_n dX5_goOrStay_43 rfl ?_
        refine hm_iload_n dX5_goOrStay_44 rfl ?_
        refine hm_callV lm_RX5_151 (r5_bearersOf l hτ wτ (by omega)) rfl rfl rfl rfl (by first | exact Nat.lt_of_lt_of_le (by decide) hN | assumption | (simp only [hm_n_wI, hm_n_wL, hm_n_wR, hm_n_g] at *; omega)) (by decide) (by decide) (Nat.le_of_ble_eq_true rfl) dX5_goOrStay_45 ?_
        rintro _ _ ⟨rfl, rfl⟩
        refine hm_iconst dX5_goOrStay_48 (v := 2) (by decide) ?_
        refine hm_icmp_ne 104 dX5_goOrStay_49 (by decide) (fun h49 => absurd (q0.mpr hn2) h49) (fun _ => ?_)
        refine hm_aload_n dX5_goOrStay_52 rfl ?_
        refine hm_iload_n dX5_goOrStay_53 rfl ?_
        refine hm_callV lm_RX5_154 (r5_bearerOf l hτ wτ (by omega)) rfl rfl rfl rfl (by first | exact Nat.lt_of_lt_of_le (by decide) hN | assumption | (simp only [hm_n_wI, hm_n_wL, hm_n_wR, hm_n_g] at *; omega)) (by decide) (by decide) (Nat.le_of_ble_eq_true rfl) dX5_goOrStay_54 ?_
        rintro _ _ ⟨rfl, rfl⟩
        rw [hfi]
        refine hm_iconst dX5_goOrStay_57 (v := 1) (by decide) ?_
        refine hm_iadd dX5_goOrStay_58 ?_
        refine hm_istore_n dX5_goOrStay_59 (by decide) rfl ?_
        exact hw (j - (i + 1)) (i + 1) _ (by omega) (by omega) (nI_1 i)
      · skip
        refine hm_iload_n dX5_goOrStay_35 rfl ?_
        refine hm_aload_n dX5_goOrStay_36 rfl ?_
        refine hm_getI lf_RX5_92 rfl rfl (by first | exact Nat.lt_of_lt_of_le (by decide) hN | assumption | (simp only [hm_n_wI, hm_n_wL, hm_n_wR, hm_n_g] at *; omega)) dX5_goOrStay_37 ?_
        rw [e0]
        refine hm_icmp_ge 110 dX5_goOrStay_40 (by decide) (fun h40 => absurd h40 (nI_ge (by omega) (by omega))) (fun _ => ?_)
        refine hm_aload_n dX5_goOrStay_43 rfl ?_
        refine hm_iload_n dX5_goOrStay_44 rfl ?_
        refine hm_callV lm_RX5_151 (r5_bearersOf l hτ wτ (by omega)) rfl rfl rfl rfl (by first | exact Nat.lt_of_lt_of_le (by decide) hN | assumption | (simp only [hm_n_wI, hm_n_wL, hm_n_wR, hm_n_g] at *; omega)) (by decide) (by decide) (Nat.le_of_ble_eq_true rfl) dX5_goOrStay_45 ?_
        rintro _ _ ⟨rfl, rfl⟩
        refine hm_iconst dX5_goOrStay_48 (v := 2) (by decide) ?_
        refine hm_icmp_ne 104 dX5_goOrStay_49 (by decide) (fun _ => ?_) (fun h49 => absurd h49 (fun e => hn2 (q0.mp e)))
        refine hm_iinc dX5_goOrStay_104 rfl _ rfl (by decide) rfl ?_
        refine hm_goto 35 dX5_goOrStay_107 (by decide) ?_
        exact ih2 _ _ _ (by omega) (by unfold pHand; rw [if_neg (by unfold pHandC; simp [hn2])]; exact hτ) hf (hm_inc p)
  have hl1 : ∀ (b : Nat) (τ : hm_M) (u : Int32), b ≤ (aB α).length → rM (sB α ((aB α).take b ++ ((aB α).drop b).filter (fun x => !decide ((8 : Int32) ≤ bFl x)))) τ → md_fr σ τ → u = nI b - 1 → hm_V l RX5 cX5_goOrStay 3 none false (hm_rm 3 0 0) 0 0 Q 0 0 7 [.ref 27, .int u, hm_u] [] τ := by
    intro b
    induction b with
    | zero =>
      intro τ u hb hτ hf hu
      subst hu
      obtain ⟨hN, hM⟩ := hτ.m
      refine hm_iload_n dX5_goOrStay_7 rfl ?_
      refine hm_if_lt 33 dX5_goOrStay_8 (by decide) (fun _ => ?_) (fun h8 => absurd (by decide) h8)
      refine hm_iconst dX5_goOrStay_33 (v := 0) (by decide) ?_
      refine hm_istore_n dX5_goOrStay_34 (by decide) rfl ?_
      exact hl2 _ 0 _ _ _ (Nat.zero_add _) (by show rM (sB α ((aB α).filter (fun x => !decide ((8 : Int32) ≤ bFl x)))) τ; simpa using hτ) hf rfl
    | succ b ih =>
      intro τ u hb hτ hf hu
      have hu : u = nI b := by rw [hu]; exact nI_pred b
      subst hu
      obtain ⟨hN, hM⟩ := hτ.m
      obtain ⟨x, hx⟩ : ∃ x, (aB α)[b]? = some x := ⟨_, List.getElem?_eq_getElem (by omega)⟩
      have hd : (aB α).drop b = x :: (aB α).drop (b + 1) := by rw [← List.getElem_cons_drop (show b < (aB α).length by omega)]; congr 1; exact Option.some.inj ((List.getElem?_eq_getElem _).symm.trans hx)
      have ht : (aB α).take (b + 1) = (aB α).take b ++ [x] := by rw [List.take_succ, hx]; rfl
      rw [ht, List.append_assoc, List.singleton_append] at hτ
      have htl : ((aB α).take b).length = b := by rw [List.length_take]; omega
      have hlf := List.length_filter_le (fun x => !decide ((8 : Int32) ≤ bFl x)) ((aB α).drop (b + 1))
      rw [List.length_drop] at hlf
      have ih2 := ih
      rw [hd, List.filter_cons] at ih2
      generalize hZ : ((aB α).drop (b + 1)).filter (fun x => !decide ((8 : Int32) ≤ bFl x)) = Z at hτ ih2 hlf
      generalize hA : (aB α).take b = A at hτ ih2 htl
      have hC : (aB (sB α (A ++ x :: Z)))[b]? = some x := by
        rw [aB_sB, List.getElem?_append_right (by omega), htl, Nat.sub_self]; rfl
      have e4 := (hτ.b.2 b x hC).2.2.2.1
      have hlC : (aB (sB α (A ++ x :: Z))).length ≤ 16 := by
        rw [aB_sB, List.length_append, htl, List.length_cons]
        omega
      have hbl : b < (aB (sB α (A ++ x :: Z))).length := (List.getElem?_eq_some_iff.mp hC).1
      have her : (aB (sB α (A ++ x :: Z))).eraseIdx b = A ++ Z := by
        rw [aB_sB]
        have := er_mid A Z x
        rw [htl] at this
        exact this
      refine hm_iload_n dX5_goOrStay_7 rfl ?_
      refine hm_if_lt 33 dX5_goOrStay_8 (by decide) (fun h8 => absurd h8 (nI_pos (by omega))) (fun _ => ?_)
      refine hm_aload_n dX5_goOrStay_11 rfl ?_
      refine hm_getR lf_RX5_51 rfl rfl (by first | exact Nat.lt_of_lt_of_le (by decide) hN | assumption | (simp only [hm_n_wI, hm_n_wL, hm_n_wR, hm_n_g] at *; omega)) (hM 16) dX5_goOrStay_12 ?_
      refine hm_iload_n dX5_goOrStay_15 rfl ?_
      refine hm_iald _ rfl (by first | exact Nat.lt_of_lt_of_le (by decide) hN | assumption | (simp only [hm_n_wI, hm_n_wL, hm_n_wR, hm_n_g] at *; omega)) rfl (by omega) (by decide) dX5_goOrStay_16 ?_
      rw [e4]
      refine hm_bipush dX5_goOrStay_17 (v := 8) (by decide) ?_
      refine hm_icmp_lt 27 dX5_goOrStay_19 (by decide) (fun h19 => ?_) (fun h19 => ?_)
      · skip
        refine hm_iinc dX5_goOrStay_27 rfl _ rfl (by decide) rfl ?_
        refine hm_goto 7 dX5_goOrStay_30 (by decide) ?_
        first | (refine ih2 _ _ (by omega) ?_ (hf.tr hf2) (hm_m1 _); rw [if_neg (by simpa using h19)]; exact hρ) | (refine ih2 _ _ (by omega) ?_ hf (hm_m1 _); rw [if_pos (by simpa using h19)]; exact hτ)
      · skip
        refine hm_aload_n dX5_goOrStay_22 rfl ?_
        refine hm_iload_n dX5_goOrStay_23 rfl ?_
        refine hm_callV lm_RX5_112 (r5_dropBearer l hτ hlC hbl) rfl rfl rfl rfl (by first | exact Nat.lt_of_lt_of_le (by decide) hN | assumption | (simp only [hm_n_wI, hm_n_wL, hm_n_wR, hm_n_g] at *; omega)) (by decide) (by decide) (Nat.le_of_ble_eq_true rfl) dX5_goOrStay_24 ?_
        rintro _ ρ ⟨rfl, hρ, hf2⟩
        rw [her] at hρ
        obtain ⟨hN, hM⟩ := hρ.m
        refine hm_iinc dX5_goOrStay_27 rfl _ rfl (by decide) rfl ?_
        refine hm_goto 7 dX5_goOrStay_30 (by decide) ?_
        first | (refine ih2 _ _ (by omega) ?_ (hf.tr hf2) (hm_m1 _); rw [if_neg (by simpa using h19)]; exact hρ) | (refine ih2 _ _ (by omega) ?_ hf (hm_m1 _); rw [if_pos (by simpa using h19)]; exact hτ)
  refine hm_aload_n dX5_goOrStay_0 rfl ?_
  refine hm_getI lf_RX5_109 rfl rfl (by first | exact Nat.lt_of_lt_of_le (by decide) hN | assumption | (simp only [hm_n_wI, hm_n_wL, hm_n_wR, hm_n_g] at *; omega)) dX5_goOrStay_1 ?_
  rw [hb1]
  refine hm_iconst dX5_goOrStay_4 (v := 1) (by decide) ?_
  refine hm_isub dX5_goOrStay_5 ?_
  refine hm_istore_n dX5_goOrStay_6 (by decide) rfl ?_
  exact hl1 (aB α).length _ _ (Nat.le_refl _) (by rw [List.take_length, List.drop_length, List.filter_nil, List.append_nil]; exact h.mid _ rfl) (md_fr.rf σ) rfl
end M10
end
section
/-! the reference: a call goes on; voice -/
theorem cmp_0 (x y : Int64) : lg_cmp x y = 0 ↔ x = y := by
  unfold lg_cmp
  by_cases h1 : y < x
  · simp [h1]
    rintro rfl
    exact absurd h1 (Int64.lt_irrefl)
  · by_cases h2 : x = y
    · simp [h2, Int64.lt_irrefl]
    · simp [h1, h2]
theorem ixm (m a : Nat) : nI m * nI a = nI (m * a) := pk_mul m a
theorem ix8 (a b : Nat) : (8 : Int32) * nI a + nI b = nI (8 * a + b) := by rw [show (8 : Int32) = nI 8 from rfl, pk_mul, nI_add]
theorem ix16 (a b : Nat) : (16 : Int32) * nI a + nI b = nI (16 * a + b) := by rw [show (16 : Int32) = nI 16 from rfl, pk_mul, nI_add]
theorem ix20 (a b : Nat) : (20 : Int32) * nI a + nI b = nI (20 * a + b) := by rw [show (20 : Int32) = nI 20 from rfl, pk_mul, nI_add]
theorem rM.newQ {α β : sA} {σ τ : hm_M} (h : rM α σ) (hN : aN β = aN α) (hI : aI β = aI α) (hL : aL β = aL α) (hB : aB β = aB α) (h1 : ∀ a k, a ≠ 43 → a ≠ 45 → hm_I τ a k = hm_I σ a k) (h2 : ∀ a k, a ≠ 44 → a ≠ 46 → a ≠ 48 → hm_L τ a k = hm_L σ a k) (h3 : hm_R τ = hm_R σ) (h4 : hm_n τ = hm_n σ) (h5 : md_Q β τ) : rM β τ := by
  refine ⟨⟨by rw [h4]; exact h.m.1, fun k => by rw [h3]; exact h.m.2 k⟩, fun f i hi => ?_, fun f i hi => ?_, fun f i hi => ?_, ⟨?_, fun b x hb => ?_⟩, h5⟩
  · obtain ⟨-, -, -, -, -, s6, s7, -⟩ := md_lN_sc hi
    rw [h1 _ _ s6 s7, hN]; exact h.n f i hi
  · obtain ⟨-, -, -, -, -, s6, s7, -⟩ := md_lI_sc hi
    rw [h1 _ _ s6 s7, hI]; exact h.i f i hi
  · obtain ⟨-, -, -, -, -, -, -, s8, s9, s10, -⟩ := md_lL_sc hi
    rw [h2 _ _ s8 s9 s10, hL]; exact h.l f i hi
  · rw [h1 _ _ (by omega) (by omega), hB]; exact h.b.1
  · rw [hB] at hb
    obtain ⟨e1, e2, e3, e4, e5⟩ := h.b.2 b x hb
    rw [h1 _ _ (by omega) (by omega), h1 _ _ (by omega) (by omega), h1 _ _ (by omega) (by omega), h1 _ _ (by omega) (by omega), h1 _ _ (by omega) (by omega)]
    exact ⟨e1, e2, e3, e4, e5⟩
section M11
variable (l : Launch) {α : sA} {σ : hm_M}
set_option maxRecDepth 100000 in
set_option maxHeartbeats 4000000 in
theorem r5_callOf (h : rM α σ) (w : sW α) {p : Nat} (hp : p < nPort α) (hbg : aI α 1 p = 2 ∨ aI α 1 p = 5 → hm_I σ 50 p = aI α 1 p) : hm_Ct l yX5_callOf cX5_callOf 4 none 3 0 0 [.ref 27, .int (nI p)] σ (fun r τ => r = none ∧ rM (pCall α p) τ ∧ md_fr σ τ) := by
  obtain ⟨hN, hM⟩ := h.m
  have h8 := w.p8
  have hp8 : p < 8 := by omega
  have e1 : hm_I σ 33 p = aI α 1 p := h.i 1 p hp8
  have e2 : hm_L σ 30 p = aL α 0 p := h.l 0 p hp8
  have e3 : hm_L σ 32 p = aL α 1 p := h.l 1 p hp8
  have e4 : hm_I σ 27 26 = nI (aN α 6 0) := h.n 6 0 (by decide)
  refine hm_startQ (ini := false) [.ref 27, .int (nI p), hm_u, hm_u] (by decide) (by decide) rfl (Nat.le_of_ble_eq_true rfl) (fun Q hQ => ?_)
  have j57 : pGood α p = true → (aI α 1 p = 2 ∨ aI α 1 p = 5) → hm_V l RX5 cX5_callOf 4 none false (hm_rm 3 0 0) 0 0 Q 0 0 57 [.ref 27, .int (nI p), .int (aI α 1 p), hm_u] [] σ := by
    intro hg hs
    have hs0 : aI α 1 p ≠ 0 := by rcases hs with e | e <;> rw [e] <;> decide
    obtain ⟨hq, hne, hpar, hen, -⟩ := w.par hp hs0
    have hr3 := h.upI 1 p 3 hp8
    have w3 := w.mv hp hs0 (v := 3) (by decide)
    have e5 : hm_I σ 34 p = nI (pPar α p) := (h.i 2 p hp8).trans hpar
    have e6 : hm_I (hm_wI σ 33 p 3) 33 (pPar α p) = aI α 1 (pPar α p) := (hr3.i 1 (pPar α p) (by show pPar α p < 8; omega)).trans (by rw [aI_sI, if_neg (fun q => hne q.2)])
    have e7 : hm_I (hm_wI σ 33 p 3) 31 (pPar α p) = aI α 0 (pPar α p) := hr3.i 0 (pPar α p) (by show pPar α p < 8; omega)
    have n51 : ¬ aI α 1 p = 1 := by rcases hs with e | e <;> rw [e] <;> decide
    have n54 : ¬ aI α 1 p = 4 := by rcases hs with e | e <;> rw [e] <;> decide
    refine hm_aload_n dX5_callOf_57 rfl ?_
    refine hm_aload_n dX5_callOf_58 rfl ?_
    refine hm_getR lf_RX5_16 rfl rfl (by first | exact Nat.lt_of_lt_of_le (by decide) hN | assumption | (simp only [hm_n_wI, hm_n_wL, hm_n_wR, hm_n_g] at *; omega)) (hM 4) dX5_callOf_59 ?_
    refine hm_iload_n dX5_callOf_62 rfl ?_
    refine hm_lald _ rfl (by first | exact Nat.lt_of_lt_of_le (by decide) hN | assumption | (simp only [hm_n_wI, hm_n_wL, hm_n_wR, hm_n_g] at *; omega)) rfl (by omega) (by decide) dX5_callOf_63 ?_
    rw [e2]
    refine hm_aload_n dX5_callOf_64 rfl ?_
    refine hm_getI lf_RX5_103 rfl rfl (by first | exact Nat.lt_of_lt_of_le (by decide) hN | assumption | (simp only [hm_n_wI, hm_n_wL, hm_n_wR, hm_n_g] at *; omega)) dX5_callOf_65 ?_
    rw [e4]
    refine hm_i2l dX5_callOf_68 ?_
    refine hm_callV lm_RX5_175 (r5_mix l _ _ _) rfl rfl rfl rfl (by first | exact Nat.lt_of_lt_of_le (by decide) hN | assumption | (simp only [hm_n_wI, hm_n_wL, hm_n_wR, hm_n_g] at *; omega)) (by decide) (by decide) (Nat.le_of_ble_eq_true rfl) dX5_callOf_69 ?_
    rintro _ t9 ⟨rfl, hh9⟩
    rw [hh9]
    clear hh9 t9
    refine hm_aload_n dX5_callOf_72 rfl ?_
    refine hm_aload_n dX5_callOf_73 rfl ?_
    refine hm_getR lf_RX5_24 rfl rfl (by first | exact Nat.lt_of_lt_of_le (by decide) hN | assumption | (simp only [hm_n_wI, hm_n_wL, hm_n_wR, hm_n_g] at *; omega)) (hM 6) dX5_callOf_74 ?_
    refine hm_iload_n dX5_callOf_77 rfl ?_
    refine hm_lald _ rfl (by first | exact Nat.lt_of_lt_of_le (by decide) hN | assumption | (simp only [hm_n_wI, hm_n_wL, hm_n_wR, hm_n_g] at *; omega)) rfl (by omega) (by decide) dX5_callOf_78 ?_
    rw [e3]
    refine hm_aload_n dX5_callOf_79 rfl ?_
    refine hm_getI lf_RX5_103 rfl rfl (by first | exact Nat.lt_of_lt_of_le (by decide) hN | assumption | (simp only [hm_n_wI, hm_n_wL, hm_n_wR, hm_n_g] at *; omega)) dX5_callOf_80 ?_
    rw [e4]
    refine hm_i2l dX5_callOf_83 ?_
    refine hm_callV lm_RX5_175 (r5_mix l _ _ _) rfl rfl rfl rfl (by first | exact Nat.lt_of_lt_of_le (by decide) hN | assumption | (simp only [hm_n_wI, hm_n_wL, hm_n_wR, hm_n_g] at *; omega)) (by decide) (by decide) (Nat.le_of_ble_eq_true rfl) dX5_callOf_84 ?_
    rintro _ t9 ⟨rfl, hh9⟩
    rw [hh9]
    clear hh9 t9
    refine hm_lcmp dX5_callOf_87 ?_
    refine hm_if_eq 99 dX5_callOf_88 (by decide) (fun h88 => ?_) (fun h88 => ?_)
    · skip
      rw [cmp_0] at h88
      have hpv : pProven α p = true := by unfold pProven; rw [h88]; simp
      refine hm_iload_n dX5_callOf_99 rfl ?_
      refine hm_iconst dX5_callOf_100 (v := 5) (by decide) ?_
      refine hm_icmp_ne 115 dX5_callOf_101 (by decide) (fun h101 => ?_) (fun h101 => ?_)
      · skip
        have h2 : aI α 1 p = 2 := hs.resolve_right h101
        have hpc : pCall α p = pPage α p := by simp [pCall, hg, h2, hpv]
        rw [pPage] at hpc
        refine hm_aload_n dX5_callOf_115 rfl ?_
        refine hm_getR lf_RX5_30 rfl rfl (by first | exact Nat.lt_of_lt_of_le (by decide) hN | assumption | (simp only [hm_n_wI, hm_n_wL, hm_n_wR, hm_n_g] at *; omega)) (hM 8) dX5_callOf_116 ?_
        refine hm_iload_n dX5_callOf_119 rfl ?_
        refine hm_iald _ rfl (by first | exact Nat.lt_of_lt_of_le (by decide) hN | assumption | (simp only [hm_n_wI, hm_n_wL, hm_n_wR, hm_n_g] at *; omega)) rfl (by omega) (by decide) dX5_callOf_120 ?_
        rw [e5]
        refine hm_istore_n dX5_callOf_121 (by decide) rfl ?_
        refine hm_aload_n dX5_callOf_122 rfl ?_
        refine hm_getR lf_RX5_27 rfl rfl (by first | exact Nat.lt_of_lt_of_le (by decide) hN | assumption | (simp only [hm_n_wI, hm_n_wL, hm_n_wR, hm_n_g] at *; omega)) (hM 7) dX5_callOf_123 ?_
        refine hm_iload_n dX5_callOf_126 rfl ?_
        refine hm_iconst dX5_callOf_127 (v := 3) (by decide) ?_
        refine hm_iast _ rfl (by first | exact Nat.lt_of_lt_of_le (by decide) hN | assumption | (simp only [hm_n_wI, hm_n_wL, hm_n_wR, hm_n_g] at *; omega)) rfl (by omega) (by decide) dX5_callOf_128 ?_
        refine hm_aload_n dX5_callOf_129 rfl ?_
        refine hm_getR lf_RX5_27 rfl rfl (by first | exact Nat.lt_of_lt_of_le (by decide) hN | assumption | (simp only [hm_n_wI, hm_n_wL, hm_n_wR, hm_n_g] at *; omega)) (hM 7) dX5_callOf_130 ?_
        refine hm_iload_n dX5_callOf_133 rfl ?_
        refine hm_iald _ rfl (by first | exact Nat.lt_of_lt_of_le (by decide) hN | assumption | (simp only [hm_n_wI, hm_n_wL, hm_n_wR, hm_n_g] at *; omega)) rfl (by omega) (by decide) dX5_callOf_134 ?_
        rw [e6]
        refine hm_if_ne 174 dX5_callOf_135 (by decide) (fun h135 => ?_) (fun h135 => ?_)
        · skip
          rw [if_neg (by simp [h135])] at hpc
          refine hm_aload_n dX5_callOf_174 rfl ?_
          refine hm_iload_n dX5_callOf_175 rfl ?_
          refine hm_callV lm_RX5_125 (r5_ends l hr3 w3 hp (by rw [aI_sI, if_pos ⟨rfl, rfl⟩]; decide)) rfl rfl rfl rfl (by first | exact Nat.lt_of_lt_of_le (by decide) hN | assumption | (simp only [hm_n_wI, hm_n_wL, hm_n_wR, hm_n_g] at *; omega)) (by decide) (by decide) (Nat.le_of_ble_eq_true rfl) dX5_callOf_176 ?_
          rintro _ ρ ⟨rfl, hρ, hf⟩
          obtain ⟨hN, hM⟩ := hρ.m
          have hfin1 : rM (pCall α p) ρ := by rw [hpc]; exact hρ
          have hfin2 := ((md_fr.rf σ).wI 33 p 3 (by decide)).tr hf
          refine hm_vret dX5_callOf_179 rfl (by decide) (by decide) ?_
          exact hQ _ _ ⟨rfl, hfin1, hfin2⟩
        · skip
          refine hm_aload_n dX5_callOf_138 rfl ?_
          refine hm_getR lf_RX5_20 rfl rfl (by first | exact Nat.lt_of_lt_of_le (by decide) hN | assumption | (simp only [hm_n_wI, hm_n_wL, hm_n_wR, hm_n_g] at *; omega)) (hM 5) dX5_callOf_139 ?_
          refine hm_iload_n dX5_callOf_142 rfl ?_
          refine hm_zald _ rfl (by first | exact Nat.lt_of_lt_of_le (by decide) hN | assumption | (simp only [hm_n_wI, hm_n_wL, hm_n_wR, hm_n_g] at *; omega)) rfl (by omega) (by decide) dX5_callOf_143 ?_
          rw [e7]
          refine hm_if_eq 174 dX5_callOf_144 (by decide) (fun h144 => ?_) (fun h144 => ?_)
          · skip
            rw [if_neg (by simp [h144])] at hpc
            refine hm_aload_n dX5_callOf_174 rfl ?_
            refine hm_iload_n dX5_callOf_175 rfl ?_
            refine hm_callV lm_RX5_125 (r5_ends l hr3 w3 hp (by rw [aI_sI, if_pos ⟨rfl, rfl⟩]; decide)) rfl rfl rfl rfl (by first | exact Nat.lt_of_lt_of_le (by decide) hN | assumption | (simp only [hm_n_wI, hm_n_wL, hm_n_wR, hm_n_g] at *; omega)) (by decide) (by decide) (Nat.le_of_ble_eq_true rfl) dX5_callOf_176 ?_
            rintro _ ρ ⟨rfl, hρ, hf⟩
            obtain ⟨hN, hM⟩ := hρ.m
            have hfin1 : rM (pCall α p) ρ := by rw [hpc]; exact hρ
            have hfin2 := ((md_fr.rf σ).wI 33 p 3 (by decide)).tr hf
            refine hm_vret dX5_callOf_179 rfl (by decide) (by decide) ?_
            exact hQ _ _ ⟨rfl, hfin1, hfin2⟩
          · skip
            rw [if_pos (by simp [h135, h144])] at hpc
            refine hm_aload_n dX5_callOf_147 rfl ?_
            refine hm_getR lf_RX5_27 rfl rfl (by first | exact Nat.lt_of_lt_of_le (by decide) hN | assumption | (simp only [hm_n_wI, hm_n_wL, hm_n_wR, hm_n_g] at *; omega)) (hM 7) dX5_callOf_148 ?_
            refine hm_iload_n dX5_callOf_151 rfl ?_
            refine hm_iconst dX5_callOf_152 (v := 4) (by decide) ?_
            refine hm_iast _ rfl (by first | exact Nat.lt_of_lt_of_le (by decide) hN | assumption | (simp only [hm_n_wI, hm_n_wL, hm_n_wR, hm_n_g] at *; omega)) rfl (by omega) (by decide) dX5_callOf_153 ?_
            refine hm_aload_n dX5_callOf_154 rfl ?_
            refine hm_getR lf_RX5_30 rfl rfl (by first | exact Nat.lt_of_lt_of_le (by decide) hN | assumption | (simp only [hm_n_wI, hm_n_wL, hm_n_wR, hm_n_g] at *; omega)) (hM 8) dX5_callOf_155 ?_
            refine hm_iload_n dX5_callOf_158 rfl ?_
            refine hm_iload_n dX5_callOf_159 rfl ?_
            refine hm_iast _ rfl (by first | exact Nat.lt_of_lt_of_le (by decide) hN | assumption | (simp only [hm_n_wI, hm_n_wL, hm_n_wR, hm_n_g] at *; omega)) rfl (by omega) (by decide) dX5_callOf_160 ?_
            refine hm_aload_n dX5_callOf_161 rfl ?_
            refine hm_getR lf_RX5_33 rfl rfl (by first | exact Nat.lt_of_lt_of_le (by decide) hN | assumption | (simp only [hm_n_wI, hm_n_wL, hm_n_wR, hm_n_g] at *; omega)) (hM 9) dX5_callOf_162 ?_
            refine hm_iload_n dX5_callOf_165 rfl ?_
            refine hm_aload_n dX5_callOf_166 rfl ?_
            refine hm_getI lf_RX5_103 rfl rfl (by first | exact Nat.lt_of_lt_of_le (by decide) hN | assumption | (simp only [hm_n_wI, hm_n_wL, hm_n_wR, hm_n_g] at *; omega)) dX5_callOf_167 ?_
            simp only [hm_I_wI, e4, Nat.reduceEqDiff, false_and, reduceIte]
            refine hm_iast _ rfl (by first | exact Nat.lt_of_lt_of_le (by decide) hN | assumption | (simp only [hm_n_wI, hm_n_wL, hm_n_wR, hm_n_g] at *; omega)) rfl (by omega) (by decide) dX5_callOf_170 ?_
            have hfin1 := ((hr3.upI 1 (pPar α p) 4 (by show pPar α p < 8; omega)).upI 2 (pPar α p) (nI p) (by show pPar α p < 8; omega)).upI 3 (pPar α p) (nI (aN α 6 0)) (by show pPar α p < 8; omega)
            rw [← hpc] at hfin1
            have hfin2 := ((((md_fr.rf σ).wI 33 p 3 (by decide)).wI 33 (pPar α p) 4 (by decide)).wI 34 (pPar α p) (nI p) (by decide)).wI 35 (pPar α p) (nI (aN α 6 0)) (by decide)
            refine hm_goto 179 dX5_callOf_171 (by decide) ?_
            refine hm_vret dX5_callOf_179 rfl (by decide) (by decide) ?_
            exact hQ _ _ ⟨rfl, hfin1, hfin2⟩
      · skip
        refine hm_aload_n dX5_callOf_104 rfl ?_
        refine hm_getR lf_RX5_27 rfl rfl (by first | exact Nat.lt_of_lt_of_le (by decide) hN | assumption | (simp only [hm_n_wI, hm_n_wL, hm_n_wR, hm_n_g] at *; omega)) (hM 7) dX5_callOf_105 ?_
        refine hm_iload_n dX5_callOf_108 rfl ?_
        refine hm_bipush dX5_callOf_109 (v := 6) (by decide) ?_
        refine hm_iast _ rfl (by first | exact Nat.lt_of_lt_of_le (by decide) hN | assumption | (simp only [hm_n_wI, hm_n_wL, hm_n_wR, hm_n_g] at *; omega)) rfl (by omega) (by decide) dX5_callOf_111 ?_
        have hfin1 : rM (pCall α p) (hm_wI σ 33 p 6) := by rw [show pCall α p = sI α 1 p 6 by simp [pCall, hg, h101, hpv]]; exact h.upI 1 p 6 hp8
        have hfin2 : md_fr σ (hm_wI σ 33 p 6) := (md_fr.rf σ).wI 33 p 6 (by decide)
        refine hm_goto 179 dX5_callOf_112 (by decide) ?_
        refine hm_vret dX5_callOf_179 rfl (by decide) (by decide) ?_
        exact hQ _ _ ⟨rfl, hfin1, hfin2⟩
    · skip
      rw [cmp_0] at h88
      have hpv : pProven α p = false := by unfold pProven; simpa using h88
      refine hm_aload_n dX5_callOf_91 rfl ?_
      refine hm_iload_n dX5_callOf_92 rfl ?_
      refine hm_callV lm_RX5_125 (r5_ends l h w hp hs0) rfl rfl rfl rfl (by first | exact Nat.lt_of_lt_of_le (by decide) hN | assumption | (simp only [hm_n_wI, hm_n_wL, hm_n_wR, hm_n_g] at *; omega)) (by decide) (by decide) (Nat.le_of_ble_eq_true rfl) dX5_callOf_93 ?_
      rintro _ ρ ⟨rfl, hρ, hf⟩
      obtain ⟨hN, hM⟩ := hρ.m
      have hc : pCall α p = pEnds α p := by rcases hs with e | e <;> simp [pCall, hg, e, hpv]
      have hfin1 : rM (pCall α p) ρ := by rw [hc]; exact hρ
      have hfin2 := hf
      refine hm_goto 179 dX5_callOf_96 (by decide) ?_
      refine hm_vret dX5_callOf_179 rfl (by decide) (by decide) ?_
      exact hQ _ _ ⟨rfl, hfin1, hfin2⟩
  refine hm_aload_n dX5_callOf_0 rfl ?_
  refine hm_iload_n dX5_callOf_1 rfl ?_
  refine hm_callV lm_RX5_172 (r5_isGood l h w hp8) rfl rfl rfl rfl (by first | exact Nat.lt_of_lt_of_le (by decide) hN | assumption | (simp only [hm_n_wI, hm_n_wL, hm_n_wR, hm_n_g] at *; omega)) (by decide) (by decide) (Nat.le_of_ble_eq_true rfl) dX5_callOf_2 ?_
  rintro _ t9 ⟨rfl, hh9⟩
  rw [hh9]
  clear hh9 t9
  refine hm_if_ne 9 dX5_callOf_5 (by decide) (fun h5 => ?_) (fun h5 => ?_)
  · skip
    rw [bI_0] at h5
    have hg : pGood α p = true := b_nf h5
    refine hm_aload_n dX5_callOf_9 rfl ?_
    refine hm_getR lf_RX5_27 rfl rfl (by first | exact Nat.lt_of_lt_of_le (by decide) hN | assumption | (simp only [hm_n_wI, hm_n_wL, hm_n_wR, hm_n_g] at *; omega)) (hM 7) dX5_callOf_10 ?_
    refine hm_iload_n dX5_callOf_13 rfl ?_
    refine hm_iald _ rfl (by first | exact Nat.lt_of_lt_of_le (by decide) hN | assumption | (simp only [hm_n_wI, hm_n_wL, hm_n_wR, hm_n_g] at *; omega)) rfl (by omega) (by decide) dX5_callOf_14 ?_
    rw [e1]
    refine hm_istore_n dX5_callOf_15 (by decide) rfl ?_
    refine hm_iload_n dX5_callOf_16 rfl ?_
    refine hm_iconst dX5_callOf_17 (v := 1) (by decide) ?_
    refine hm_icmp_eq 26 dX5_callOf_18 (by decide) (fun h18 => ?_) (fun h18 => ?_)
    · skip
      have hc : pCall α p = sI α 1 p (aI α 1 p + 1) := by simp [pCall, hg, h18]
      refine hm_aload_n dX5_callOf_26 rfl ?_
      refine hm_getR lf_RX5_27 rfl rfl (by first | exact Nat.lt_of_lt_of_le (by decide) hN | assumption | (simp only [hm_n_wI, hm_n_wL, hm_n_wR, hm_n_g] at *; omega)) (hM 7) dX5_callOf_27 ?_
      refine hm_iload_n dX5_callOf_30 rfl ?_
      refine hm_iload_n dX5_callOf_31 rfl ?_
      refine hm_iconst dX5_callOf_32 (v := 1) (by decide) ?_
      refine hm_iadd dX5_callOf_33 ?_
      refine hm_iast _ rfl (by first | exact Nat.lt_of_lt_of_le (by decide) hN | assumption | (simp only [hm_n_wI, hm_n_wL, hm_n_wR, hm_n_g] at *; omega)) rfl (by omega) (by decide) dX5_callOf_34 ?_
      refine hm_vret dX5_callOf_35 rfl (by decide) (by decide) ?_
      exact hQ _ _ ⟨rfl, by rw [hc]; exact h.upI 1 p _ hp8, (md_fr.rf σ).wI 33 p _ (by decide)⟩
    · skip
      refine hm_iload_n dX5_callOf_21 rfl ?_
      refine hm_iconst dX5_callOf_22 (v := 4) (by decide) ?_
      refine hm_icmp_ne 36 dX5_callOf_23 (by decide) (fun h23 => ?_) (fun h23 => ?_)
      · skip
        refine hm_iload_n dX5_callOf_36 rfl ?_
        refine hm_iconst dX5_callOf_37 (v := 2) (by decide) ?_
        refine hm_icmp_eq 46 dX5_callOf_38 (by decide) (fun h38 => ?_) (fun h38 => ?_)
        · skip
          refine hm_aload_n dX5_callOf_46 rfl ?_
          refine hm_getR lf_RX5_78 rfl rfl (by first | exact Nat.lt_of_lt_of_le (by decide) hN | assumption | (simp only [hm_n_wI, hm_n_wL, hm_n_wR, hm_n_g] at *; omega)) (hM 33) dX5_callOf_47 ?_
          refine hm_iload_n dX5_callOf_50 rfl ?_
          have hb := hbg (by first | exact Or.inl h38 | exact Or.inr h43)
          refine hm_iald _ rfl (by first | exact Nat.lt_of_lt_of_le (by decide) hN | assumption | (simp only [hm_n_wI, hm_n_wL, hm_n_wR, hm_n_g] at *; omega)) rfl (by omega) (by decide) dX5_callOf_51 ?_
          rw [hb]
          refine hm_iload_n dX5_callOf_52 rfl ?_
          refine hm_icmp_eq 57 dX5_callOf_53 (by decide) (fun _ => ?_) (fun h53 => absurd (rfl) h53)
          exact j57 hg (by first | exact Or.inl h38 | exact Or.inr h43)
        · skip
          refine hm_iload_n dX5_callOf_41 rfl ?_
          refine hm_iconst dX5_callOf_42 (v := 5) (by decide) ?_
          refine hm_icmp_ne 56 dX5_callOf_43 (by decide) (fun h43 => ?_) (fun h43 => ?_)
          · skip
            refine hm_vret dX5_callOf_56 rfl (by decide) (by decide) ?_
            exact hQ _ _ ⟨rfl, by rw [show pCall α p = α by simp [pCall, h18, h23, h38, h43]]; exact h, md_fr.rf σ⟩
          · skip
            refine hm_aload_n dX5_callOf_46 rfl ?_
            refine hm_getR lf_RX5_78 rfl rfl (by first | exact Nat.lt_of_lt_of_le (by decide) hN | assumption | (simp only [hm_n_wI, hm_n_wL, hm_n_wR, hm_n_g] at *; omega)) (hM 33) dX5_callOf_47 ?_
            refine hm_iload_n dX5_callOf_50 rfl ?_
            have hb := hbg (by first | exact Or.inl h38 | exact Or.inr h43)
            refine hm_iald _ rfl (by first | exact Nat.lt_of_lt_of_le (by decide) hN | assumption | (simp only [hm_n_wI, hm_n_wL, hm_n_wR, hm_n_g] at *; omega)) rfl (by omega) (by decide) dX5_callOf_51 ?_
            rw [hb]
            refine hm_iload_n dX5_callOf_52 rfl ?_
            refine hm_icmp_eq 57 dX5_callOf_53 (by decide) (fun _ => ?_) (fun h53 => absurd (rfl) h53)
            exact j57 hg (by first | exact Or.inl h38 | exact Or.inr h43)
      · skip
        have hc : pCall α p = sI α 1 p (aI α 1 p + 1) := by simp [pCall, hg, h23]
        refine hm_aload_n dX5_callOf_26 rfl ?_
        refine hm_getR lf_RX5_27 rfl rfl (by first | exact Nat.lt_of_lt_of_le (by decide) hN | assumption | (simp only [hm_n_wI, hm_n_wL, hm_n_wR, hm_n_g] at *; omega)) (hM 7) dX5_callOf_27 ?_
        refine hm_iload_n dX5_callOf_30 rfl ?_
        refine hm_iload_n dX5_callOf_31 rfl ?_
        refine hm_iconst dX5_callOf_32 (v := 1) (by decide) ?_
        refine hm_iadd dX5_callOf_33 ?_
        refine hm_iast _ rfl (by first | exact Nat.lt_of_lt_of_le (by decide) hN | assumption | (simp only [hm_n_wI, hm_n_wL, hm_n_wR, hm_n_g] at *; omega)) rfl (by omega) (by decide) dX5_callOf_34 ?_
        refine hm_vret dX5_callOf_35 rfl (by decide) (by decide) ?_
        exact hQ _ _ ⟨rfl, by rw [hc]; exact h.upI 1 p _ hp8, (md_fr.rf σ).wI 33 p _ (by decide)⟩
  · skip
    rw [bI_0] at h5
    refine hm_vret dX5_callOf_8 rfl (by decide) (by decide) ?_
    exact hQ _ _ ⟨rfl, by rw [show pCall α p = α by simp [pCall, h5]]; exact h, md_fr.rf σ⟩
theorem rM.popQ {α : sA} {σ τ : hm_M} (h : rM α σ) (w : sW α) {p : Nat} {t : List Int64} (h1 : ∀ a k, ¬ (a = 43 ∧ k = p) → hm_I τ a k = hm_I σ a k) (h2 : ∀ a k, ¬ (a = 44 ∧ 8 * p ≤ k ∧ k < 8 * p + 8) → hm_L τ a k = hm_L σ a k) (h3 : hm_R τ = hm_R σ) (h4 : hm_n τ = hm_n σ) (e1 : hm_I τ 43 p = nI t.length) (e2 : ∀ k v, t[k]? = some v → hm_L τ 44 (8 * p + k) = v) : rM (sQ α 0 p t) τ := by
  refine h.newQ rfl rfl rfl rfl (fun a k g1 _ => h1 a k (fun q => g1 q.1)) (fun a k g1 _ _ => h2 a k (fun q => g1 q.1)) h3 h4 (fun q hq => ?_)
  obtain ⟨c1, c2, c3, c4, c5⟩ := h.q q hq
  have hl8 := (w.q q).1
  rw [aQ_sQ, aQ_sQ, aQ_sQ, if_neg (by omega : ¬ (1 = 0 ∧ q = p)), if_neg (by omega : ¬ (2 = 0 ∧ q = p))]
  by_cases e : q = p
  · subst e
    rw [if_pos ⟨rfl, rfl⟩, h1 45 q (by omega)]
    exact ⟨e1, c2, e2, fun k v hv => by rw [h2 _ _ (by omega)]; exact c4 k v hv, fun k v hv => by rw [h2 _ _ (by omega)]; exact c5 k v hv⟩
  · rw [if_neg (fun q' => e q'.2), h1 43 q (by omega), h1 45 q (by omega)]
    refine ⟨c1, c2, fun k v hv => ?_, fun k v hv => by rw [h2 _ _ (by omega)]; exact c4 k v hv, fun k v hv => by rw [h2 _ _ (by omega)]; exact c5 k v hv⟩
    have := (List.getElem?_eq_some_iff.mp hv).1
    rw [h2 _ _ (by omega)]
    exact c3 k v hv
theorem rM.newW {α : sA} {σ τ : hm_M} (h : rM α σ) (w : sW α) {p : Nat} {t : List Int64} (h1 : ∀ a k, ¬ (a = 45 ∧ k = p) → hm_I τ a k = hm_I σ a k) (h2 : ∀ a k, ¬ (a = 46 ∧ 16 * p ≤ k ∧ k < 16 * p + 16) → hm_L τ a k = hm_L σ a k) (h3 : hm_R τ = hm_R σ) (h4 : hm_n τ = hm_n σ) (e1 : hm_I τ 45 p = nI t.length) (e2 : ∀ k v, t[k]? = some v → hm_L τ 46 (16 * p + k) = v) : rM (sQ α 1 p t) τ := by
  refine h.newQ rfl rfl rfl rfl (fun a k _ g1 => h1 a k (fun q => g1 q.1)) (fun a k _ g1 _ => h2 a k (fun q => g1 q.1)) h3 h4 (fun q hq => ?_)
  obtain ⟨c1, c2, c3, c4, c5⟩ := h.q q hq
  have hl8 := (w.q q).2.1
  rw [aQ_sQ, aQ_sQ, aQ_sQ, if_neg (by omega : ¬ (0 = 1 ∧ q = p)), if_neg (by omega : ¬ (2 = 1 ∧ q = p))]
  by_cases e : q = p
  · subst e
    rw [if_pos ⟨rfl, rfl⟩, h1 43 q (by omega)]
    exact ⟨c1, e1, fun k v hv => by rw [h2 _ _ (by omega)]; exact c3 k v hv, e2, fun k v hv => by rw [h2 _ _ (by omega)]; exact c5 k v hv⟩
  · rw [if_neg (fun q' => e q'.2), h1 43 q (by omega), h1 45 q (by omega)]
    refine ⟨c1, c2, fun k v hv => by rw [h2 _ _ (by omega)]; exact c3 k v hv, fun k v hv => ?_, fun k v hv => by rw [h2 _ _ (by omega)]; exact c5 k v hv⟩
    have := (List.getElem?_eq_some_iff.mp hv).1
    rw [h2 _ _ (by omega)]
    exact c4 k v hv
/-- the latest blocks, and how many -/
theorem rM.newK {α : sA} {σ τ : hm_M} (h : rM α σ) (w : sW α) {p : Nat} {t : List Int64} {n : Nat} (hp : p < 8) (h1 : ∀ a k, ¬ (a = 47 ∧ k = p) → hm_I τ a k = hm_I σ a k) (h2 : ∀ a k, ¬ (a = 48 ∧ 20 * p ≤ k ∧ k < 20 * p + 20) → hm_L τ a k = hm_L σ a k) (h3 : hm_R τ = hm_R σ) (h4 : hm_n τ = hm_n σ) (e1 : hm_I τ 47 p = nI n) (e2 : ∀ k v, t[k]? = some v → hm_L τ 48 (20 * p + k) = v) : rM (sN (sQ α 2 p t) 7 p n) τ := by
  have hr : rM (sQ α 2 p t) (hm_wI τ 47 p (hm_I σ 47 p)) := by
    refine h.newQ rfl rfl rfl rfl (fun a k _ _ => ?_) (fun a k _ _ g1 => h2 a k (fun q => g1 q.1)) h3 h4 (fun q hq => ?_)
    · rw [hm_I_wI]
      split
      · rename_i q; rw [q.1, q.2]
      · rename_i q; exact h1 a k q
    · obtain ⟨c1, c2, c3, c4, c5⟩ := h.q q hq
      have hl8 := (w.q q).2.2.1
      rw [aQ_sQ, aQ_sQ, aQ_sQ, if_neg (by omega : ¬ (0 = 2 ∧ q = p)), if_neg (by omega : ¬ (1 = 2 ∧ q = p)), hm_I_wI, if_neg (by omega), hm_I_wI, if_neg (by omega), h1 43 q (by omega), h1 45 q (by omega)]
      refine ⟨c1, c2, fun k v hv => by show hm_L τ _ _ = _; rw [h2 _ _ (by omega)]; exact c3 k v hv, fun k v hv => by show hm_L τ _ _ = _; rw [h2 _ _ (by omega)]; exact c4 k v hv, fun k v hv => ?_⟩
      show hm_L τ _ _ = _
      by_cases e : q = p
      · subst e
        rw [if_pos ⟨rfl, rfl⟩] at hv
        exact e2 k v hv
      · rw [if_neg (fun q' => e q'.2)] at hv
        have := (List.getElem?_eq_some_iff.mp hv).1
        rw [h2 _ _ (by omega)]
        exact c5 k v hv
  have h9 := hr.upN 7 p n hp
  have e : hm_wI (hm_wI τ 47 p (hm_I σ 47 p)) (md_lN 7 p).1 (md_lN 7 p).2 (nI n) = τ := by
    show hm_wI (hm_wI τ 47 p (hm_I σ 47 p)) 47 p (nI n) = τ
    obtain ⟨τ1, τ2⟩ := τ
    unfold hm_wI
    refine Prod.ext (funext fun a => funext fun k => ?_) rfl
    show (if a = 47 ∧ k = p then nI n else if a = 47 ∧ k = p then _ else τ1 a k) = τ1 a k
    by_cases q : a = 47 ∧ k = p
    · rw [if_pos q, q.1, q.2]; exact e1.symm
    · rw [if_neg q, if_neg q]
  rw [e] at h9
  exact h9
end M11
end
section
/-! the reference: a block goes up, a block goes down -/
section M12
variable (l : Launch) {α : sA} {σ : hm_M}
set_option maxRecDepth 100000 in
set_option maxHeartbeats 4000000 in
theorem r5_up (h : rM α σ) (w : sW α) {p : Nat} (hp : p < nPort α) : hm_Ct l yX5_up cX5_up 4 none 1 0 0 [.ref 27, .int (nI p)] σ (fun r τ => r = none ∧ rM (pUp α p) τ ∧ md_fr σ τ) := by
  obtain ⟨hN, hM⟩ := h.m
  have h8 := w.p8
  have hp8 : p < 8 := by omega
  have e1 : hm_I σ 33 p = aI α 1 p := h.i 1 p hp8
  obtain ⟨c1, c2, c3, c4, c5⟩ := h.q p hp8
  have hl8 := (w.q p).1
  have q0 : nI (aQ α 0 p).length = 0 ↔ (aQ α 0 p).length = 0 := nI_0' (by omega)
  have e2 : hm_L σ 30 p = aL α 0 p := h.l 0 p hp8
  have e4 : hm_I σ 27 26 = nI (aN α 6 0) := h.n 6 0 (by decide)
  refine hm_startQ (ini := false) [.ref 27, .int (nI p), hm_u, hm_u] (by decide) (by decide) rfl (Nat.le_of_ble_eq_true rfl) (fun Q hQ => ?_)
  have j29 : aI α 1 p = 7 → pGood α p = true → ∀ v t, aQ α 0 p = v :: t → hm_V l RX5 cX5_up 4 none false (hm_rm 1 0 0) 0 0 Q 0 0 29 [.ref 27, .int (nI p), hm_u, hm_u] [] σ := by
    intro hs hg v t hq
    obtain ⟨hq8, hne, hpar, hen, -⟩ := w.par hp (by rw [hs]; decide)
    rw [hq, List.length_cons] at hl8
    have e5 : hm_I σ 34 p = nI (pPar α p) := (h.i 2 p hp8).trans hpar
    have e6 : hm_L σ 44 (8 * p) = v := c3 0 v (by rw [hq]; rfl)
    have e7 : hm_I σ 43 p = nI (t.length + 1) := by rw [c1, hq]; rfl
    have hr1 : rM (sL α 2 0 (pUpB α p v)) (hm_wL σ 27 24 (pUpB α p v)) := h.upL 2 0 _ (by decide)
    have w1 := w.L 2 0 (pUpB α p v) (by omega)
    have w2 : sW (sI (sQ (sL α 2 0 (pUpB α p v)) 0 p t) 4 4 (aI α 4 4 + 1)) := (w1.Q 0 p t (Or.inl ⟨rfl, by omega⟩) hp).cnt 4 4 (by omega) _
    have hfin : ∀ τ, rM (sI (sQ (sL α 2 0 (pUpB α p v)) 0 p t) 4 4 (aI α 4 4 + 1)) τ → md_fr σ τ → ¬ (aQ α 1 (pPar α p)).length < 16 → Q none τ := fun τ hτ hf hn => by
      refine hQ _ _ ⟨rfl, ?_, hf⟩
      unfold pUp
      rw [if_pos (by simp [hs, hg]), hq]
      dsimp only
      rw [if_neg hn]
      exact hτ
    have hfin2 : ∀ τ, rM (sQ (sI (sQ (sL α 2 0 (pUpB α p v)) 0 p t) 4 4 (aI α 4 4 + 1)) 1 (pPar α p) (aQ α 1 (pPar α p) ++ [pUpB α p v ^^^ pMix (aL α 1 p) ((nI (aN α 6 0)).toInt64)])) τ → md_fr σ τ → (aQ α 1 (pPar α p)).length < 16 → Q none τ := fun τ hτ hf hn => by
      refine hQ _ _ ⟨rfl, ?_, hf⟩
      unfold pUp
      rw [if_pos (by simp [hs, hg]), hq]
      dsimp only
      rw [if_pos hn]
      exact hτ
    have hl : ∀ (m k : Nat) (τ : hm_M) (u : Int32), k + m = t.length → u = nI k → (∀ a j, ¬ (a = 43 ∧ j = p) → hm_I τ a j = hm_I σ a j) → (∀ a j, ¬ (a = 44 ∧ 8 * p ≤ j ∧ j < 8 * p + 8) → hm_L τ a j = hm_L (hm_wL σ 27 24 (pUpB α p v)) a j) → hm_R τ = hm_R σ → hm_n τ = hm_n σ → hm_I τ 43 p = nI t.length → (∀ j x, j < k → t[j]? = some x → hm_L τ 44 (8 * p + j) = x) → (∀ j x, k ≤ j → (v :: t)[j]? = some x → hm_L τ 44 (8 * p + j) = x) → hm_V l RX5 cX5_up 4 none false (hm_rm 1 0 0) 0 0 Q 0 0 77 [.ref 27, .int (nI p), .int (nI (pPar α p)), .int u] [] τ := by
      intro m
      induction m with
      | zero =>
        intro k τ u hk hu i1 i2 i3 i4 i5 i6 i7
        subst hu
        have hN : 52 ≤ hm_n τ := by rw [i4]; exact hN
        have hM : ∀ k, hm_R τ 27 k = md_tab k := fun k => by rw [i3]; exact hM k
        have hr2 : rM (sQ (sL α 2 0 (pUpB α p v)) 0 p t) τ := hr1.popQ w1 i1 i2 i3 i4 i5 (fun j x hj => i6 j x (by have := (List.getElem?_eq_some_iff.mp hj).1; omega) hj)
        have f1 : md_fr σ τ := ⟨i4, i3, fun a j ha => ⟨i1 a j (by omega), (i2 a j (by omega)).trans (by rw [hm_L_wL, if_neg (by omega)])⟩⟩
        have e8 : hm_I τ 27 31 = aI α 4 4 := hr2.i 4 4 (by decide)
        have hr3 : rM (sI (sQ (sL α 2 0 (pUpB α p v)) 0 p t) 4 4 (aI α 4 4 + 1)) (hm_wI τ 27 31 (aI α 4 4 + 1)) := hr2.upI 4 4 _ (by decide)
        have f2 := f1.wI 27 31 (aI α 4 4 + 1) (by decide)
        obtain ⟨d1, d2, d3, d4, d5⟩ := hr3.q (pPar α p) (by omega)
        have d2 : hm_I (hm_wI τ 27 31 (aI α 4 4 + 1)) 45 (pPar α p) = nI (aQ α 1 (pPar α p)).length := d2.trans (by simp [aN_sN, aN_sI, aN_sL, aN_sB, aN_sQ, aI_sN, aI_sI, aI_sL, aI_sB, aI_sQ, aL_sN, aL_sI, aL_sL, aL_sB, aL_sQ, aB_sN, aB_sI, aB_sL, aB_sB, aB_sQ, aQ_sN, aQ_sI, aQ_sL, aQ_sB, aQ_sQ])
        have d6 : hm_L (hm_wI τ 27 31 (aI α 4 4 + 1)) 27 24 = pUpB α p v := (hr3.l 2 0 (by decide)).trans (by simp [aN_sN, aN_sI, aN_sL, aN_sB, aN_sQ, aI_sN, aI_sI, aI_sL, aI_sB, aI_sQ, aL_sN, aL_sI, aL_sL, aL_sB, aL_sQ, aB_sN, aB_sI, aB_sL, aB_sB, aB_sQ, aQ_sN, aQ_sI, aQ_sL, aQ_sB, aQ_sQ])
        have d7 : hm_L (hm_wI τ 27 31 (aI α 4 4 + 1)) 32 p = aL α 1 p := hr3.l 1 p hp8
        have d8 : hm_I (hm_wI τ 27 31 (aI α 4 4 + 1)) 27 26 = nI (aN α 6 0) := hr3.n 6 0 (by decide)
        have hlq := (w.q (pPar α p)).2.1
        have q9 : (16 : Int32) ≤ nI (aQ α 1 (pPar α p)).length ↔ 16 ≤ (aQ α 1 (pPar α p)).length := nI_leI (a := 16) (by decide) (by omega)
        have hlast : (aQ α 1 (pPar α p)).length < 16 → rM (sQ (sI (sQ (sL α 2 0 (pUpB α p v)) 0 p t) 4 4 (aI α 4 4 + 1)) 1 (pPar α p) (aQ α 1 (pPar α p) ++ [pUpB α p v ^^^ pMix (aL α 1 p) ((nI (aN α 6 0)).toInt64)])) (hm_wI (hm_wL (hm_wI τ 27 31 (aI α 4 4 + 1)) 46 (16 * pPar α p + (aQ α 1 (pPar α p)).length) (pUpB α p v ^^^ pMix (aL α 1 p) ((nI (aN α 6 0)).toInt64))) 45 (pPar α p) (nI (aQ α 1 (pPar α p)).length + 1)) := by
          intro hlt
          refine hr3.newW w2 (fun a k g => by rw [hm_I_wI, if_neg g]; rfl) (fun a k g => by show hm_L (hm_wL _ _ _ _) a k = _; rw [hm_L_wL, if_neg (by omega)]) rfl rfl (by rw [hm_I_wI, if_pos ⟨rfl, rfl⟩, List.length_append]; exact nI_1 _) (fun k x hk => ?_)
          show hm_L (hm_wL _ _ _ _) 46 _ = x
          rw [hm_L_wL]
          by_cases e : k < (aQ α 1 (pPar α p)).length
          · rw [List.getElem?_append_left e] at hk
            rw [if_neg (by omega)]
            exact d4 k x (by simpa [aN_sN, aN_sI, aN_sL, aN_sB, aN_sQ, aI_sN, aI_sI, aI_sL, aI_sB, aI_sQ, aL_sN, aL_sI, aL_sL, aL_sB, aL_sQ, aB_sN, aB_sI, aB_sL, aB_sB, aB_sQ, aQ_sN, aQ_sI, aQ_sL, aQ_sB, aQ_sQ] using hk)
          · rw [List.getElem?_append_right (by omega)] at hk
            have hz := (List.getElem?_eq_some_iff.mp hk).1
            have ek : k = (aQ α 1 (pPar α p)).length := by simp at hz; omega
            subst ek
            rw [Nat.sub_self] at hk
            cases hk
            rw [if_pos ⟨rfl, rfl⟩]
        refine hm_iload_n dX5_up_77 rfl ?_
        refine hm_aload_n dX5_up_78 rfl ?_
        refine hm_getR lf_RX5_57 rfl rfl (by first | exact Nat.lt_of_lt_of_le (by decide) hN | assumption | (simp only [hm_n_wI, hm_n_wL, hm_n_wR, hm_n_g] at *; omega)) (hM 18) dX5_up_79 ?_
        refine hm_iload_n dX5_up_82 rfl ?_
        refine hm_iald _ rfl (by first | exact Nat.lt_of_lt_of_le (by decide) hN | assumption | (simp only [hm_n_wI, hm_n_wL, hm_n_wR, hm_n_g] at *; omega)) rfl (by omega) (by decide) dX5_up_83 ?_
        rw [i5]
        refine hm_icmp_ge 117 dX5_up_84 (by decide) (fun _ => ?_) (fun h84 => absurd (nI_le (by omega) (by omega)) h84)
        refine hm_aload_n dX5_up_117 rfl ?_
        refine hm_dup dX5_up_118 rfl ?_
        refine hm_getI lf_RX5_183 rfl rfl (by first | exact Nat.lt_of_lt_of_le (by decide) hN | assumption | (simp only [hm_n_wI, hm_n_wL, hm_n_wR, hm_n_g] at *; omega)) dX5_up_119 ?_
        rw [e8]
        refine hm_iconst dX5_up_122 (v := 1) (by decide) ?_
        refine hm_iadd dX5_up_123 ?_
        refine hm_putI lf_RX5_183 rfl rfl rfl (by first | exact Nat.lt_of_lt_of_le (by decide) hN | assumption | (simp only [hm_n_wI, hm_n_wL, hm_n_wR, hm_n_g] at *; omega)) dX5_up_124 ?_
        refine hm_aload_n dX5_up_127 rfl ?_
        refine hm_getR lf_RX5_63 rfl rfl (by first | exact Nat.lt_of_lt_of_le (by decide) hN | assumption | (simp only [hm_n_wI, hm_n_wL, hm_n_wR, hm_n_g] at *; omega)) (hM 20) dX5_up_128 ?_
        refine hm_iload_n dX5_up_131 rfl ?_
        refine hm_iald _ rfl (by first | exact Nat.lt_of_lt_of_le (by decide) hN | assumption | (simp only [hm_n_wI, hm_n_wL, hm_n_wR, hm_n_g] at *; omega)) rfl (by omega) (by decide) dX5_up_132 ?_
        rw [d2]
        refine hm_bipush dX5_up_133 (v := 16) (by decide) ?_
        refine hm_icmp_ge 184 dX5_up_135 (by decide) (fun h135 => ?_) (fun h135 => ?_)
        · skip
          rw [q9] at h135
          exact hm_vret dX5_up_184 rfl (by decide) (by decide) (hfin _ hr3 f2 (by omega))
        · skip
          rw [q9] at h135
          refine hm_aload_n dX5_up_138 rfl ?_
          refine hm_getR lf_RX5_66 rfl rfl (by first | exact Nat.lt_of_lt_of_le (by decide) hN | assumption | (simp only [hm_n_wI, hm_n_wL, hm_n_wR, hm_n_g] at *; omega)) (hM 21) dX5_up_139 ?_
          refine hm_bipush dX5_up_142 (v := 16) (by decide) ?_
          refine hm_iload_n dX5_up_144 rfl ?_
          refine hm_imul dX5_up_145 ?_
          refine hm_aload_n dX5_up_146 rfl ?_
          refine hm_getR lf_RX5_63 rfl rfl (by first | exact Nat.lt_of_lt_of_le (by decide) hN | assumption | (simp only [hm_n_wI, hm_n_wL, hm_n_wR, hm_n_g] at *; omega)) (hM 20) dX5_up_147 ?_
          refine hm_iload_n dX5_up_150 rfl ?_
          refine hm_iald _ rfl (by first | exact Nat.lt_of_lt_of_le (by decide) hN | assumption | (simp only [hm_n_wI, hm_n_wL, hm_n_wR, hm_n_g] at *; omega)) rfl (by omega) (by decide) dX5_up_151 ?_
          rw [d2]
          refine hm_iadd dX5_up_152 ?_
          refine hm_aload_n dX5_up_153 rfl ?_
          refine hm_getL lf_RX5_179 rfl rfl (by first | exact Nat.lt_of_lt_of_le (by decide) hN | assumption | (simp only [hm_n_wI, hm_n_wL, hm_n_wR, hm_n_g] at *; omega)) dX5_up_154 ?_
          rw [d6]
          refine hm_aload_n dX5_up_157 rfl ?_
          refine hm_aload_n dX5_up_158 rfl ?_
          refine hm_getR lf_RX5_24 rfl rfl (by first | exact Nat.lt_of_lt_of_le (by decide) hN | assumption | (simp only [hm_n_wI, hm_n_wL, hm_n_wR, hm_n_g] at *; omega)) (hM 6) dX5_up_159 ?_
          refine hm_iload_n dX5_up_162 rfl ?_
          refine hm_lald _ rfl (by first | exact Nat.lt_of_lt_of_le (by decide) hN | assumption | (simp only [hm_n_wI, hm_n_wL, hm_n_wR, hm_n_g] at *; omega)) rfl (by omega) (by decide) dX5_up_163 ?_
          rw [d7]
          refine hm_aload_n dX5_up_164 rfl ?_
          refine hm_getI lf_RX5_103 rfl rfl (by first | exact Nat.lt_of_lt_of_le (by decide) hN | assumption | (simp only [hm_n_wI, hm_n_wL, hm_n_wR, hm_n_g] at *; omega)) dX5_up_165 ?_
          rw [d8]
          refine hm_i2l dX5_up_168 ?_
          refine hm_callV lm_RX5_175 (r5_mix l _ _ _) rfl rfl rfl rfl (by first | exact Nat.lt_of_lt_of_le (by decide) hN | assumption | (simp only [hm_n_wI, hm_n_wL, hm_n_wR, hm_n_g] at *; omega)) (by decide) (by decide) (Nat.le_of_ble_eq_true rfl) dX5_up_169 ?_
          rintro _ t9 ⟨rfl, hh9⟩
          rw [hh9]
          clear hh9 t9
          refine hm_lxor dX5_up_172 ?_
          refine hm_last (16 * pPar α p + (aQ α 1 (pPar α p)).length) rfl (by first | exact Nat.lt_of_lt_of_le (by decide) hN | assumption | (simp only [hm_n_wI, hm_n_wL, hm_n_wR, hm_n_g] at *; omega)) (ix16 _ _) (by omega) (by decide) dX5_up_173 ?_
          refine hm_aload_n dX5_up_174 rfl ?_
          refine hm_getR lf_RX5_63 rfl rfl (by first | exact Nat.lt_of_lt_of_le (by decide) hN | assumption | (simp only [hm_n_wI, hm_n_wL, hm_n_wR, hm_n_g] at *; omega)) (hM 20) dX5_up_175 ?_
          refine hm_iload_n dX5_up_178 rfl ?_
          refine hm_dup2 dX5_up_179 rfl rfl ?_
          refine hm_iald _ rfl (by first | exact Nat.lt_of_lt_of_le (by decide) hN | assumption | (simp only [hm_n_wI, hm_n_wL, hm_n_wR, hm_n_g] at *; omega)) rfl (by omega) (by decide) dX5_up_180 ?_
          rw [show hm_I (hm_wL (hm_wI τ 27 31 (aI α 4 4 + 1)) 46 (16 * pPar α p + (aQ α 1 (pPar α p)).length) (pUpB α p v ^^^ pMix (aL α 1 p) ((nI (aN α 6 0)).toInt64))) 45 (pPar α p) = nI (aQ α 1 (pPar α p)).length from d2]
          refine hm_iconst dX5_up_181 (v := 1) (by decide) ?_
          refine hm_iadd dX5_up_182 ?_
          refine hm_iast _ rfl (by first | exact Nat.lt_of_lt_of_le (by decide) hN | assumption | (simp only [hm_n_wI, hm_n_wL, hm_n_wR, hm_n_g] at *; omega)) rfl (by omega) (by decide) dX5_up_183 ?_
          refine hm_vret dX5_up_184 rfl (by decide) (by decide) ?_
          exact hfin2 _ (hlast (by omega)) ((f2.wL 46 _ _ (by decide)).wI 45 _ _ (by decide)) (by omega)
      | succ m ih =>
        intro k τ u hk hu i1 i2 i3 i4 i5 i6 i7
        subst hu
        have hN : 52 ≤ hm_n τ := by rw [i4]; exact hN
        have hM : ∀ k, hm_R τ 27 k = md_tab k := fun k => by rw [i3]; exact hM k
        obtain ⟨x, hx⟩ : ∃ x, t[k]? = some x := ⟨_, List.getElem?_eq_getElem (by omega)⟩
        have g1 : hm_L τ 44 (8 * p + (k + 1)) = x := i7 (k + 1) x (by omega) (by simpa using hx)
        refine hm_iload_n dX5_up_77 rfl ?_
        refine hm_aload_n dX5_up_78 rfl ?_
        refine hm_getR lf_RX5_57 rfl rfl (by first | exact Nat.lt_of_lt_of_le (by decide) hN | assumption | (simp only [hm_n_wI, hm_n_wL, hm_n_wR, hm_n_g] at *; omega)) (hM 18) dX5_up_79 ?_
        refine hm_iload_n dX5_up_82 rfl ?_
        refine hm_iald _ rfl (by first | exact Nat.lt_of_lt_of_le (by decide) hN | assumption | (simp only [hm_n_wI, hm_n_wL, hm_n_wR, hm_n_g] at *; omega)) rfl (by omega) (by decide) dX5_up_83 ?_
        rw [i5]
        refine hm_icmp_ge 117 dX5_up_84 (by decide) (fun h84 => absurd h84 (nI_ge (by omega) (by omega))) (fun _ => ?_)
        refine hm_aload_n dX5_up_87 rfl ?_
        refine hm_getR lf_RX5_60 rfl rfl (by first | exact Nat.lt_of_lt_of_le (by decide) hN | assumption | (simp only [hm_n_wI, hm_n_wL, hm_n_wR, hm_n_g] at *; omega)) (hM 19) dX5_up_88 ?_
        refine hm_bipush dX5_up_91 (v := 8) (by decide) ?_
        refine hm_iload_n dX5_up_93 rfl ?_
        refine hm_imul dX5_up_94 ?_
        refine hm_iload_n dX5_up_95 rfl ?_
        refine hm_iadd dX5_up_96 ?_
        refine hm_aload_n dX5_up_97 rfl ?_
        refine hm_getR lf_RX5_60 rfl rfl (by first | exact Nat.lt_of_lt_of_le (by decide) hN | assumption | (simp only [hm_n_wI, hm_n_wL, hm_n_wR, hm_n_g] at *; omega)) (hM 19) dX5_up_98 ?_
        refine hm_bipush dX5_up_101 (v := 8) (by decide) ?_
        refine hm_iload_n dX5_up_103 rfl ?_
        refine hm_imul dX5_up_104 ?_
        refine hm_iload_n dX5_up_105 rfl ?_
        refine hm_iadd dX5_up_106 ?_
        refine hm_iconst dX5_up_107 (v := 1) (by decide) ?_
        refine hm_iadd dX5_up_108 ?_
        refine hm_lald (8 * p + (k + 1)) rfl (by first | exact Nat.lt_of_lt_of_le (by decide) hN | assumption | (simp only [hm_n_wI, hm_n_wL, hm_n_wR, hm_n_g] at *; omega)) (by rw [ix8]; exact nI_1 _) (by omega) (by decide) dX5_up_109 ?_
        rw [g1]
        refine hm_last (8 * p + k) rfl (by first | exact Nat.lt_of_lt_of_le (by decide) hN | assumption | (simp only [hm_n_wI, hm_n_wL, hm_n_wR, hm_n_g] at *; omega)) (ix8 _ _) (by omega) (by decide) dX5_up_110 ?_
        refine hm_iinc dX5_up_111 rfl _ rfl (by decide) rfl ?_
        refine hm_goto 77 dX5_up_114 (by decide) ?_
        refine ih (k + 1) _ _ (by omega) (hm_inc k) i1 (fun a j g => ?_) i3 i4 i5 (fun j y hj hy => ?_) (fun j y hj hy => ?_)
        rw [hm_L_wL, if_neg (by omega)]; exact i2 a j g
        rw [hm_L_wL]
        (by_cases e : j = k)
        subst e; rw [if_pos ⟨rfl, rfl⟩]; rw [hx] at hy; exact Option.some.inj hy
        rw [if_neg (by omega)]; exact i6 j y (by omega) hy
        rw [hm_L_wL, if_neg (by omega)]; exact i7 j y (by omega) hy
    refine hm_aload_n dX5_up_29 rfl ?_
    refine hm_getR lf_RX5_30 rfl rfl (by first | exact Nat.lt_of_lt_of_le (by decide) hN | assumption | (simp only [hm_n_wI, hm_n_wL, hm_n_wR, hm_n_g] at *; omega)) (hM 8) dX5_up_30 ?_
    refine hm_iload_n dX5_up_33 rfl ?_
    refine hm_iald _ rfl (by first | exact Nat.lt_of_lt_of_le (by decide) hN | assumption | (simp only [hm_n_wI, hm_n_wL, hm_n_wR, hm_n_g] at *; omega)) rfl (by omega) (by decide) dX5_up_34 ?_
    rw [e5]
    refine hm_istore_n dX5_up_35 (by decide) rfl ?_
    refine hm_aload_n dX5_up_36 rfl ?_
    refine hm_aload_n dX5_up_37 rfl ?_
    refine hm_getR lf_RX5_60 rfl rfl (by first | exact Nat.lt_of_lt_of_le (by decide) hN | assumption | (simp only [hm_n_wI, hm_n_wL, hm_n_wR, hm_n_g] at *; omega)) (hM 19) dX5_up_38 ?_
    refine hm_bipush dX5_up_41 (v := 8) (by decide) ?_
    refine hm_iload_n dX5_up_43 rfl ?_
    refine hm_imul dX5_up_44 ?_
    refine hm_lald (8 * p) rfl (by first | exact Nat.lt_of_lt_of_le (by decide) hN | assumption | (simp only [hm_n_wI, hm_n_wL, hm_n_wR, hm_n_g] at *; omega)) (ixm 8 p) (by omega) (by decide) dX5_up_45 ?_
    rw [e6]
    refine hm_aload_n dX5_up_46 rfl ?_
    refine hm_aload_n dX5_up_47 rfl ?_
    refine hm_getR lf_RX5_16 rfl rfl (by first | exact Nat.lt_of_lt_of_le (by decide) hN | assumption | (simp only [hm_n_wI, hm_n_wL, hm_n_wR, hm_n_g] at *; omega)) (hM 4) dX5_up_48 ?_
    refine hm_iload_n dX5_up_51 rfl ?_
    refine hm_lald _ rfl (by first | exact Nat.lt_of_lt_of_le (by decide) hN | assumption | (simp only [hm_n_wI, hm_n_wL, hm_n_wR, hm_n_g] at *; omega)) rfl (by omega) (by decide) dX5_up_52 ?_
    rw [e2]
    refine hm_aload_n dX5_up_53 rfl ?_
    refine hm_getI lf_RX5_103 rfl rfl (by first | exact Nat.lt_of_lt_of_le (by decide) hN | assumption | (simp only [hm_n_wI, hm_n_wL, hm_n_wR, hm_n_g] at *; omega)) dX5_up_54 ?_
    rw [e4]
    refine hm_i2l dX5_up_57 ?_
    refine hm_callV lm_RX5_175 (r5_mix l _ _ _) rfl rfl rfl rfl (by first | exact Nat.lt_of_lt_of_le (by decide) hN | assumption | (simp only [hm_n_wI, hm_n_wL, hm_n_wR, hm_n_g] at *; omega)) (by decide) (by decide) (Nat.le_of_ble_eq_true rfl) dX5_up_58 ?_
    rintro _ t9 ⟨rfl, hh9⟩
    rw [hh9]
    clear hh9 t9
    refine hm_lxor dX5_up_61 ?_
    refine hm_putL lf_RX5_179 rfl rfl rfl (by first | exact Nat.lt_of_lt_of_le (by decide) hN | assumption | (simp only [hm_n_wI, hm_n_wL, hm_n_wR, hm_n_g] at *; omega)) dX5_up_62 ?_
    refine hm_aload_n dX5_up_65 rfl ?_
    refine hm_getR lf_RX5_57 rfl rfl (by first | exact Nat.lt_of_lt_of_le (by decide) hN | assumption | (simp only [hm_n_wI, hm_n_wL, hm_n_wR, hm_n_g] at *; omega)) (hM 18) dX5_up_66 ?_
    refine hm_iload_n dX5_up_69 rfl ?_
    refine hm_dup2 dX5_up_70 rfl rfl ?_
    refine hm_iald _ rfl (by first | exact Nat.lt_of_lt_of_le (by decide) hN | assumption | (simp only [hm_n_wI, hm_n_wL, hm_n_wR, hm_n_g] at *; omega)) rfl (by omega) (by decide) dX5_up_71 ?_
    rw [show hm_I (hm_wL σ 27 24 _) 43 p = nI (t.length + 1) from e7]
    refine hm_iconst dX5_up_72 (v := 1) (by decide) ?_
    refine hm_isub dX5_up_73 ?_
    refine hm_iast _ rfl (by first | exact Nat.lt_of_lt_of_le (by decide) hN | assumption | (simp only [hm_n_wI, hm_n_wL, hm_n_wR, hm_n_g] at *; omega)) rfl (by omega) (by decide) dX5_up_74 ?_
    refine hm_iconst dX5_up_75 (v := 0) (by decide) ?_
    refine hm_istore_n dX5_up_76 (by decide) rfl ?_
    refine hl t.length 0 _ _ (Nat.zero_add _) rfl (fun a j g => by rw [hm_I_wI, if_neg g]; rfl) (fun a j g => rfl) rfl rfl (by rw [hm_I_wI, if_pos ⟨rfl, rfl⟩]; exact nI_pred _) (fun j x hj => absurd hj (by omega)) (fun j x _ hj => ?_)
    show hm_L (hm_wL σ 27 24 _) 44 (8 * p + j) = x
    rw [hm_L_wL, if_neg (by omega)]
    exact c3 j x (by rw [hq]; exact hj)
  refine hm_aload_n dX5_up_0 rfl ?_
  refine hm_getR lf_RX5_27 rfl rfl (by first | exact Nat.lt_of_lt_of_le (by decide) hN | assumption | (simp only [hm_n_wI, hm_n_wL, hm_n_wR, hm_n_g] at *; omega)) (hM 7) dX5_up_1 ?_
  refine hm_iload_n dX5_up_4 rfl ?_
  refine hm_iald _ rfl (by first | exact Nat.lt_of_lt_of_le (by decide) hN | assumption | (simp only [hm_n_wI, hm_n_wL, hm_n_wR, hm_n_g] at *; omega)) rfl (by omega) (by decide) dX5_up_5 ?_
  rw [e1]
  refine hm_bipush dX5_up_6 (v := 7) (by decide) ?_
  refine hm_icmp_ne 28 dX5_up_8 (by decide) (fun h8 => ?_) (fun h8 => ?_)
  · skip
    exact hm_vret dX5_up_28 rfl (by decide) (by decide) (hQ _ _ ⟨rfl, by rw [show pUp α p = α by simp [pUp, h8]]; exact h, md_fr.rf σ⟩)
  · skip
    refine hm_aload_n dX5_up_11 rfl ?_
    refine hm_iload_n dX5_up_12 rfl ?_
    refine hm_callV lm_RX5_172 (r5_isGood l h w hp8) rfl rfl rfl rfl (by first | exact Nat.lt_of_lt_of_le (by decide) hN | assumption | (simp only [hm_n_wI, hm_n_wL, hm_n_wR, hm_n_g] at *; omega)) (by decide) (by decide) (Nat.le_of_ble_eq_true rfl) dX5_up_13 ?_
    rintro _ t9 ⟨rfl, hh9⟩
    rw [hh9]
    clear hh9 t9
    refine hm_if_eq 28 dX5_up_16 (by decide) (fun h16 => ?_) (fun h16 => ?_)
    · skip
      rw [bI_0] at h16
      exact hm_vret dX5_up_28 rfl (by decide) (by decide) (hQ _ _ ⟨rfl, by rw [show pUp α p = α by simp [pUp, h16]]; exact h, md_fr.rf σ⟩)
    · skip
      rw [bI_0] at h16
      refine hm_aload_n dX5_up_19 rfl ?_
      refine hm_getR lf_RX5_57 rfl rfl (by first | exact Nat.lt_of_lt_of_le (by decide) hN | assumption | (simp only [hm_n_wI, hm_n_wL, hm_n_wR, hm_n_g] at *; omega)) (hM 18) dX5_up_20 ?_
      refine hm_iload_n dX5_up_23 rfl ?_
      refine hm_iald _ rfl (by first | exact Nat.lt_of_lt_of_le (by decide) hN | assumption | (simp only [hm_n_wI, hm_n_wL, hm_n_wR, hm_n_g] at *; omega)) rfl (by omega) (by decide) dX5_up_24 ?_
      rw [c1]
      refine hm_if_ne 29 dX5_up_25 (by decide) (fun h25 => ?_) (fun h25 => ?_)
      · skip
        rw [q0] at h25
        (obtain ⟨v, t, hvt⟩ : ∃ v t, aQ α 0 p = v :: t := by cases hz : aQ α 0 p with | nil => rw [hz] at h25; exact absurd rfl h25 | cons v t => exact ⟨v, t, rfl⟩)
        exact j29 h8 (b_nf h16) v t hvt
      · skip
        rw [q0] at h25
        refine hm_vret dX5_up_28 rfl (by decide) (by decide) ?_
        exact hQ _ _ ⟨rfl, by rw [show pUp α p = α by unfold pUp; rw [List.eq_nil_of_length_eq_zero h25]; split <;> rfl]; exact h, md_fr.rf σ⟩
end M12
end
