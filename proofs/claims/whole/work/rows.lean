section
-- ===== PART A: goes FIRST, ahead of the names: the tables' words, and 'selects' of the private methods out of them =====
/-- a private method of a class that the tables say can be made, by its rows of tables_1 -/
def lw_okq (q : MethodName × Nat) : Prop := (q.1.cls ≠ "java/lang/invoke/MethodHandle" ∧ q.1.cls ≠ "java/lang/invoke/VarHandle") ∧ Cond.instantiable q.1.cls q.2 ∈ tables_1 ∧ Cond.privateMethod q.1 ∈ tables_1 ∧ Cond.instanceMethod q.1 ∈ tables_1
theorem lw_p0 : lw_okq (⟨"StationLine$Line", "stationsBeforeBreak", "()I"⟩, 4) := ⟨⟨by decide +kernel, by decide +kernel⟩, List.mem_of_getElem? (i := 22) (by decide +kernel), List.mem_of_getElem? (i := 298) (by decide +kernel), List.mem_of_getElem? (i := 299) (by decide +kernel)⟩
theorem lw_p1 : lw_okq (⟨"StationLine$Station", "performDirect", "(LStationLine$Datagram;)V"⟩, 8) := ⟨⟨by decide +kernel, by decide +kernel⟩, List.mem_of_getElem? (i := 161) (by decide +kernel), List.mem_of_getElem? (i := 306) (by decide +kernel), List.mem_of_getElem? (i := 307) (by decide +kernel)⟩
theorem lw_p2 : lw_okq (⟨"StationLine$Memory", "findOwners", "(II)V"⟩, 10) := ⟨⟨by decide +kernel, by decide +kernel⟩, List.mem_of_getElem? (i := 167) (by decide +kernel), List.mem_of_getElem? (i := 314) (by decide +kernel), List.mem_of_getElem? (i := 315) (by decide +kernel)⟩
theorem lw_p3 : lw_okq (⟨"StationLine$Memory", "startOf", "(I)I"⟩, 10) := ⟨⟨by decide +kernel, by decide +kernel⟩, List.mem_of_getElem? (i := 167) (by decide +kernel), List.mem_of_getElem? (i := 323) (by decide +kernel), List.mem_of_getElem? (i := 324) (by decide +kernel)⟩
theorem lw_p4 : lw_okq (⟨"StationLine$Memory", "lengthOf", "(I)I"⟩, 10) := ⟨⟨by decide +kernel, by decide +kernel⟩, List.mem_of_getElem? (i := 167) (by decide +kernel), List.mem_of_getElem? (i := 327) (by decide +kernel), List.mem_of_getElem? (i := 328) (by decide +kernel)⟩
theorem lw_p5 : lw_okq (⟨"StationLine$Memory", "isAllowed", "(IIZ)Z"⟩, 10) := ⟨⟨by decide +kernel, by decide +kernel⟩, List.mem_of_getElem? (i := 167) (by decide +kernel), List.mem_of_getElem? (i := 337) (by decide +kernel), List.mem_of_getElem? (i := 338) (by decide +kernel)⟩
theorem lw_p6 : lw_okq (⟨"StationLine$Memory", "allows", "(IIIZ)Z"⟩, 10) := ⟨⟨by decide +kernel, by decide +kernel⟩, List.mem_of_getElem? (i := 167) (by decide +kernel), List.mem_of_getElem? (i := 341) (by decide +kernel), List.mem_of_getElem? (i := 342) (by decide +kernel)⟩
theorem lw_p7 : lw_okq (⟨"StationLine$Memory", "heldByte", "(II)I"⟩, 10) := ⟨⟨by decide +kernel, by decide +kernel⟩, List.mem_of_getElem? (i := 167) (by decide +kernel), List.mem_of_getElem? (i := 345) (by decide +kernel), List.mem_of_getElem? (i := 346) (by decide +kernel)⟩
theorem lw_p8 : lw_okq (⟨"StationLine$Memory", "modeOf", "(I)I"⟩, 10) := ⟨⟨by decide +kernel, by decide +kernel⟩, List.mem_of_getElem? (i := 167) (by decide +kernel), List.mem_of_getElem? (i := 349) (by decide +kernel), List.mem_of_getElem? (i := 350) (by decide +kernel)⟩
theorem lw_p9 : lw_okq (⟨"StationLine$Memory", "storeInChannel", "(III)V"⟩, 10) := ⟨⟨by decide +kernel, by decide +kernel⟩, List.mem_of_getElem? (i := 167) (by decide +kernel), List.mem_of_getElem? (i := 353) (by decide +kernel), List.mem_of_getElem? (i := 354) (by decide +kernel)⟩
theorem lw_p10 : lw_okq (⟨"StationLine$Memory", "storePlain", "(II)V"⟩, 10) := ⟨⟨by decide +kernel, by decide +kernel⟩, List.mem_of_getElem? (i := 167) (by decide +kernel), List.mem_of_getElem? (i := 360) (by decide +kernel), List.mem_of_getElem? (i := 361) (by decide +kernel)⟩
theorem lw_p11 : lw_okq (⟨"StationLine$Memory", "clearChannel", "(I)V"⟩, 10) := ⟨⟨by decide +kernel, by decide +kernel⟩, List.mem_of_getElem? (i := 167) (by decide +kernel), List.mem_of_getElem? (i := 364) (by decide +kernel), List.mem_of_getElem? (i := 365) (by decide +kernel)⟩
theorem lw_p12 : lw_okq (⟨"StationLine$Memory", "beforeReading", "(II)V"⟩, 10) := ⟨⟨by decide +kernel, by decide +kernel⟩, List.mem_of_getElem? (i := 167) (by decide +kernel), List.mem_of_getElem? (i := 372) (by decide +kernel), List.mem_of_getElem? (i := 373) (by decide +kernel)⟩
theorem lw_p13 : lw_okq (⟨"StationLine$Station", "performLogical", "(LStationLine$Datagram;)V"⟩, 8) := ⟨⟨by decide +kernel, by decide +kernel⟩, List.mem_of_getElem? (i := 161) (by decide +kernel), List.mem_of_getElem? (i := 377) (by decide +kernel), List.mem_of_getElem? (i := 378) (by decide +kernel)⟩
theorem lw_p14 : lw_okq (⟨"StationLine$Station", "obeyControl", "()V"⟩, 8) := ⟨⟨by decide +kernel, by decide +kernel⟩, List.mem_of_getElem? (i := 161) (by decide +kernel), List.mem_of_getElem? (i := 432) (by decide +kernel), List.mem_of_getElem? (i := 433) (by decide +kernel)⟩
theorem lw_p15 : lw_okq (⟨"StationLine$Station", "objection", "(I)I"⟩, 8) := ⟨⟨by decide +kernel, by decide +kernel⟩, List.mem_of_getElem? (i := 161) (by decide +kernel), List.mem_of_getElem? (i := 436) (by decide +kernel), List.mem_of_getElem? (i := 437) (by decide +kernel)⟩
def lw_privs_1 : List (MethodName × Nat) := [(⟨"StationLine$Line", "stationsBeforeBreak", "()I"⟩, 4), (⟨"StationLine$Station", "performDirect", "(LStationLine$Datagram;)V"⟩, 8), (⟨"StationLine$Memory", "findOwners", "(II)V"⟩, 10), (⟨"StationLine$Memory", "startOf", "(I)I"⟩, 10), (⟨"StationLine$Memory", "lengthOf", "(I)I"⟩, 10), (⟨"StationLine$Memory", "isAllowed", "(IIZ)Z"⟩, 10), (⟨"StationLine$Memory", "allows", "(IIIZ)Z"⟩, 10), (⟨"StationLine$Memory", "heldByte", "(II)I"⟩, 10), (⟨"StationLine$Memory", "modeOf", "(I)I"⟩, 10), (⟨"StationLine$Memory", "storeInChannel", "(III)V"⟩, 10), (⟨"StationLine$Memory", "storePlain", "(II)V"⟩, 10), (⟨"StationLine$Memory", "clearChannel", "(I)V"⟩, 10), (⟨"StationLine$Memory", "beforeReading", "(II)V"⟩, 10), (⟨"StationLine$Station", "performLogical", "(LStationLine$Datagram;)V"⟩, 8), (⟨"StationLine$Station", "obeyControl", "()V"⟩, 8), (⟨"StationLine$Station", "objection", "(I)I"⟩, 8)]
theorem lw_r1 : ∀ q ∈ lw_privs_1, lw_okq q := List.forall_mem_cons.mpr ⟨lw_p0, List.forall_mem_cons.mpr ⟨lw_p1, List.forall_mem_cons.mpr ⟨lw_p2, List.forall_mem_cons.mpr ⟨lw_p3, List.forall_mem_cons.mpr ⟨lw_p4, List.forall_mem_cons.mpr ⟨lw_p5, List.forall_mem_cons.mpr ⟨lw_p6, List.forall_mem_cons.mpr ⟨lw_p7, List.forall_mem_cons.mpr ⟨lw_p8, List.forall_mem_cons.mpr ⟨lw_p9, List.forall_mem_cons.mpr ⟨lw_p10, List.forall_mem_cons.mpr ⟨lw_p11, List.forall_mem_cons.mpr ⟨lw_p12, List.forall_mem_cons.mpr ⟨lw_p13, List.forall_mem_cons.mpr ⟨lw_p14, List.forall_mem_cons.mpr ⟨lw_p15, fun _ h => absurd h List.not_mem_nil⟩⟩⟩⟩⟩⟩⟩⟩⟩⟩⟩⟩⟩⟩⟩⟩
theorem lw_p16 : lw_okq (⟨"StationLine$Station", "present", "()I"⟩, 8) := ⟨⟨by decide +kernel, by decide +kernel⟩, List.mem_of_getElem? (i := 161) (by decide +kernel), List.mem_of_getElem? (i := 440) (by decide +kernel), List.mem_of_getElem? (i := 441) (by decide +kernel)⟩
theorem lw_p17 : lw_okq (⟨"StationLine$Station", "hasMailbox", "()Z"⟩, 8) := ⟨⟨by decide +kernel, by decide +kernel⟩, List.mem_of_getElem? (i := 161) (by decide +kernel), List.mem_of_getElem? (i := 444) (by decide +kernel), List.mem_of_getElem? (i := 445) (by decide +kernel)⟩
theorem lw_p18 : lw_okq (⟨"StationLine$Station", "isSetUp", "(III)Z"⟩, 8) := ⟨⟨by decide +kernel, by decide +kernel⟩, List.mem_of_getElem? (i := 161) (by decide +kernel), List.mem_of_getElem? (i := 452) (by decide +kernel), List.mem_of_getElem? (i := 453) (by decide +kernel)⟩
theorem lw_p19 : lw_okq (⟨"StationLine$Station", "become", "(II)V"⟩, 8) := ⟨⟨by decide +kernel, by decide +kernel⟩, List.mem_of_getElem? (i := 161) (by decide +kernel), List.mem_of_getElem? (i := 460) (by decide +kernel), List.mem_of_getElem? (i := 461) (by decide +kernel)⟩
theorem lw_p20 : lw_okq (⟨"StationLine$Station", "enter", "(I)V"⟩, 8) := ⟨⟨by decide +kernel, by decide +kernel⟩, List.mem_of_getElem? (i := 161) (by decide +kernel), List.mem_of_getElem? (i := 464) (by decide +kernel), List.mem_of_getElem? (i := 465) (by decide +kernel)⟩
theorem lw_p21 : lw_okq (⟨"StationLine$Station", "replyToMessage", "()V"⟩, 8) := ⟨⟨by decide +kernel, by decide +kernel⟩, List.mem_of_getElem? (i := 161) (by decide +kernel), List.mem_of_getElem? (i := 468) (by decide +kernel), List.mem_of_getElem? (i := 469) (by decide +kernel)⟩
theorem lw_p22 : lw_okq (⟨"StationLine$Station", "doMessage", "(III[I)V"⟩, 8) := ⟨⟨by decide +kernel, by decide +kernel⟩, List.mem_of_getElem? (i := 161) (by decide +kernel), List.mem_of_getElem? (i := 472) (by decide +kernel), List.mem_of_getElem? (i := 473) (by decide +kernel)⟩
theorem lw_p23 : lw_okq (⟨"StationLine$Station", "takeSensors", "()V"⟩, 8) := ⟨⟨by decide +kernel, by decide +kernel⟩, List.mem_of_getElem? (i := 161) (by decide +kernel), List.mem_of_getElem? (i := 479) (by decide +kernel), List.mem_of_getElem? (i := 480) (by decide +kernel)⟩
theorem lw_p24 : lw_okq (⟨"StationLine$Station", "moveActuators", "()V"⟩, 8) := ⟨⟨by decide +kernel, by decide +kernel⟩, List.mem_of_getElem? (i := 161) (by decide +kernel), List.mem_of_getElem? (i := 483) (by decide +kernel), List.mem_of_getElem? (i := 484) (by decide +kernel)⟩
theorem lw_p25 : lw_okq (⟨"StationLine$Station", "watch", "()V"⟩, 8) := ⟨⟨by decide +kernel, by decide +kernel⟩, List.mem_of_getElem? (i := 161) (by decide +kernel), List.mem_of_getElem? (i := 488) (by decide +kernel), List.mem_of_getElem? (i := 489) (by decide +kernel)⟩
theorem lw_p26 : lw_okq (⟨"StationLine", "startFrame", "(IIII)LStationLine$Datagram;"⟩, 6) := ⟨⟨by decide +kernel, by decide +kernel⟩, List.mem_of_getElem? (i := 14) (by decide +kernel), List.mem_of_getElem? (i := 513) (by decide +kernel), List.mem_of_getElem? (i := 514) (by decide +kernel)⟩
theorem lw_p27 : lw_okq (⟨"StationLine", "startChannelsFrame", "(I)V"⟩, 6) := ⟨⟨by decide +kernel, by decide +kernel⟩, List.mem_of_getElem? (i := 14) (by decide +kernel), List.mem_of_getElem? (i := 526) (by decide +kernel), List.mem_of_getElem? (i := 527) (by decide +kernel)⟩
theorem lw_p28 : lw_okq (⟨"StationLine", "startInputsFrame", "(I)V"⟩, 6) := ⟨⟨by decide +kernel, by decide +kernel⟩, List.mem_of_getElem? (i := 14) (by decide +kernel), List.mem_of_getElem? (i := 540) (by decide +kernel), List.mem_of_getElem? (i := 541) (by decide +kernel)⟩
theorem lw_p29 : lw_okq (⟨"StationLineModel", "gram", "(IIIII)V"⟩, 41) := ⟨⟨by decide +kernel, by decide +kernel⟩, List.mem_of_getElem? (i := 580) (by decide +kernel), List.mem_of_getElem? (i := 719) (by decide +kernel), List.mem_of_getElem? (i := 720) (by decide +kernel)⟩
theorem lw_p30 : lw_okq (⟨"StationLineModel", "copyGram", "(II)V"⟩, 41) := ⟨⟨by decide +kernel, by decide +kernel⟩, List.mem_of_getElem? (i := 580) (by decide +kernel), List.mem_of_getElem? (i := 731) (by decide +kernel), List.mem_of_getElem? (i := 732) (by decide +kernel)⟩
theorem lw_p31 : lw_okq (⟨"StationLineModel", "travel", "()Z"⟩, 41) := ⟨⟨by decide +kernel, by decide +kernel⟩, List.mem_of_getElem? (i := 580) (by decide +kernel), List.mem_of_getElem? (i := 735) (by decide +kernel), List.mem_of_getElem? (i := 736) (by decide +kernel)⟩
def lw_privs_2 : List (MethodName × Nat) := [(⟨"StationLine$Station", "present", "()I"⟩, 8), (⟨"StationLine$Station", "hasMailbox", "()Z"⟩, 8), (⟨"StationLine$Station", "isSetUp", "(III)Z"⟩, 8), (⟨"StationLine$Station", "become", "(II)V"⟩, 8), (⟨"StationLine$Station", "enter", "(I)V"⟩, 8), (⟨"StationLine$Station", "replyToMessage", "()V"⟩, 8), (⟨"StationLine$Station", "doMessage", "(III[I)V"⟩, 8), (⟨"StationLine$Station", "takeSensors", "()V"⟩, 8), (⟨"StationLine$Station", "moveActuators", "()V"⟩, 8), (⟨"StationLine$Station", "watch", "()V"⟩, 8), (⟨"StationLine", "startFrame", "(IIII)LStationLine$Datagram;"⟩, 6), (⟨"StationLine", "startChannelsFrame", "(I)V"⟩, 6), (⟨"StationLine", "startInputsFrame", "(I)V"⟩, 6), (⟨"StationLineModel", "gram", "(IIIII)V"⟩, 41), (⟨"StationLineModel", "copyGram", "(II)V"⟩, 41), (⟨"StationLineModel", "travel", "()Z"⟩, 41)]
theorem lw_r2 : ∀ q ∈ lw_privs_2, lw_okq q := List.forall_mem_cons.mpr ⟨lw_p16, List.forall_mem_cons.mpr ⟨lw_p17, List.forall_mem_cons.mpr ⟨lw_p18, List.forall_mem_cons.mpr ⟨lw_p19, List.forall_mem_cons.mpr ⟨lw_p20, List.forall_mem_cons.mpr ⟨lw_p21, List.forall_mem_cons.mpr ⟨lw_p22, List.forall_mem_cons.mpr ⟨lw_p23, List.forall_mem_cons.mpr ⟨lw_p24, List.forall_mem_cons.mpr ⟨lw_p25, List.forall_mem_cons.mpr ⟨lw_p26, List.forall_mem_cons.mpr ⟨lw_p27, List.forall_mem_cons.mpr ⟨lw_p28, List.forall_mem_cons.mpr ⟨lw_p29, List.forall_mem_cons.mpr ⟨lw_p30, List.forall_mem_cons.mpr ⟨lw_p31, fun _ h => absurd h List.not_mem_nil⟩⟩⟩⟩⟩⟩⟩⟩⟩⟩⟩⟩⟩⟩⟩⟩
theorem lw_p32 : lw_okq (⟨"StationLineModel", "handle", "(II)V"⟩, 41) := ⟨⟨by decide +kernel, by decide +kernel⟩, List.mem_of_getElem? (i := 580) (by decide +kernel), List.mem_of_getElem? (i := 739) (by decide +kernel), List.mem_of_getElem? (i := 740) (by decide +kernel)⟩
theorem lw_p33 : lw_okq (⟨"StationLineModel", "map", "(III)V"⟩, 41) := ⟨⟨by decide +kernel, by decide +kernel⟩, List.mem_of_getElem? (i := 580) (by decide +kernel), List.mem_of_getElem? (i := 743) (by decide +kernel), List.mem_of_getElem? (i := 744) (by decide +kernel)⟩
theorem lw_p34 : lw_okq (⟨"StationLineModel", "at", "(II)I"⟩, 41) := ⟨⟨by decide +kernel, by decide +kernel⟩, List.mem_of_getElem? (i := 580) (by decide +kernel), List.mem_of_getElem? (i := 747) (by decide +kernel), List.mem_of_getElem? (i := 748) (by decide +kernel)⟩
theorem lw_p35 : lw_okq (⟨"StationLineModel", "reads", "(III)Z"⟩, 41) := ⟨⟨by decide +kernel, by decide +kernel⟩, List.mem_of_getElem? (i := 580) (by decide +kernel), List.mem_of_getElem? (i := 751) (by decide +kernel), List.mem_of_getElem? (i := 752) (by decide +kernel)⟩
theorem lw_p36 : lw_okq (⟨"StationLineModel", "allowed", "(IIIZ)Z"⟩, 41) := ⟨⟨by decide +kernel, by decide +kernel⟩, List.mem_of_getElem? (i := 580) (by decide +kernel), List.mem_of_getElem? (i := 755) (by decide +kernel), List.mem_of_getElem? (i := 756) (by decide +kernel)⟩
theorem lw_p37 : lw_okq (⟨"StationLineModel", "channelOf", "(II)I"⟩, 41) := ⟨⟨by decide +kernel, by decide +kernel⟩, List.mem_of_getElem? (i := 580) (by decide +kernel), List.mem_of_getElem? (i := 759) (by decide +kernel), List.mem_of_getElem? (i := 760) (by decide +kernel)⟩
theorem lw_p38 : lw_okq (⟨"StationLineModel", "open", "(II)Z"⟩, 41) := ⟨⟨by decide +kernel, by decide +kernel⟩, List.mem_of_getElem? (i := 580) (by decide +kernel), List.mem_of_getElem? (i := 763) (by decide +kernel), List.mem_of_getElem? (i := 764) (by decide +kernel)⟩
theorem lw_p39 : lw_okq (⟨"StationLineModel", "many", "(II)I"⟩, 41) := ⟨⟨by decide +kernel, by decide +kernel⟩, List.mem_of_getElem? (i := 580) (by decide +kernel), List.mem_of_getElem? (i := 767) (by decide +kernel), List.mem_of_getElem? (i := 768) (by decide +kernel)⟩
theorem lw_p40 : lw_okq (⟨"StationLineModel", "begin", "(II)I"⟩, 41) := ⟨⟨by decide +kernel, by decide +kernel⟩, List.mem_of_getElem? (i := 580) (by decide +kernel), List.mem_of_getElem? (i := 771) (by decide +kernel), List.mem_of_getElem? (i := 772) (by decide +kernel)⟩
theorem lw_p41 : lw_okq (⟨"StationLineModel", "lets", "(IIIIZ)Z"⟩, 41) := ⟨⟨by decide +kernel, by decide +kernel⟩, List.mem_of_getElem? (i := 580) (by decide +kernel), List.mem_of_getElem? (i := 775) (by decide +kernel), List.mem_of_getElem? (i := 776) (by decide +kernel)⟩
theorem lw_p42 : lw_okq (⟨"StationLineModel", "kind", "(II)I"⟩, 41) := ⟨⟨by decide +kernel, by decide +kernel⟩, List.mem_of_getElem? (i := 580) (by decide +kernel), List.mem_of_getElem? (i := 779) (by decide +kernel), List.mem_of_getElem? (i := 780) (by decide +kernel)⟩
theorem lw_p43 : lw_okq (⟨"StationLineModel", "full", "(II)Z"⟩, 41) := ⟨⟨by decide +kernel, by decide +kernel⟩, List.mem_of_getElem? (i := 580) (by decide +kernel), List.mem_of_getElem? (i := 783) (by decide +kernel), List.mem_of_getElem? (i := 784) (by decide +kernel)⟩
theorem lw_p44 : lw_okq (⟨"StationLineModel", "copy", "(IIZ)V"⟩, 41) := ⟨⟨by decide +kernel, by decide +kernel⟩, List.mem_of_getElem? (i := 580) (by decide +kernel), List.mem_of_getElem? (i := 787) (by decide +kernel), List.mem_of_getElem? (i := 788) (by decide +kernel)⟩
theorem lw_p45 : lw_okq (⟨"StationLineModel", "cell", "(III)I"⟩, 41) := ⟨⟨by decide +kernel, by decide +kernel⟩, List.mem_of_getElem? (i := 580) (by decide +kernel), List.mem_of_getElem? (i := 791) (by decide +kernel), List.mem_of_getElem? (i := 792) (by decide +kernel)⟩
theorem lw_p46 : lw_okq (⟨"StationLineModel", "fill", "(III)V"⟩, 41) := ⟨⟨by decide +kernel, by decide +kernel⟩, List.mem_of_getElem? (i := 580) (by decide +kernel), List.mem_of_getElem? (i := 795) (by decide +kernel), List.mem_of_getElem? (i := 796) (by decide +kernel)⟩
theorem lw_p47 : lw_okq (⟨"StationLineModel", "stays", "(II)I"⟩, 41) := ⟨⟨by decide +kernel, by decide +kernel⟩, List.mem_of_getElem? (i := 580) (by decide +kernel), List.mem_of_getElem? (i := 799) (by decide +kernel), List.mem_of_getElem? (i := 800) (by decide +kernel)⟩
def lw_privs_3 : List (MethodName × Nat) := [(⟨"StationLineModel", "handle", "(II)V"⟩, 41), (⟨"StationLineModel", "map", "(III)V"⟩, 41), (⟨"StationLineModel", "at", "(II)I"⟩, 41), (⟨"StationLineModel", "reads", "(III)Z"⟩, 41), (⟨"StationLineModel", "allowed", "(IIIZ)Z"⟩, 41), (⟨"StationLineModel", "channelOf", "(II)I"⟩, 41), (⟨"StationLineModel", "open", "(II)Z"⟩, 41), (⟨"StationLineModel", "many", "(II)I"⟩, 41), (⟨"StationLineModel", "begin", "(II)I"⟩, 41), (⟨"StationLineModel", "lets", "(IIIIZ)Z"⟩, 41), (⟨"StationLineModel", "kind", "(II)I"⟩, 41), (⟨"StationLineModel", "full", "(II)Z"⟩, 41), (⟨"StationLineModel", "copy", "(IIZ)V"⟩, 41), (⟨"StationLineModel", "cell", "(III)I"⟩, 41), (⟨"StationLineModel", "fill", "(III)V"⟩, 41), (⟨"StationLineModel", "stays", "(II)I"⟩, 41)]
theorem lw_r3 : ∀ q ∈ lw_privs_3, lw_okq q := List.forall_mem_cons.mpr ⟨lw_p32, List.forall_mem_cons.mpr ⟨lw_p33, List.forall_mem_cons.mpr ⟨lw_p34, List.forall_mem_cons.mpr ⟨lw_p35, List.forall_mem_cons.mpr ⟨lw_p36, List.forall_mem_cons.mpr ⟨lw_p37, List.forall_mem_cons.mpr ⟨lw_p38, List.forall_mem_cons.mpr ⟨lw_p39, List.forall_mem_cons.mpr ⟨lw_p40, List.forall_mem_cons.mpr ⟨lw_p41, List.forall_mem_cons.mpr ⟨lw_p42, List.forall_mem_cons.mpr ⟨lw_p43, List.forall_mem_cons.mpr ⟨lw_p44, List.forall_mem_cons.mpr ⟨lw_p45, List.forall_mem_cons.mpr ⟨lw_p46, List.forall_mem_cons.mpr ⟨lw_p47, fun _ h => absurd h List.not_mem_nil⟩⟩⟩⟩⟩⟩⟩⟩⟩⟩⟩⟩⟩⟩⟩⟩
theorem lw_p48 : lw_okq (⟨"StationLineModel", "writes", "(III)V"⟩, 41) := ⟨⟨by decide +kernel, by decide +kernel⟩, List.mem_of_getElem? (i := 580) (by decide +kernel), List.mem_of_getElem? (i := 803) (by decide +kernel), List.mem_of_getElem? (i := 804) (by decide +kernel)⟩
theorem lw_p49 : lw_okq (⟨"StationLineModel", "store", "(III)V"⟩, 41) := ⟨⟨by decide +kernel, by decide +kernel⟩, List.mem_of_getElem? (i := 580) (by decide +kernel), List.mem_of_getElem? (i := 807) (by decide +kernel), List.mem_of_getElem? (i := 808) (by decide +kernel)⟩
theorem lw_p50 : lw_okq (⟨"StationLineModel", "wipe", "(II)V"⟩, 41) := ⟨⟨by decide +kernel, by decide +kernel⟩, List.mem_of_getElem? (i := 580) (by decide +kernel), List.mem_of_getElem? (i := 811) (by decide +kernel), List.mem_of_getElem? (i := 812) (by decide +kernel)⟩
theorem lw_p51 : lw_okq (⟨"StationLineModel", "touch", "(II)V"⟩, 41) := ⟨⟨by decide +kernel, by decide +kernel⟩, List.mem_of_getElem? (i := 580) (by decide +kernel), List.mem_of_getElem? (i := 815) (by decide +kernel), List.mem_of_getElem? (i := 816) (by decide +kernel)⟩
theorem lw_p52 : lw_okq (⟨"StationLineModel", "isStation", "(I)Z"⟩, 41) := ⟨⟨by decide +kernel, by decide +kernel⟩, List.mem_of_getElem? (i := 580) (by decide +kernel), List.mem_of_getElem? (i := 827) (by decide +kernel), List.mem_of_getElem? (i := 828) (by decide +kernel)⟩
theorem lw_p53 : lw_okq (⟨"StationLineModel", "turn", "(I)V"⟩, 41) := ⟨⟨by decide +kernel, by decide +kernel⟩, List.mem_of_getElem? (i := 580) (by decide +kernel), List.mem_of_getElem? (i := 839) (by decide +kernel), List.mem_of_getElem? (i := 840) (by decide +kernel)⟩
theorem lw_p54 : lw_okq (⟨"StationLineModel", "control", "(I)V"⟩, 41) := ⟨⟨by decide +kernel, by decide +kernel⟩, List.mem_of_getElem? (i := 580) (by decide +kernel), List.mem_of_getElem? (i := 843) (by decide +kernel), List.mem_of_getElem? (i := 844) (by decide +kernel)⟩
theorem lw_p55 : lw_okq (⟨"StationLineModel", "fail", "(II)V"⟩, 41) := ⟨⟨by decide +kernel, by decide +kernel⟩, List.mem_of_getElem? (i := 580) (by decide +kernel), List.mem_of_getElem? (i := 847) (by decide +kernel), List.mem_of_getElem? (i := 848) (by decide +kernel)⟩
theorem lw_p56 : lw_okq (⟨"StationLineModel", "hindrance", "(II)I"⟩, 41) := ⟨⟨by decide +kernel, by decide +kernel⟩, List.mem_of_getElem? (i := 580) (by decide +kernel), List.mem_of_getElem? (i := 851) (by decide +kernel), List.mem_of_getElem? (i := 852) (by decide +kernel)⟩
theorem lw_p57 : lw_okq (⟨"StationLineModel", "mailed", "(I)Z"⟩, 41) := ⟨⟨by decide +kernel, by decide +kernel⟩, List.mem_of_getElem? (i := 580) (by decide +kernel), List.mem_of_getElem? (i := 855) (by decide +kernel), List.mem_of_getElem? (i := 856) (by decide +kernel)⟩
theorem lw_p58 : lw_okq (⟨"StationLineModel", "like", "(IIII)Z"⟩, 41) := ⟨⟨by decide +kernel, by decide +kernel⟩, List.mem_of_getElem? (i := 580) (by decide +kernel), List.mem_of_getElem? (i := 859) (by decide +kernel), List.mem_of_getElem? (i := 860) (by decide +kernel)⟩
theorem lw_p59 : lw_okq (⟨"StationLineModel", "fit", "(IIII)Z"⟩, 41) := ⟨⟨by decide +kernel, by decide +kernel⟩, List.mem_of_getElem? (i := 580) (by decide +kernel), List.mem_of_getElem? (i := 863) (by decide +kernel), List.mem_of_getElem? (i := 864) (by decide +kernel)⟩
theorem lw_p60 : lw_okq (⟨"StationLineModel", "message", "(I)V"⟩, 41) := ⟨⟨by decide +kernel, by decide +kernel⟩, List.mem_of_getElem? (i := 580) (by decide +kernel), List.mem_of_getElem? (i := 867) (by decide +kernel), List.mem_of_getElem? (i := 868) (by decide +kernel)⟩
theorem lw_p61 : lw_okq (⟨"StationLineModel", "rest", "(I)V"⟩, 41) := ⟨⟨by decide +kernel, by decide +kernel⟩, List.mem_of_getElem? (i := 580) (by decide +kernel), List.mem_of_getElem? (i := 871) (by decide +kernel), List.mem_of_getElem? (i := 872) (by decide +kernel)⟩
theorem lw_p62 : lw_okq (⟨"StationLineModel", "single", "(IIII)Z"⟩, 41) := ⟨⟨by decide +kernel, by decide +kernel⟩, List.mem_of_getElem? (i := 580) (by decide +kernel), List.mem_of_getElem? (i := 891) (by decide +kernel), List.mem_of_getElem? (i := 892) (by decide +kernel)⟩
theorem lw_p63 : lw_okq (⟨"StationLineModel", "equip", "(I)Z"⟩, 41) := ⟨⟨by decide +kernel, by decide +kernel⟩, List.mem_of_getElem? (i := 580) (by decide +kernel), List.mem_of_getElem? (i := 900) (by decide +kernel), List.mem_of_getElem? (i := 901) (by decide +kernel)⟩
def lw_privs_4 : List (MethodName × Nat) := [(⟨"StationLineModel", "writes", "(III)V"⟩, 41), (⟨"StationLineModel", "store", "(III)V"⟩, 41), (⟨"StationLineModel", "wipe", "(II)V"⟩, 41), (⟨"StationLineModel", "touch", "(II)V"⟩, 41), (⟨"StationLineModel", "isStation", "(I)Z"⟩, 41), (⟨"StationLineModel", "turn", "(I)V"⟩, 41), (⟨"StationLineModel", "control", "(I)V"⟩, 41), (⟨"StationLineModel", "fail", "(II)V"⟩, 41), (⟨"StationLineModel", "hindrance", "(II)I"⟩, 41), (⟨"StationLineModel", "mailed", "(I)Z"⟩, 41), (⟨"StationLineModel", "like", "(IIII)Z"⟩, 41), (⟨"StationLineModel", "fit", "(IIII)Z"⟩, 41), (⟨"StationLineModel", "message", "(I)V"⟩, 41), (⟨"StationLineModel", "rest", "(I)V"⟩, 41), (⟨"StationLineModel", "single", "(IIII)Z"⟩, 41), (⟨"StationLineModel", "equip", "(I)Z"⟩, 41)]
theorem lw_r4 : ∀ q ∈ lw_privs_4, lw_okq q := List.forall_mem_cons.mpr ⟨lw_p48, List.forall_mem_cons.mpr ⟨lw_p49, List.forall_mem_cons.mpr ⟨lw_p50, List.forall_mem_cons.mpr ⟨lw_p51, List.forall_mem_cons.mpr ⟨lw_p52, List.forall_mem_cons.mpr ⟨lw_p53, List.forall_mem_cons.mpr ⟨lw_p54, List.forall_mem_cons.mpr ⟨lw_p55, List.forall_mem_cons.mpr ⟨lw_p56, List.forall_mem_cons.mpr ⟨lw_p57, List.forall_mem_cons.mpr ⟨lw_p58, List.forall_mem_cons.mpr ⟨lw_p59, List.forall_mem_cons.mpr ⟨lw_p60, List.forall_mem_cons.mpr ⟨lw_p61, List.forall_mem_cons.mpr ⟨lw_p62, List.forall_mem_cons.mpr ⟨lw_p63, fun _ h => absurd h List.not_mem_nil⟩⟩⟩⟩⟩⟩⟩⟩⟩⟩⟩⟩⟩⟩⟩⟩
theorem lw_p64 : lw_okq (⟨"StationLineModel", "six", "(IIIIIII)V"⟩, 41) := ⟨⟨by decide +kernel, by decide +kernel⟩, List.mem_of_getElem? (i := 580) (by decide +kernel), List.mem_of_getElem? (i := 904) (by decide +kernel), List.mem_of_getElem? (i := 905) (by decide +kernel)⟩
theorem lw_p65 : lw_okq (⟨"StationLineModel", "expected", "(I)I"⟩, 41) := ⟨⟨by decide +kernel, by decide +kernel⟩, List.mem_of_getElem? (i := 580) (by decide +kernel), List.mem_of_getElem? (i := 920) (by decide +kernel), List.mem_of_getElem? (i := 921) (by decide +kernel)⟩
def lw_privs_5 : List (MethodName × Nat) := [(⟨"StationLineModel", "six", "(IIIIIII)V"⟩, 41), (⟨"StationLineModel", "expected", "(I)I"⟩, 41)]
theorem lw_r5 : ∀ q ∈ lw_privs_5, lw_okq q := List.forall_mem_cons.mpr ⟨lw_p64, List.forall_mem_cons.mpr ⟨lw_p65, fun _ h => absurd h List.not_mem_nil⟩⟩
def lw_privs : List (MethodName × Nat) := lw_privs_1 ++ (lw_privs_2 ++ (lw_privs_3 ++ (lw_privs_4 ++ (lw_privs_5))))
def lw_tbl : List Cond := k2_sels lw_privs ++ tables_1
theorem lw_privs_ok : ∀ q ∈ lw_privs, lw_okq q := by
  show ∀ q ∈ lw_privs_1 ++ (lw_privs_2 ++ (lw_privs_3 ++ (lw_privs_4 ++ (lw_privs_5)))), lw_okq q
  exact List.forall_mem_append.mpr ⟨lw_r1, List.forall_mem_append.mpr ⟨lw_r2, List.forall_mem_append.mpr ⟨lw_r3, List.forall_mem_append.mpr ⟨lw_r4, lw_r5⟩⟩⟩⟩
/-- the tables' words that a callee may be handed -/
def jx_ws : List Cond := lw_tbl.filter goodWord
theorem jx_allgood : ∀ w ∈ jx_ws, (w.onTables && w.keeps) = true ∨ ∃ ty, w = .arrayClass ty := fun w h => good_of_word (List.mem_filter.mp h).2
theorem jx_t {w : Cond} (i : Nat) (h : tables_1[i]? = some w) (hg : goodWord w = true) : w ∈ jx_ws := List.mem_filter.mpr ⟨List.mem_append_right _ (List.mem_of_getElem? h), hg⟩
theorem jx_p {w : Cond} (i : Nat) (h : (k2_sels lw_privs)[i]? = some w) (hg : goodWord w = true) : w ∈ jx_ws := List.mem_filter.mpr ⟨List.mem_append_left _ (List.mem_of_getElem? h), hg⟩
theorem jx_t1 {w : Cond} (i : Nat) (h : tables_1_1[i]? = some w) (hg : goodWord w = true) : w ∈ jx_ws := by
  have hm := List.mem_of_getElem? h
  exact List.mem_filter.mpr ⟨List.mem_append_right _ (List.mem_append_left _ hm), hg⟩
theorem jx_t2 {w : Cond} (i : Nat) (h : tables_1_2[i]? = some w) (hg : goodWord w = true) : w ∈ jx_ws := by
  have hm := List.mem_of_getElem? h
  exact List.mem_filter.mpr ⟨List.mem_append_right _ (List.mem_append_right _ (List.mem_append_left _ hm)), hg⟩
theorem jx_t3 {w : Cond} (i : Nat) (h : tables_1_3[i]? = some w) (hg : goodWord w = true) : w ∈ jx_ws := by
  have hm := List.mem_of_getElem? h
  exact List.mem_filter.mpr ⟨List.mem_append_right _ (List.mem_append_right _ (List.mem_append_right _ (List.mem_append_left _ hm))), hg⟩
theorem jx_t4 {w : Cond} (i : Nat) (h : tables_1_4[i]? = some w) (hg : goodWord w = true) : w ∈ jx_ws := by
  have hm := List.mem_of_getElem? h
  exact List.mem_filter.mpr ⟨List.mem_append_right _ (List.mem_append_right _ (List.mem_append_right _ (List.mem_append_right _ (hm)))), hg⟩
theorem jx_pl (ws : List Cond) (ps : List Nat) (hp : ws = ps.filterMap (fun i => tables_1[i]?)) (h : ws.all goodWord = true) : ∀ w ∈ ws, w ∈ jx_ws := by
  intro w hw
  have h1 := List.all_eq_true.mp h w hw
  rw [hp] at hw
  obtain ⟨i, -, hi⟩ := List.mem_filterMap.mp hw
  exact jx_t i hi h1
def T_D : u_T := fun k => match k with
  | 0 => ("StationLine$Datagram", "command", "I", false)
  | 1 => ("StationLine$Datagram", "address", "I", false)
  | 2 => ("StationLine$Datagram", "offset", "I", false)
  | 3 => ("StationLine$Datagram", "length", "I", false)
  | 4 => ("StationLine$Datagram", "counter", "I", false)
  | _ => ("StationLine$Datagram", "bytes", "[I", true)
def tt_D : Nat → FieldType := fun k => match k with
  | 0 => .int
  | 1 => .int
  | 2 => .int
  | 3 => .int
  | 4 => .int
  | _ => .array (.int)
theorem nn_D : ∀ a, a < 6 → ∀ b, b < 6 → a ≠ b → (T_D a).2.1 ≠ (T_D b).2.1 := by decide +kernel
theorem to_D : ∀ k, k < 6 → parseFieldDescriptor (T_D k).2.2.1 = some (tt_D k) := by decide +kernel
theorem in_D : ∀ w ∈ u_ws "StationLine$Datagram" T_D 6, w ∈ jx_ws := jx_pl _ [113, 115, 117, 119, 121, 123] (by decide +kernel) (by decide +kernel)
def df_D : List Value := [.int 0, .int 0, .int 0, .int 0, .int 0, .null]
theorem dv_D : ∀ k, k < 6 → defaultValue (tt_D k) = df_D.getD k .null := by decide +kernel
def T_F : u_T := fun k => match k with
  | 0 => ("StationLine$Frame", "datagrams", "[LStationLine$Datagram;", true)
  | _ => ("StationLine$Frame", "size", "I", false)
def tt_F : Nat → FieldType := fun k => match k with
  | 0 => .array (.object "StationLine$Datagram")
  | _ => .int
theorem nn_F : ∀ a, a < 2 → ∀ b, b < 2 → a ≠ b → (T_F a).2.1 ≠ (T_F b).2.1 := by decide +kernel
theorem to_F : ∀ k, k < 2 → parseFieldDescriptor (T_F k).2.2.1 = some (tt_F k) := by decide +kernel
theorem in_F : ∀ w ∈ u_ws "StationLine$Frame" T_F 2, w ∈ jx_ws := jx_pl _ [132, 134] (by decide +kernel) (by decide +kernel)
def df_F : List Value := [.null, .int 0]
theorem dv_F : ∀ k, k < 2 → defaultValue (tt_F k) = df_F.getD k .null := by decide +kernel
def T_I : u_T := fun k => match k with
  | 0 => ("StationLine$Image", "sent", "[I", true)
  | 1 => ("StationLine$Image", "got", "[I", true)
  | 2 => ("StationLine$Image", "outputsAt", "[I", true)
  | 3 => ("StationLine$Image", "inputsAt", "[I", true)
  | 4 => ("StationLine$Image", "endsAt", "[I", true)
  | 5 => ("StationLine$Image", "stations", "I", false)
  | _ => ("StationLine$Image", "size", "I", false)
def tt_I : Nat → FieldType := fun k => match k with
  | 0 => .array (.int)
  | 1 => .array (.int)
  | 2 => .array (.int)
  | 3 => .array (.int)
  | 4 => .array (.int)
  | 5 => .int
  | _ => .int
theorem nn_I : ∀ a, a < 7 → ∀ b, b < 7 → a ≠ b → (T_I a).2.1 ≠ (T_I b).2.1 := by decide +kernel
theorem to_I : ∀ k, k < 7 → parseFieldDescriptor (T_I k).2.2.1 = some (tt_I k) := by decide +kernel
theorem in_I : ∀ w ∈ u_ws "StationLine$Image" T_I 7, w ∈ jx_ws := jx_pl _ [65, 67, 69, 71, 73, 75, 77] (by decide +kernel) (by decide +kernel)
def df_I : List Value := [.null, .null, .null, .null, .null, .int 0, .int 0]
theorem dv_I : ∀ k, k < 7 → defaultValue (tt_I k) = df_I.getD k .null := by decide +kernel
def T_N : u_T := fun k => match k with
  | 0 => ("StationLine$Line", "stations", "[LStationLine$Station;", true)
  | 1 => ("StationLine$Line", "broken", "[Z", true)
  | 2 => ("StationLine$Line", "count", "I", false)
  | _ => ("StationLine$Line", "spoilBefore", "I", false)
def tt_N : Nat → FieldType := fun k => match k with
  | 0 => .array (.object "StationLine$Station")
  | 1 => .array (.boolean)
  | 2 => .int
  | _ => .int
theorem nn_N : ∀ a, a < 4 → ∀ b, b < 4 → a ≠ b → (T_N a).2.1 ≠ (T_N b).2.1 := by decide +kernel
theorem to_N : ∀ k, k < 4 → parseFieldDescriptor (T_N k).2.2.1 = some (tt_N k) := by decide +kernel
theorem in_N : ∀ w ∈ u_ws "StationLine$Line" T_N 4, w ∈ jx_ws := jx_pl _ [37, 39, 41, 43] (by decide +kernel) (by decide +kernel)
def df_N : List Value := [.null, .null, .int 0, .int 0]
theorem dv_N : ∀ k, k < 4 → defaultValue (tt_N k) = df_N.getD k .null := by decide +kernel
def T_B : u_T := fun k => match k with
  | 0 => ("StationLine$MappedBits", "dataBit", "I", false)
  | 1 => ("StationLine$MappedBits", "memoryBit", "I", false)
  | _ => ("StationLine$MappedBits", "count", "I", false)
def tt_B : Nat → FieldType := fun k => match k with
  | 0 => .int
  | 1 => .int
  | _ => .int
theorem nn_B : ∀ a, a < 3 → ∀ b, b < 3 → a ≠ b → (T_B a).2.1 ≠ (T_B b).2.1 := by decide +kernel
theorem to_B : ∀ k, k < 3 → parseFieldDescriptor (T_B k).2.2.1 = some (tt_B k) := by decide +kernel
theorem in_B : ∀ w ∈ u_ws "StationLine$MappedBits" T_B 3, w ∈ jx_ws := jx_pl _ [223, 225, 227] (by decide +kernel) (by decide +kernel)
def df_B : List Value := [.int 0, .int 0, .int 0]
theorem dv_B : ∀ k, k < 3 → defaultValue (tt_B k) = df_B.getD k .null := by decide +kernel
def T_E : u_T := fun k => match k with
  | 0 => ("StationLine$Memory", "bytes", "[I", true)
  | 1 => ("StationLine$Memory", "fresh", "[[I", true)
  | 2 => ("StationLine$Memory", "done", "[[I", true)
  | 3 => ("StationLine$Memory", "written", "[Z", true)
  | 4 => ("StationLine$Memory", "row", "[I", true)
  | 5 => ("StationLine$Memory", "mask", "[I", true)
  | 6 => ("StationLine$Memory", "owners", "[I", true)
  | 7 => ("StationLine$Memory", "controlWritten", "Z", false)
  | 8 => ("StationLine$Memory", "outputsRenewed", "Z", false)
  | _ => ("StationLine$Memory", "age", "I", false)
def tt_E : Nat → FieldType := fun k => match k with
  | 0 => .array (.int)
  | 1 => .array (.array (.int))
  | 2 => .array (.array (.int))
  | 3 => .array (.boolean)
  | 4 => .array (.int)
  | 5 => .array (.int)
  | 6 => .array (.int)
  | 7 => .boolean
  | 8 => .boolean
  | _ => .int
theorem nn_E : ∀ a, a < 10 → ∀ b, b < 10 → a ≠ b → (T_E a).2.1 ≠ (T_E b).2.1 := by decide +kernel
theorem to_E : ∀ k, k < 10 → parseFieldDescriptor (T_E k).2.2.1 = some (tt_E k) := by decide +kernel
theorem in_E : ∀ w ∈ u_ws "StationLine$Memory" T_E 10, w ∈ jx_ws := jx_pl _ [193, 195, 197, 199, 201, 203, 205, 207, 209, 211] (by decide +kernel) (by decide +kernel)
def df_E : List Value := [.null, .null, .null, .null, .null, .null, .null, .int 0, .int 0, .int 0]
theorem dv_E : ∀ k, k < 10 → defaultValue (tt_E k) = df_E.getD k .null := by decide +kernel
def T_S : u_T := fun k => match k with
  | 0 => ("StationLine$Station", "outputs", "I", true)
  | 1 => ("StationLine$Station", "inputs", "I", true)
  | 2 => ("StationLine$Station", "sensors", "[I", true)
  | 3 => ("StationLine$Station", "actuators", "[I", true)
  | 4 => ("StationLine$Station", "memory", "LStationLine$Memory;", true)
  | 5 => ("StationLine$Station", "bits", "LStationLine$MappedBits;", true)
  | 6 => ("StationLine$Station", "arrived", "[I", true)
  | _ => ("StationLine$Station", "objects", "[I", true)
def tt_S : Nat → FieldType := fun k => match k with
  | 0 => .int
  | 1 => .int
  | 2 => .array (.int)
  | 3 => .array (.int)
  | 4 => .object "StationLine$Memory"
  | 5 => .object "StationLine$MappedBits"
  | 6 => .array (.int)
  | _ => .array (.int)
theorem nn_S : ∀ a, a < 8 → ∀ b, b < 8 → a ≠ b → (T_S a).2.1 ≠ (T_S b).2.1 := by decide +kernel
theorem to_S : ∀ k, k < 8 → parseFieldDescriptor (T_S k).2.2.1 = some (tt_S k) := by decide +kernel
theorem in_S : ∀ w ∈ u_ws "StationLine$Station" T_S 8, w ∈ jx_ws := jx_pl _ [245, 247, 249, 251, 253, 255, 257, 259] (by decide +kernel) (by decide +kernel)
def df_S : List Value := [.int 0, .int 0, .null, .null, .null, .null, .null, .null]
theorem dv_S : ∀ k, k < 8 → defaultValue (tt_S k) = df_S.getD k .null := by decide +kernel
def T_L : u_T := fun k => match k with
  | 0 => ("StationLine", "line", "LStationLine$Line;", true)
  | 1 => ("StationLine", "image", "LStationLine$Image;", true)
  | 2 => ("StationLine", "ready", "LStationLine$Frame;", false)
  | 3 => ("StationLine", "latest", "LStationLine$Frame;", false)
  | 4 => ("StationLine", "cameBack", "Z", false)
  | _ => ("StationLine", "found", "I", false)
def tt_L : Nat → FieldType := fun k => match k with
  | 0 => .object "StationLine$Line"
  | 1 => .object "StationLine$Image"
  | 2 => .object "StationLine$Frame"
  | 3 => .object "StationLine$Frame"
  | 4 => .boolean
  | _ => .int
theorem nn_L : ∀ a, a < 6 → ∀ b, b < 6 → a ≠ b → (T_L a).2.1 ≠ (T_L b).2.1 := by decide +kernel
theorem to_L : ∀ k, k < 6 → parseFieldDescriptor (T_L k).2.2.1 = some (tt_L k) := by decide +kernel
theorem in_L : ∀ w ∈ u_ws "StationLine" T_L 6, w ∈ jx_ws := jx_pl _ [143, 145, 147, 149, 151, 153] (by decide +kernel) (by decide +kernel)
def df_L : List Value := [.null, .null, .null, .null, .int 0, .int 0]
theorem dv_L : ∀ k, k < 6 → defaultValue (tt_L k) = df_L.getD k .null := by decide +kernel
def T_R : u_T := fun k => match k with
  | 0 => ("StationLineModel", "stations", "I", false)
  | 1 => ("StationLineModel", "outs", "[I", true)
  | 2 => ("StationLineModel", "ins", "[I", true)
  | 3 => ("StationLineModel", "broken", "[Z", true)
  | 4 => ("StationLineModel", "memory", "[I", true)
  | 5 => ("StationLineModel", "fresh", "[I", true)
  | 6 => ("StationLineModel", "done", "[I", true)
  | 7 => ("StationLineModel", "written", "[Z", true)
  | 8 => ("StationLineModel", "mode", "[I", true)
  | 9 => ("StationLineModel", "failed", "[Z", true)
  | 10 => ("StationLineModel", "codes", "[I", true)
  | 11 => ("StationLineModel", "controlled", "[Z", true)
  | 12 => ("StationLineModel", "renewed", "[Z", true)
  | 13 => ("StationLineModel", "age", "[I", true)
  | 14 => ("StationLineModel", "messages", "[I", true)
  | 15 => ("StationLineModel", "objects", "[I", true)
  | 16 => ("StationLineModel", "sensors", "[I", true)
  | 17 => ("StationLineModel", "actuators", "[I", true)
  | 18 => ("StationLineModel", "ready", "I", false)
  | 19 => ("StationLineModel", "sent", "I", false)
  | 20 => ("StationLineModel", "back", "I", false)
  | 21 => ("StationLineModel", "spoilt", "I", false)
  | 22 => ("StationLineModel", "command", "[I", true)
  | 23 => ("StationLineModel", "address", "[I", true)
  | 24 => ("StationLineModel", "offset", "[I", true)
  | 25 => ("StationLineModel", "length", "[I", true)
  | 26 => ("StationLineModel", "counter", "[I", true)
  | 27 => ("StationLineModel", "bytes", "[I", true)
  | 28 => ("StationLineModel", "row", "[I", true)
  | 29 => ("StationLineModel", "came", "[I", true)
  | 30 => ("StationLineModel", "readSome", "Z", false)
  | 31 => ("StationLineModel", "wroteSome", "Z", false)
  | 32 => ("StationLineModel", "found", "I", false)
  | 33 => ("StationLineModel", "setUp", "I", false)
  | 34 => ("StationLineModel", "size", "I", false)
  | 35 => ("StationLineModel", "outPlace", "[I", true)
  | 36 => ("StationLineModel", "inPlace", "[I", true)
  | 37 => ("StationLineModel", "knownOuts", "[I", true)
  | 38 => ("StationLineModel", "knownIns", "[I", true)
  | 39 => ("StationLineModel", "image", "[I", true)
  | _ => ("StationLineModel", "taken", "[I", true)
def tt_R : Nat → FieldType := fun k => match k with
  | 0 => .int
  | 1 => .array (.int)
  | 2 => .array (.int)
  | 3 => .array (.boolean)
  | 4 => .array (.int)
  | 5 => .array (.int)
  | 6 => .array (.int)
  | 7 => .array (.boolean)
  | 8 => .array (.int)
  | 9 => .array (.boolean)
  | 10 => .array (.int)
  | 11 => .array (.boolean)
  | 12 => .array (.boolean)
  | 13 => .array (.int)
  | 14 => .array (.int)
  | 15 => .array (.int)
  | 16 => .array (.int)
  | 17 => .array (.int)
  | 18 => .int
  | 19 => .int
  | 20 => .int
  | 21 => .int
  | 22 => .array (.int)
  | 23 => .array (.int)
  | 24 => .array (.int)
  | 25 => .array (.int)
  | 26 => .array (.int)
  | 27 => .array (.int)
  | 28 => .array (.int)
  | 29 => .array (.int)
  | 30 => .boolean
  | 31 => .boolean
  | 32 => .int
  | 33 => .int
  | 34 => .int
  | 35 => .array (.int)
  | 36 => .array (.int)
  | 37 => .array (.int)
  | 38 => .array (.int)
  | 39 => .array (.int)
  | _ => .array (.int)
theorem nn_R : ∀ a, a < 41 → ∀ b, b < 41 → a ≠ b → (T_R a).2.1 ≠ (T_R b).2.1 := by decide +kernel
theorem to_R : ∀ k, k < 41 → parseFieldDescriptor (T_R k).2.2.1 = some (tt_R k) := by decide +kernel
theorem in_R : ∀ w ∈ u_ws "StationLineModel" T_R 41, w ∈ jx_ws := jx_pl _ [626, 628, 630, 632, 634, 636, 638, 640, 642, 644, 646, 648, 650, 652, 654, 656, 658, 660, 662, 664, 666, 668, 670, 672, 674, 676, 678, 680, 682, 684, 686, 688, 690, 692, 694, 696, 698, 700, 702, 704, 706] (by decide +kernel) (by decide +kernel)
def df_R : List Value := [.int 0, .null, .null, .null, .null, .null, .null, .null, .null, .null, .null, .null, .null, .null, .null, .null, .null, .null, .int 0, .int 0, .int 0, .int 0, .null, .null, .null, .null, .null, .null, .null, .null, .int 0, .int 0, .int 0, .int 0, .int 0, .null, .null, .null, .null, .null, .null]
theorem dv_R : ∀ k, k < 41 → defaultValue (tt_R k) = df_R.getD k .null := by decide +kernel
abbrev vwCl : List vw_C := [("StationLine$Datagram", T_D, 6), ("StationLine$Frame", T_F, 2), ("StationLine$Image", T_I, 7), ("StationLine$Line", T_N, 4), ("StationLine$MappedBits", T_B, 3), ("StationLine$Memory", T_E, 10), ("StationLine$Station", T_S, 8), ("StationLine", T_L, 6), ("StationLineModel", T_R, 41)]
abbrev y_D_init : MethodName := ⟨"StationLine$Datagram", "<init>", "()V"⟩
abbrev y_F_init : MethodName := ⟨"StationLine$Frame", "<init>", "()V"⟩
abbrev y_I_init : MethodName := ⟨"StationLine$Image", "<init>", "()V"⟩
abbrev y_N_init : MethodName := ⟨"StationLine$Line", "<init>", "()V"⟩
abbrev y_L_init : MethodName := ⟨"StationLine", "<init>", "()V"⟩
abbrev y_B_init : MethodName := ⟨"StationLine$MappedBits", "<init>", "()V"⟩
abbrev y_E_init : MethodName := ⟨"StationLine$Memory", "<init>", "()V"⟩
abbrev y_S_init : MethodName := ⟨"StationLine$Station", "<init>", "(II)V"⟩
abbrev y_L_station : MethodName := ⟨"StationLine", "station", "(II)I"⟩
abbrev y_L_isCommand : MethodName := ⟨"StationLine", "isCommand", "(I)Z"⟩
abbrev y_A_fill : MethodName := ⟨"java/util/Arrays", "fill", "([II)V"⟩
abbrev y_F_append : MethodName := ⟨"StationLine$Frame", "append", "(IIII)LStationLine$Datagram;"⟩
abbrev y_L_datagram : MethodName := ⟨"StationLine", "datagram", "(IIII)I"⟩
abbrev y_F_hasDatagram : MethodName := ⟨"StationLine$Frame", "hasDatagram", "(I)Z"⟩
abbrev y_F_hasByte : MethodName := ⟨"StationLine$Frame", "hasByte", "(II)Z"⟩
abbrev y_L_data : MethodName := ⟨"StationLine", "data", "(III)Z"⟩
abbrev y_N_stationsBeforeBreak : MethodName := ⟨"StationLine$Line", "stationsBeforeBreak", "()I"⟩
abbrev y_E_modeOf : MethodName := ⟨"StationLine$Memory", "modeOf", "(I)I"⟩
abbrev y_E_startOf : MethodName := ⟨"StationLine$Memory", "startOf", "(I)I"⟩
abbrev y_E_beforeReading : MethodName := ⟨"StationLine$Memory", "beforeReading", "(II)V"⟩
abbrev y_E_isOpen : MethodName := ⟨"StationLine$Memory", "isOpen", "(I)Z"⟩
abbrev y_E_lengthOf : MethodName := ⟨"StationLine$Memory", "lengthOf", "(I)I"⟩
abbrev y_E_findOwners : MethodName := ⟨"StationLine$Memory", "findOwners", "(II)V"⟩
abbrev y_E_heldByte : MethodName := ⟨"StationLine$Memory", "heldByte", "(II)I"⟩
abbrev y_E_allows : MethodName := ⟨"StationLine$Memory", "allows", "(IIIZ)Z"⟩
abbrev y_E_isAllowed : MethodName := ⟨"StationLine$Memory", "isAllowed", "(IIZ)Z"⟩
abbrev y_E_readRow : MethodName := ⟨"StationLine$Memory", "readRow", "(II)Z"⟩
abbrev y_E_storeInChannel : MethodName := ⟨"StationLine$Memory", "storeInChannel", "(III)V"⟩
abbrev y_E_clearChannel : MethodName := ⟨"StationLine$Memory", "clearChannel", "(I)V"⟩
abbrev y_E_storePlain : MethodName := ⟨"StationLine$Memory", "storePlain", "(II)V"⟩
abbrev y_E_writeRow : MethodName := ⟨"StationLine$Memory", "writeRow", "(II)Z"⟩
abbrev y_S_performDirect : MethodName := ⟨"StationLine$Station", "performDirect", "(LStationLine$Datagram;)V"⟩
abbrev y_B_lastByte : MethodName := ⟨"StationLine$MappedBits", "lastByte", "()I"⟩
abbrev y_B_find : MethodName := ⟨"StationLine$MappedBits", "find", "([IILStationLine$Datagram;)Z"⟩
abbrev y_B_firstByte : MethodName := ⟨"StationLine$MappedBits", "firstByte", "()I"⟩
abbrev y_B_putIntoData : MethodName := ⟨"StationLine$MappedBits", "putIntoData", "([I[I)V"⟩
abbrev y_B_putIntoRow : MethodName := ⟨"StationLine$MappedBits", "putIntoRow", "([I[I[I)V"⟩
abbrev y_S_performLogical : MethodName := ⟨"StationLine$Station", "performLogical", "(LStationLine$Datagram;)V"⟩
abbrev y_S_perform : MethodName := ⟨"StationLine$Station", "perform", "(LStationLine$Datagram;)V"⟩
abbrev y_N_carry : MethodName := ⟨"StationLine$Line", "carry", "(LStationLine$Frame;)Z"⟩
abbrev y_L_send : MethodName := ⟨"StationLine", "send", "()I"⟩
abbrev y_L_returned : MethodName := ⟨"StationLine", "returned", "(II)I"⟩
abbrev y_N_hasStation : MethodName := ⟨"StationLine$Line", "hasStation", "(I)Z"⟩
abbrev y_L_cut : MethodName := ⟨"StationLine", "cut", "(IZ)Z"⟩
abbrev y_L_spoil : MethodName := ⟨"StationLine", "spoil", "(I)Z"⟩
abbrev y_E_isOpenAs : MethodName := ⟨"StationLine$Memory", "isOpenAs", "(III)Z"⟩
abbrev y_S_present : MethodName := ⟨"StationLine$Station", "present", "()I"⟩
abbrev y_S_moveActuators : MethodName := ⟨"StationLine$Station", "moveActuators", "()V"⟩
abbrev y_S_become : MethodName := ⟨"StationLine$Station", "become", "(II)V"⟩
abbrev y_S_enter : MethodName := ⟨"StationLine$Station", "enter", "(I)V"⟩
abbrev y_S_hasMailbox : MethodName := ⟨"StationLine$Station", "hasMailbox", "()Z"⟩
abbrev y_E_isOn : MethodName := ⟨"StationLine$Memory", "isOn", "(I)Z"⟩
abbrev y_S_isSetUp : MethodName := ⟨"StationLine$Station", "isSetUp", "(III)Z"⟩
abbrev y_S_objection : MethodName := ⟨"StationLine$Station", "objection", "(I)I"⟩
abbrev y_S_obeyControl : MethodName := ⟨"StationLine$Station", "obeyControl", "()V"⟩
abbrev y_L_writeMessage : MethodName := ⟨"StationLine", "writeMessage", "([IIII)V"⟩
abbrev y_S_doMessage : MethodName := ⟨"StationLine$Station", "doMessage", "(III[I)V"⟩
abbrev y_S_replyToMessage : MethodName := ⟨"StationLine$Station", "replyToMessage", "()V"⟩
abbrev y_S_takeSensors : MethodName := ⟨"StationLine$Station", "takeSensors", "()V"⟩
abbrev y_S_watch : MethodName := ⟨"StationLine$Station", "watch", "()V"⟩
abbrev y_S_makeTick : MethodName := ⟨"StationLine$Station", "makeTick", "()V"⟩
abbrev y_L_tick : MethodName := ⟨"StationLine", "tick", "()V"⟩
abbrev y_L_sense : MethodName := ⟨"StationLine", "sense", "(III)Z"⟩
abbrev y_L_actuator : MethodName := ⟨"StationLine", "actuator", "(II)I"⟩
abbrev y_L_state : MethodName := ⟨"StationLine", "state", "(I)I"⟩
abbrev y_L_startFrame : MethodName := ⟨"StationLine", "startFrame", "(IIII)LStationLine$Datagram;"⟩
abbrev y_I_forget : MethodName := ⟨"StationLine$Image", "forget", "()V"⟩
abbrev y_L_scan : MethodName := ⟨"StationLine", "scan", "()I"⟩
abbrev y_L_writeChannel : MethodName := ⟨"StationLine", "writeChannel", "([IIIII)V"⟩
abbrev y_L_writeMap : MethodName := ⟨"StationLine", "writeMap", "([IIIII)V"⟩
abbrev y_L_startChannelsFrame : MethodName := ⟨"StationLine", "startChannelsFrame", "(I)V"⟩
abbrev y_L_startInputsFrame : MethodName := ⟨"StationLine", "startInputsFrame", "(I)V"⟩
abbrev y_F_isCountedOnce : MethodName := ⟨"StationLine$Frame", "isCountedOnce", "()Z"⟩
abbrev y_I_append : MethodName := ⟨"StationLine$Image", "append", "(LStationLine$Station;)V"⟩
abbrev y_L_setup : MethodName := ⟨"StationLine", "setup", "()I"⟩
abbrev y_L_request : MethodName := ⟨"StationLine", "request", "(I)I"⟩
abbrev y_L_output : MethodName := ⟨"StationLine", "output", "(II)Z"⟩
abbrev y_I_meet : MethodName := ⟨"StationLine$Image", "meet", "(III)Z"⟩
abbrev y_I_expected : MethodName := ⟨"StationLine$Image", "expected", "(I)I"⟩
abbrev y_L_cycle : MethodName := ⟨"StationLine", "cycle", "()I"⟩
abbrev y_L_input : MethodName := ⟨"StationLine", "input", "(I)I"⟩
abbrev y_L_ask : MethodName := ⟨"StationLine", "ask", "(IIII)I"⟩
abbrev y_L_answer : MethodName := ⟨"StationLine", "answer", "(I)I"⟩
abbrev y_R_init : MethodName := ⟨"StationLineModel", "<init>", "()V"⟩
abbrev y_R_isStation : MethodName := ⟨"StationLineModel", "isStation", "(I)Z"⟩
abbrev y_R_actuator : MethodName := ⟨"StationLineModel", "actuator", "(II)I"⟩
abbrev y_R_gram : MethodName := ⟨"StationLineModel", "gram", "(IIIII)V"⟩
abbrev y_R_copyGram : MethodName := ⟨"StationLineModel", "copyGram", "(II)V"⟩
abbrev y_R_at : MethodName := ⟨"StationLineModel", "at", "(II)I"⟩
abbrev y_R_begin : MethodName := ⟨"StationLineModel", "begin", "(II)I"⟩
abbrev y_R_many : MethodName := ⟨"StationLineModel", "many", "(II)I"⟩
abbrev y_R_open : MethodName := ⟨"StationLineModel", "open", "(II)Z"⟩
abbrev y_R_channelOf : MethodName := ⟨"StationLineModel", "channelOf", "(II)I"⟩
abbrev y_R_full : MethodName := ⟨"StationLineModel", "full", "(II)Z"⟩
abbrev y_R_kind : MethodName := ⟨"StationLineModel", "kind", "(II)I"⟩
abbrev y_R_lets : MethodName := ⟨"StationLineModel", "lets", "(IIIIZ)Z"⟩
abbrev y_R_allowed : MethodName := ⟨"StationLineModel", "allowed", "(IIIZ)Z"⟩
abbrev y_R_cell : MethodName := ⟨"StationLineModel", "cell", "(III)I"⟩
abbrev y_R_copy : MethodName := ⟨"StationLineModel", "copy", "(IIZ)V"⟩
abbrev y_R_fill : MethodName := ⟨"StationLineModel", "fill", "(III)V"⟩
abbrev y_R_reads : MethodName := ⟨"StationLineModel", "reads", "(III)Z"⟩
abbrev y_R_stays : MethodName := ⟨"StationLineModel", "stays", "(II)I"⟩
abbrev y_R_wipe : MethodName := ⟨"StationLineModel", "wipe", "(II)V"⟩
abbrev y_R_store : MethodName := ⟨"StationLineModel", "store", "(III)V"⟩
abbrev y_R_writes : MethodName := ⟨"StationLineModel", "writes", "(III)V"⟩
abbrev y_R_map : MethodName := ⟨"StationLineModel", "map", "(III)V"⟩
abbrev y_R_touch : MethodName := ⟨"StationLineModel", "touch", "(II)V"⟩
abbrev y_R_handle : MethodName := ⟨"StationLineModel", "handle", "(II)V"⟩
abbrev y_R_travel : MethodName := ⟨"StationLineModel", "travel", "()Z"⟩
abbrev y_R_answer : MethodName := ⟨"StationLineModel", "answer", "(I)I"⟩
abbrev y_R_six : MethodName := ⟨"StationLineModel", "six", "(IIIIIII)V"⟩
abbrev y_R_ask : MethodName := ⟨"StationLineModel", "ask", "(IIII)I"⟩
abbrev y_R_cut : MethodName := ⟨"StationLineModel", "cut", "(IZ)Z"⟩
abbrev y_R_lies : MethodName := ⟨"StationLineModel", "lies", "(III)Z"⟩
abbrev y_R_expected : MethodName := ⟨"StationLineModel", "expected", "(I)I"⟩
abbrev y_R_cycle : MethodName := ⟨"StationLineModel", "cycle", "()I"⟩
abbrev y_R_data : MethodName := ⟨"StationLineModel", "data", "(III)Z"⟩
abbrev y_R_datagram : MethodName := ⟨"StationLineModel", "datagram", "(IIII)I"⟩
abbrev y_R_input : MethodName := ⟨"StationLineModel", "input", "(I)I"⟩
abbrev y_R_output : MethodName := ⟨"StationLineModel", "output", "(II)Z"⟩
abbrev y_R_single : MethodName := ⟨"StationLineModel", "single", "(IIII)Z"⟩
abbrev y_R_request : MethodName := ⟨"StationLineModel", "request", "(I)I"⟩
abbrev y_R_returned : MethodName := ⟨"StationLineModel", "returned", "(II)I"⟩
abbrev y_R_scan : MethodName := ⟨"StationLineModel", "scan", "()I"⟩
abbrev y_R_send : MethodName := ⟨"StationLineModel", "send", "()I"⟩
abbrev y_R_sense : MethodName := ⟨"StationLineModel", "sense", "(III)Z"⟩
abbrev y_R_equip : MethodName := ⟨"StationLineModel", "equip", "(I)Z"⟩
abbrev y_R_setup : MethodName := ⟨"StationLineModel", "setup", "()I"⟩
abbrev y_R_spoil : MethodName := ⟨"StationLineModel", "spoil", "(I)Z"⟩
abbrev y_R_state : MethodName := ⟨"StationLineModel", "state", "(I)I"⟩
abbrev y_R_station : MethodName := ⟨"StationLineModel", "station", "(II)I"⟩
abbrev y_R_fail : MethodName := ⟨"StationLineModel", "fail", "(II)V"⟩
abbrev y_R_like : MethodName := ⟨"StationLineModel", "like", "(IIII)Z"⟩
abbrev y_R_fit : MethodName := ⟨"StationLineModel", "fit", "(IIII)Z"⟩
abbrev y_R_mailed : MethodName := ⟨"StationLineModel", "mailed", "(I)Z"⟩
abbrev y_R_hindrance : MethodName := ⟨"StationLineModel", "hindrance", "(II)I"⟩
abbrev y_R_control : MethodName := ⟨"StationLineModel", "control", "(I)V"⟩
abbrev y_R_message : MethodName := ⟨"StationLineModel", "message", "(I)V"⟩
abbrev y_R_rest : MethodName := ⟨"StationLineModel", "rest", "(I)V"⟩
abbrev y_R_turn : MethodName := ⟨"StationLineModel", "turn", "(I)V"⟩
abbrev y_R_tick : MethodName := ⟨"StationLineModel", "tick", "()V"⟩
def jx_nl : List (String × Nat × MethodName × String) := [("StationLine", 11, y_N_init, "StationLine"), ("StationLine", 18, y_I_init, "StationLine"), ("StationLine$Frame", 17, y_D_init, "StationLine"), ("StationLine$Station", 20, y_E_init, "StationLine"), ("StationLine$Station", 27, y_B_init, "StationLine"), ("StationLine$Station", 179, y_L_writeMessage, "StationLine")]
theorem nl_0 : ("StationLine", 11, y_N_init, "StationLine") ∈ jx_nl := List.mem_of_getElem? (i := 0) rfl
theorem nl_1 : ("StationLine", 18, y_I_init, "StationLine") ∈ jx_nl := List.mem_of_getElem? (i := 1) rfl
theorem nl_2 : ("StationLine$Frame", 17, y_D_init, "StationLine") ∈ jx_nl := List.mem_of_getElem? (i := 2) rfl
theorem nl_3 : ("StationLine$Station", 20, y_E_init, "StationLine") ∈ jx_nl := List.mem_of_getElem? (i := 3) rfl
theorem nl_4 : ("StationLine$Station", 27, y_B_init, "StationLine") ∈ jx_nl := List.mem_of_getElem? (i := 4) rfl
theorem nl_5 : ("StationLine$Station", 179, y_L_writeMessage, "StationLine") ∈ jx_nl := List.mem_of_getElem? (i := 5) rfl
theorem jx_nlt : ∀ q ∈ jx_nl, Cond.methodLinkNest q.1 q.2.1 q.2.2.1 q.2.2.2 ∈ tables_1 := by decide +kernel
theorem cb_10 : (Int8.ofInt 10).toInt32 = 10 := by decide +kernel
theorem cb_11 : (Int8.ofInt 11).toInt32 = 11 := by decide +kernel
theorem cb_12 : (Int8.ofInt 12).toInt32 = 12 := by decide +kernel
theorem cb_127 : (Int8.ofInt 127).toInt32 = 127 := by decide +kernel
theorem cb_14 : (Int8.ofInt 14).toInt32 = 14 := by decide +kernel
theorem cb_15 : (Int8.ofInt 15).toInt32 = 15 := by decide +kernel
theorem cb_16 : (Int8.ofInt 16).toInt32 = 16 := by decide +kernel
theorem cb_17 : (Int8.ofInt 17).toInt32 = 17 := by decide +kernel
theorem cb_18 : (Int8.ofInt 18).toInt32 = 18 := by decide +kernel
theorem cb_22 : (Int8.ofInt 22).toInt32 = 22 := by decide +kernel
theorem cb_24 : (Int8.ofInt 24).toInt32 = 24 := by decide +kernel
theorem cb_27 : (Int8.ofInt 27).toInt32 = 27 := by decide +kernel
theorem cb_29 : (Int8.ofInt 29).toInt32 = 29 := by decide +kernel
theorem cb_30 : (Int8.ofInt 30).toInt32 = 30 := by decide +kernel
theorem cb_31 : (Int8.ofInt 31).toInt32 = 31 := by decide +kernel
theorem cb_32 : (Int8.ofInt 32).toInt32 = 32 := by decide +kernel
theorem cb_33 : (Int8.ofInt 33).toInt32 = 33 := by decide +kernel
theorem cb_34 : (Int8.ofInt 34).toInt32 = 34 := by decide +kernel
theorem cb_35 : (Int8.ofInt 35).toInt32 = 35 := by decide +kernel
theorem cb_38 : (Int8.ofInt 38).toInt32 = 38 := by decide +kernel
theorem cb_39 : (Int8.ofInt 39).toInt32 = 39 := by decide +kernel
theorem cb_40 : (Int8.ofInt 40).toInt32 = 40 := by decide +kernel
theorem cb_47 : (Int8.ofInt 47).toInt32 = 47 := by decide +kernel
theorem cb_48 : (Int8.ofInt 48).toInt32 = 48 := by decide +kernel
theorem cb_49 : (Int8.ofInt 49).toInt32 = 49 := by decide +kernel
theorem cb_51 : (Int8.ofInt 51).toInt32 = 51 := by decide +kernel
theorem cb_52 : (Int8.ofInt 52).toInt32 = 52 := by decide +kernel
theorem cb_6 : (Int8.ofInt 6).toInt32 = 6 := by decide +kernel
theorem cb_64 : (Int8.ofInt 64).toInt32 = 64 := by decide +kernel
theorem cb_7 : (Int8.ofInt 7).toInt32 = 7 := by decide +kernel
theorem cb_72 : (Int8.ofInt 72).toInt32 = 72 := by decide +kernel
theorem cb_8 : (Int8.ofInt 8).toInt32 = 8 := by decide +kernel
theorem cb_80 : (Int8.ofInt 80).toInt32 = 80 := by decide +kernel
theorem cb_9 : (Int8.ofInt 9).toInt32 = 9 := by decide +kernel
theorem cb_96 : (Int8.ofInt 96).toInt32 = 96 := by decide +kernel
theorem cb_m17 : (Int8.ofInt (-17)).toInt32 = (-17) := by decide +kernel
theorem cb_m2 : (Int8.ofInt (-2)).toInt32 = (-2) := by decide +kernel
theorem ci_0 : Int32.ofInt 0 = 0 := by decide +kernel
theorem ci_1 : Int32.ofInt 1 = 1 := by decide +kernel
theorem ci_2 : Int32.ofInt 2 = 2 := by decide +kernel
theorem ci_3 : Int32.ofInt 3 = 3 := by decide +kernel
theorem ci_4 : Int32.ofInt 4 = 4 := by decide +kernel
theorem ci_5 : Int32.ofInt 5 = 5 := by decide +kernel
theorem ci_8 : Int32.ofInt 8 = 8 := by decide +kernel
theorem ci_m1 : Int32.ofInt (-1) = (-1) := by decide +kernel
theorem cs_1000 : (Int16.ofInt 1000).toInt32 = 1000 := by decide +kernel
theorem cs_128 : (Int16.ofInt 128).toInt32 = 128 := by decide +kernel
theorem cs_192 : (Int16.ofInt 192).toInt32 = 192 := by decide +kernel
theorem cs_255 : (Int16.ofInt 255).toInt32 = 255 := by decide +kernel
theorem cs_256 : (Int16.ofInt 256).toInt32 = 256 := by decide +kernel
theorem cs_768 : (Int16.ofInt 768).toInt32 = 768 := by decide +kernel
theorem w_0 : Cond.methodLink "StationLine$Datagram" 3 objectInit ∈ jx_ws := jx_t1 93 rfl rfl
theorem w_1 : Cond.instanceMethod objectInit ∈ jx_ws := jx_t1 19 rfl rfl
theorem w_2 : Cond.code objectInit ⟨#[0xb1]⟩ 1 none ∈ jx_ws := jx_t1 20 rfl rfl
theorem w_3 : Cond.fieldLink "StationLine$Datagram" 9 "StationLine$Datagram" "bytes" "[I" ∈ jx_ws := jx_t1 109 rfl rfl
theorem w_4 : Cond.methodLink "StationLine$Frame" 3 objectInit ∈ jx_ws := jx_t1 86 rfl rfl
theorem w_5 : Cond.classLink "StationLine$Frame" 9 "StationLine$Datagram" ∈ jx_ws := jx_t1 87 rfl rfl
theorem w_6 : Cond.fieldLink "StationLine$Frame" 11 "StationLine$Frame" "datagrams" "[LStationLine$Datagram;" ∈ jx_ws := jx_t1 126 rfl rfl
theorem w_7 : Cond.instantiable "StationLine$Datagram" 6 ∈ jx_ws := jx_t1 89 rfl rfl
theorem w_8 : Cond.initialized "StationLine$Datagram" ∈ jx_ws := jx_t1 5 rfl rfl
theorem w_9 : Cond.code y_D_init prog_2_method_1_code 1 (none) ∈ jx_ws := jx_t1 92 rfl rfl
theorem w_10 : Cond.instanceMethod y_D_init ∈ jx_ws := jx_t1 91 rfl rfl
theorem w_11 : Cond.methodLink "StationLine$Image" 3 objectInit ∈ jx_ws := jx_t1 52 rfl rfl
theorem w_12 : Cond.fieldLink "StationLine$Image" 9 "StationLine$Image" "sent" "[I" ∈ jx_ws := jx_t1 53 rfl rfl
theorem w_13 : Cond.fieldLink "StationLine$Image" 15 "StationLine$Image" "got" "[I" ∈ jx_ws := jx_t1 55 rfl rfl
theorem w_14 : Cond.fieldLink "StationLine$Image" 18 "StationLine$Image" "outputsAt" "[I" ∈ jx_ws := jx_t1 57 rfl rfl
theorem w_15 : Cond.fieldLink "StationLine$Image" 21 "StationLine$Image" "inputsAt" "[I" ∈ jx_ws := jx_t1 59 rfl rfl
theorem w_16 : Cond.fieldLink "StationLine$Image" 24 "StationLine$Image" "endsAt" "[I" ∈ jx_ws := jx_t1 61 rfl rfl
theorem w_17 : Cond.methodLink "StationLine$Line" 3 objectInit ∈ jx_ws := jx_t1 26 rfl rfl
theorem w_18 : Cond.classLink "StationLine$Line" 9 "StationLine$Station" ∈ jx_ws := jx_t1 27 rfl rfl
theorem w_19 : Cond.fieldLink "StationLine$Line" 11 "StationLine$Line" "stations" "[LStationLine$Station;" ∈ jx_ws := jx_t1 29 rfl rfl
theorem w_20 : Cond.fieldLink "StationLine$Line" 17 "StationLine$Line" "broken" "[Z" ∈ jx_ws := jx_t1 31 rfl rfl
theorem w_21 : Cond.fieldLink "StationLine$Line" 21 "StationLine$Line" "spoilBefore" "I" ∈ jx_ws := jx_t1 35 rfl rfl
theorem w_22 : Cond.methodLink "StationLine" 3 objectInit ∈ jx_ws := jx_t1 18 rfl rfl
theorem w_23 : Cond.classLink "StationLine" 9 "StationLine$Line" ∈ jx_ws := jx_t1 21 rfl rfl
theorem w_24 : Cond.instantiable "StationLine$Line" 4 ∈ jx_ws := jx_t1 22 rfl rfl
theorem w_25 : Cond.initialized "StationLine$Line" ∈ jx_ws := jx_t1 2 rfl rfl
theorem w_26 : Cond.code y_N_init prog_5_method_1_code 1 (none) ∈ jx_ws := jx_t1 25 rfl rfl
theorem w_27 : Cond.instanceMethod y_N_init ∈ jx_ws := jx_t1 24 rfl rfl
theorem w_28 : Cond.fieldLink "StationLine" 12 "StationLine" "line" "LStationLine$Line;" ∈ jx_ws := jx_t1 137 rfl rfl
theorem w_29 : Cond.classLink "StationLine" 16 "StationLine$Image" ∈ jx_ws := jx_t1 47 rfl rfl
theorem w_30 : Cond.instantiable "StationLine$Image" 7 ∈ jx_ws := jx_t1 48 rfl rfl
theorem w_31 : Cond.initialized "StationLine$Image" ∈ jx_ws := jx_t1 3 rfl rfl
theorem w_32 : Cond.code y_I_init prog_4_method_1_code 1 (none) ∈ jx_ws := jx_t1 51 rfl rfl
theorem w_33 : Cond.instanceMethod y_I_init ∈ jx_ws := jx_t1 50 rfl rfl
theorem w_34 : Cond.fieldLink "StationLine" 19 "StationLine" "image" "LStationLine$Image;" ∈ jx_ws := jx_t1 138 rfl rfl
theorem w_35 : Cond.classLink "StationLine" 23 "StationLine$Frame" ∈ jx_ws := jx_t1 81 rfl rfl
theorem w_36 : Cond.instantiable "StationLine$Frame" 2 ∈ jx_ws := jx_t1 82 rfl rfl
theorem w_37 : Cond.initialized "StationLine$Frame" ∈ jx_ws := jx_t1 4 rfl rfl
theorem w_38 : Cond.methodLink "StationLine" 25 y_F_init ∈ jx_ws := jx_t1 83 rfl rfl
theorem w_39 : Cond.code y_F_init prog_3_method_1_code 2 (none) ∈ jx_ws := jx_t1 85 rfl rfl
theorem w_40 : Cond.instanceMethod y_F_init ∈ jx_ws := jx_t1 84 rfl rfl
theorem w_41 : Cond.fieldLink "StationLine" 26 "StationLine" "ready" "LStationLine$Frame;" ∈ jx_ws := jx_t1 139 rfl rfl
theorem w_42 : Cond.fieldLink "StationLine" 30 "StationLine" "latest" "LStationLine$Frame;" ∈ jx_ws := jx_t1 140 rfl rfl
theorem w_43 : Cond.methodLink "StationLine$MappedBits" 3 objectInit ∈ jx_ws := jx_t1 219 rfl rfl
theorem w_44 : Cond.methodLink "StationLine$Memory" 3 objectInit ∈ jx_ws := jx_t1 171 rfl rfl
theorem w_45 : Cond.fieldLink "StationLine$Memory" 9 "StationLine$Memory" "bytes" "[I" ∈ jx_ws := jx_t1 174 rfl rfl
theorem w_46 : Cond.classLink "StationLine$Memory" 15 "[[I" ∈ jx_ws := jx_t1 172 rfl rfl
theorem w_47 : Cond.fieldLink "StationLine$Memory" 17 "StationLine$Memory" "fresh" "[[I" ∈ jx_ws := jx_t1 177 rfl rfl
theorem w_48 : Cond.fieldLink "StationLine$Memory" 20 "StationLine$Memory" "done" "[[I" ∈ jx_ws := jx_t1 178 rfl rfl
theorem w_49 : Cond.fieldLink "StationLine$Memory" 23 "StationLine$Memory" "written" "[Z" ∈ jx_ws := jx_t1 180 rfl rfl
theorem w_50 : Cond.fieldLink "StationLine$Memory" 27 "StationLine$Memory" "row" "[I" ∈ jx_ws := jx_t1 182 rfl rfl
theorem w_51 : Cond.fieldLink "StationLine$Memory" 30 "StationLine$Memory" "mask" "[I" ∈ jx_ws := jx_t1 184 rfl rfl
theorem w_52 : Cond.fieldLink "StationLine$Memory" 33 "StationLine$Memory" "owners" "[I" ∈ jx_ws := jx_t1 186 rfl rfl
theorem w_53 : Cond.methodLink "StationLine$Station" 3 objectInit ∈ jx_ws := jx_t1 165 rfl rfl
theorem w_54 : Cond.fieldLink "StationLine$Station" 9 "StationLine$Station" "sensors" "[I" ∈ jx_ws := jx_t1 236 rfl rfl
theorem w_55 : Cond.fieldLink "StationLine$Station" 15 "StationLine$Station" "actuators" "[I" ∈ jx_ws := jx_t1 238 rfl rfl
theorem w_56 : Cond.classLink "StationLine$Station" 18 "StationLine$Memory" ∈ jx_ws := jx_t1 166 rfl rfl
theorem w_57 : Cond.instantiable "StationLine$Memory" 10 ∈ jx_ws := jx_t1 167 rfl rfl
theorem w_58 : Cond.initialized "StationLine$Memory" ∈ jx_ws := jx_t1 8 rfl rfl
theorem w_59 : Cond.code y_E_init prog_7_method_1_code 1 (none) ∈ jx_ws := jx_t1 170 rfl rfl
theorem w_60 : Cond.instanceMethod y_E_init ∈ jx_ws := jx_t1 169 rfl rfl
theorem w_61 : Cond.fieldLink "StationLine$Station" 21 "StationLine$Station" "memory" "LStationLine$Memory;" ∈ jx_ws := jx_t2 0 rfl rfl
theorem w_62 : Cond.classLink "StationLine$Station" 25 "StationLine$MappedBits" ∈ jx_ws := jx_t1 214 rfl rfl
theorem w_63 : Cond.instantiable "StationLine$MappedBits" 3 ∈ jx_ws := jx_t1 215 rfl rfl
theorem w_64 : Cond.initialized "StationLine$MappedBits" ∈ jx_ws := jx_t1 9 rfl rfl
theorem w_65 : Cond.code y_B_init prog_6_method_1_code 1 (none) ∈ jx_ws := jx_t1 218 rfl rfl
theorem w_66 : Cond.instanceMethod y_B_init ∈ jx_ws := jx_t1 217 rfl rfl
theorem w_67 : Cond.fieldLink "StationLine$Station" 28 "StationLine$Station" "bits" "LStationLine$MappedBits;" ∈ jx_ws := jx_t2 2 rfl rfl
theorem w_68 : Cond.fieldLink "StationLine$Station" 32 "StationLine$Station" "arrived" "[I" ∈ jx_ws := jx_t2 3 rfl rfl
theorem w_69 : Cond.fieldLink "StationLine$Station" 35 "StationLine$Station" "objects" "[I" ∈ jx_ws := jx_t2 4 rfl rfl
theorem w_70 : Cond.fieldLink "StationLine$Station" 38 "StationLine$Station" "outputs" "I" ∈ jx_ws := jx_t1 230 rfl rfl
theorem w_71 : Cond.fieldLink "StationLine$Station" 42 "StationLine$Station" "inputs" "I" ∈ jx_ws := jx_t1 233 rfl rfl
theorem w_72 : Cond.fieldLink "StationLine$Station" 45 "StationLine$Memory" "bytes" "[I" ∈ jx_ws := jx_t1 175 rfl rfl
theorem w_73 : Cond.fieldLink "StationLine" 33 "StationLine$Line" "count" "I" ∈ jx_ws := jx_t1 34 rfl rfl
theorem w_74 : Cond.fieldLink "StationLine" 37 "StationLine$Line" "stations" "[LStationLine$Station;" ∈ jx_ws := jx_t1 30 rfl rfl
theorem w_75 : Cond.classLink "StationLine" 41 "StationLine$Station" ∈ jx_ws := jx_t1 160 rfl rfl
theorem w_76 : Cond.instantiable "StationLine$Station" 8 ∈ jx_ws := jx_t1 161 rfl rfl
theorem w_77 : Cond.initialized "StationLine$Station" ∈ jx_ws := jx_t1 7 rfl rfl
theorem w_78 : Cond.methodLink "StationLine" 43 y_S_init ∈ jx_ws := jx_t1 162 rfl rfl
theorem w_79 : Cond.code y_S_init prog_8_method_1_code 3 (none) ∈ jx_ws := jx_t1 164 rfl rfl
theorem w_80 : Cond.instanceMethod y_S_init ∈ jx_ws := jx_t1 163 rfl rfl
theorem w_81 : Cond.fieldLink "StationLine$Frame" 18 "StationLine$Frame" "size" "I" ∈ jx_ws := jx_t1 129 rfl rfl
theorem w_82 : Cond.fieldLink "StationLine$Frame" 22 "StationLine$Datagram" "command" "I" ∈ jx_ws := jx_t1 95 rfl rfl
theorem w_83 : Cond.fieldLink "StationLine$Frame" 25 "StationLine$Datagram" "address" "I" ∈ jx_ws := jx_t1 96 rfl rfl
theorem w_84 : Cond.fieldLink "StationLine$Frame" 28 "StationLine$Datagram" "offset" "I" ∈ jx_ws := jx_t1 100 rfl rfl
theorem w_85 : Cond.fieldLink "StationLine$Frame" 31 "StationLine$Datagram" "length" "I" ∈ jx_ws := jx_t1 102 rfl rfl
theorem w_86 : Cond.fieldLink "StationLine$Frame" 34 "StationLine$Datagram" "counter" "I" ∈ jx_ws := jx_t1 106 rfl rfl
theorem w_87 : Cond.fieldLink "StationLine$Frame" 37 "StationLine$Datagram" "bytes" "[I" ∈ jx_ws := jx_t1 110 rfl rfl
theorem w_88 : Cond.methodLink "StationLine$Frame" 41 y_A_fill ∈ jx_ws := jx_t2 34 rfl rfl
theorem w_89 : Cond.code y_A_fill prog_13_method_103_code 4 (none) ∈ jx_ws := jx_t2 36 rfl rfl
theorem w_90 : Cond.initialized "java/util/Arrays" ∈ jx_ws := jx_t1 10 rfl rfl
theorem w_91 : Cond.static y_A_fill ∈ jx_ws := jx_t2 35 rfl rfl
theorem w_92 : Cond.fieldLink "StationLine" 46 "StationLine$Frame" "size" "I" ∈ jx_ws := jx_t1 130 rfl rfl
theorem w_93 : Cond.methodLink "StationLine" 49 y_L_isCommand ∈ jx_ws := jx_t2 26 rfl rfl
theorem w_94 : Cond.code y_L_isCommand prog_1_method_21_code 1 (some .boolean) ∈ jx_ws := jx_t2 28 rfl rfl
theorem w_95 : Cond.initialized "StationLine" ∈ jx_ws := jx_t1 1 rfl rfl
theorem w_96 : Cond.static y_L_isCommand ∈ jx_ws := jx_t2 27 rfl rfl
theorem w_97 : Cond.constant "StationLine" 53 65535 ∈ jx_ws := jx_t2 29 rfl rfl
theorem w_98 : Cond.methodLink "StationLine" 54 y_F_append ∈ jx_ws := jx_t2 30 rfl rfl
theorem w_99 : Cond.code y_F_append prog_3_method_2_code 6 (some (.object "StationLine$Datagram")) ∈ jx_ws := jx_t2 33 rfl rfl
theorem w_100 : Cond.instanceMethod y_F_append ∈ jx_ws := jx_t2 31 rfl rfl
theorem w_101 : Cond.selects y_F_append.cls y_F_append y_F_append ∈ jx_ws := jx_t2 32 rfl rfl
theorem w_102 : Cond.methodLink "StationLine$Frame" 47 y_F_hasDatagram ∈ jx_ws := jx_t2 45 rfl rfl
theorem w_103 : Cond.code y_F_hasDatagram prog_3_method_3_code 2 (some .boolean) ∈ jx_ws := jx_t2 48 rfl rfl
theorem w_104 : Cond.instanceMethod y_F_hasDatagram ∈ jx_ws := jx_t2 46 rfl rfl
theorem w_105 : Cond.selects y_F_hasDatagram.cls y_F_hasDatagram y_F_hasDatagram ∈ jx_ws := jx_t2 47 rfl rfl
theorem w_106 : Cond.methodLink "StationLine" 58 y_F_hasByte ∈ jx_ws := jx_t2 41 rfl rfl
theorem w_107 : Cond.code y_F_hasByte prog_3_method_5_code 3 (some .boolean) ∈ jx_ws := jx_t2 44 rfl rfl
theorem w_108 : Cond.instanceMethod y_F_hasByte ∈ jx_ws := jx_t2 42 rfl rfl
theorem w_109 : Cond.selects y_F_hasByte.cls y_F_hasByte y_F_hasByte ∈ jx_ws := jx_t2 43 rfl rfl
theorem w_110 : Cond.fieldLink "StationLine" 62 "StationLine$Frame" "datagrams" "[LStationLine$Datagram;" ∈ jx_ws := jx_t1 128 rfl rfl
theorem w_111 : Cond.fieldLink "StationLine" 66 "StationLine$Datagram" "bytes" "[I" ∈ jx_ws := jx_t1 112 rfl rfl
theorem w_112 : Cond.fieldLink "StationLine$Line" 25 "StationLine$Line" "count" "I" ∈ jx_ws := jx_t1 33 rfl rfl
theorem w_113 : Cond.methodLink "StationLine$Memory" 40 y_E_modeOf ∈ jx_ws := jx_t2 108 rfl rfl
theorem w_114 : Cond.code y_E_modeOf prog_7_method_7_code 2 (some .int) ∈ jx_ws := jx_t2 111 rfl rfl
theorem w_115 : Cond.instanceMethod y_E_modeOf ∈ jx_ws := jx_t2 110 rfl rfl
theorem w_116 : Cond.selects y_E_modeOf.cls y_E_modeOf y_E_modeOf ∈ jx_ws := jx_p 8 rfl rfl
theorem w_117 : Cond.methodLink "StationLine$Memory" 75 y_E_startOf ∈ jx_ws := jx_t2 82 rfl rfl
theorem w_118 : Cond.code y_E_startOf prog_7_method_5_code 2 (some .int) ∈ jx_ws := jx_t2 85 rfl rfl
theorem w_119 : Cond.instanceMethod y_E_startOf ∈ jx_ws := jx_t2 84 rfl rfl
theorem w_120 : Cond.selects y_E_startOf.cls y_E_startOf y_E_startOf ∈ jx_ws := jx_p 3 rfl rfl
theorem w_121 : Cond.methodLink "StationLine$Memory" 90 arraycopyName ∈ jx_ws := jx_t2 116 rfl rfl
theorem w_122 : Cond.native arraycopyName ∈ jx_ws := jx_t2 118 rfl rfl
theorem w_123 : Cond.static arraycopyName ∈ jx_ws := jx_t2 117 rfl rfl
theorem w_124 : Cond.initialized "java/lang/System" ∈ jx_ws := jx_t1 12 rfl rfl
theorem w_125 : Cond.methodLink "StationLine$Memory" 69 y_A_fill ∈ jx_ws := jx_t2 77 rfl rfl
theorem w_126 : Cond.methodLink "StationLine$Memory" 36 y_E_isOpen ∈ jx_ws := jx_t2 78 rfl rfl
theorem w_127 : Cond.code y_E_isOpen prog_7_method_2_code 5 (some .boolean) ∈ jx_ws := jx_t2 81 rfl rfl
theorem w_128 : Cond.instanceMethod y_E_isOpen ∈ jx_ws := jx_t2 79 rfl rfl
theorem w_129 : Cond.selects y_E_isOpen.cls y_E_isOpen y_E_isOpen ∈ jx_ws := jx_t2 80 rfl rfl
theorem w_130 : Cond.methodLink "StationLine$Memory" 44 y_E_lengthOf ∈ jx_ws := jx_t2 86 rfl rfl
theorem w_131 : Cond.code y_E_lengthOf prog_7_method_6_code 2 (some .int) ∈ jx_ws := jx_t2 89 rfl rfl
theorem w_132 : Cond.instanceMethod y_E_lengthOf ∈ jx_ws := jx_t2 88 rfl rfl
theorem w_133 : Cond.selects y_E_lengthOf.cls y_E_lengthOf y_E_lengthOf ∈ jx_ws := jx_p 4 rfl rfl
theorem w_134 : Cond.methodLink "StationLine$Memory" 78 Lib.Math.min.name ∈ jx_ws := jx_t2 90 rfl rfl
theorem w_135 : Cond.static Lib.Math.min.name ∈ jx_ws := jx_t2 91 rfl rfl
theorem w_136 : Cond.initialized "java/lang/Math" ∈ jx_ws := jx_t1 11 rfl rfl
theorem w_137 : Cond.code Lib.Math.min.name Lib.Math.min.code 2 (some .int) ∈ jx_ws := jx_t2 92 rfl rfl
theorem w_138 : Cond.methodLink "StationLine$Memory" 83 Lib.Math.max.name ∈ jx_ws := jx_t2 93 rfl rfl
theorem w_139 : Cond.static Lib.Math.max.name ∈ jx_ws := jx_t2 94 rfl rfl
theorem w_140 : Cond.code Lib.Math.max.name Lib.Math.max.code 2 (some .int) ∈ jx_ws := jx_t2 95 rfl rfl
theorem w_141 : Cond.methodLink "StationLine$Memory" 86 y_E_allows ∈ jx_ws := jx_t2 100 rfl rfl
theorem w_142 : Cond.code y_E_allows prog_7_method_12_code 7 (some .boolean) ∈ jx_ws := jx_t2 103 rfl rfl
theorem w_143 : Cond.instanceMethod y_E_allows ∈ jx_ws := jx_t2 102 rfl rfl
theorem w_144 : Cond.selects y_E_allows.cls y_E_allows y_E_allows ∈ jx_ws := jx_p 6 rfl rfl
theorem w_145 : Cond.methodLink "StationLine$Memory" 47 y_E_findOwners ∈ jx_ws := jx_t2 73 rfl rfl
theorem w_146 : Cond.code y_E_findOwners prog_7_method_10_code 6 (none) ∈ jx_ws := jx_t2 76 rfl rfl
theorem w_147 : Cond.instanceMethod y_E_findOwners ∈ jx_ws := jx_t2 75 rfl rfl
theorem w_148 : Cond.selects y_E_findOwners.cls y_E_findOwners y_E_findOwners ∈ jx_ws := jx_p 2 rfl rfl
theorem w_149 : Cond.methodLink "StationLine$Memory" 51 y_E_isAllowed ∈ jx_ws := jx_t2 96 rfl rfl
theorem w_150 : Cond.code y_E_isAllowed prog_7_method_11_code 6 (some .boolean) ∈ jx_ws := jx_t2 99 rfl rfl
theorem w_151 : Cond.instanceMethod y_E_isAllowed ∈ jx_ws := jx_t2 98 rfl rfl
theorem w_152 : Cond.selects y_E_isAllowed.cls y_E_isAllowed y_E_isAllowed ∈ jx_ws := jx_p 5 rfl rfl
theorem w_153 : Cond.methodLink "StationLine$Memory" 55 y_E_beforeReading ∈ jx_ws := jx_t2 131 rfl rfl
theorem w_154 : Cond.code y_E_beforeReading prog_7_method_13_code 3 (none) ∈ jx_ws := jx_t2 134 rfl rfl
theorem w_155 : Cond.instanceMethod y_E_beforeReading ∈ jx_ws := jx_t2 133 rfl rfl
theorem w_156 : Cond.selects y_E_beforeReading.cls y_E_beforeReading y_E_beforeReading ∈ jx_ws := jx_p 12 rfl rfl
theorem w_157 : Cond.methodLink "StationLine$Memory" 58 y_E_heldByte ∈ jx_ws := jx_t2 104 rfl rfl
theorem w_158 : Cond.code y_E_heldByte prog_7_method_14_code 5 (some .int) ∈ jx_ws := jx_t2 107 rfl rfl
theorem w_159 : Cond.instanceMethod y_E_heldByte ∈ jx_ws := jx_t2 106 rfl rfl
theorem w_160 : Cond.selects y_E_heldByte.cls y_E_heldByte y_E_heldByte ∈ jx_ws := jx_p 7 rfl rfl
theorem w_161 : Cond.fieldLink "StationLine$Memory" 96 "StationLine$Memory" "outputsRenewed" "Z" ∈ jx_ws := jx_t1 190 rfl rfl
theorem w_162 : Cond.fieldLink "StationLine$Memory" 100 "StationLine$Memory" "age" "I" ∈ jx_ws := jx_t1 192 rfl rfl
theorem w_163 : Cond.fieldLink "StationLine$Memory" 104 "StationLine$Memory" "controlWritten" "Z" ∈ jx_ws := jx_t1 188 rfl rfl
theorem w_164 : Cond.methodLink "StationLine$Memory" 107 y_E_clearChannel ∈ jx_ws := jx_t2 123 rfl rfl
theorem w_165 : Cond.code y_E_clearChannel prog_7_method_17_code 3 (none) ∈ jx_ws := jx_t2 126 rfl rfl
theorem w_166 : Cond.instanceMethod y_E_clearChannel ∈ jx_ws := jx_t2 125 rfl rfl
theorem w_167 : Cond.selects y_E_clearChannel.cls y_E_clearChannel y_E_clearChannel ∈ jx_ws := jx_p 11 rfl rfl
theorem w_168 : Cond.methodLink "StationLine$Memory" 62 y_E_storeInChannel ∈ jx_ws := jx_t2 112 rfl rfl
theorem w_169 : Cond.code y_E_storeInChannel prog_7_method_15_code 5 (none) ∈ jx_ws := jx_t2 115 rfl rfl
theorem w_170 : Cond.instanceMethod y_E_storeInChannel ∈ jx_ws := jx_t2 114 rfl rfl
theorem w_171 : Cond.selects y_E_storeInChannel.cls y_E_storeInChannel y_E_storeInChannel ∈ jx_ws := jx_p 9 rfl rfl
theorem w_172 : Cond.methodLink "StationLine$Memory" 66 y_E_storePlain ∈ jx_ws := jx_t2 119 rfl rfl
theorem w_173 : Cond.code y_E_storePlain prog_7_method_16_code 3 (none) ∈ jx_ws := jx_t2 122 rfl rfl
theorem w_174 : Cond.instanceMethod y_E_storePlain ∈ jx_ws := jx_t2 121 rfl rfl
theorem w_175 : Cond.selects y_E_storePlain.cls y_E_storePlain y_E_storePlain ∈ jx_ws := jx_p 10 rfl rfl
theorem w_176 : Cond.fieldLink "StationLine$Station" 64 "StationLine$Datagram" "offset" "I" ∈ jx_ws := jx_t1 101 rfl rfl
theorem w_177 : Cond.fieldLink "StationLine$Station" 67 "StationLine$Datagram" "length" "I" ∈ jx_ws := jx_t1 104 rfl rfl
theorem w_178 : Cond.fieldLink "StationLine$Station" 48 "StationLine$Datagram" "command" "I" ∈ jx_ws := jx_t1 94 rfl rfl
theorem w_179 : Cond.fieldLink "StationLine$Station" 70 "StationLine$Memory" "row" "[I" ∈ jx_ws := jx_t1 183 rfl rfl
theorem w_180 : Cond.fieldLink "StationLine$Station" 73 "StationLine$Datagram" "bytes" "[I" ∈ jx_ws := jx_t1 111 rfl rfl
theorem w_181 : Cond.fieldLink "StationLine$Station" 74 "StationLine$Memory" "mask" "[I" ∈ jx_ws := jx_t1 185 rfl rfl
theorem w_182 : Cond.methodLink "StationLine$Station" 77 y_E_writeRow ∈ jx_ws := jx_t2 69 rfl rfl
theorem w_183 : Cond.code y_E_writeRow prog_7_method_9_code 7 (some .boolean) ∈ jx_ws := jx_t2 72 rfl rfl
theorem w_184 : Cond.instanceMethod y_E_writeRow ∈ jx_ws := jx_t2 70 rfl rfl
theorem w_185 : Cond.selects y_E_writeRow.cls y_E_writeRow y_E_writeRow ∈ jx_ws := jx_t2 71 rfl rfl
theorem w_186 : Cond.fieldLink "StationLine$Station" 81 "StationLine$Datagram" "counter" "I" ∈ jx_ws := jx_t1 107 rfl rfl
theorem w_187 : Cond.methodLink "StationLine$Station" 84 y_E_readRow ∈ jx_ws := jx_t2 127 rfl rfl
theorem w_188 : Cond.code y_E_readRow prog_7_method_8_code 5 (some .boolean) ∈ jx_ws := jx_t2 130 rfl rfl
theorem w_189 : Cond.instanceMethod y_E_readRow ∈ jx_ws := jx_t2 128 rfl rfl
theorem w_190 : Cond.selects y_E_readRow.cls y_E_readRow y_E_readRow ∈ jx_ws := jx_t2 129 rfl rfl
theorem w_191 : Cond.fieldLink "StationLine$MappedBits" 32 "StationLine$MappedBits" "memoryBit" "I" ∈ jx_ws := jx_t1 221 rfl rfl
theorem w_192 : Cond.fieldLink "StationLine$MappedBits" 35 "StationLine$MappedBits" "count" "I" ∈ jx_ws := jx_t1 222 rfl rfl
theorem w_193 : Cond.fieldLink "StationLine$MappedBits" 9 "StationLine$Datagram" "address" "I" ∈ jx_ws := jx_t1 98 rfl rfl
theorem w_194 : Cond.methodLink "StationLine$MappedBits" 15 Lib.Math.max.name ∈ jx_ws := jx_t2 145 rfl rfl
theorem w_195 : Cond.fieldLink "StationLine$MappedBits" 21 "StationLine$Datagram" "length" "I" ∈ jx_ws := jx_t1 103 rfl rfl
theorem w_196 : Cond.methodLink "StationLine$MappedBits" 24 Lib.Math.min.name ∈ jx_ws := jx_t2 146 rfl rfl
theorem w_197 : Cond.fieldLink "StationLine$MappedBits" 27 "StationLine$MappedBits" "dataBit" "I" ∈ jx_ws := jx_t1 220 rfl rfl
theorem w_198 : Cond.methodLink "StationLine$MappedBits" 38 y_B_lastByte ∈ jx_ws := jx_t2 147 rfl rfl
theorem w_199 : Cond.code y_B_lastByte prog_6_method_4_code 1 (some .int) ∈ jx_ws := jx_t2 150 rfl rfl
theorem w_200 : Cond.instanceMethod y_B_lastByte ∈ jx_ws := jx_t2 148 rfl rfl
theorem w_201 : Cond.selects y_B_lastByte.cls y_B_lastByte y_B_lastByte ∈ jx_ws := jx_t2 149 rfl rfl
theorem w_202 : Cond.methodLink "StationLine$MappedBits" 42 y_B_firstByte ∈ jx_ws := jx_t2 160 rfl rfl
theorem w_203 : Cond.code y_B_firstByte prog_6_method_3_code 1 (some .int) ∈ jx_ws := jx_t2 154 rfl rfl
theorem w_204 : Cond.instanceMethod y_B_firstByte ∈ jx_ws := jx_t2 152 rfl rfl
theorem w_205 : Cond.selects y_B_firstByte.cls y_B_firstByte y_B_firstByte ∈ jx_ws := jx_t2 153 rfl rfl
theorem w_206 : Cond.methodLink "StationLine$MappedBits" 45 y_A_fill ∈ jx_ws := jx_t2 165 rfl rfl
theorem w_207 : Cond.methodLink "StationLine$Station" 87 arraycopyName ∈ jx_ws := jx_t2 140 rfl rfl
theorem w_208 : Cond.methodLink "StationLine$Station" 93 y_B_find ∈ jx_ws := jx_t2 141 rfl rfl
theorem w_209 : Cond.code y_B_find prog_6_method_2_code 10 (some .boolean) ∈ jx_ws := jx_t2 144 rfl rfl
theorem w_210 : Cond.instanceMethod y_B_find ∈ jx_ws := jx_t2 142 rfl rfl
theorem w_211 : Cond.selects y_B_find.cls y_B_find y_B_find ∈ jx_ws := jx_t2 143 rfl rfl
theorem w_212 : Cond.methodLink "StationLine$Station" 97 y_B_firstByte ∈ jx_ws := jx_t2 151 rfl rfl
theorem w_213 : Cond.methodLink "StationLine$Station" 101 y_B_lastByte ∈ jx_ws := jx_t2 155 rfl rfl
theorem w_214 : Cond.methodLink "StationLine$Station" 104 y_B_putIntoData ∈ jx_ws := jx_t2 156 rfl rfl
theorem w_215 : Cond.code y_B_putIntoData prog_6_method_5_code 8 (none) ∈ jx_ws := jx_t2 159 rfl rfl
theorem w_216 : Cond.instanceMethod y_B_putIntoData ∈ jx_ws := jx_t2 157 rfl rfl
theorem w_217 : Cond.selects y_B_putIntoData.cls y_B_putIntoData y_B_putIntoData ∈ jx_ws := jx_t2 158 rfl rfl
theorem w_218 : Cond.methodLink "StationLine$Station" 108 y_B_putIntoRow ∈ jx_ws := jx_t2 161 rfl rfl
theorem w_219 : Cond.code y_B_putIntoRow prog_6_method_6_code 9 (none) ∈ jx_ws := jx_t2 164 rfl rfl
theorem w_220 : Cond.instanceMethod y_B_putIntoRow ∈ jx_ws := jx_t2 162 rfl rfl
theorem w_221 : Cond.selects y_B_putIntoRow.cls y_B_putIntoRow y_B_putIntoRow ∈ jx_ws := jx_t2 163 rfl rfl
theorem w_222 : Cond.fieldLink "StationLine$Station" 53 "StationLine$Datagram" "address" "I" ∈ jx_ws := jx_t1 97 rfl rfl
theorem w_223 : Cond.methodLink "StationLine$Station" 56 y_S_performDirect ∈ jx_ws := jx_t2 65 rfl rfl
theorem w_224 : Cond.code y_S_performDirect prog_8_method_3_code 5 (none) ∈ jx_ws := jx_t2 68 rfl rfl
theorem w_225 : Cond.instanceMethod y_S_performDirect ∈ jx_ws := jx_t2 67 rfl rfl
theorem w_226 : Cond.selects y_S_performDirect.cls y_S_performDirect y_S_performDirect ∈ jx_ws := jx_p 1 rfl rfl
theorem w_227 : Cond.constant "StationLine$Station" 60 65535 ∈ jx_ws := jx_t2 135 rfl rfl
theorem w_228 : Cond.methodLink "StationLine$Station" 61 y_S_performLogical ∈ jx_ws := jx_t2 136 rfl rfl
theorem w_229 : Cond.code y_S_performLogical prog_8_method_4_code 8 (none) ∈ jx_ws := jx_t2 139 rfl rfl
theorem w_230 : Cond.instanceMethod y_S_performLogical ∈ jx_ws := jx_t2 138 rfl rfl
theorem w_231 : Cond.selects y_S_performLogical.cls y_S_performLogical y_S_performLogical ∈ jx_ws := jx_p 13 rfl rfl
theorem w_232 : Cond.methodLink "StationLine$Line" 28 y_N_stationsBeforeBreak ∈ jx_ws := jx_t2 57 rfl rfl
theorem w_233 : Cond.code y_N_stationsBeforeBreak prog_5_method_4_code 2 (some .int) ∈ jx_ws := jx_t2 60 rfl rfl
theorem w_234 : Cond.instanceMethod y_N_stationsBeforeBreak ∈ jx_ws := jx_t2 59 rfl rfl
theorem w_235 : Cond.selects y_N_stationsBeforeBreak.cls y_N_stationsBeforeBreak y_N_stationsBeforeBreak ∈ jx_ws := jx_p 0 rfl rfl
theorem w_236 : Cond.fieldLink "StationLine$Line" 32 "StationLine$Frame" "size" "I" ∈ jx_ws := jx_t1 131 rfl rfl
theorem w_237 : Cond.fieldLink "StationLine$Line" 37 "StationLine$Frame" "datagrams" "[LStationLine$Datagram;" ∈ jx_ws := jx_t1 127 rfl rfl
theorem w_238 : Cond.methodLink "StationLine$Line" 41 y_S_perform ∈ jx_ws := jx_t2 61 rfl rfl
theorem w_239 : Cond.code y_S_perform prog_8_method_2_code 2 (none) ∈ jx_ws := jx_t2 64 rfl rfl
theorem w_240 : Cond.instanceMethod y_S_perform ∈ jx_ws := jx_t2 62 rfl rfl
theorem w_241 : Cond.selects y_S_perform.cls y_S_perform y_S_perform ∈ jx_ws := jx_t2 63 rfl rfl
theorem w_242 : Cond.methodLink "StationLine" 72 y_N_carry ∈ jx_ws := jx_t2 53 rfl rfl
theorem w_243 : Cond.code y_N_carry prog_5_method_3_code 8 (some .boolean) ∈ jx_ws := jx_t2 56 rfl rfl
theorem w_244 : Cond.instanceMethod y_N_carry ∈ jx_ws := jx_t2 54 rfl rfl
theorem w_245 : Cond.selects y_N_carry.cls y_N_carry y_N_carry ∈ jx_ws := jx_t2 55 rfl rfl
theorem w_246 : Cond.fieldLink "StationLine" 76 "StationLine" "cameBack" "Z" ∈ jx_ws := jx_t1 141 rfl rfl
theorem w_247 : Cond.methodLink "StationLine" 80 y_F_hasDatagram ∈ jx_ws := jx_t2 170 rfl rfl
theorem w_248 : Cond.fieldLink "StationLine" 83 "StationLine$Datagram" "counter" "I" ∈ jx_ws := jx_t1 108 rfl rfl
theorem w_249 : Cond.fieldLink "StationLine" 86 "StationLine$Datagram" "address" "I" ∈ jx_ws := jx_t1 99 rfl rfl
theorem w_250 : Cond.methodLink "StationLine" 89 y_N_hasStation ∈ jx_ws := jx_t2 175 rfl rfl
theorem w_251 : Cond.code y_N_hasStation prog_5_method_2_code 2 (some .boolean) ∈ jx_ws := jx_t2 178 rfl rfl
theorem w_252 : Cond.instanceMethod y_N_hasStation ∈ jx_ws := jx_t2 176 rfl rfl
theorem w_253 : Cond.selects y_N_hasStation.cls y_N_hasStation y_N_hasStation ∈ jx_ws := jx_t2 177 rfl rfl
theorem w_254 : Cond.fieldLink "StationLine" 92 "StationLine$Line" "broken" "[Z" ∈ jx_ws := jx_t1 32 rfl rfl
theorem w_255 : Cond.fieldLink "StationLine" 96 "StationLine$Line" "spoilBefore" "I" ∈ jx_ws := jx_t1 36 rfl rfl
theorem w_256 : Cond.methodLink "StationLine$Station" 115 y_S_present ∈ jx_ws := jx_t2 199 rfl rfl
theorem w_257 : Cond.code y_S_present prog_8_method_6_code 1 (some .int) ∈ jx_ws := jx_t2 202 rfl rfl
theorem w_258 : Cond.instanceMethod y_S_present ∈ jx_ws := jx_t2 201 rfl rfl
theorem w_259 : Cond.selects y_S_present.cls y_S_present y_S_present ∈ jx_ws := jx_p 16 rfl rfl
theorem w_260 : Cond.methodLink "StationLine$Station" 183 y_A_fill ∈ jx_ws := jx_t3 6 rfl rfl
theorem w_261 : Cond.methodLink "StationLine$Station" 164 y_E_isOpenAs ∈ jx_ws := jx_t2 207 rfl rfl
theorem w_262 : Cond.code y_E_isOpenAs prog_7_method_3_code 4 (some .boolean) ∈ jx_ws := jx_t2 210 rfl rfl
theorem w_263 : Cond.instanceMethod y_E_isOpenAs ∈ jx_ws := jx_t2 208 rfl rfl
theorem w_264 : Cond.selects y_E_isOpenAs.cls y_E_isOpenAs y_E_isOpenAs ∈ jx_ws := jx_t2 209 rfl rfl
theorem w_265 : Cond.fieldLink "StationLine$Station" 156 "StationLine$Memory" "written" "[Z" ∈ jx_ws := jx_t1 181 rfl rfl
theorem w_266 : Cond.fieldLink "StationLine$Station" 171 "StationLine$Memory" "done" "[[I" ∈ jx_ws := jx_t1 179 rfl rfl
theorem w_267 : Cond.fieldLink "StationLine$Station" 146 "StationLine$Memory" "outputsRenewed" "Z" ∈ jx_ws := jx_t1 189 rfl rfl
theorem w_268 : Cond.fieldLink "StationLine$Station" 149 "StationLine$Memory" "age" "I" ∈ jx_ws := jx_t1 191 rfl rfl
theorem w_269 : Cond.methodLink "StationLine$Station" 138 y_S_become ∈ jx_ws := jx_t2 219 rfl rfl
theorem w_270 : Cond.code y_S_become prog_8_method_7_code 3 (none) ∈ jx_ws := jx_t2 222 rfl rfl
theorem w_271 : Cond.instanceMethod y_S_become ∈ jx_ws := jx_t2 221 rfl rfl
theorem w_272 : Cond.selects y_S_become.cls y_S_become y_S_become ∈ jx_ws := jx_p 19 rfl rfl
theorem w_273 : Cond.methodLink "StationLine$Station" 167 y_E_isOn ∈ jx_ws := jx_t2 215 rfl rfl
theorem w_274 : Cond.code y_E_isOn prog_7_method_4_code 2 (some .boolean) ∈ jx_ws := jx_t2 218 rfl rfl
theorem w_275 : Cond.instanceMethod y_E_isOn ∈ jx_ws := jx_t2 216 rfl rfl
theorem w_276 : Cond.selects y_E_isOn.cls y_E_isOn y_E_isOn ∈ jx_ws := jx_t2 217 rfl rfl
theorem w_277 : Cond.methodLink "StationLine$Station" 152 y_S_hasMailbox ∈ jx_ws := jx_t2 203 rfl rfl
theorem w_278 : Cond.code y_S_hasMailbox prog_8_method_11_code 1 (some .boolean) ∈ jx_ws := jx_t2 206 rfl rfl
theorem w_279 : Cond.instanceMethod y_S_hasMailbox ∈ jx_ws := jx_t2 205 rfl rfl
theorem w_280 : Cond.selects y_S_hasMailbox.cls y_S_hasMailbox y_S_hasMailbox ∈ jx_ws := jx_p 17 rfl rfl
theorem w_281 : Cond.methodLink "StationLine$Station" 160 y_S_isSetUp ∈ jx_ws := jx_t2 211 rfl rfl
theorem w_282 : Cond.code y_S_isSetUp prog_8_method_12_code 4 (some .boolean) ∈ jx_ws := jx_t2 214 rfl rfl
theorem w_283 : Cond.instanceMethod y_S_isSetUp ∈ jx_ws := jx_t2 213 rfl rfl
theorem w_284 : Cond.selects y_S_isSetUp.cls y_S_isSetUp y_S_isSetUp ∈ jx_ws := jx_p 18 rfl rfl
theorem w_285 : Cond.fieldLink "StationLine$Station" 130 "StationLine$Memory" "controlWritten" "Z" ∈ jx_ws := jx_t1 187 rfl rfl
theorem w_286 : Cond.methodLink "StationLine$Station" 134 y_S_objection ∈ jx_ws := jx_t2 195 rfl rfl
theorem w_287 : Cond.code y_S_objection prog_8_method_10_code 3 (some .int) ∈ jx_ws := jx_t2 198 rfl rfl
theorem w_288 : Cond.instanceMethod y_S_objection ∈ jx_ws := jx_t2 197 rfl rfl
theorem w_289 : Cond.selects y_S_objection.cls y_S_objection y_S_objection ∈ jx_ws := jx_p 15 rfl rfl
theorem w_290 : Cond.methodLink "StationLine$Station" 142 y_S_enter ∈ jx_ws := jx_t2 223 rfl rfl
theorem w_291 : Cond.code y_S_enter prog_8_method_9_code 2 (none) ∈ jx_ws := jx_t2 226 rfl rfl
theorem w_292 : Cond.instanceMethod y_S_enter ∈ jx_ws := jx_t2 225 rfl rfl
theorem w_293 : Cond.selects y_S_enter.cls y_S_enter y_S_enter ∈ jx_ws := jx_p 20 rfl rfl
theorem w_294 : Cond.code y_L_writeMessage prog_1_method_27_code 5 (none) ∈ jx_ws := jx_t2 237 rfl rfl
theorem w_295 : Cond.static y_L_writeMessage ∈ jx_ws := jx_t2 236 rfl rfl
theorem w_296 : Cond.methodLink "StationLine$Station" 175 y_S_doMessage ∈ jx_ws := jx_t2 231 rfl rfl
theorem w_297 : Cond.code y_S_doMessage prog_8_method_14_code 5 (none) ∈ jx_ws := jx_t2 234 rfl rfl
theorem w_298 : Cond.instanceMethod y_S_doMessage ∈ jx_ws := jx_t2 233 rfl rfl
theorem w_299 : Cond.selects y_S_doMessage.cls y_S_doMessage y_S_doMessage ∈ jx_ws := jx_p 22 rfl rfl
theorem w_300 : Cond.methodLink "StationLine$Station" 112 y_S_obeyControl ∈ jx_ws := jx_t2 191 rfl rfl
theorem w_301 : Cond.code y_S_obeyControl prog_8_method_8_code 4 (none) ∈ jx_ws := jx_t2 194 rfl rfl
theorem w_302 : Cond.instanceMethod y_S_obeyControl ∈ jx_ws := jx_t2 193 rfl rfl
theorem w_303 : Cond.selects y_S_obeyControl.cls y_S_obeyControl y_S_obeyControl ∈ jx_ws := jx_p 14 rfl rfl
theorem w_304 : Cond.methodLink "StationLine$Station" 118 y_S_replyToMessage ∈ jx_ws := jx_t2 227 rfl rfl
theorem w_305 : Cond.code y_S_replyToMessage prog_8_method_13_code 3 (none) ∈ jx_ws := jx_t2 230 rfl rfl
theorem w_306 : Cond.instanceMethod y_S_replyToMessage ∈ jx_ws := jx_t2 229 rfl rfl
theorem w_307 : Cond.selects y_S_replyToMessage.cls y_S_replyToMessage y_S_replyToMessage ∈ jx_ws := jx_p 21 rfl rfl
theorem w_308 : Cond.methodLink "StationLine$Station" 121 y_S_takeSensors ∈ jx_ws := jx_t2 238 rfl rfl
theorem w_309 : Cond.code y_S_takeSensors prog_8_method_15_code 1 (none) ∈ jx_ws := jx_t3 1 rfl rfl
theorem w_310 : Cond.instanceMethod y_S_takeSensors ∈ jx_ws := jx_t3 0 rfl rfl
theorem w_311 : Cond.selects y_S_takeSensors.cls y_S_takeSensors y_S_takeSensors ∈ jx_ws := jx_p 23 rfl rfl
theorem w_312 : Cond.methodLink "StationLine$Station" 124 y_S_moveActuators ∈ jx_ws := jx_t3 2 rfl rfl
theorem w_313 : Cond.code y_S_moveActuators prog_8_method_16_code 1 (none) ∈ jx_ws := jx_t3 5 rfl rfl
theorem w_314 : Cond.instanceMethod y_S_moveActuators ∈ jx_ws := jx_t3 4 rfl rfl
theorem w_315 : Cond.selects y_S_moveActuators.cls y_S_moveActuators y_S_moveActuators ∈ jx_ws := jx_p 24 rfl rfl
theorem w_316 : Cond.methodLink "StationLine$Station" 127 y_S_watch ∈ jx_ws := jx_t3 7 rfl rfl
theorem w_317 : Cond.code y_S_watch prog_8_method_17_code 2 (none) ∈ jx_ws := jx_t3 10 rfl rfl
theorem w_318 : Cond.instanceMethod y_S_watch ∈ jx_ws := jx_t3 9 rfl rfl
theorem w_319 : Cond.selects y_S_watch.cls y_S_watch y_S_watch ∈ jx_ws := jx_p 25 rfl rfl
theorem w_320 : Cond.methodLink "StationLine" 99 y_S_makeTick ∈ jx_ws := jx_t2 187 rfl rfl
theorem w_321 : Cond.code y_S_makeTick prog_8_method_5_code 1 (none) ∈ jx_ws := jx_t2 190 rfl rfl
theorem w_322 : Cond.instanceMethod y_S_makeTick ∈ jx_ws := jx_t2 188 rfl rfl
theorem w_323 : Cond.selects y_S_makeTick.cls y_S_makeTick y_S_makeTick ∈ jx_ws := jx_t2 189 rfl rfl
theorem w_324 : Cond.fieldLink "StationLine" 102 "StationLine$Station" "inputs" "I" ∈ jx_ws := jx_t1 235 rfl rfl
theorem w_325 : Cond.fieldLink "StationLine" 105 "StationLine$Station" "sensors" "[I" ∈ jx_ws := jx_t1 237 rfl rfl
theorem w_326 : Cond.fieldLink "StationLine" 108 "StationLine$Station" "outputs" "I" ∈ jx_ws := jx_t1 232 rfl rfl
theorem w_327 : Cond.fieldLink "StationLine" 111 "StationLine$Station" "actuators" "[I" ∈ jx_ws := jx_t1 239 rfl rfl
theorem w_328 : Cond.fieldLink "StationLine" 114 "StationLine$Station" "memory" "LStationLine$Memory;" ∈ jx_ws := jx_t2 1 rfl rfl
theorem w_329 : Cond.fieldLink "StationLine" 118 "StationLine$Memory" "bytes" "[I" ∈ jx_ws := jx_t1 176 rfl rfl
theorem w_330 : Cond.fieldLink "StationLine$Image" 27 "StationLine$Image" "stations" "I" ∈ jx_ws := jx_t1 62 rfl rfl
theorem w_331 : Cond.fieldLink "StationLine$Image" 31 "StationLine$Image" "size" "I" ∈ jx_ws := jx_t1 63 rfl rfl
theorem w_332 : Cond.methodLink "StationLine$Image" 34 y_A_fill ∈ jx_ws := jx_t3 31 rfl rfl
theorem w_333 : Cond.methodLink "StationLine" 121 y_I_forget ∈ jx_ws := jx_t3 27 rfl rfl
theorem w_334 : Cond.code y_I_forget prog_4_method_2_code 1 (none) ∈ jx_ws := jx_t3 30 rfl rfl
theorem w_335 : Cond.instanceMethod y_I_forget ∈ jx_ws := jx_t3 28 rfl rfl
theorem w_336 : Cond.selects y_I_forget.cls y_I_forget y_I_forget ∈ jx_ws := jx_t3 29 rfl rfl
theorem w_337 : Cond.fieldLink "StationLine" 124 "StationLine" "found" "I" ∈ jx_ws := jx_t1 142 rfl rfl
theorem w_338 : Cond.methodLink "StationLine" 127 y_L_startFrame ∈ jx_ws := jx_t3 32 rfl rfl
theorem w_339 : Cond.code y_L_startFrame prog_1_method_22_code 5 (some (.object "StationLine$Datagram")) ∈ jx_ws := jx_t3 35 rfl rfl
theorem w_340 : Cond.instanceMethod y_L_startFrame ∈ jx_ws := jx_t3 34 rfl rfl
theorem w_341 : Cond.selects y_L_startFrame.cls y_L_startFrame y_L_startFrame ∈ jx_ws := jx_p 26 rfl rfl
theorem w_342 : Cond.constant "StationLine" 130 65536 ∈ jx_ws := jx_t3 36 rfl rfl
theorem w_343 : Cond.methodLink "StationLine" 175 y_L_writeChannel ∈ jx_ws := jx_t3 49 rfl rfl
theorem w_344 : Cond.code y_L_writeChannel prog_1_method_25_code 5 (none) ∈ jx_ws := jx_t3 51 rfl rfl
theorem w_345 : Cond.static y_L_writeChannel ∈ jx_ws := jx_t3 50 rfl rfl
theorem w_346 : Cond.fieldLink "StationLine" 179 "StationLine$Image" "outputsAt" "[I" ∈ jx_ws := jx_t1 58 rfl rfl
theorem w_347 : Cond.methodLink "StationLine" 182 y_L_writeMap ∈ jx_ws := jx_t3 52 rfl rfl
theorem w_348 : Cond.code y_L_writeMap prog_1_method_26_code 5 (none) ∈ jx_ws := jx_t3 54 rfl rfl
theorem w_349 : Cond.static y_L_writeMap ∈ jx_ws := jx_t3 53 rfl rfl
theorem w_350 : Cond.fieldLink "StationLine" 185 "StationLine$Image" "inputsAt" "[I" ∈ jx_ws := jx_t1 60 rfl rfl
theorem w_351 : Cond.fieldLink "StationLine$Image" 40 "StationLine$Station" "outputs" "I" ∈ jx_ws := jx_t1 231 rfl rfl
theorem w_352 : Cond.fieldLink "StationLine$Image" 45 "StationLine$Station" "inputs" "I" ∈ jx_ws := jx_t1 234 rfl rfl
theorem w_353 : Cond.methodLink "StationLine" 131 y_I_append ∈ jx_ws := jx_t3 41 rfl rfl
theorem w_354 : Cond.code y_I_append prog_4_method_3_code 2 (none) ∈ jx_ws := jx_t3 44 rfl rfl
theorem w_355 : Cond.instanceMethod y_I_append ∈ jx_ws := jx_t3 42 rfl rfl
theorem w_356 : Cond.selects y_I_append.cls y_I_append y_I_append ∈ jx_ws := jx_t3 43 rfl rfl
theorem w_357 : Cond.methodLink "StationLine" 134 y_L_startChannelsFrame ∈ jx_ws := jx_t3 45 rfl rfl
theorem w_358 : Cond.code y_L_startChannelsFrame prog_1_method_23_code 6 (none) ∈ jx_ws := jx_t3 48 rfl rfl
theorem w_359 : Cond.instanceMethod y_L_startChannelsFrame ∈ jx_ws := jx_t3 47 rfl rfl
theorem w_360 : Cond.selects y_L_startChannelsFrame.cls y_L_startChannelsFrame y_L_startChannelsFrame ∈ jx_ws := jx_p 27 rfl rfl
theorem w_361 : Cond.methodLink "StationLine" 138 y_F_isCountedOnce ∈ jx_ws := jx_t3 55 rfl rfl
theorem w_362 : Cond.code y_F_isCountedOnce prog_3_method_4_code 2 (some .boolean) ∈ jx_ws := jx_t3 58 rfl rfl
theorem w_363 : Cond.instanceMethod y_F_isCountedOnce ∈ jx_ws := jx_t3 56 rfl rfl
theorem w_364 : Cond.selects y_F_isCountedOnce.cls y_F_isCountedOnce y_F_isCountedOnce ∈ jx_ws := jx_t3 57 rfl rfl
theorem w_365 : Cond.methodLink "StationLine" 142 y_L_startInputsFrame ∈ jx_ws := jx_t3 59 rfl rfl
theorem w_366 : Cond.code y_L_startInputsFrame prog_1_method_24_code 3 (none) ∈ jx_ws := jx_t3 62 rfl rfl
theorem w_367 : Cond.instanceMethod y_L_startInputsFrame ∈ jx_ws := jx_t3 61 rfl rfl
theorem w_368 : Cond.selects y_L_startInputsFrame.cls y_L_startInputsFrame y_L_startInputsFrame ∈ jx_ws := jx_p 28 rfl rfl
theorem w_369 : Cond.fieldLink "StationLine" 145 "StationLine$Image" "size" "I" ∈ jx_ws := jx_t1 64 rfl rfl
theorem w_370 : Cond.fieldLink "StationLine" 146 "StationLine$Image" "sent" "[I" ∈ jx_ws := jx_t1 54 rfl rfl
theorem w_371 : Cond.methodLink "StationLine$Image" 52 Lib.Math.max.name ∈ jx_ws := jx_t3 84 rfl rfl
theorem w_372 : Cond.methodLink "StationLine$Image" 58 Lib.Math.min.name ∈ jx_ws := jx_t3 85 rfl rfl
theorem w_373 : Cond.methodLink "StationLine$Image" 48 y_I_meet ∈ jx_ws := jx_t3 81 rfl rfl
theorem w_374 : Cond.code y_I_meet prog_4_method_5_code 3 (some .boolean) ∈ jx_ws := jx_t3 83 rfl rfl
theorem w_375 : Cond.static y_I_meet ∈ jx_ws := jx_t3 82 rfl rfl
theorem w_376 : Cond.methodLink "StationLine" 149 Lib.Math.min.name ∈ jx_ws := jx_t3 75 rfl rfl
theorem w_377 : Cond.methodLink "StationLine" 155 arraycopyName ∈ jx_ws := jx_t3 76 rfl rfl
theorem w_378 : Cond.methodLink "StationLine" 161 y_I_expected ∈ jx_ws := jx_t3 77 rfl rfl
theorem w_379 : Cond.code y_I_expected prog_4_method_4_code 4 (some .int) ∈ jx_ws := jx_t3 80 rfl rfl
theorem w_380 : Cond.instanceMethod y_I_expected ∈ jx_ws := jx_t3 78 rfl rfl
theorem w_381 : Cond.selects y_I_expected.cls y_I_expected y_I_expected ∈ jx_ws := jx_t3 79 rfl rfl
theorem w_382 : Cond.fieldLink "StationLine" 165 "StationLine$Image" "got" "[I" ∈ jx_ws := jx_t1 56 rfl rfl
theorem w_383 : Cond.fieldLink "StationLine" 168 "StationLine$Datagram" "length" "I" ∈ jx_ws := jx_t1 105 rfl rfl
theorem w_384 : Cond.methodLink "StationLine" 171 y_L_writeMessage ∈ jx_ws := jx_t3 94 rfl rfl
theorem w_385 : Cond.methodLink "StationLineModel" 1 objectInit ∈ jx_ws := jx_t3 104 rfl rfl
theorem w_386 : Cond.fieldLink "StationLineModel" 7 "StationLineModel" "outs" "[I" ∈ jx_ws := jx_t3 106 rfl rfl
theorem w_387 : Cond.fieldLink "StationLineModel" 13 "StationLineModel" "ins" "[I" ∈ jx_ws := jx_t3 107 rfl rfl
theorem w_388 : Cond.fieldLink "StationLineModel" 16 "StationLineModel" "broken" "[Z" ∈ jx_ws := jx_t3 108 rfl rfl
theorem w_389 : Cond.fieldLink "StationLineModel" 20 "StationLineModel" "memory" "[I" ∈ jx_ws := jx_t3 109 rfl rfl
theorem w_390 : Cond.fieldLink "StationLineModel" 23 "StationLineModel" "fresh" "[I" ∈ jx_ws := jx_t3 110 rfl rfl
theorem w_391 : Cond.fieldLink "StationLineModel" 26 "StationLineModel" "done" "[I" ∈ jx_ws := jx_t3 111 rfl rfl
theorem w_392 : Cond.fieldLink "StationLineModel" 29 "StationLineModel" "written" "[Z" ∈ jx_ws := jx_t3 112 rfl rfl
theorem w_393 : Cond.fieldLink "StationLineModel" 32 "StationLineModel" "mode" "[I" ∈ jx_ws := jx_t3 113 rfl rfl
theorem w_394 : Cond.fieldLink "StationLineModel" 35 "StationLineModel" "failed" "[Z" ∈ jx_ws := jx_t3 114 rfl rfl
theorem w_395 : Cond.fieldLink "StationLineModel" 38 "StationLineModel" "codes" "[I" ∈ jx_ws := jx_t3 115 rfl rfl
theorem w_396 : Cond.fieldLink "StationLineModel" 41 "StationLineModel" "controlled" "[Z" ∈ jx_ws := jx_t3 116 rfl rfl
theorem w_397 : Cond.fieldLink "StationLineModel" 44 "StationLineModel" "renewed" "[Z" ∈ jx_ws := jx_t3 117 rfl rfl
theorem w_398 : Cond.fieldLink "StationLineModel" 47 "StationLineModel" "age" "[I" ∈ jx_ws := jx_t3 118 rfl rfl
theorem w_399 : Cond.fieldLink "StationLineModel" 50 "StationLineModel" "messages" "[I" ∈ jx_ws := jx_t3 119 rfl rfl
theorem w_400 : Cond.fieldLink "StationLineModel" 53 "StationLineModel" "objects" "[I" ∈ jx_ws := jx_t3 120 rfl rfl
theorem w_401 : Cond.fieldLink "StationLineModel" 56 "StationLineModel" "sensors" "[I" ∈ jx_ws := jx_t3 121 rfl rfl
theorem w_402 : Cond.fieldLink "StationLineModel" 59 "StationLineModel" "actuators" "[I" ∈ jx_ws := jx_t3 122 rfl rfl
theorem w_403 : Cond.fieldLink "StationLineModel" 62 "StationLineModel" "spoilt" "I" ∈ jx_ws := jx_t3 126 rfl rfl
theorem w_404 : Cond.fieldLink "StationLineModel" 66 "StationLineModel" "command" "[I" ∈ jx_ws := jx_t3 127 rfl rfl
theorem w_405 : Cond.fieldLink "StationLineModel" 69 "StationLineModel" "address" "[I" ∈ jx_ws := jx_t3 128 rfl rfl
theorem w_406 : Cond.fieldLink "StationLineModel" 72 "StationLineModel" "offset" "[I" ∈ jx_ws := jx_t3 129 rfl rfl
theorem w_407 : Cond.fieldLink "StationLineModel" 75 "StationLineModel" "length" "[I" ∈ jx_ws := jx_t3 130 rfl rfl
theorem w_408 : Cond.fieldLink "StationLineModel" 78 "StationLineModel" "counter" "[I" ∈ jx_ws := jx_t3 131 rfl rfl
theorem w_409 : Cond.fieldLink "StationLineModel" 81 "StationLineModel" "bytes" "[I" ∈ jx_ws := jx_t3 132 rfl rfl
theorem w_410 : Cond.fieldLink "StationLineModel" 84 "StationLineModel" "row" "[I" ∈ jx_ws := jx_t3 133 rfl rfl
theorem w_411 : Cond.fieldLink "StationLineModel" 87 "StationLineModel" "came" "[I" ∈ jx_ws := jx_t3 134 rfl rfl
theorem w_412 : Cond.fieldLink "StationLineModel" 90 "StationLineModel" "outPlace" "[I" ∈ jx_ws := jx_t3 140 rfl rfl
theorem w_413 : Cond.fieldLink "StationLineModel" 93 "StationLineModel" "inPlace" "[I" ∈ jx_ws := jx_t3 141 rfl rfl
theorem w_414 : Cond.fieldLink "StationLineModel" 96 "StationLineModel" "knownOuts" "[I" ∈ jx_ws := jx_t3 142 rfl rfl
theorem w_415 : Cond.fieldLink "StationLineModel" 99 "StationLineModel" "knownIns" "[I" ∈ jx_ws := jx_t3 143 rfl rfl
theorem w_416 : Cond.fieldLink "StationLineModel" 102 "StationLineModel" "image" "[I" ∈ jx_ws := jx_t3 144 rfl rfl
theorem w_417 : Cond.fieldLink "StationLineModel" 105 "StationLineModel" "taken" "[I" ∈ jx_ws := jx_t3 145 rfl rfl
theorem w_418 : Cond.fieldLink "StationLineModel" 108 "StationLineModel" "stations" "I" ∈ jx_ws := jx_t3 105 rfl rfl
theorem w_419 : Cond.methodLink "StationLineModel" 208 y_R_isStation ∈ jx_ws := jx_t4 106 rfl rfl
theorem w_420 : Cond.code y_R_isStation prog_10_method_2_code 2 (some .boolean) ∈ jx_ws := jx_t4 109 rfl rfl
theorem w_421 : Cond.initialized "StationLineModel" ∈ jx_ws := jx_t1 6 rfl rfl
theorem w_422 : Cond.instanceMethod y_R_isStation ∈ jx_ws := jx_t4 108 rfl rfl
theorem w_423 : Cond.selects y_R_isStation.cls y_R_isStation y_R_isStation ∈ jx_ws := jx_p 52 rfl rfl
theorem w_424 : Cond.methodLink "StationLineModel" 111 y_R_at ∈ jx_ws := jx_t4 26 rfl rfl
theorem w_425 : Cond.code y_R_at prog_10_method_4_code 3 (some .int) ∈ jx_ws := jx_t4 29 rfl rfl
theorem w_426 : Cond.instanceMethod y_R_at ∈ jx_ws := jx_t4 28 rfl rfl
theorem w_427 : Cond.selects y_R_at.cls y_R_at y_R_at ∈ jx_ws := jx_p 34 rfl rfl
theorem w_428 : Cond.methodLink "StationLineModel" 115 y_R_many ∈ jx_ws := jx_t4 46 rfl rfl
theorem w_429 : Cond.code y_R_many prog_10_method_6_code 3 (some .int) ∈ jx_ws := jx_t4 49 rfl rfl
theorem w_430 : Cond.instanceMethod y_R_many ∈ jx_ws := jx_t4 48 rfl rfl
theorem w_431 : Cond.selects y_R_many.cls y_R_many y_R_many ∈ jx_ws := jx_p 39 rfl rfl
theorem w_432 : Cond.methodLink "StationLineModel" 118 y_R_begin ∈ jx_ws := jx_t4 50 rfl rfl
theorem w_433 : Cond.code y_R_begin prog_10_method_5_code 3 (some .int) ∈ jx_ws := jx_t4 53 rfl rfl
theorem w_434 : Cond.instanceMethod y_R_begin ∈ jx_ws := jx_t4 52 rfl rfl
theorem w_435 : Cond.selects y_R_begin.cls y_R_begin y_R_begin ∈ jx_ws := jx_p 40 rfl rfl
theorem w_436 : Cond.methodLink "StationLineModel" 121 y_R_open ∈ jx_ws := jx_t4 42 rfl rfl
theorem w_437 : Cond.code y_R_open prog_10_method_8_code 4 (some .boolean) ∈ jx_ws := jx_t4 45 rfl rfl
theorem w_438 : Cond.instanceMethod y_R_open ∈ jx_ws := jx_t4 44 rfl rfl
theorem w_439 : Cond.selects y_R_open.cls y_R_open y_R_open ∈ jx_ws := jx_p 38 rfl rfl
theorem w_440 : Cond.methodLink "StationLineModel" 125 y_R_kind ∈ jx_ws := jx_t4 58 rfl rfl
theorem w_441 : Cond.code y_R_kind prog_10_method_7_code 3 (some .int) ∈ jx_ws := jx_t4 61 rfl rfl
theorem w_442 : Cond.instanceMethod y_R_kind ∈ jx_ws := jx_t4 60 rfl rfl
theorem w_443 : Cond.selects y_R_kind.cls y_R_kind y_R_kind ∈ jx_ws := jx_p 42 rfl rfl
theorem w_444 : Cond.methodLink "StationLineModel" 128 y_R_full ∈ jx_ws := jx_t4 62 rfl rfl
theorem w_445 : Cond.code y_R_full prog_10_method_11_code 3 (some .boolean) ∈ jx_ws := jx_t4 65 rfl rfl
theorem w_446 : Cond.instanceMethod y_R_full ∈ jx_ws := jx_t4 64 rfl rfl
theorem w_447 : Cond.selects y_R_full.cls y_R_full y_R_full ∈ jx_ws := jx_p 43 rfl rfl
theorem w_448 : Cond.methodLink "StationLineModel" 131 y_R_channelOf ∈ jx_ws := jx_t4 38 rfl rfl
theorem w_449 : Cond.code y_R_channelOf prog_10_method_10_code 4 (some .int) ∈ jx_ws := jx_t4 41 rfl rfl
theorem w_450 : Cond.instanceMethod y_R_channelOf ∈ jx_ws := jx_t4 40 rfl rfl
theorem w_451 : Cond.selects y_R_channelOf.cls y_R_channelOf y_R_channelOf ∈ jx_ws := jx_p 37 rfl rfl
theorem w_452 : Cond.methodLink "StationLineModel" 134 y_R_lets ∈ jx_ws := jx_t4 54 rfl rfl
theorem w_453 : Cond.code y_R_lets prog_10_method_14_code 7 (some .boolean) ∈ jx_ws := jx_t4 57 rfl rfl
theorem w_454 : Cond.instanceMethod y_R_lets ∈ jx_ws := jx_t4 56 rfl rfl
theorem w_455 : Cond.selects y_R_lets.cls y_R_lets y_R_lets ∈ jx_ws := jx_p 41 rfl rfl
theorem w_456 : Cond.methodLink "StationLineModel" 138 y_R_allowed ∈ jx_ws := jx_t4 34 rfl rfl
theorem w_457 : Cond.code y_R_allowed prog_10_method_15_code 7 (some .boolean) ∈ jx_ws := jx_t4 37 rfl rfl
theorem w_458 : Cond.instanceMethod y_R_allowed ∈ jx_ws := jx_t4 36 rfl rfl
theorem w_459 : Cond.selects y_R_allowed.cls y_R_allowed y_R_allowed ∈ jx_ws := jx_p 36 rfl rfl
theorem w_460 : Cond.methodLink "StationLineModel" 142 y_R_copy ∈ jx_ws := jx_t4 66 rfl rfl
theorem w_461 : Cond.code y_R_copy prog_10_method_13_code 5 (none) ∈ jx_ws := jx_t4 69 rfl rfl
theorem w_462 : Cond.instanceMethod y_R_copy ∈ jx_ws := jx_t4 68 rfl rfl
theorem w_463 : Cond.selects y_R_copy.cls y_R_copy y_R_copy ∈ jx_ws := jx_p 44 rfl rfl
theorem w_464 : Cond.methodLink "StationLineModel" 146 y_R_cell ∈ jx_ws := jx_t4 70 rfl rfl
theorem w_465 : Cond.code y_R_cell prog_10_method_16_code 4 (some .int) ∈ jx_ws := jx_t4 73 rfl rfl
theorem w_466 : Cond.instanceMethod y_R_cell ∈ jx_ws := jx_t4 72 rfl rfl
theorem w_467 : Cond.selects y_R_cell.cls y_R_cell y_R_cell ∈ jx_ws := jx_p 45 rfl rfl
theorem w_468 : Cond.methodLink "StationLineModel" 150 y_R_fill ∈ jx_ws := jx_t4 74 rfl rfl
theorem w_469 : Cond.code y_R_fill prog_10_method_12_code 4 (none) ∈ jx_ws := jx_t4 77 rfl rfl
theorem w_470 : Cond.instanceMethod y_R_fill ∈ jx_ws := jx_t4 76 rfl rfl
theorem w_471 : Cond.selects y_R_fill.cls y_R_fill y_R_fill ∈ jx_ws := jx_p 46 rfl rfl
theorem w_472 : Cond.methodLink "StationLineModel" 154 y_R_wipe ∈ jx_ws := jx_t4 90 rfl rfl
theorem w_473 : Cond.code y_R_wipe prog_10_method_19_code 4 (none) ∈ jx_ws := jx_t4 93 rfl rfl
theorem w_474 : Cond.instanceMethod y_R_wipe ∈ jx_ws := jx_t4 92 rfl rfl
theorem w_475 : Cond.selects y_R_wipe.cls y_R_wipe y_R_wipe ∈ jx_ws := jx_p 50 rfl rfl
theorem w_476 : Cond.methodLink "StationLineModel" 158 y_R_store ∈ jx_ws := jx_t4 86 rfl rfl
theorem w_477 : Cond.code y_R_store prog_10_method_18_code 5 (none) ∈ jx_ws := jx_t4 89 rfl rfl
theorem w_478 : Cond.instanceMethod y_R_store ∈ jx_ws := jx_t4 88 rfl rfl
theorem w_479 : Cond.selects y_R_store.cls y_R_store y_R_store ∈ jx_ws := jx_p 49 rfl rfl
theorem w_480 : Cond.methodLink "StationLineModel" 161 y_R_reads ∈ jx_ws := jx_t4 30 rfl rfl
theorem w_481 : Cond.code y_R_reads prog_10_method_17_code 6 (some .boolean) ∈ jx_ws := jx_t4 33 rfl rfl
theorem w_482 : Cond.instanceMethod y_R_reads ∈ jx_ws := jx_t4 32 rfl rfl
theorem w_483 : Cond.selects y_R_reads.cls y_R_reads y_R_reads ∈ jx_ws := jx_p 35 rfl rfl
theorem w_484 : Cond.fieldLink "StationLineModel" 168 "StationLineModel" "readSome" "Z" ∈ jx_ws := jx_t3 135 rfl rfl
theorem w_485 : Cond.fieldLink "StationLineModel" 172 "StationLineModel" "wroteSome" "Z" ∈ jx_ws := jx_t3 136 rfl rfl
theorem w_486 : Cond.methodLink "StationLineModel" 175 y_R_stays ∈ jx_ws := jx_t4 78 rfl rfl
theorem w_487 : Cond.code y_R_stays prog_10_method_22_code 4 (some .int) ∈ jx_ws := jx_t4 81 rfl rfl
theorem w_488 : Cond.instanceMethod y_R_stays ∈ jx_ws := jx_t4 80 rfl rfl
theorem w_489 : Cond.selects y_R_stays.cls y_R_stays y_R_stays ∈ jx_ws := jx_p 47 rfl rfl
theorem w_490 : Cond.methodLink "StationLineModel" 165 y_R_writes ∈ jx_ws := jx_t4 82 rfl rfl
theorem w_491 : Cond.code y_R_writes prog_10_method_20_code 6 (none) ∈ jx_ws := jx_t4 85 rfl rfl
theorem w_492 : Cond.instanceMethod y_R_writes ∈ jx_ws := jx_t4 84 rfl rfl
theorem w_493 : Cond.selects y_R_writes.cls y_R_writes y_R_writes ∈ jx_ws := jx_p 48 rfl rfl
theorem w_494 : Cond.methodLink "StationLineModel" 178 y_R_map ∈ jx_ws := jx_t4 22 rfl rfl
theorem w_495 : Cond.code y_R_map prog_10_method_23_code 19 (none) ∈ jx_ws := jx_t4 25 rfl rfl
theorem w_496 : Cond.instanceMethod y_R_map ∈ jx_ws := jx_t4 24 rfl rfl
theorem w_497 : Cond.selects y_R_map.cls y_R_map y_R_map ∈ jx_ws := jx_p 33 rfl rfl
theorem w_498 : Cond.methodLink "StationLineModel" 181 y_R_touch ∈ jx_ws := jx_t4 94 rfl rfl
theorem w_499 : Cond.code y_R_touch prog_10_method_21_code 7 (none) ∈ jx_ws := jx_t4 97 rfl rfl
theorem w_500 : Cond.instanceMethod y_R_touch ∈ jx_ws := jx_t4 96 rfl rfl
theorem w_501 : Cond.selects y_R_touch.cls y_R_touch y_R_touch ∈ jx_ws := jx_p 51 rfl rfl
theorem w_502 : Cond.constant "StationLineModel" 184 65535 ∈ jx_ws := jx_t3 237 rfl rfl
theorem w_503 : Cond.fieldLink "StationLineModel" 185 "StationLineModel" "sent" "I" ∈ jx_ws := jx_t3 124 rfl rfl
theorem w_504 : Cond.methodLink "StationLineModel" 188 y_R_handle ∈ jx_ws := jx_t4 18 rfl rfl
theorem w_505 : Cond.code y_R_handle prog_10_method_24_code 5 (none) ∈ jx_ws := jx_t4 21 rfl rfl
theorem w_506 : Cond.instanceMethod y_R_handle ∈ jx_ws := jx_t4 20 rfl rfl
theorem w_507 : Cond.selects y_R_handle.cls y_R_handle y_R_handle ∈ jx_ws := jx_p 32 rfl rfl
theorem w_508 : Cond.fieldLink "StationLineModel" 191 "StationLineModel" "back" "I" ∈ jx_ws := jx_t3 125 rfl rfl
theorem w_509 : Cond.methodLink "StationLineModel" 194 y_R_copyGram ∈ jx_ws := jx_t4 10 rfl rfl
theorem w_510 : Cond.code y_R_copyGram prog_10_method_25_code 4 (none) ∈ jx_ws := jx_t4 13 rfl rfl
theorem w_511 : Cond.instanceMethod y_R_copyGram ∈ jx_ws := jx_t4 12 rfl rfl
theorem w_512 : Cond.selects y_R_copyGram.cls y_R_copyGram y_R_copyGram ∈ jx_ws := jx_p 30 rfl rfl
theorem w_513 : Cond.methodLink "StationLineModel" 200 y_R_gram ∈ jx_ws := jx_t3 238 rfl rfl
theorem w_514 : Cond.code y_R_gram prog_10_method_28_code 7 (none) ∈ jx_ws := jx_t4 1 rfl rfl
theorem w_515 : Cond.instanceMethod y_R_gram ∈ jx_ws := jx_t4 0 rfl rfl
theorem w_516 : Cond.selects y_R_gram.cls y_R_gram y_R_gram ∈ jx_ws := jx_p 29 rfl rfl
theorem w_517 : Cond.methodLink "StationLineModel" 204 y_R_travel ∈ jx_ws := jx_t4 14 rfl rfl
theorem w_518 : Cond.code y_R_travel prog_10_method_26_code 7 (some .boolean) ∈ jx_ws := jx_t4 17 rfl rfl
theorem w_519 : Cond.instanceMethod y_R_travel ∈ jx_ws := jx_t4 16 rfl rfl
theorem w_520 : Cond.selects y_R_travel.cls y_R_travel y_R_travel ∈ jx_ws := jx_p 31 rfl rfl
theorem w_521 : Cond.methodLink "StationLineModel" 254 y_R_six ∈ jx_ws := jx_t4 183 rfl rfl
theorem w_522 : Cond.code y_R_six prog_10_method_48_code 8 (none) ∈ jx_ws := jx_t4 186 rfl rfl
theorem w_523 : Cond.instanceMethod y_R_six ∈ jx_ws := jx_t4 185 rfl rfl
theorem w_524 : Cond.selects y_R_six.cls y_R_six y_R_six ∈ jx_ws := jx_p 64 rfl rfl
theorem w_525 : Cond.fieldLink "StationLineModel" 244 "StationLineModel" "setUp" "I" ∈ jx_ws := jx_t3 138 rfl rfl
theorem w_526 : Cond.methodLink "StationLineModel" 261 y_R_lies ∈ jx_ws := jx_t4 203 rfl rfl
theorem w_527 : Cond.code y_R_lies prog_10_method_53_code 3 (some .boolean) ∈ jx_ws := jx_t4 205 rfl rfl
theorem w_528 : Cond.static y_R_lies ∈ jx_ws := jx_t4 204 rfl rfl
theorem w_529 : Cond.fieldLink "StationLineModel" 247 "StationLineModel" "size" "I" ∈ jx_ws := jx_t3 139 rfl rfl
theorem w_530 : Cond.methodLink "StationLineModel" 264 y_R_expected ∈ jx_ws := jx_t4 199 rfl rfl
theorem w_531 : Cond.code y_R_expected prog_10_method_54_code 4 (some .int) ∈ jx_ws := jx_t4 202 rfl rfl
theorem w_532 : Cond.instanceMethod y_R_expected ∈ jx_ws := jx_t4 201 rfl rfl
theorem w_533 : Cond.selects y_R_expected.cls y_R_expected y_R_expected ∈ jx_ws := jx_p 65 rfl rfl
theorem w_534 : Cond.fieldLink "StationLineModel" 197 "StationLineModel" "ready" "I" ∈ jx_ws := jx_t3 123 rfl rfl
theorem w_535 : Cond.methodLink "StationLineModel" 250 y_R_single ∈ jx_ws := jx_t4 170 rfl rfl
theorem w_536 : Cond.code y_R_single prog_10_method_46_code 5 (some .boolean) ∈ jx_ws := jx_t4 173 rfl rfl
theorem w_537 : Cond.instanceMethod y_R_single ∈ jx_ws := jx_t4 172 rfl rfl
theorem w_538 : Cond.selects y_R_single.cls y_R_single y_R_single ∈ jx_ws := jx_p 62 rfl rfl
theorem w_539 : Cond.fieldLink "StationLineModel" 241 "StationLineModel" "found" "I" ∈ jx_ws := jx_t3 137 rfl rfl
theorem w_540 : Cond.constant "StationLineModel" 253 65536 ∈ jx_ws := jx_t4 174 rfl rfl
theorem w_541 : Cond.methodLink "StationLineModel" 258 y_R_equip ∈ jx_ws := jx_t4 179 rfl rfl
theorem w_542 : Cond.code y_R_equip prog_10_method_49_code 6 (some .boolean) ∈ jx_ws := jx_t4 182 rfl rfl
theorem w_543 : Cond.instanceMethod y_R_equip ∈ jx_ws := jx_t4 181 rfl rfl
theorem w_544 : Cond.selects y_R_equip.cls y_R_equip y_R_equip ∈ jx_ws := jx_p 63 rfl rfl
theorem w_545 : Cond.methodLink "StationLineModel" 212 y_R_like ∈ jx_ws := jx_t4 138 rfl rfl
theorem w_546 : Cond.code y_R_like prog_10_method_9_code 5 (some .boolean) ∈ jx_ws := jx_t4 141 rfl rfl
theorem w_547 : Cond.instanceMethod y_R_like ∈ jx_ws := jx_t4 140 rfl rfl
theorem w_548 : Cond.selects y_R_like.cls y_R_like y_R_like ∈ jx_ws := jx_p 58 rfl rfl
theorem w_549 : Cond.methodLink "StationLineModel" 216 y_R_mailed ∈ jx_ws := jx_t4 134 rfl rfl
theorem w_550 : Cond.code y_R_mailed prog_10_method_35_code 2 (some .boolean) ∈ jx_ws := jx_t4 137 rfl rfl
theorem w_551 : Cond.instanceMethod y_R_mailed ∈ jx_ws := jx_t4 136 rfl rfl
theorem w_552 : Cond.selects y_R_mailed.cls y_R_mailed y_R_mailed ∈ jx_ws := jx_p 57 rfl rfl
theorem w_553 : Cond.methodLink "StationLineModel" 219 y_R_fit ∈ jx_ws := jx_t4 142 rfl rfl
theorem w_554 : Cond.code y_R_fit prog_10_method_36_code 5 (some .boolean) ∈ jx_ws := jx_t4 145 rfl rfl
theorem w_555 : Cond.instanceMethod y_R_fit ∈ jx_ws := jx_t4 144 rfl rfl
theorem w_556 : Cond.selects y_R_fit.cls y_R_fit y_R_fit ∈ jx_ws := jx_p 59 rfl rfl
theorem w_557 : Cond.methodLink "StationLineModel" 222 y_R_fail ∈ jx_ws := jx_t4 126 rfl rfl
theorem w_558 : Cond.code y_R_fail prog_10_method_34_code 3 (none) ∈ jx_ws := jx_t4 129 rfl rfl
theorem w_559 : Cond.instanceMethod y_R_fail ∈ jx_ws := jx_t4 128 rfl rfl
theorem w_560 : Cond.selects y_R_fail.cls y_R_fail y_R_fail ∈ jx_ws := jx_p 55 rfl rfl
theorem w_561 : Cond.methodLink "StationLineModel" 225 y_R_hindrance ∈ jx_ws := jx_t4 130 rfl rfl
theorem w_562 : Cond.code y_R_hindrance prog_10_method_37_code 3 (some .int) ∈ jx_ws := jx_t4 133 rfl rfl
theorem w_563 : Cond.instanceMethod y_R_hindrance ∈ jx_ws := jx_t4 132 rfl rfl
theorem w_564 : Cond.selects y_R_hindrance.cls y_R_hindrance y_R_hindrance ∈ jx_ws := jx_p 56 rfl rfl
theorem w_565 : Cond.methodLink "StationLineModel" 228 y_R_control ∈ jx_ws := jx_t4 122 rfl rfl
theorem w_566 : Cond.code y_R_control prog_10_method_38_code 5 (none) ∈ jx_ws := jx_t4 125 rfl rfl
theorem w_567 : Cond.instanceMethod y_R_control ∈ jx_ws := jx_t4 124 rfl rfl
theorem w_568 : Cond.selects y_R_control.cls y_R_control y_R_control ∈ jx_ws := jx_p 54 rfl rfl
theorem w_569 : Cond.methodLink "StationLineModel" 232 y_R_message ∈ jx_ws := jx_t4 146 rfl rfl
theorem w_570 : Cond.code y_R_message prog_10_method_39_code 10 (none) ∈ jx_ws := jx_t4 149 rfl rfl
theorem w_571 : Cond.instanceMethod y_R_message ∈ jx_ws := jx_t4 148 rfl rfl
theorem w_572 : Cond.selects y_R_message.cls y_R_message y_R_message ∈ jx_ws := jx_p 60 rfl rfl
theorem w_573 : Cond.methodLink "StationLineModel" 235 y_R_rest ∈ jx_ws := jx_t4 150 rfl rfl
theorem w_574 : Cond.code y_R_rest prog_10_method_40_code 3 (none) ∈ jx_ws := jx_t4 153 rfl rfl
theorem w_575 : Cond.instanceMethod y_R_rest ∈ jx_ws := jx_t4 152 rfl rfl
theorem w_576 : Cond.selects y_R_rest.cls y_R_rest y_R_rest ∈ jx_ws := jx_p 61 rfl rfl
theorem w_577 : Cond.methodLink "StationLineModel" 238 y_R_turn ∈ jx_ws := jx_t4 118 rfl rfl
theorem w_578 : Cond.code y_R_turn prog_10_method_41_code 3 (none) ∈ jx_ws := jx_t4 121 rfl rfl
theorem w_579 : Cond.instanceMethod y_R_turn ∈ jx_ws := jx_t4 120 rfl rfl
theorem w_580 : Cond.selects y_R_turn.cls y_R_turn y_R_turn ∈ jx_ws := jx_p 53 rfl rfl
theorem w_581 : Cond.classLink "StationLineLaw" 7 "StationLine" ∈ jx_ws := jx_t1 13 rfl rfl
theorem w_582 : Cond.instantiable "StationLine" 6 ∈ jx_ws := jx_t1 14 rfl rfl
theorem w_583 : Cond.methodLink "StationLineLaw" 9 y_L_init ∈ jx_ws := jx_t1 15 rfl rfl
theorem w_584 : Cond.code y_L_init prog_1_method_1_code 1 (none) ∈ jx_ws := jx_t1 17 rfl rfl
theorem w_585 : Cond.instanceMethod y_L_init ∈ jx_ws := jx_t1 16 rfl rfl
theorem w_586 : Cond.classLink "StationLineLaw" 10 "StationLineModel" ∈ jx_ws := jx_t3 99 rfl rfl
theorem w_587 : Cond.instantiable "StationLineModel" 41 ∈ jx_ws := jx_t3 100 rfl rfl
theorem w_588 : Cond.methodLink "StationLineLaw" 12 y_R_init ∈ jx_ws := jx_t3 101 rfl rfl
theorem w_589 : Cond.code y_R_init prog_10_method_1_code 1 (none) ∈ jx_ws := jx_t3 103 rfl rfl
theorem w_590 : Cond.instanceMethod y_R_init ∈ jx_ws := jx_t3 102 rfl rfl
theorem w_591 : Cond.methodLink "StationLineLaw" 13 y_L_station ∈ jx_ws := jx_t1 156 rfl rfl
theorem w_592 : Cond.code y_L_station prog_1_method_2_code 3 (some .int) ∈ jx_ws := jx_t1 159 rfl rfl
theorem w_593 : Cond.instanceMethod y_L_station ∈ jx_ws := jx_t1 157 rfl rfl
theorem w_594 : Cond.selects y_L_station.cls y_L_station y_L_station ∈ jx_ws := jx_t1 158 rfl rfl
theorem w_595 : Cond.methodLink "StationLineLaw" 17 y_R_station ∈ jx_ws := jx_t3 229 rfl rfl
theorem w_596 : Cond.code y_R_station prog_10_method_3_code 3 (some .int) ∈ jx_ws := jx_t3 232 rfl rfl
theorem w_597 : Cond.instanceMethod y_R_station ∈ jx_ws := jx_t3 230 rfl rfl
theorem w_598 : Cond.selects y_R_station.cls y_R_station y_R_station ∈ jx_ws := jx_t3 231 rfl rfl
theorem w_599 : Cond.methodLink "StationLineLaw" 18 y_L_datagram ∈ jx_ws := jx_t2 22 rfl rfl
theorem w_600 : Cond.code y_L_datagram prog_1_method_3_code 5 (some .int) ∈ jx_ws := jx_t2 25 rfl rfl
theorem w_601 : Cond.instanceMethod y_L_datagram ∈ jx_ws := jx_t2 23 rfl rfl
theorem w_602 : Cond.selects y_L_datagram.cls y_L_datagram y_L_datagram ∈ jx_ws := jx_t2 24 rfl rfl
theorem w_603 : Cond.methodLink "StationLineLaw" 22 y_R_datagram ∈ jx_ws := jx_t3 233 rfl rfl
theorem w_604 : Cond.code y_R_datagram prog_10_method_27_code 6 (some .int) ∈ jx_ws := jx_t3 236 rfl rfl
theorem w_605 : Cond.instanceMethod y_R_datagram ∈ jx_ws := jx_t3 234 rfl rfl
theorem w_606 : Cond.selects y_R_datagram.cls y_R_datagram y_R_datagram ∈ jx_ws := jx_t3 235 rfl rfl
theorem w_607 : Cond.methodLink "StationLineLaw" 23 y_L_data ∈ jx_ws := jx_t2 37 rfl rfl
theorem w_608 : Cond.code y_L_data prog_1_method_4_code 4 (some .boolean) ∈ jx_ws := jx_t2 40 rfl rfl
theorem w_609 : Cond.instanceMethod y_L_data ∈ jx_ws := jx_t2 38 rfl rfl
theorem w_610 : Cond.selects y_L_data.cls y_L_data y_L_data ∈ jx_ws := jx_t2 39 rfl rfl
theorem w_611 : Cond.methodLink "StationLineLaw" 27 y_R_data ∈ jx_ws := jx_t4 2 rfl rfl
theorem w_612 : Cond.code y_R_data prog_10_method_29_code 4 (some .boolean) ∈ jx_ws := jx_t4 5 rfl rfl
theorem w_613 : Cond.instanceMethod y_R_data ∈ jx_ws := jx_t4 3 rfl rfl
theorem w_614 : Cond.selects y_R_data.cls y_R_data y_R_data ∈ jx_ws := jx_t4 4 rfl rfl
theorem w_615 : Cond.methodLink "StationLineLaw" 28 y_L_send ∈ jx_ws := jx_t2 49 rfl rfl
theorem w_616 : Cond.code y_L_send prog_1_method_5_code 2 (some .int) ∈ jx_ws := jx_t2 52 rfl rfl
theorem w_617 : Cond.instanceMethod y_L_send ∈ jx_ws := jx_t2 50 rfl rfl
theorem w_618 : Cond.selects y_L_send.cls y_L_send y_L_send ∈ jx_ws := jx_t2 51 rfl rfl
theorem w_619 : Cond.methodLink "StationLineLaw" 32 y_R_send ∈ jx_ws := jx_t4 6 rfl rfl
theorem w_620 : Cond.code y_R_send prog_10_method_30_code 2 (some .int) ∈ jx_ws := jx_t4 9 rfl rfl
theorem w_621 : Cond.instanceMethod y_R_send ∈ jx_ws := jx_t4 7 rfl rfl
theorem w_622 : Cond.selects y_R_send.cls y_R_send y_R_send ∈ jx_ws := jx_t4 8 rfl rfl
theorem w_623 : Cond.methodLink "StationLineLaw" 33 y_L_returned ∈ jx_ws := jx_t2 166 rfl rfl
theorem w_624 : Cond.code y_L_returned prog_1_method_6_code 3 (some .int) ∈ jx_ws := jx_t2 169 rfl rfl
theorem w_625 : Cond.instanceMethod y_L_returned ∈ jx_ws := jx_t2 167 rfl rfl
theorem w_626 : Cond.selects y_L_returned.cls y_L_returned y_L_returned ∈ jx_ws := jx_t2 168 rfl rfl
theorem w_627 : Cond.methodLink "StationLineLaw" 36 y_R_returned ∈ jx_ws := jx_t4 98 rfl rfl
theorem w_628 : Cond.code y_R_returned prog_10_method_31_code 3 (some .int) ∈ jx_ws := jx_t4 101 rfl rfl
theorem w_629 : Cond.instanceMethod y_R_returned ∈ jx_ws := jx_t4 99 rfl rfl
theorem w_630 : Cond.selects y_R_returned.cls y_R_returned y_R_returned ∈ jx_ws := jx_t4 100 rfl rfl
theorem w_631 : Cond.methodLink "StationLineLaw" 37 y_L_cut ∈ jx_ws := jx_t2 171 rfl rfl
theorem w_632 : Cond.code y_L_cut prog_1_method_7_code 3 (some .boolean) ∈ jx_ws := jx_t2 174 rfl rfl
theorem w_633 : Cond.instanceMethod y_L_cut ∈ jx_ws := jx_t2 172 rfl rfl
theorem w_634 : Cond.selects y_L_cut.cls y_L_cut y_L_cut ∈ jx_ws := jx_t2 173 rfl rfl
theorem w_635 : Cond.methodLink "StationLineLaw" 41 y_R_cut ∈ jx_ws := jx_t4 102 rfl rfl
theorem w_636 : Cond.code y_R_cut prog_10_method_32_code 3 (some .boolean) ∈ jx_ws := jx_t4 105 rfl rfl
theorem w_637 : Cond.instanceMethod y_R_cut ∈ jx_ws := jx_t4 103 rfl rfl
theorem w_638 : Cond.selects y_R_cut.cls y_R_cut y_R_cut ∈ jx_ws := jx_t4 104 rfl rfl
theorem w_639 : Cond.methodLink "StationLineLaw" 42 y_L_spoil ∈ jx_ws := jx_t2 179 rfl rfl
theorem w_640 : Cond.code y_L_spoil prog_1_method_8_code 2 (some .boolean) ∈ jx_ws := jx_t2 182 rfl rfl
theorem w_641 : Cond.instanceMethod y_L_spoil ∈ jx_ws := jx_t2 180 rfl rfl
theorem w_642 : Cond.selects y_L_spoil.cls y_L_spoil y_L_spoil ∈ jx_ws := jx_t2 181 rfl rfl
theorem w_643 : Cond.methodLink "StationLineLaw" 46 y_R_spoil ∈ jx_ws := jx_t4 110 rfl rfl
theorem w_644 : Cond.code y_R_spoil prog_10_method_33_code 2 (some .boolean) ∈ jx_ws := jx_t4 113 rfl rfl
theorem w_645 : Cond.instanceMethod y_R_spoil ∈ jx_ws := jx_t4 111 rfl rfl
theorem w_646 : Cond.selects y_R_spoil.cls y_R_spoil y_R_spoil ∈ jx_ws := jx_t4 112 rfl rfl
theorem w_647 : Cond.methodLink "StationLineLaw" 47 y_L_tick ∈ jx_ws := jx_t2 183 rfl rfl
theorem w_648 : Cond.code y_L_tick prog_1_method_9_code 2 (none) ∈ jx_ws := jx_t2 186 rfl rfl
theorem w_649 : Cond.instanceMethod y_L_tick ∈ jx_ws := jx_t2 184 rfl rfl
theorem w_650 : Cond.selects y_L_tick.cls y_L_tick y_L_tick ∈ jx_ws := jx_t2 185 rfl rfl
theorem w_651 : Cond.methodLink "StationLineLaw" 50 y_R_tick ∈ jx_ws := jx_t4 114 rfl rfl
theorem w_652 : Cond.code y_R_tick prog_10_method_42_code 2 (none) ∈ jx_ws := jx_t4 117 rfl rfl
theorem w_653 : Cond.instanceMethod y_R_tick ∈ jx_ws := jx_t4 115 rfl rfl
theorem w_654 : Cond.selects y_R_tick.cls y_R_tick y_R_tick ∈ jx_ws := jx_t4 116 rfl rfl
theorem w_655 : Cond.methodLink "StationLineLaw" 51 y_L_sense ∈ jx_ws := jx_t3 11 rfl rfl
theorem w_656 : Cond.code y_L_sense prog_1_method_10_code 4 (some .boolean) ∈ jx_ws := jx_t3 14 rfl rfl
theorem w_657 : Cond.instanceMethod y_L_sense ∈ jx_ws := jx_t3 12 rfl rfl
theorem w_658 : Cond.selects y_L_sense.cls y_L_sense y_L_sense ∈ jx_ws := jx_t3 13 rfl rfl
theorem w_659 : Cond.methodLink "StationLineLaw" 54 y_R_sense ∈ jx_ws := jx_t4 154 rfl rfl
theorem w_660 : Cond.code y_R_sense prog_10_method_43_code 4 (some .boolean) ∈ jx_ws := jx_t4 157 rfl rfl
theorem w_661 : Cond.instanceMethod y_R_sense ∈ jx_ws := jx_t4 155 rfl rfl
theorem w_662 : Cond.selects y_R_sense.cls y_R_sense y_R_sense ∈ jx_ws := jx_t4 156 rfl rfl
theorem w_663 : Cond.methodLink "StationLineLaw" 55 y_L_actuator ∈ jx_ws := jx_t3 15 rfl rfl
theorem w_664 : Cond.code y_L_actuator prog_1_method_11_code 3 (some .int) ∈ jx_ws := jx_t3 18 rfl rfl
theorem w_665 : Cond.instanceMethod y_L_actuator ∈ jx_ws := jx_t3 16 rfl rfl
theorem w_666 : Cond.selects y_L_actuator.cls y_L_actuator y_L_actuator ∈ jx_ws := jx_t3 17 rfl rfl
theorem w_667 : Cond.methodLink "StationLineLaw" 58 y_R_actuator ∈ jx_ws := jx_t4 158 rfl rfl
theorem w_668 : Cond.code y_R_actuator prog_10_method_44_code 3 (some .int) ∈ jx_ws := jx_t4 161 rfl rfl
theorem w_669 : Cond.instanceMethod y_R_actuator ∈ jx_ws := jx_t4 159 rfl rfl
theorem w_670 : Cond.selects y_R_actuator.cls y_R_actuator y_R_actuator ∈ jx_ws := jx_t4 160 rfl rfl
theorem w_671 : Cond.methodLink "StationLineLaw" 59 y_L_state ∈ jx_ws := jx_t3 19 rfl rfl
theorem w_672 : Cond.code y_L_state prog_1_method_12_code 3 (some .int) ∈ jx_ws := jx_t3 22 rfl rfl
theorem w_673 : Cond.instanceMethod y_L_state ∈ jx_ws := jx_t3 20 rfl rfl
theorem w_674 : Cond.selects y_L_state.cls y_L_state y_L_state ∈ jx_ws := jx_t3 21 rfl rfl
theorem w_675 : Cond.methodLink "StationLineLaw" 63 y_R_state ∈ jx_ws := jx_t4 162 rfl rfl
theorem w_676 : Cond.code y_R_state prog_10_method_45_code 2 (some .int) ∈ jx_ws := jx_t4 165 rfl rfl
theorem w_677 : Cond.instanceMethod y_R_state ∈ jx_ws := jx_t4 163 rfl rfl
theorem w_678 : Cond.selects y_R_state.cls y_R_state y_R_state ∈ jx_ws := jx_t4 164 rfl rfl
theorem w_679 : Cond.methodLink "StationLineLaw" 64 y_L_scan ∈ jx_ws := jx_t3 23 rfl rfl
theorem w_680 : Cond.code y_L_scan prog_1_method_13_code 4 (some .int) ∈ jx_ws := jx_t3 26 rfl rfl
theorem w_681 : Cond.instanceMethod y_L_scan ∈ jx_ws := jx_t3 24 rfl rfl
theorem w_682 : Cond.selects y_L_scan.cls y_L_scan y_L_scan ∈ jx_ws := jx_t3 25 rfl rfl
theorem w_683 : Cond.methodLink "StationLineLaw" 67 y_R_scan ∈ jx_ws := jx_t4 166 rfl rfl
theorem w_684 : Cond.code y_R_scan prog_10_method_47_code 3 (some .int) ∈ jx_ws := jx_t4 169 rfl rfl
theorem w_685 : Cond.instanceMethod y_R_scan ∈ jx_ws := jx_t4 167 rfl rfl
theorem w_686 : Cond.selects y_R_scan.cls y_R_scan y_R_scan ∈ jx_ws := jx_t4 168 rfl rfl
theorem w_687 : Cond.methodLink "StationLineLaw" 68 y_L_setup ∈ jx_ws := jx_t3 37 rfl rfl
theorem w_688 : Cond.code y_L_setup prog_1_method_14_code 5 (some .int) ∈ jx_ws := jx_t3 40 rfl rfl
theorem w_689 : Cond.instanceMethod y_L_setup ∈ jx_ws := jx_t3 38 rfl rfl
theorem w_690 : Cond.selects y_L_setup.cls y_L_setup y_L_setup ∈ jx_ws := jx_t3 39 rfl rfl
theorem w_691 : Cond.methodLink "StationLineLaw" 71 y_R_setup ∈ jx_ws := jx_t4 175 rfl rfl
theorem w_692 : Cond.code y_R_setup prog_10_method_50_code 4 (some .int) ∈ jx_ws := jx_t4 178 rfl rfl
theorem w_693 : Cond.instanceMethod y_R_setup ∈ jx_ws := jx_t4 176 rfl rfl
theorem w_694 : Cond.selects y_R_setup.cls y_R_setup y_R_setup ∈ jx_ws := jx_t4 177 rfl rfl
theorem w_695 : Cond.methodLink "StationLineLaw" 72 y_L_request ∈ jx_ws := jx_t3 63 rfl rfl
theorem w_696 : Cond.code y_L_request prog_1_method_15_code 3 (some .int) ∈ jx_ws := jx_t3 66 rfl rfl
theorem w_697 : Cond.instanceMethod y_L_request ∈ jx_ws := jx_t3 64 rfl rfl
theorem w_698 : Cond.selects y_L_request.cls y_L_request y_L_request ∈ jx_ws := jx_t3 65 rfl rfl
theorem w_699 : Cond.methodLink "StationLineLaw" 75 y_R_request ∈ jx_ws := jx_t4 187 rfl rfl
theorem w_700 : Cond.code y_R_request prog_10_method_51_code 2 (some .int) ∈ jx_ws := jx_t4 190 rfl rfl
theorem w_701 : Cond.instanceMethod y_R_request ∈ jx_ws := jx_t4 188 rfl rfl
theorem w_702 : Cond.selects y_R_request.cls y_R_request y_R_request ∈ jx_ws := jx_t4 189 rfl rfl
theorem w_703 : Cond.methodLink "StationLineLaw" 76 y_L_output ∈ jx_ws := jx_t3 67 rfl rfl
theorem w_704 : Cond.code y_L_output prog_1_method_16_code 3 (some .boolean) ∈ jx_ws := jx_t3 70 rfl rfl
theorem w_705 : Cond.instanceMethod y_L_output ∈ jx_ws := jx_t3 68 rfl rfl
theorem w_706 : Cond.selects y_L_output.cls y_L_output y_L_output ∈ jx_ws := jx_t3 69 rfl rfl
theorem w_707 : Cond.methodLink "StationLineLaw" 80 y_R_output ∈ jx_ws := jx_t4 191 rfl rfl
theorem w_708 : Cond.code y_R_output prog_10_method_52_code 3 (some .boolean) ∈ jx_ws := jx_t4 194 rfl rfl
theorem w_709 : Cond.instanceMethod y_R_output ∈ jx_ws := jx_t4 192 rfl rfl
theorem w_710 : Cond.selects y_R_output.cls y_R_output y_R_output ∈ jx_ws := jx_t4 193 rfl rfl
theorem w_711 : Cond.methodLink "StationLineLaw" 81 y_L_cycle ∈ jx_ws := jx_t3 71 rfl rfl
theorem w_712 : Cond.code y_L_cycle prog_1_method_17_code 4 (some .int) ∈ jx_ws := jx_t3 74 rfl rfl
theorem w_713 : Cond.instanceMethod y_L_cycle ∈ jx_ws := jx_t3 72 rfl rfl
theorem w_714 : Cond.selects y_L_cycle.cls y_L_cycle y_L_cycle ∈ jx_ws := jx_t3 73 rfl rfl
theorem w_715 : Cond.methodLink "StationLineLaw" 84 y_R_cycle ∈ jx_ws := jx_t4 195 rfl rfl
theorem w_716 : Cond.code y_R_cycle prog_10_method_55_code 4 (some .int) ∈ jx_ws := jx_t4 198 rfl rfl
theorem w_717 : Cond.instanceMethod y_R_cycle ∈ jx_ws := jx_t4 196 rfl rfl
theorem w_718 : Cond.selects y_R_cycle.cls y_R_cycle y_R_cycle ∈ jx_ws := jx_t4 197 rfl rfl
theorem w_719 : Cond.methodLink "StationLineLaw" 85 y_L_input ∈ jx_ws := jx_t3 86 rfl rfl
theorem w_720 : Cond.code y_L_input prog_1_method_18_code 2 (some .int) ∈ jx_ws := jx_t3 89 rfl rfl
theorem w_721 : Cond.instanceMethod y_L_input ∈ jx_ws := jx_t3 87 rfl rfl
theorem w_722 : Cond.selects y_L_input.cls y_L_input y_L_input ∈ jx_ws := jx_t3 88 rfl rfl
theorem w_723 : Cond.methodLink "StationLineLaw" 88 y_R_input ∈ jx_ws := jx_t4 206 rfl rfl
theorem w_724 : Cond.code y_R_input prog_10_method_56_code 2 (some .int) ∈ jx_ws := jx_t4 209 rfl rfl
theorem w_725 : Cond.instanceMethod y_R_input ∈ jx_ws := jx_t4 207 rfl rfl
theorem w_726 : Cond.selects y_R_input.cls y_R_input y_R_input ∈ jx_ws := jx_t4 208 rfl rfl
theorem w_727 : Cond.methodLink "StationLineLaw" 89 y_L_ask ∈ jx_ws := jx_t3 90 rfl rfl
theorem w_728 : Cond.code y_L_ask prog_1_method_19_code 6 (some .int) ∈ jx_ws := jx_t3 93 rfl rfl
theorem w_729 : Cond.instanceMethod y_L_ask ∈ jx_ws := jx_t3 91 rfl rfl
theorem w_730 : Cond.selects y_L_ask.cls y_L_ask y_L_ask ∈ jx_ws := jx_t3 92 rfl rfl
theorem w_731 : Cond.methodLink "StationLineLaw" 92 y_R_ask ∈ jx_ws := jx_t4 210 rfl rfl
theorem w_732 : Cond.code y_R_ask prog_10_method_57_code 5 (some .int) ∈ jx_ws := jx_t4 213 rfl rfl
theorem w_733 : Cond.instanceMethod y_R_ask ∈ jx_ws := jx_t4 211 rfl rfl
theorem w_734 : Cond.selects y_R_ask.cls y_R_ask y_R_ask ∈ jx_ws := jx_t4 212 rfl rfl
theorem w_735 : Cond.methodLink "StationLineLaw" 93 y_L_answer ∈ jx_ws := jx_t3 95 rfl rfl
theorem w_736 : Cond.code y_L_answer prog_1_method_20_code 3 (some .int) ∈ jx_ws := jx_t3 98 rfl rfl
theorem w_737 : Cond.instanceMethod y_L_answer ∈ jx_ws := jx_t3 96 rfl rfl
theorem w_738 : Cond.selects y_L_answer.cls y_L_answer y_L_answer ∈ jx_ws := jx_t3 97 rfl rfl
theorem w_739 : Cond.methodLink "StationLineLaw" 96 y_R_answer ∈ jx_ws := jx_t4 214 rfl rfl
theorem w_740 : Cond.code y_R_answer prog_10_method_58_code 2 (some .int) ∈ jx_ws := jx_t4 217 rfl rfl
theorem w_741 : Cond.instanceMethod y_R_answer ∈ jx_ws := jx_t4 215 rfl rfl
theorem w_742 : Cond.selects y_R_answer.cls y_R_answer y_R_answer ∈ jx_ws := jx_t4 216 rfl rfl
theorem w_743 : Cond.arrayClass .int ∈ jx_ws := jx_t1 80 rfl rfl
theorem w_744 : Cond.arrayClass .boolean ∈ jx_ws := jx_t1 46 rfl rfl
theorem jw_ai : Cond.arrayClass .int ∈ jx_ws := w_743
theorem jw_az : Cond.arrayClass .boolean ∈ jx_ws := w_744
theorem yk_A_fill : y_A_fill.cls ≠ "java/lang/invoke/MethodHandle" ∧ y_A_fill.cls ≠ "java/lang/invoke/VarHandle" ∧ (parseMethodDescriptor y_A_fill.desc).map (fun d => d.parameters.length) = some 2 := by decide +kernel
theorem yk_B_find : y_B_find.cls ≠ "java/lang/invoke/MethodHandle" ∧ y_B_find.cls ≠ "java/lang/invoke/VarHandle" ∧ (parseMethodDescriptor y_B_find.desc).map (fun d => d.parameters.length) = some 3 := by decide +kernel
theorem yk_B_firstByte : y_B_firstByte.cls ≠ "java/lang/invoke/MethodHandle" ∧ y_B_firstByte.cls ≠ "java/lang/invoke/VarHandle" ∧ (parseMethodDescriptor y_B_firstByte.desc).map (fun d => d.parameters.length) = some 0 := by decide +kernel
theorem yk_B_init : y_B_init.cls ≠ "java/lang/invoke/MethodHandle" ∧ y_B_init.cls ≠ "java/lang/invoke/VarHandle" ∧ (parseMethodDescriptor y_B_init.desc).map (fun d => d.parameters.length) = some 0 := by decide +kernel
theorem yk_B_lastByte : y_B_lastByte.cls ≠ "java/lang/invoke/MethodHandle" ∧ y_B_lastByte.cls ≠ "java/lang/invoke/VarHandle" ∧ (parseMethodDescriptor y_B_lastByte.desc).map (fun d => d.parameters.length) = some 0 := by decide +kernel
theorem yk_B_putIntoData : y_B_putIntoData.cls ≠ "java/lang/invoke/MethodHandle" ∧ y_B_putIntoData.cls ≠ "java/lang/invoke/VarHandle" ∧ (parseMethodDescriptor y_B_putIntoData.desc).map (fun d => d.parameters.length) = some 2 := by decide +kernel
theorem yk_B_putIntoRow : y_B_putIntoRow.cls ≠ "java/lang/invoke/MethodHandle" ∧ y_B_putIntoRow.cls ≠ "java/lang/invoke/VarHandle" ∧ (parseMethodDescriptor y_B_putIntoRow.desc).map (fun d => d.parameters.length) = some 3 := by decide +kernel
theorem yk_D_init : y_D_init.cls ≠ "java/lang/invoke/MethodHandle" ∧ y_D_init.cls ≠ "java/lang/invoke/VarHandle" ∧ (parseMethodDescriptor y_D_init.desc).map (fun d => d.parameters.length) = some 0 := by decide +kernel
theorem yk_E_allows : y_E_allows.cls ≠ "java/lang/invoke/MethodHandle" ∧ y_E_allows.cls ≠ "java/lang/invoke/VarHandle" ∧ (parseMethodDescriptor y_E_allows.desc).map (fun d => d.parameters.length) = some 4 := by decide +kernel
theorem yk_E_beforeReading : y_E_beforeReading.cls ≠ "java/lang/invoke/MethodHandle" ∧ y_E_beforeReading.cls ≠ "java/lang/invoke/VarHandle" ∧ (parseMethodDescriptor y_E_beforeReading.desc).map (fun d => d.parameters.length) = some 2 := by decide +kernel
theorem yk_E_clearChannel : y_E_clearChannel.cls ≠ "java/lang/invoke/MethodHandle" ∧ y_E_clearChannel.cls ≠ "java/lang/invoke/VarHandle" ∧ (parseMethodDescriptor y_E_clearChannel.desc).map (fun d => d.parameters.length) = some 1 := by decide +kernel
theorem yk_E_findOwners : y_E_findOwners.cls ≠ "java/lang/invoke/MethodHandle" ∧ y_E_findOwners.cls ≠ "java/lang/invoke/VarHandle" ∧ (parseMethodDescriptor y_E_findOwners.desc).map (fun d => d.parameters.length) = some 2 := by decide +kernel
theorem yk_E_heldByte : y_E_heldByte.cls ≠ "java/lang/invoke/MethodHandle" ∧ y_E_heldByte.cls ≠ "java/lang/invoke/VarHandle" ∧ (parseMethodDescriptor y_E_heldByte.desc).map (fun d => d.parameters.length) = some 2 := by decide +kernel
theorem yk_E_init : y_E_init.cls ≠ "java/lang/invoke/MethodHandle" ∧ y_E_init.cls ≠ "java/lang/invoke/VarHandle" ∧ (parseMethodDescriptor y_E_init.desc).map (fun d => d.parameters.length) = some 0 := by decide +kernel
theorem yk_E_isAllowed : y_E_isAllowed.cls ≠ "java/lang/invoke/MethodHandle" ∧ y_E_isAllowed.cls ≠ "java/lang/invoke/VarHandle" ∧ (parseMethodDescriptor y_E_isAllowed.desc).map (fun d => d.parameters.length) = some 3 := by decide +kernel
theorem yk_E_isOn : y_E_isOn.cls ≠ "java/lang/invoke/MethodHandle" ∧ y_E_isOn.cls ≠ "java/lang/invoke/VarHandle" ∧ (parseMethodDescriptor y_E_isOn.desc).map (fun d => d.parameters.length) = some 1 := by decide +kernel
theorem yk_E_isOpen : y_E_isOpen.cls ≠ "java/lang/invoke/MethodHandle" ∧ y_E_isOpen.cls ≠ "java/lang/invoke/VarHandle" ∧ (parseMethodDescriptor y_E_isOpen.desc).map (fun d => d.parameters.length) = some 1 := by decide +kernel
theorem yk_E_isOpenAs : y_E_isOpenAs.cls ≠ "java/lang/invoke/MethodHandle" ∧ y_E_isOpenAs.cls ≠ "java/lang/invoke/VarHandle" ∧ (parseMethodDescriptor y_E_isOpenAs.desc).map (fun d => d.parameters.length) = some 3 := by decide +kernel
theorem yk_E_lengthOf : y_E_lengthOf.cls ≠ "java/lang/invoke/MethodHandle" ∧ y_E_lengthOf.cls ≠ "java/lang/invoke/VarHandle" ∧ (parseMethodDescriptor y_E_lengthOf.desc).map (fun d => d.parameters.length) = some 1 := by decide +kernel
theorem yk_E_modeOf : y_E_modeOf.cls ≠ "java/lang/invoke/MethodHandle" ∧ y_E_modeOf.cls ≠ "java/lang/invoke/VarHandle" ∧ (parseMethodDescriptor y_E_modeOf.desc).map (fun d => d.parameters.length) = some 1 := by decide +kernel
theorem yk_E_readRow : y_E_readRow.cls ≠ "java/lang/invoke/MethodHandle" ∧ y_E_readRow.cls ≠ "java/lang/invoke/VarHandle" ∧ (parseMethodDescriptor y_E_readRow.desc).map (fun d => d.parameters.length) = some 2 := by decide +kernel
theorem yk_E_startOf : y_E_startOf.cls ≠ "java/lang/invoke/MethodHandle" ∧ y_E_startOf.cls ≠ "java/lang/invoke/VarHandle" ∧ (parseMethodDescriptor y_E_startOf.desc).map (fun d => d.parameters.length) = some 1 := by decide +kernel
theorem yk_E_storeInChannel : y_E_storeInChannel.cls ≠ "java/lang/invoke/MethodHandle" ∧ y_E_storeInChannel.cls ≠ "java/lang/invoke/VarHandle" ∧ (parseMethodDescriptor y_E_storeInChannel.desc).map (fun d => d.parameters.length) = some 3 := by decide +kernel
theorem yk_E_storePlain : y_E_storePlain.cls ≠ "java/lang/invoke/MethodHandle" ∧ y_E_storePlain.cls ≠ "java/lang/invoke/VarHandle" ∧ (parseMethodDescriptor y_E_storePlain.desc).map (fun d => d.parameters.length) = some 2 := by decide +kernel
theorem yk_E_writeRow : y_E_writeRow.cls ≠ "java/lang/invoke/MethodHandle" ∧ y_E_writeRow.cls ≠ "java/lang/invoke/VarHandle" ∧ (parseMethodDescriptor y_E_writeRow.desc).map (fun d => d.parameters.length) = some 2 := by decide +kernel
theorem yk_F_append : y_F_append.cls ≠ "java/lang/invoke/MethodHandle" ∧ y_F_append.cls ≠ "java/lang/invoke/VarHandle" ∧ (parseMethodDescriptor y_F_append.desc).map (fun d => d.parameters.length) = some 4 := by decide +kernel
theorem yk_F_hasByte : y_F_hasByte.cls ≠ "java/lang/invoke/MethodHandle" ∧ y_F_hasByte.cls ≠ "java/lang/invoke/VarHandle" ∧ (parseMethodDescriptor y_F_hasByte.desc).map (fun d => d.parameters.length) = some 2 := by decide +kernel
theorem yk_F_hasDatagram : y_F_hasDatagram.cls ≠ "java/lang/invoke/MethodHandle" ∧ y_F_hasDatagram.cls ≠ "java/lang/invoke/VarHandle" ∧ (parseMethodDescriptor y_F_hasDatagram.desc).map (fun d => d.parameters.length) = some 1 := by decide +kernel
theorem yk_F_init : y_F_init.cls ≠ "java/lang/invoke/MethodHandle" ∧ y_F_init.cls ≠ "java/lang/invoke/VarHandle" ∧ (parseMethodDescriptor y_F_init.desc).map (fun d => d.parameters.length) = some 0 := by decide +kernel
theorem yk_F_isCountedOnce : y_F_isCountedOnce.cls ≠ "java/lang/invoke/MethodHandle" ∧ y_F_isCountedOnce.cls ≠ "java/lang/invoke/VarHandle" ∧ (parseMethodDescriptor y_F_isCountedOnce.desc).map (fun d => d.parameters.length) = some 0 := by decide +kernel
theorem yk_I_append : y_I_append.cls ≠ "java/lang/invoke/MethodHandle" ∧ y_I_append.cls ≠ "java/lang/invoke/VarHandle" ∧ (parseMethodDescriptor y_I_append.desc).map (fun d => d.parameters.length) = some 1 := by decide +kernel
theorem yk_I_expected : y_I_expected.cls ≠ "java/lang/invoke/MethodHandle" ∧ y_I_expected.cls ≠ "java/lang/invoke/VarHandle" ∧ (parseMethodDescriptor y_I_expected.desc).map (fun d => d.parameters.length) = some 1 := by decide +kernel
theorem yk_I_forget : y_I_forget.cls ≠ "java/lang/invoke/MethodHandle" ∧ y_I_forget.cls ≠ "java/lang/invoke/VarHandle" ∧ (parseMethodDescriptor y_I_forget.desc).map (fun d => d.parameters.length) = some 0 := by decide +kernel
theorem yk_I_init : y_I_init.cls ≠ "java/lang/invoke/MethodHandle" ∧ y_I_init.cls ≠ "java/lang/invoke/VarHandle" ∧ (parseMethodDescriptor y_I_init.desc).map (fun d => d.parameters.length) = some 0 := by decide +kernel
theorem yk_I_meet : y_I_meet.cls ≠ "java/lang/invoke/MethodHandle" ∧ y_I_meet.cls ≠ "java/lang/invoke/VarHandle" ∧ (parseMethodDescriptor y_I_meet.desc).map (fun d => d.parameters.length) = some 3 := by decide +kernel
theorem yk_L_actuator : y_L_actuator.cls ≠ "java/lang/invoke/MethodHandle" ∧ y_L_actuator.cls ≠ "java/lang/invoke/VarHandle" ∧ (parseMethodDescriptor y_L_actuator.desc).map (fun d => d.parameters.length) = some 2 := by decide +kernel
theorem yk_L_answer : y_L_answer.cls ≠ "java/lang/invoke/MethodHandle" ∧ y_L_answer.cls ≠ "java/lang/invoke/VarHandle" ∧ (parseMethodDescriptor y_L_answer.desc).map (fun d => d.parameters.length) = some 1 := by decide +kernel
theorem yk_L_ask : y_L_ask.cls ≠ "java/lang/invoke/MethodHandle" ∧ y_L_ask.cls ≠ "java/lang/invoke/VarHandle" ∧ (parseMethodDescriptor y_L_ask.desc).map (fun d => d.parameters.length) = some 4 := by decide +kernel
theorem yk_L_cut : y_L_cut.cls ≠ "java/lang/invoke/MethodHandle" ∧ y_L_cut.cls ≠ "java/lang/invoke/VarHandle" ∧ (parseMethodDescriptor y_L_cut.desc).map (fun d => d.parameters.length) = some 2 := by decide +kernel
theorem yk_L_cycle : y_L_cycle.cls ≠ "java/lang/invoke/MethodHandle" ∧ y_L_cycle.cls ≠ "java/lang/invoke/VarHandle" ∧ (parseMethodDescriptor y_L_cycle.desc).map (fun d => d.parameters.length) = some 0 := by decide +kernel
theorem yk_L_data : y_L_data.cls ≠ "java/lang/invoke/MethodHandle" ∧ y_L_data.cls ≠ "java/lang/invoke/VarHandle" ∧ (parseMethodDescriptor y_L_data.desc).map (fun d => d.parameters.length) = some 3 := by decide +kernel
theorem yk_L_datagram : y_L_datagram.cls ≠ "java/lang/invoke/MethodHandle" ∧ y_L_datagram.cls ≠ "java/lang/invoke/VarHandle" ∧ (parseMethodDescriptor y_L_datagram.desc).map (fun d => d.parameters.length) = some 4 := by decide +kernel
theorem yk_L_init : y_L_init.cls ≠ "java/lang/invoke/MethodHandle" ∧ y_L_init.cls ≠ "java/lang/invoke/VarHandle" ∧ (parseMethodDescriptor y_L_init.desc).map (fun d => d.parameters.length) = some 0 := by decide +kernel
theorem yk_L_input : y_L_input.cls ≠ "java/lang/invoke/MethodHandle" ∧ y_L_input.cls ≠ "java/lang/invoke/VarHandle" ∧ (parseMethodDescriptor y_L_input.desc).map (fun d => d.parameters.length) = some 1 := by decide +kernel
theorem yk_L_isCommand : y_L_isCommand.cls ≠ "java/lang/invoke/MethodHandle" ∧ y_L_isCommand.cls ≠ "java/lang/invoke/VarHandle" ∧ (parseMethodDescriptor y_L_isCommand.desc).map (fun d => d.parameters.length) = some 1 := by decide +kernel
theorem yk_L_output : y_L_output.cls ≠ "java/lang/invoke/MethodHandle" ∧ y_L_output.cls ≠ "java/lang/invoke/VarHandle" ∧ (parseMethodDescriptor y_L_output.desc).map (fun d => d.parameters.length) = some 2 := by decide +kernel
theorem yk_L_request : y_L_request.cls ≠ "java/lang/invoke/MethodHandle" ∧ y_L_request.cls ≠ "java/lang/invoke/VarHandle" ∧ (parseMethodDescriptor y_L_request.desc).map (fun d => d.parameters.length) = some 1 := by decide +kernel
theorem yk_L_returned : y_L_returned.cls ≠ "java/lang/invoke/MethodHandle" ∧ y_L_returned.cls ≠ "java/lang/invoke/VarHandle" ∧ (parseMethodDescriptor y_L_returned.desc).map (fun d => d.parameters.length) = some 2 := by decide +kernel
theorem yk_L_scan : y_L_scan.cls ≠ "java/lang/invoke/MethodHandle" ∧ y_L_scan.cls ≠ "java/lang/invoke/VarHandle" ∧ (parseMethodDescriptor y_L_scan.desc).map (fun d => d.parameters.length) = some 0 := by decide +kernel
theorem yk_L_send : y_L_send.cls ≠ "java/lang/invoke/MethodHandle" ∧ y_L_send.cls ≠ "java/lang/invoke/VarHandle" ∧ (parseMethodDescriptor y_L_send.desc).map (fun d => d.parameters.length) = some 0 := by decide +kernel
theorem yk_L_sense : y_L_sense.cls ≠ "java/lang/invoke/MethodHandle" ∧ y_L_sense.cls ≠ "java/lang/invoke/VarHandle" ∧ (parseMethodDescriptor y_L_sense.desc).map (fun d => d.parameters.length) = some 3 := by decide +kernel
theorem yk_L_setup : y_L_setup.cls ≠ "java/lang/invoke/MethodHandle" ∧ y_L_setup.cls ≠ "java/lang/invoke/VarHandle" ∧ (parseMethodDescriptor y_L_setup.desc).map (fun d => d.parameters.length) = some 0 := by decide +kernel
theorem yk_L_spoil : y_L_spoil.cls ≠ "java/lang/invoke/MethodHandle" ∧ y_L_spoil.cls ≠ "java/lang/invoke/VarHandle" ∧ (parseMethodDescriptor y_L_spoil.desc).map (fun d => d.parameters.length) = some 1 := by decide +kernel
theorem yk_L_startChannelsFrame : y_L_startChannelsFrame.cls ≠ "java/lang/invoke/MethodHandle" ∧ y_L_startChannelsFrame.cls ≠ "java/lang/invoke/VarHandle" ∧ (parseMethodDescriptor y_L_startChannelsFrame.desc).map (fun d => d.parameters.length) = some 1 := by decide +kernel
theorem yk_L_startFrame : y_L_startFrame.cls ≠ "java/lang/invoke/MethodHandle" ∧ y_L_startFrame.cls ≠ "java/lang/invoke/VarHandle" ∧ (parseMethodDescriptor y_L_startFrame.desc).map (fun d => d.parameters.length) = some 4 := by decide +kernel
theorem yk_L_startInputsFrame : y_L_startInputsFrame.cls ≠ "java/lang/invoke/MethodHandle" ∧ y_L_startInputsFrame.cls ≠ "java/lang/invoke/VarHandle" ∧ (parseMethodDescriptor y_L_startInputsFrame.desc).map (fun d => d.parameters.length) = some 1 := by decide +kernel
theorem yk_L_state : y_L_state.cls ≠ "java/lang/invoke/MethodHandle" ∧ y_L_state.cls ≠ "java/lang/invoke/VarHandle" ∧ (parseMethodDescriptor y_L_state.desc).map (fun d => d.parameters.length) = some 1 := by decide +kernel
theorem yk_L_station : y_L_station.cls ≠ "java/lang/invoke/MethodHandle" ∧ y_L_station.cls ≠ "java/lang/invoke/VarHandle" ∧ (parseMethodDescriptor y_L_station.desc).map (fun d => d.parameters.length) = some 2 := by decide +kernel
theorem yk_L_tick : y_L_tick.cls ≠ "java/lang/invoke/MethodHandle" ∧ y_L_tick.cls ≠ "java/lang/invoke/VarHandle" ∧ (parseMethodDescriptor y_L_tick.desc).map (fun d => d.parameters.length) = some 0 := by decide +kernel
theorem yk_L_writeChannel : y_L_writeChannel.cls ≠ "java/lang/invoke/MethodHandle" ∧ y_L_writeChannel.cls ≠ "java/lang/invoke/VarHandle" ∧ (parseMethodDescriptor y_L_writeChannel.desc).map (fun d => d.parameters.length) = some 5 := by decide +kernel
theorem yk_L_writeMap : y_L_writeMap.cls ≠ "java/lang/invoke/MethodHandle" ∧ y_L_writeMap.cls ≠ "java/lang/invoke/VarHandle" ∧ (parseMethodDescriptor y_L_writeMap.desc).map (fun d => d.parameters.length) = some 5 := by decide +kernel
theorem yk_L_writeMessage : y_L_writeMessage.cls ≠ "java/lang/invoke/MethodHandle" ∧ y_L_writeMessage.cls ≠ "java/lang/invoke/VarHandle" ∧ (parseMethodDescriptor y_L_writeMessage.desc).map (fun d => d.parameters.length) = some 4 := by decide +kernel
theorem yk_N_carry : y_N_carry.cls ≠ "java/lang/invoke/MethodHandle" ∧ y_N_carry.cls ≠ "java/lang/invoke/VarHandle" ∧ (parseMethodDescriptor y_N_carry.desc).map (fun d => d.parameters.length) = some 1 := by decide +kernel
theorem yk_N_hasStation : y_N_hasStation.cls ≠ "java/lang/invoke/MethodHandle" ∧ y_N_hasStation.cls ≠ "java/lang/invoke/VarHandle" ∧ (parseMethodDescriptor y_N_hasStation.desc).map (fun d => d.parameters.length) = some 1 := by decide +kernel
theorem yk_N_init : y_N_init.cls ≠ "java/lang/invoke/MethodHandle" ∧ y_N_init.cls ≠ "java/lang/invoke/VarHandle" ∧ (parseMethodDescriptor y_N_init.desc).map (fun d => d.parameters.length) = some 0 := by decide +kernel
theorem yk_N_stationsBeforeBreak : y_N_stationsBeforeBreak.cls ≠ "java/lang/invoke/MethodHandle" ∧ y_N_stationsBeforeBreak.cls ≠ "java/lang/invoke/VarHandle" ∧ (parseMethodDescriptor y_N_stationsBeforeBreak.desc).map (fun d => d.parameters.length) = some 0 := by decide +kernel
theorem yk_R_actuator : y_R_actuator.cls ≠ "java/lang/invoke/MethodHandle" ∧ y_R_actuator.cls ≠ "java/lang/invoke/VarHandle" ∧ (parseMethodDescriptor y_R_actuator.desc).map (fun d => d.parameters.length) = some 2 := by decide +kernel
theorem yk_R_allowed : y_R_allowed.cls ≠ "java/lang/invoke/MethodHandle" ∧ y_R_allowed.cls ≠ "java/lang/invoke/VarHandle" ∧ (parseMethodDescriptor y_R_allowed.desc).map (fun d => d.parameters.length) = some 4 := by decide +kernel
theorem yk_R_answer : y_R_answer.cls ≠ "java/lang/invoke/MethodHandle" ∧ y_R_answer.cls ≠ "java/lang/invoke/VarHandle" ∧ (parseMethodDescriptor y_R_answer.desc).map (fun d => d.parameters.length) = some 1 := by decide +kernel
theorem yk_R_ask : y_R_ask.cls ≠ "java/lang/invoke/MethodHandle" ∧ y_R_ask.cls ≠ "java/lang/invoke/VarHandle" ∧ (parseMethodDescriptor y_R_ask.desc).map (fun d => d.parameters.length) = some 4 := by decide +kernel
theorem yk_R_at : y_R_at.cls ≠ "java/lang/invoke/MethodHandle" ∧ y_R_at.cls ≠ "java/lang/invoke/VarHandle" ∧ (parseMethodDescriptor y_R_at.desc).map (fun d => d.parameters.length) = some 2 := by decide +kernel
theorem yk_R_begin : y_R_begin.cls ≠ "java/lang/invoke/MethodHandle" ∧ y_R_begin.cls ≠ "java/lang/invoke/VarHandle" ∧ (parseMethodDescriptor y_R_begin.desc).map (fun d => d.parameters.length) = some 2 := by decide +kernel
theorem yk_R_cell : y_R_cell.cls ≠ "java/lang/invoke/MethodHandle" ∧ y_R_cell.cls ≠ "java/lang/invoke/VarHandle" ∧ (parseMethodDescriptor y_R_cell.desc).map (fun d => d.parameters.length) = some 3 := by decide +kernel
theorem yk_R_channelOf : y_R_channelOf.cls ≠ "java/lang/invoke/MethodHandle" ∧ y_R_channelOf.cls ≠ "java/lang/invoke/VarHandle" ∧ (parseMethodDescriptor y_R_channelOf.desc).map (fun d => d.parameters.length) = some 2 := by decide +kernel
theorem yk_R_control : y_R_control.cls ≠ "java/lang/invoke/MethodHandle" ∧ y_R_control.cls ≠ "java/lang/invoke/VarHandle" ∧ (parseMethodDescriptor y_R_control.desc).map (fun d => d.parameters.length) = some 1 := by decide +kernel
theorem yk_R_copy : y_R_copy.cls ≠ "java/lang/invoke/MethodHandle" ∧ y_R_copy.cls ≠ "java/lang/invoke/VarHandle" ∧ (parseMethodDescriptor y_R_copy.desc).map (fun d => d.parameters.length) = some 3 := by decide +kernel
theorem yk_R_copyGram : y_R_copyGram.cls ≠ "java/lang/invoke/MethodHandle" ∧ y_R_copyGram.cls ≠ "java/lang/invoke/VarHandle" ∧ (parseMethodDescriptor y_R_copyGram.desc).map (fun d => d.parameters.length) = some 2 := by decide +kernel
theorem yk_R_cut : y_R_cut.cls ≠ "java/lang/invoke/MethodHandle" ∧ y_R_cut.cls ≠ "java/lang/invoke/VarHandle" ∧ (parseMethodDescriptor y_R_cut.desc).map (fun d => d.parameters.length) = some 2 := by decide +kernel
theorem yk_R_cycle : y_R_cycle.cls ≠ "java/lang/invoke/MethodHandle" ∧ y_R_cycle.cls ≠ "java/lang/invoke/VarHandle" ∧ (parseMethodDescriptor y_R_cycle.desc).map (fun d => d.parameters.length) = some 0 := by decide +kernel
theorem yk_R_data : y_R_data.cls ≠ "java/lang/invoke/MethodHandle" ∧ y_R_data.cls ≠ "java/lang/invoke/VarHandle" ∧ (parseMethodDescriptor y_R_data.desc).map (fun d => d.parameters.length) = some 3 := by decide +kernel
theorem yk_R_datagram : y_R_datagram.cls ≠ "java/lang/invoke/MethodHandle" ∧ y_R_datagram.cls ≠ "java/lang/invoke/VarHandle" ∧ (parseMethodDescriptor y_R_datagram.desc).map (fun d => d.parameters.length) = some 4 := by decide +kernel
theorem yk_R_equip : y_R_equip.cls ≠ "java/lang/invoke/MethodHandle" ∧ y_R_equip.cls ≠ "java/lang/invoke/VarHandle" ∧ (parseMethodDescriptor y_R_equip.desc).map (fun d => d.parameters.length) = some 1 := by decide +kernel
theorem yk_R_expected : y_R_expected.cls ≠ "java/lang/invoke/MethodHandle" ∧ y_R_expected.cls ≠ "java/lang/invoke/VarHandle" ∧ (parseMethodDescriptor y_R_expected.desc).map (fun d => d.parameters.length) = some 1 := by decide +kernel
theorem yk_R_fail : y_R_fail.cls ≠ "java/lang/invoke/MethodHandle" ∧ y_R_fail.cls ≠ "java/lang/invoke/VarHandle" ∧ (parseMethodDescriptor y_R_fail.desc).map (fun d => d.parameters.length) = some 2 := by decide +kernel
theorem yk_R_fill : y_R_fill.cls ≠ "java/lang/invoke/MethodHandle" ∧ y_R_fill.cls ≠ "java/lang/invoke/VarHandle" ∧ (parseMethodDescriptor y_R_fill.desc).map (fun d => d.parameters.length) = some 3 := by decide +kernel
theorem yk_R_fit : y_R_fit.cls ≠ "java/lang/invoke/MethodHandle" ∧ y_R_fit.cls ≠ "java/lang/invoke/VarHandle" ∧ (parseMethodDescriptor y_R_fit.desc).map (fun d => d.parameters.length) = some 4 := by decide +kernel
theorem yk_R_full : y_R_full.cls ≠ "java/lang/invoke/MethodHandle" ∧ y_R_full.cls ≠ "java/lang/invoke/VarHandle" ∧ (parseMethodDescriptor y_R_full.desc).map (fun d => d.parameters.length) = some 2 := by decide +kernel
theorem yk_R_gram : y_R_gram.cls ≠ "java/lang/invoke/MethodHandle" ∧ y_R_gram.cls ≠ "java/lang/invoke/VarHandle" ∧ (parseMethodDescriptor y_R_gram.desc).map (fun d => d.parameters.length) = some 5 := by decide +kernel
theorem yk_R_handle : y_R_handle.cls ≠ "java/lang/invoke/MethodHandle" ∧ y_R_handle.cls ≠ "java/lang/invoke/VarHandle" ∧ (parseMethodDescriptor y_R_handle.desc).map (fun d => d.parameters.length) = some 2 := by decide +kernel
theorem yk_R_hindrance : y_R_hindrance.cls ≠ "java/lang/invoke/MethodHandle" ∧ y_R_hindrance.cls ≠ "java/lang/invoke/VarHandle" ∧ (parseMethodDescriptor y_R_hindrance.desc).map (fun d => d.parameters.length) = some 2 := by decide +kernel
theorem yk_R_init : y_R_init.cls ≠ "java/lang/invoke/MethodHandle" ∧ y_R_init.cls ≠ "java/lang/invoke/VarHandle" ∧ (parseMethodDescriptor y_R_init.desc).map (fun d => d.parameters.length) = some 0 := by decide +kernel
theorem yk_R_input : y_R_input.cls ≠ "java/lang/invoke/MethodHandle" ∧ y_R_input.cls ≠ "java/lang/invoke/VarHandle" ∧ (parseMethodDescriptor y_R_input.desc).map (fun d => d.parameters.length) = some 1 := by decide +kernel
theorem yk_R_isStation : y_R_isStation.cls ≠ "java/lang/invoke/MethodHandle" ∧ y_R_isStation.cls ≠ "java/lang/invoke/VarHandle" ∧ (parseMethodDescriptor y_R_isStation.desc).map (fun d => d.parameters.length) = some 1 := by decide +kernel
theorem yk_R_kind : y_R_kind.cls ≠ "java/lang/invoke/MethodHandle" ∧ y_R_kind.cls ≠ "java/lang/invoke/VarHandle" ∧ (parseMethodDescriptor y_R_kind.desc).map (fun d => d.parameters.length) = some 2 := by decide +kernel
theorem yk_R_lets : y_R_lets.cls ≠ "java/lang/invoke/MethodHandle" ∧ y_R_lets.cls ≠ "java/lang/invoke/VarHandle" ∧ (parseMethodDescriptor y_R_lets.desc).map (fun d => d.parameters.length) = some 5 := by decide +kernel
theorem yk_R_lies : y_R_lies.cls ≠ "java/lang/invoke/MethodHandle" ∧ y_R_lies.cls ≠ "java/lang/invoke/VarHandle" ∧ (parseMethodDescriptor y_R_lies.desc).map (fun d => d.parameters.length) = some 3 := by decide +kernel
theorem yk_R_like : y_R_like.cls ≠ "java/lang/invoke/MethodHandle" ∧ y_R_like.cls ≠ "java/lang/invoke/VarHandle" ∧ (parseMethodDescriptor y_R_like.desc).map (fun d => d.parameters.length) = some 4 := by decide +kernel
theorem yk_R_mailed : y_R_mailed.cls ≠ "java/lang/invoke/MethodHandle" ∧ y_R_mailed.cls ≠ "java/lang/invoke/VarHandle" ∧ (parseMethodDescriptor y_R_mailed.desc).map (fun d => d.parameters.length) = some 1 := by decide +kernel
theorem yk_R_many : y_R_many.cls ≠ "java/lang/invoke/MethodHandle" ∧ y_R_many.cls ≠ "java/lang/invoke/VarHandle" ∧ (parseMethodDescriptor y_R_many.desc).map (fun d => d.parameters.length) = some 2 := by decide +kernel
theorem yk_R_map : y_R_map.cls ≠ "java/lang/invoke/MethodHandle" ∧ y_R_map.cls ≠ "java/lang/invoke/VarHandle" ∧ (parseMethodDescriptor y_R_map.desc).map (fun d => d.parameters.length) = some 3 := by decide +kernel
theorem yk_R_message : y_R_message.cls ≠ "java/lang/invoke/MethodHandle" ∧ y_R_message.cls ≠ "java/lang/invoke/VarHandle" ∧ (parseMethodDescriptor y_R_message.desc).map (fun d => d.parameters.length) = some 1 := by decide +kernel
theorem yk_R_open : y_R_open.cls ≠ "java/lang/invoke/MethodHandle" ∧ y_R_open.cls ≠ "java/lang/invoke/VarHandle" ∧ (parseMethodDescriptor y_R_open.desc).map (fun d => d.parameters.length) = some 2 := by decide +kernel
theorem yk_R_output : y_R_output.cls ≠ "java/lang/invoke/MethodHandle" ∧ y_R_output.cls ≠ "java/lang/invoke/VarHandle" ∧ (parseMethodDescriptor y_R_output.desc).map (fun d => d.parameters.length) = some 2 := by decide +kernel
theorem yk_R_reads : y_R_reads.cls ≠ "java/lang/invoke/MethodHandle" ∧ y_R_reads.cls ≠ "java/lang/invoke/VarHandle" ∧ (parseMethodDescriptor y_R_reads.desc).map (fun d => d.parameters.length) = some 3 := by decide +kernel
theorem yk_R_request : y_R_request.cls ≠ "java/lang/invoke/MethodHandle" ∧ y_R_request.cls ≠ "java/lang/invoke/VarHandle" ∧ (parseMethodDescriptor y_R_request.desc).map (fun d => d.parameters.length) = some 1 := by decide +kernel
theorem yk_R_rest : y_R_rest.cls ≠ "java/lang/invoke/MethodHandle" ∧ y_R_rest.cls ≠ "java/lang/invoke/VarHandle" ∧ (parseMethodDescriptor y_R_rest.desc).map (fun d => d.parameters.length) = some 1 := by decide +kernel
theorem yk_R_returned : y_R_returned.cls ≠ "java/lang/invoke/MethodHandle" ∧ y_R_returned.cls ≠ "java/lang/invoke/VarHandle" ∧ (parseMethodDescriptor y_R_returned.desc).map (fun d => d.parameters.length) = some 2 := by decide +kernel
theorem yk_R_scan : y_R_scan.cls ≠ "java/lang/invoke/MethodHandle" ∧ y_R_scan.cls ≠ "java/lang/invoke/VarHandle" ∧ (parseMethodDescriptor y_R_scan.desc).map (fun d => d.parameters.length) = some 0 := by decide +kernel
theorem yk_R_send : y_R_send.cls ≠ "java/lang/invoke/MethodHandle" ∧ y_R_send.cls ≠ "java/lang/invoke/VarHandle" ∧ (parseMethodDescriptor y_R_send.desc).map (fun d => d.parameters.length) = some 0 := by decide +kernel
theorem yk_R_sense : y_R_sense.cls ≠ "java/lang/invoke/MethodHandle" ∧ y_R_sense.cls ≠ "java/lang/invoke/VarHandle" ∧ (parseMethodDescriptor y_R_sense.desc).map (fun d => d.parameters.length) = some 3 := by decide +kernel
theorem yk_R_setup : y_R_setup.cls ≠ "java/lang/invoke/MethodHandle" ∧ y_R_setup.cls ≠ "java/lang/invoke/VarHandle" ∧ (parseMethodDescriptor y_R_setup.desc).map (fun d => d.parameters.length) = some 0 := by decide +kernel
theorem yk_R_single : y_R_single.cls ≠ "java/lang/invoke/MethodHandle" ∧ y_R_single.cls ≠ "java/lang/invoke/VarHandle" ∧ (parseMethodDescriptor y_R_single.desc).map (fun d => d.parameters.length) = some 4 := by decide +kernel
theorem yk_R_six : y_R_six.cls ≠ "java/lang/invoke/MethodHandle" ∧ y_R_six.cls ≠ "java/lang/invoke/VarHandle" ∧ (parseMethodDescriptor y_R_six.desc).map (fun d => d.parameters.length) = some 7 := by decide +kernel
theorem yk_R_spoil : y_R_spoil.cls ≠ "java/lang/invoke/MethodHandle" ∧ y_R_spoil.cls ≠ "java/lang/invoke/VarHandle" ∧ (parseMethodDescriptor y_R_spoil.desc).map (fun d => d.parameters.length) = some 1 := by decide +kernel
theorem yk_R_state : y_R_state.cls ≠ "java/lang/invoke/MethodHandle" ∧ y_R_state.cls ≠ "java/lang/invoke/VarHandle" ∧ (parseMethodDescriptor y_R_state.desc).map (fun d => d.parameters.length) = some 1 := by decide +kernel
theorem yk_R_station : y_R_station.cls ≠ "java/lang/invoke/MethodHandle" ∧ y_R_station.cls ≠ "java/lang/invoke/VarHandle" ∧ (parseMethodDescriptor y_R_station.desc).map (fun d => d.parameters.length) = some 2 := by decide +kernel
theorem yk_R_stays : y_R_stays.cls ≠ "java/lang/invoke/MethodHandle" ∧ y_R_stays.cls ≠ "java/lang/invoke/VarHandle" ∧ (parseMethodDescriptor y_R_stays.desc).map (fun d => d.parameters.length) = some 2 := by decide +kernel
theorem yk_R_store : y_R_store.cls ≠ "java/lang/invoke/MethodHandle" ∧ y_R_store.cls ≠ "java/lang/invoke/VarHandle" ∧ (parseMethodDescriptor y_R_store.desc).map (fun d => d.parameters.length) = some 3 := by decide +kernel
theorem yk_R_tick : y_R_tick.cls ≠ "java/lang/invoke/MethodHandle" ∧ y_R_tick.cls ≠ "java/lang/invoke/VarHandle" ∧ (parseMethodDescriptor y_R_tick.desc).map (fun d => d.parameters.length) = some 0 := by decide +kernel
theorem yk_R_touch : y_R_touch.cls ≠ "java/lang/invoke/MethodHandle" ∧ y_R_touch.cls ≠ "java/lang/invoke/VarHandle" ∧ (parseMethodDescriptor y_R_touch.desc).map (fun d => d.parameters.length) = some 2 := by decide +kernel
theorem yk_R_travel : y_R_travel.cls ≠ "java/lang/invoke/MethodHandle" ∧ y_R_travel.cls ≠ "java/lang/invoke/VarHandle" ∧ (parseMethodDescriptor y_R_travel.desc).map (fun d => d.parameters.length) = some 0 := by decide +kernel
theorem yk_R_turn : y_R_turn.cls ≠ "java/lang/invoke/MethodHandle" ∧ y_R_turn.cls ≠ "java/lang/invoke/VarHandle" ∧ (parseMethodDescriptor y_R_turn.desc).map (fun d => d.parameters.length) = some 1 := by decide +kernel
theorem yk_R_wipe : y_R_wipe.cls ≠ "java/lang/invoke/MethodHandle" ∧ y_R_wipe.cls ≠ "java/lang/invoke/VarHandle" ∧ (parseMethodDescriptor y_R_wipe.desc).map (fun d => d.parameters.length) = some 2 := by decide +kernel
theorem yk_R_writes : y_R_writes.cls ≠ "java/lang/invoke/MethodHandle" ∧ y_R_writes.cls ≠ "java/lang/invoke/VarHandle" ∧ (parseMethodDescriptor y_R_writes.desc).map (fun d => d.parameters.length) = some 3 := by decide +kernel
theorem yk_S_become : y_S_become.cls ≠ "java/lang/invoke/MethodHandle" ∧ y_S_become.cls ≠ "java/lang/invoke/VarHandle" ∧ (parseMethodDescriptor y_S_become.desc).map (fun d => d.parameters.length) = some 2 := by decide +kernel
theorem yk_S_doMessage : y_S_doMessage.cls ≠ "java/lang/invoke/MethodHandle" ∧ y_S_doMessage.cls ≠ "java/lang/invoke/VarHandle" ∧ (parseMethodDescriptor y_S_doMessage.desc).map (fun d => d.parameters.length) = some 4 := by decide +kernel
theorem yk_S_enter : y_S_enter.cls ≠ "java/lang/invoke/MethodHandle" ∧ y_S_enter.cls ≠ "java/lang/invoke/VarHandle" ∧ (parseMethodDescriptor y_S_enter.desc).map (fun d => d.parameters.length) = some 1 := by decide +kernel
theorem yk_S_hasMailbox : y_S_hasMailbox.cls ≠ "java/lang/invoke/MethodHandle" ∧ y_S_hasMailbox.cls ≠ "java/lang/invoke/VarHandle" ∧ (parseMethodDescriptor y_S_hasMailbox.desc).map (fun d => d.parameters.length) = some 0 := by decide +kernel
theorem yk_S_init : y_S_init.cls ≠ "java/lang/invoke/MethodHandle" ∧ y_S_init.cls ≠ "java/lang/invoke/VarHandle" ∧ (parseMethodDescriptor y_S_init.desc).map (fun d => d.parameters.length) = some 2 := by decide +kernel
theorem yk_S_isSetUp : y_S_isSetUp.cls ≠ "java/lang/invoke/MethodHandle" ∧ y_S_isSetUp.cls ≠ "java/lang/invoke/VarHandle" ∧ (parseMethodDescriptor y_S_isSetUp.desc).map (fun d => d.parameters.length) = some 3 := by decide +kernel
theorem yk_S_makeTick : y_S_makeTick.cls ≠ "java/lang/invoke/MethodHandle" ∧ y_S_makeTick.cls ≠ "java/lang/invoke/VarHandle" ∧ (parseMethodDescriptor y_S_makeTick.desc).map (fun d => d.parameters.length) = some 0 := by decide +kernel
theorem yk_S_moveActuators : y_S_moveActuators.cls ≠ "java/lang/invoke/MethodHandle" ∧ y_S_moveActuators.cls ≠ "java/lang/invoke/VarHandle" ∧ (parseMethodDescriptor y_S_moveActuators.desc).map (fun d => d.parameters.length) = some 0 := by decide +kernel
theorem yk_S_obeyControl : y_S_obeyControl.cls ≠ "java/lang/invoke/MethodHandle" ∧ y_S_obeyControl.cls ≠ "java/lang/invoke/VarHandle" ∧ (parseMethodDescriptor y_S_obeyControl.desc).map (fun d => d.parameters.length) = some 0 := by decide +kernel
theorem yk_S_objection : y_S_objection.cls ≠ "java/lang/invoke/MethodHandle" ∧ y_S_objection.cls ≠ "java/lang/invoke/VarHandle" ∧ (parseMethodDescriptor y_S_objection.desc).map (fun d => d.parameters.length) = some 1 := by decide +kernel
theorem yk_S_perform : y_S_perform.cls ≠ "java/lang/invoke/MethodHandle" ∧ y_S_perform.cls ≠ "java/lang/invoke/VarHandle" ∧ (parseMethodDescriptor y_S_perform.desc).map (fun d => d.parameters.length) = some 1 := by decide +kernel
theorem yk_S_performDirect : y_S_performDirect.cls ≠ "java/lang/invoke/MethodHandle" ∧ y_S_performDirect.cls ≠ "java/lang/invoke/VarHandle" ∧ (parseMethodDescriptor y_S_performDirect.desc).map (fun d => d.parameters.length) = some 1 := by decide +kernel
theorem yk_S_performLogical : y_S_performLogical.cls ≠ "java/lang/invoke/MethodHandle" ∧ y_S_performLogical.cls ≠ "java/lang/invoke/VarHandle" ∧ (parseMethodDescriptor y_S_performLogical.desc).map (fun d => d.parameters.length) = some 1 := by decide +kernel
theorem yk_S_present : y_S_present.cls ≠ "java/lang/invoke/MethodHandle" ∧ y_S_present.cls ≠ "java/lang/invoke/VarHandle" ∧ (parseMethodDescriptor y_S_present.desc).map (fun d => d.parameters.length) = some 0 := by decide +kernel
theorem yk_S_replyToMessage : y_S_replyToMessage.cls ≠ "java/lang/invoke/MethodHandle" ∧ y_S_replyToMessage.cls ≠ "java/lang/invoke/VarHandle" ∧ (parseMethodDescriptor y_S_replyToMessage.desc).map (fun d => d.parameters.length) = some 0 := by decide +kernel
theorem yk_S_takeSensors : y_S_takeSensors.cls ≠ "java/lang/invoke/MethodHandle" ∧ y_S_takeSensors.cls ≠ "java/lang/invoke/VarHandle" ∧ (parseMethodDescriptor y_S_takeSensors.desc).map (fun d => d.parameters.length) = some 0 := by decide +kernel
theorem yk_S_watch : y_S_watch.cls ≠ "java/lang/invoke/MethodHandle" ∧ y_S_watch.cls ≠ "java/lang/invoke/VarHandle" ∧ (parseMethodDescriptor y_S_watch.desc).map (fun d => d.parameters.length) = some 0 := by decide +kernel
end
section
/-! The abstract heap: a list of cells (kind, slots); place k is the machine's cell z + k. Kinds below 50: classes of vwCl; 50 int[], 51 boolean[], 52 Datagram[], 53 Station[], 54 int[][]. -/
abbrev hp_H : Type := List (Nat × List Value)
abbrev hp_L : Type := List (Option Value)
def hp_v (z : Nat) (v : Value) : Value := match v with
  | .ref a => .ref (z + a)
  | w => w
theorem hp_v_cat (z : Nat) (v : Value) : (hp_v z v).category = v.category := by cases v <;> rfl
theorem hp_vs_cat (z : Nat) (st : List Value) (h : ∀ v ∈ st, v.category = 1) : ((st.map (hp_v z)).map fun v => v.category).sum = st.length := by
  induction st with
  | nil => rfl
  | cons a t ih =>
    have h1 : a.category = 1 := h a List.mem_cons_self
    simp only [List.map_cons, List.sum_cons, hp_v_cat, h1, List.length_cons]
    rw [ih (fun v hv => h v (List.mem_cons_of_mem _ hv))]
    omega
def hp_ty (k : Nat) : FieldType := match k with
  | 50 => .int
  | 51 => .boolean
  | 52 => .object "StationLine$Datagram"
  | 53 => .object "StationLine$Station"
  | _ => .array .int
def hp_c (z : Nat) (D : va_G) (tc : Nat → ClassId) (c : Nat × List Value) (q : Nat) (H : Heap) : Prop :=
  (c.1 < 50 → ∃ r : vw_C, vwCl[c.1]? = some r ∧ c.2.length = r.2.2 ∧ t_OB q (D.1 c.1) r.2.2 (D.2 c.1) H (fun k => hp_v z (c.2.getD k .null))) ∧
  (50 ≤ c.1 → H[q]? = some (arrV (tc c.1) c.2.length (fun j => hp_v z (c.2.getD j .null))))
theorem hp_c.kept {z : Nat} {D : va_G} {tc : Nat → ClassId} {c : Nat × List Value} {q : Nat} {H H1 : Heap} (h : hp_c z D tc c q H) (hq : H1[q]? = H[q]?) : hp_c z D tc c q H1 := by
  refine ⟨fun h0 => ?_, fun h0 => hq.trans (h.2 h0)⟩
  obtain ⟨r, h1, h2, h3⟩ := h.1 h0
  exact ⟨r, h1, h2, h3.kept hq⟩
def hp_R (z : Nat) (D : va_G) (tc : Nat → ClassId) (h : hp_H) (H : Heap) : Prop := H.size = z + h.length ∧ ∀ (k : Nat) (c : Nat × List Value), h[k]? = some c → hp_c z D tc c (z + k) H
theorem hp_R.set {z : Nat} {D : va_G} {tc : Nat → ClassId} {h : hp_H} {H H1 : Heap} (hR : hp_R z D tc h H) {a : Nat} {c : Nat × List Value} (ha : a < h.length) (hc : hp_c z D tc c (z + a) H1) (hz : H1.size = H.size) (ho : ∀ q : Nat, q ≠ z + a → H1[q]? = H[q]?) : hp_R z D tc (h.set a c) H1 := by
  refine ⟨by rw [hz, hR.1, List.length_set], fun k x hk => ?_⟩
  rw [List.getElem?_set] at hk
  by_cases e : a = k
  · subst e
    rw [if_pos rfl, if_pos ha] at hk
    cases hk
    exact hc
  · rw [if_neg e] at hk
    exact (hR.2 k x hk).kept (ho _ (by omega))
theorem hp_R.push {z : Nat} {D : va_G} {tc : Nat → ClassId} {h : hp_H} {H H1 : Heap} (hR : hp_R z D tc h H) {c : Nat × List Value} (hc : hp_c z D tc c (z + h.length) H1) (hz : H1.size = H.size + 1) (ho : ∀ q : Nat, q < H.size → H1[q]? = H[q]?) : hp_R z D tc (h ++ [c]) H1 := by
  refine ⟨by rw [hz, hR.1, List.length_append]; rfl, fun k x hk => ?_⟩
  by_cases e : k < h.length
  · rw [List.getElem?_append_left e] at hk
    exact (hR.2 k x hk).kept (ho _ (by rw [hR.1]; omega))
  · rw [List.getElem?_append_right (by omega)] at hk
    have h1 : k - h.length < 1 := (List.getElem?_eq_some_iff.mp hk).1
    have h2 : k = h.length := by omega
    subst h2
    rw [Nat.sub_self] at hk
    cases hk
    exact hc
theorem hp_lt {h : hp_H} {a : Nat} {c : Nat × List Value} (ha : h[a]? = some c) : a < h.length := (List.getElem?_eq_some_iff.mp ha).1
/-- words that a callee's list can't hold: links to a nest mate's private constructor, array classes that are there -/
def hp_N (U : State) : Prop := (∀ q ∈ jx_nl, va_Nw (.methodLinkNest q.1 q.2.1 q.2.2.1 q.2.2.2) U) ∧ va_AO "StationLine$Datagram" U ∧ va_AO "StationLine$Station" U ∧ (Cond.arrayOver (.array .int)).before #[] U = true
theorem hp_N.warm {s U : State} (hW : s.WarmedH U.vm) (h : hp_N s) : hp_N U := ⟨fun q hq => va_Nw.warmM hW (h.1 q hq), va_AO.moved hW.alike h.2.1, va_AO.moved hW.alike h.2.2.1, over_moved hW.alike h.2.2.2⟩
theorem hp_N.same {s U : State} (hv : s.vm = U.vm) (h : hp_N s) : hp_N U := ⟨fun q hq => va_Nw.same rfl hv (h.1 q hq), va_AO.moved (by rw [hv]; exact Vm.Alike.refl _) h.2.1, va_AO.moved (by rw [hv]; exact Vm.Alike.refl _) h.2.2.1, over_moved (by rw [hv]; exact Vm.Alike.refl _) h.2.2.2⟩
def hp_K (D : va_G) (tc : Nat → ClassId) (U : State) : Prop := va_K D vwCl [(tc 50, .int), (tc 51, .boolean), (tc 52, .object "StationLine$Datagram"), (tc 53, .object "StationLine$Station"), (tc 54, .array .int)] U ∧ hp_N U
theorem hp_K.warm {D : va_G} {tc : Nat → ClassId} {s U : State} (hW : s.WarmedH U.vm) (h : hp_K D tc s) : hp_K D tc U := ⟨va_K.moved hW.alike h.1, h.2.warm hW⟩
theorem hp_K.same {D : va_G} {tc : Nat → ClassId} {s U : State} (hv : s.vm = U.vm) (h : hp_K D tc s) : hp_K D tc U := ⟨va_K.moved (by rw [hv]; exact Vm.Alike.refl _) h.1, h.2.same hv⟩
/-- locals -/
def hp_l (z : Nat) (sc : Option Nat) (nL : Nat) (ls : Array Slot) (L : hp_L) : Prop := ls.size = nL ∧ lv_wf ls ∧ (∀ (i : Nat) (v : Value), L[i]? = some (some v) → v.category = 1 ∧ ls[i]? = some (.val (hp_v z v))) ∧ ∀ b : Nat, sc = some b → ls[0]? = some (.val (.ref b))
def hp_all (ls : Array Slot) : List (Nat × Value) := (List.range ls.size).filterMap (fun j => match ls[j]? with
  | some (Slot.val v) => some (j, v)
  | _ => none)
theorem hp_all_mem {ls : Array Slot} {j : Nat} {v : Value} : (j, v) ∈ hp_all ls ↔ ls[j]? = some (.val v) := by
  unfold hp_all
  rw [List.mem_filterMap]
  constructor
  · rintro ⟨i, -, hi⟩
    split at hi
    · rename_i w hw
      cases hi
      exact hw
    · cases hi
  · intro h
    refine ⟨j, List.mem_range.mpr (Array.getElem?_eq_some_iff.mp h).1, ?_⟩
    rw [h]
theorem hp_all_has {ls : Array Slot} {nL : Nat} (hl : ls.size = nL) (hw : lv_wf ls) : lv_has ls nL (hp_all ls) := ⟨hl, hw, fun q hq => hp_all_mem.mp hq⟩
theorem hp_store {z : Nat} {sc : Option Nat} {nL : Nat} {ls ls' : Array Slot} {L : hp_L} (hl : hp_l z sc nL ls L) {i : Nat} {v : Value} (hi : i ≠ 0) (hc : v.category = 1) (h' : lv_has ls' nL ((i, hp_v z v) :: (hp_all ls).filter (fun q => !(q.1 == i) && !(q.1 + 1 == i && q.2.category == 2)))) : hp_l z sc nL ls' (L.set i (some v)) := by
  refine ⟨h'.1, h'.2.1, fun j w hj => ?_, fun b hb => ?_⟩
  · rw [List.getElem?_set] at hj
    by_cases e : i = j
    · subst e
      rw [if_pos rfl] at hj
      split at hj
      · cases hj
        exact ⟨hc, h'.2.2 (i, hp_v z v) List.mem_cons_self⟩
      · cases hj
    · rw [if_neg e] at hj
      obtain ⟨c1, c2⟩ := hl.2.2.1 j w hj
      refine ⟨c1, h'.2.2 (j, hp_v z w) (List.mem_cons_of_mem _ (List.mem_filter.mpr ⟨hp_all_mem.mpr c2, ?_⟩))⟩
      simp [hp_v_cat, c1, Ne.symm e]
  · refine h'.2.2 (0, .ref b) (List.mem_cons_of_mem _ (List.mem_filter.mpr ⟨hp_all_mem.mpr (hl.2.2.2 b hb), ?_⟩))
    simp [Value.category, Ne.symm hi]
theorem hp_int {z : Nat} {sc : Option Nat} {nL : Nat} {ls : Array Slot} {L : hp_L} (hl : hp_l z sc nL ls L) {i : Nat} {x : Int32} (h : L[i]? = some (some (.int x))) : ls[i]? = some (.val (.int x)) := (hl.2.2.1 i _ h).2
theorem hp_ref {z : Nat} {sc : Option Nat} {nL : Nat} {ls : Array Slot} {L : hp_L} (hl : hp_l z sc nL ls L) {i a : Nat} (h : L[i]? = some (some (.ref a))) : ls[i]? = some (.val (.ref (z + a))) := (hl.2.2.1 i _ h).2
/-! judgements -/
/-- a method's data: code, class, locals, frames and words of its room, is it a constructor, the script's length + 1 (0: none; the law's alone) and the script -/
abbrev jx_M : Type := ByteArray × String × Nat × Nat × Nat × Bool × Nat × (Nat → Int32)
def jx_At (p : Program) (l : Launch) (e : Env) (R : Room) (s : State) (m : MethodId) (args : Array Value) (below : List Frame) (meth : Method) (c : Code) (Q : State → Prop) (z : Nat) (D : va_G) (tc : Nat → ClassId) (sc : Option Nat) (nL : Nat) (pc : Nat) (L : hp_L) (st : List Value) (h : hp_H) (k n : Nat) : Prop :=
  ∀ (H : Heap) (locs : List Loc) (ls : Array Slot), hp_R z D tc h H → va_S (fun q => z ≤ q) s.heap H locs → hp_l z sc nL ls L → W p l e R s m args below meth c H locs k n Q (F0 m pc ls (st.map (hp_v z)))
def jx_C (M : jx_M) (p : Program) (R : Room) (s : State) (m : MethodId) (args : Array Value) (meth : Method) (c : Code) (z : Nat) (D : va_G) (tc : Nat → ClassId) (sc : Option Nat) : Prop :=
  p.tables.exec = Jvm.exec ∧ c.code = M.1 ∧ c.maxLocals = M.2.2.1 ∧ s.vm.findClass M.2.1 = some m.cls ∧ (∀ w ∈ jx_ws, w.before args s = true) ∧ hp_K D tc s ∧ M.2.2.2.1 ≤ R.frames ∧ M.2.2.2.2.1 ≤ R.locals ∧ z ≤ s.heap.size ∧ (M.2.2.2.2.2.1 = true → meth.name = "<init>") ∧ ∀ N : Nat, M.2.2.2.2.2.2.1 = N + 1 → ∃ b : Nat, sc = some b ∧ va_X b N M.2.2.2.2.2.2.2 s s.heap ∧ b < z
def jx_st (d : Nat) (st : List Value) : Prop := st.length = d ∧ ∀ v ∈ st, v.category = 1
theorem jx_st.cons {d : Nat} {st : List Value} {v : Value} (h : jx_st d st) (hv : v.category = 1) : jx_st (d + 1) (v :: st) := ⟨by rw [List.length_cons, h.1], fun w hw => by
  rcases List.mem_cons.mp hw with rfl | hw
  · exact hv
  · exact h.2 w hw⟩
theorem jx_At.widen {p : Program} {l : Launch} {e : Env} {R : Room} {s : State} {m : MethodId} {args : Array Value} {below : List Frame} {meth : Method} {c : Code} {Q : State → Prop} {z : Nat} {D : va_G} {tc : Nat → ClassId} {sc : Option Nat} {nL : Nat} {pc : Nat} {L : hp_L} {st : List Value} {h : hp_H} {k n k' n' : Nat} (hk : k ≤ k') (hn : n ≤ n') (K : jx_At p l e R s m args below meth c Q z D tc sc nL pc L st h k' n') : jx_At p l e R s m args below meth c Q z D tc sc nL pc L st h k n :=
  fun H locs ls hR hS hl => W.widen hk hn (K H locs ls hR hS hl)
abbrev jx_fI : Type := hp_L → hp_H → Option (Int32 × hp_H)
abbrev jx_fR : Type := hp_L → hp_H → Option (Nat × hp_H)
abbrev jx_fB : Type := hp_L → hp_H → Option (Bool × hp_H)
abbrev jx_fA : Type := hp_L → hp_H → Option (List Value × hp_H)
abbrev jx_fS : Type := hp_L → hp_H → Option ((hp_L × hp_H) ⊕ (Option Value × hp_H))
/-- an expression that leaves an int: from pc to pc', over d values of the stack; mc cells, ms slots at most come -/
def jx_EIc (M : jx_M) (d pc pc' : Nat) (f : jx_fI) (mc ms : Nat) : Prop :=
  ∀ (p : Program) (l : Launch) (e : Env) (R : Room) (s : State) (m : MethodId) (args : Array Value) (below : List Frame) (meth : Method) (c : Code) (Q : State → Prop) (z : Nat) (D : va_G) (tc : Nat → ClassId) (sc : Option Nat), jx_C M p R s m args meth c z D tc sc →
    ∀ (L : hp_L) (st : List Value) (h : hp_H) (r : Int32) (h' : hp_H) (k n : Nat), f L h = some (r, h') → jx_st d st → k + mc ≤ R.cells → n + ms ≤ R.slots →
      jx_At p l e R s m args below meth c Q z D tc sc M.2.2.1 pc' L (.int r :: st) h' (k + mc) (n + ms) → jx_At p l e R s m args below meth c Q z D tc sc M.2.2.1 pc L st h k n
abbrev jx_EI (M : jx_M) (d pc pc' : Nat) (f : jx_fI) : Prop := jx_EIc M d pc pc' f 0 0
/-- .. that leaves a reference -/
def jx_ERc (M : jx_M) (d pc pc' : Nat) (f : jx_fR) (mc ms : Nat) : Prop :=
  ∀ (p : Program) (l : Launch) (e : Env) (R : Room) (s : State) (m : MethodId) (args : Array Value) (below : List Frame) (meth : Method) (c : Code) (Q : State → Prop) (z : Nat) (D : va_G) (tc : Nat → ClassId) (sc : Option Nat), jx_C M p R s m args meth c z D tc sc →
    ∀ (L : hp_L) (st : List Value) (h : hp_H) (r : Nat) (h' : hp_H) (k n : Nat), f L h = some (r, h') → jx_st d st → k + mc ≤ R.cells → n + ms ≤ R.slots →
      jx_At p l e R s m args below meth c Q z D tc sc M.2.2.1 pc' L (.ref r :: st) h' (k + mc) (n + ms) → jx_At p l e R s m args below meth c Q z D tc sc M.2.2.1 pc L st h k n
abbrev jx_ER (M : jx_M) (d pc pc' : Nat) (f : jx_fR) : Prop := jx_ERc M d pc pc' f 0 0
/-- a condition: on at T if it is true, at F if it is false -/
def jx_C2c (M : jx_M) (d pc T F : Nat) (f : jx_fB) (mc ms : Nat) : Prop :=
  ∀ (p : Program) (l : Launch) (e : Env) (R : Room) (s : State) (m : MethodId) (args : Array Value) (below : List Frame) (meth : Method) (c : Code) (Q : State → Prop) (z : Nat) (D : va_G) (tc : Nat → ClassId) (sc : Option Nat), jx_C M p R s m args meth c z D tc sc →
    ∀ (L : hp_L) (st : List Value) (h : hp_H) (r : Bool) (h' : hp_H) (k n : Nat), f L h = some (r, h') → jx_st d st → k + mc ≤ R.cells → n + ms ≤ R.slots →
      (r = true → jx_At p l e R s m args below meth c Q z D tc sc M.2.2.1 T L st h' (k + mc) (n + ms)) → (r = false → jx_At p l e R s m args below meth c Q z D tc sc M.2.2.1 F L st h' (k + mc) (n + ms)) → jx_At p l e R s m args below meth c Q z D tc sc M.2.2.1 pc L st h k n
abbrev jx_C2 (M : jx_M) (d pc T F : Nat) (f : jx_fB) : Prop := jx_C2c M d pc T F f 0 0
/-- arguments, one behind the other -/
def jx_EA (M : jx_M) (d na pc pc' : Nat) (f : jx_fA) : Prop :=
  ∀ (p : Program) (l : Launch) (e : Env) (R : Room) (s : State) (m : MethodId) (args : Array Value) (below : List Frame) (meth : Method) (c : Code) (Q : State → Prop) (z : Nat) (D : va_G) (tc : Nat → ClassId) (sc : Option Nat), jx_C M p R s m args meth c z D tc sc →
    ∀ (L : hp_L) (st : List Value) (h : hp_H) (r : List Value) (h' : hp_H) (k n : Nat), f L h = some (r, h') → jx_st d st → k ≤ R.cells → n ≤ R.slots →
      (r.length = na → (∀ v ∈ r, v.category = 1) → jx_At p l e R s m args below meth c Q z D tc sc M.2.2.1 pc' L (r.reverse ++ st) h' k n) → jx_At p l e R s m args below meth c Q z D tc sc M.2.2.1 pc L st h k n
/-- the end of a method, at its return -/
def jx_Rt (p : Program) (l : Launch) (e : Env) (R : Room) (s : State) (m : MethodId) (args : Array Value) (below : List Frame) (meth : Method) (c : Code) (Q : State → Prop) (z : Nat) (D : va_G) (tc : Nat → ClassId) (rv : Option Value) (h : hp_H) (k n : Nat) : Prop :=
  ∀ (H : Heap) (locs : List Loc) (pc : Nat) (ls : Array Slot), hp_R z D tc h H → va_S (fun q => z ≤ q) s.heap H locs → (match rv with
    | none => decode c.code pc = .ok (.return_, 1) → W p l e R s m args below meth c H locs k n Q (F0 m pc ls [])
    | some (.int r) => decode c.code pc = .ok (.ireturn, 1) → W p l e R s m args below meth c H locs k n Q (F0 m pc ls [.int r])
    | some v => decode c.code pc = .ok (.areturn, 1) → W p l e R s m args below meth c H locs k n Q (F0 m pc ls [hp_v z v]))
theorem jx_Rt.widen {p : Program} {l : Launch} {e : Env} {R : Room} {s : State} {m : MethodId} {args : Array Value} {below : List Frame} {meth : Method} {c : Code} {Q : State → Prop} {z : Nat} {D : va_G} {tc : Nat → ClassId} {rv : Option Value} {h : hp_H} {k n k' n' : Nat} (hk : k ≤ k') (hn : n ≤ n') (K : jx_Rt p l e R s m args below meth c Q z D tc rv h k' n') : jx_Rt p l e R s m args below meth c Q z D tc rv h k n := by
  intro H locs pc ls hR hS
  have := K H locs pc ls hR hS
  cases rv with
  | none => exact fun hd => W.widen hk hn (this hd)
  | some v => cases v <;> exact fun hd => W.widen hk hn (this hd)
/-- a statement, over an empty stack -/
def jx_SX (M : jx_M) (pc pc' : Nat) (f : jx_fS) (mc ms : Nat) : Prop :=
  ∀ (p : Program) (l : Launch) (e : Env) (R : Room) (s : State) (m : MethodId) (args : Array Value) (below : List Frame) (meth : Method) (c : Code) (Q : State → Prop) (z : Nat) (D : va_G) (tc : Nat → ClassId) (sc : Option Nat), jx_C M p R s m args meth c z D tc sc →
    ∀ (L : hp_L) (h : hp_H) (o : (hp_L × hp_H) ⊕ (Option Value × hp_H)) (k n : Nat), f L h = some o → k + mc ≤ R.cells → n + ms ≤ R.slots →
      (∀ L' h', o = .inl (L', h') → jx_At p l e R s m args below meth c Q z D tc sc M.2.2.1 pc' L' [] h' (k + mc) (n + ms)) → (∀ rv h', o = .inr (rv, h') → jx_Rt p l e R s m args below meth c Q z D tc rv h' (k + mc) (n + ms)) → jx_At p l e R s m args below meth c Q z D tc sc M.2.2.1 pc L [] h k n
theorem jx_st0 : jx_st 0 [] := ⟨rfl, fun _ h => by cases h⟩
end
section
/-! expressions: what they compute, and that the machine does so -/
def fI (v : Int32) : jx_fI := fun _ h => some (v, h)
def fLd (i : Nat) : jx_fI := fun L h => match L[i]? with
  | some (some (.int x)) => some (x, h)
  | _ => none
def fLr (i : Nat) : jx_fR := fun L h => match L[i]? with
  | some (some (.ref a)) => some (a, h)
  | _ => none
theorem fLd_spec {i : Nat} {L : hp_L} {h h' : hp_H} {x : Int32} (e : fLd i L h = some (x, h')) : L[i]? = some (some (.int x)) ∧ h' = h := by
  unfold fLd at e
  split at e
  · rename_i y hy
    cases e
    exact ⟨hy, rfl⟩
  · cases e
theorem fLr_spec {i : Nat} {L : hp_L} {h h' : hp_H} {x : Nat} (e : fLr i L h = some (x, h')) : L[i]? = some (some (.ref x)) ∧ h' = h := by
  unfold fLr at e
  split at e
  · rename_i y hy
    cases e
    exact ⟨hy, rfl⟩
  · cases e
theorem ei_iconst {M : jx_M} {d pc : Nat} {n : Int} {v : Int32} (hdg : decode M.1 pc = .ok (.iconst n, 1)) (hv : Int32.ofInt n = v) : jx_EI M d pc (pc + 1) (fI v) := by
  intro p l e R s m args below meth c Q z D tc sc X L st h r h' k n hf hst hk hn K H locs ls hR hS hl
  replace hf : some (v, h) = some (r, h') := hf
  cases hf
  exact lv_iconst X.1 X.2.1 hdg hv (K H locs ls hR hS hl)
theorem ei_bipush {M : jx_M} {d pc : Nat} {n : Int} {v : Int32} (hdg : decode M.1 pc = .ok (.bipush n, 2)) (hv : (Int8.ofInt n).toInt32 = v) : jx_EI M d pc (pc + 2) (fI v) := by
  intro p l e R s m args below meth c Q z D tc sc X L st h r h' k n hf hst hk hn K H locs ls hR hS hl
  replace hf : some (v, h) = some (r, h') := hf
  cases hf
  exact lv_bipush X.1 X.2.1 hdg hv (K H locs ls hR hS hl)
theorem ei_sipush {M : jx_M} {d pc : Nat} {n : Int} {v : Int32} (hdg : decode M.1 pc = .ok (.sipush n, 3)) (hv : (Int16.ofInt n).toInt32 = v) : jx_EI M d pc (pc + 3) (fI v) := by
  intro p l e R s m args below meth c Q z D tc sc X L st h r h' k n hf hst hk hn K H locs ls hR hS hl
  replace hf : some (v, h) = some (r, h') := hf
  cases hf
  exact lv_sipush X.1 X.2.1 hdg hv (K H locs ls hR hS hl)
theorem ei_ldc {M : jx_M} {d pc index : Nat} {v : Int32} (hdg : decode M.1 pc = .ok (.ldc index, 2)) (hw : Cond.constant M.2.1 index v ∈ jx_ws) : jx_EI M d pc (pc + 2) (fI v) := by
  intro p l e R s m args below meth c Q z D tc sc X L st h r h' k n hf hst hk hn K H locs ls hR hS hl
  replace hf : some (v, h) = some (r, h') := hf
  cases hf
  exact lv_ldc X.1 X.2.1 X.2.2.2.1 (X.2.2.2.2.1 _ hw) hdg (K H locs ls hR hS hl)
theorem ei_iload_n {M : jx_M} {d pc i : Nat} {j : Fin 4} (hdg : decode M.1 pc = .ok (.iload_n j, 1)) (hi : (j : Nat) = i) : jx_EI M d pc (pc + 1) (fLd i) := by
  intro p l e R s m args below meth c Q z D tc sc X L st h r h' k n hf hst hk hn K H locs ls hR hS hl
  obtain ⟨e1, rfl⟩ := fLd_spec hf
  exact lv_iload_n X.1 X.2.1 hdg hi (hp_int hl e1) (K H locs ls hR hS hl)
theorem ei_iload {M : jx_M} {d pc i : Nat} (hdg : decode M.1 pc = .ok (.iload i, 2)) : jx_EI M d pc (pc + 2) (fLd i) := by
  intro p l e R s m args below meth c Q z D tc sc X L st h r h' k n hf hst hk hn K H locs ls hR hS hl
  obtain ⟨e1, rfl⟩ := fLd_spec hf
  exact lv_iload X.1 X.2.1 hdg (hp_int hl e1) (K H locs ls hR hS hl)
theorem er_aload_n {M : jx_M} {d pc i : Nat} {j : Fin 4} (hdg : decode M.1 pc = .ok (.aload_n j, 1)) (hi : (j : Nat) = i) : jx_ER M d pc (pc + 1) (fLr i) := by
  intro p l e R s m args below meth c Q z D tc sc X L st h r h' k n hf hst hk hn K H locs ls hR hS hl
  obtain ⟨e1, rfl⟩ := fLr_spec hf
  exact lv_aload_n X.1 X.2.1 hdg hi (hp_ref hl e1) (K H locs ls hR hS hl)
theorem er_aload {M : jx_M} {d pc i : Nat} (hdg : decode M.1 pc = .ok (.aload i, 2)) : jx_ER M d pc (pc + 2) (fLr i) := by
  intro p l e R s m args below meth c Q z D tc sc X L st h r h' k n hf hst hk hn K H locs ls hR hS hl
  obtain ⟨e1, rfl⟩ := fLr_spec hf
  exact lv_aload X.1 X.2.1 hdg (hp_ref hl e1) (K H locs ls hR hS hl)
/-! operators -/
def jAdd (x y : Int32) : Int32 := x + y
def jSub (x y : Int32) : Int32 := x - y
def jMul (x y : Int32) : Int32 := x * y
def jAnd (x y : Int32) : Int32 := x &&& y
def jOr (x y : Int32) : Int32 := x ||| y
def jXor (x y : Int32) : Int32 := x ^^^ y
def jShl (x y : Int32) : Int32 := x <<< (y &&& 31)
def jShr (x y : Int32) : Int32 := x >>> (y &&& 31)
def jUsh (x y : Int32) : Int32 := (x.toUInt32 >>> (y.toUInt32 &&& Int32.toUInt32 31)).toInt32
def jDiv (x y : Int32) : Int32 := x / y
def jRem (x y : Int32) : Int32 := x - x / y * y
def jx_op2 (M : jx_M) (pc : Nat) (op : Int32 → Int32 → Int32) : Prop :=
  ∀ (p : Program) (l : Launch) (e : Env) (R : Room) (s : State) (m : MethodId) (args : Array Value) (below : List Frame) (meth : Method) (c : Code) (Q : State → Prop) (H : Heap) (locs : List Loc) (k n : Nat) (ls : Array Slot) (rest : List Value) (x y : Int32), p.tables.exec = Jvm.exec → c.code = M.1 →
    W p l e R s m args below meth c H locs k n Q (F0 m (pc + 1) ls (.int (op x y) :: rest)) → W p l e R s m args below meth c H locs k n Q (F0 m pc ls (.int y :: .int x :: rest))
theorem o_add {M : jx_M} {pc : Nat} (hdg : decode M.1 pc = .ok (.iadd, 1)) : jx_op2 M pc jAdd := fun _ _ _ _ _ _ _ _ _ _ _ _ _ _ _ _ _ _ _ hx hb k => lv_iadd hx hb hdg k
theorem o_sub {M : jx_M} {pc : Nat} (hdg : decode M.1 pc = .ok (.isub, 1)) : jx_op2 M pc jSub := fun _ _ _ _ _ _ _ _ _ _ _ _ _ _ _ _ _ _ _ hx hb k => lv_isub hx hb hdg k
theorem o_mul {M : jx_M} {pc : Nat} (hdg : decode M.1 pc = .ok (.imul, 1)) : jx_op2 M pc jMul := fun _ _ _ _ _ _ _ _ _ _ _ _ _ _ _ _ _ _ _ hx hb k => lv_imul hx hb hdg k
theorem o_and {M : jx_M} {pc : Nat} (hdg : decode M.1 pc = .ok (.iand, 1)) : jx_op2 M pc jAnd := fun _ _ _ _ _ _ _ _ _ _ _ _ _ _ _ _ _ _ _ hx hb k => lv_iand hx hb hdg k
theorem o_or {M : jx_M} {pc : Nat} (hdg : decode M.1 pc = .ok (.ior, 1)) : jx_op2 M pc jOr := fun _ _ _ _ _ _ _ _ _ _ _ _ _ _ _ _ _ _ _ hx hb k => lv_ior hx hb hdg k
theorem o_xor {M : jx_M} {pc : Nat} (hdg : decode M.1 pc = .ok (.ixor, 1)) : jx_op2 M pc jXor := fun _ _ _ _ _ _ _ _ _ _ _ _ _ _ _ _ _ _ _ hx hb k => lv_ixor hx hb hdg k
theorem o_shl {M : jx_M} {pc : Nat} (hdg : decode M.1 pc = .ok (.ishl, 1)) : jx_op2 M pc jShl := fun _ _ _ _ _ _ _ _ _ _ _ _ _ _ _ _ _ _ _ hx hb k => lv_ishl hx hb hdg k
theorem o_shr {M : jx_M} {pc : Nat} (hdg : decode M.1 pc = .ok (.ishr, 1)) : jx_op2 M pc jShr := fun _ _ _ _ _ _ _ _ _ _ _ _ _ _ _ _ _ _ _ hx hb k => lv_ishr hx hb hdg k
theorem o_ush {M : jx_M} {pc : Nat} (hdg : decode M.1 pc = .ok (.iushr, 1)) : jx_op2 M pc jUsh := fun _ _ _ _ _ _ _ _ _ _ _ _ _ _ _ _ _ _ _ hx hb k => lv_iushr hx hb hdg rfl k
def fB (op : Int32 → Int32 → Int32) (fa fb : jx_fI) : jx_fI := fun L h => (fa L h).bind fun q => (fb L q.2).bind fun w => some (op q.1 w.1, w.2)
theorem ei_bin {M : jx_M} {d pc p1 p2 : Nat} {op : Int32 → Int32 → Int32} {fa fb : jx_fI} (ha : jx_EI M d pc p1 fa) (hb : jx_EI M (d + 1) p1 p2 fb) (ho : jx_op2 M p2 op) : jx_EI M d pc (p2 + 1) (fB op fa fb) := by
  intro p l e R s m args below meth c Q z D tc sc X L st h r h' k n hf hst hk hn K
  obtain ⟨⟨x, h1⟩, e1, hf⟩ := Option.bind_eq_some_iff.mp hf
  obtain ⟨⟨y, h2⟩, e2, hf⟩ := Option.bind_eq_some_iff.mp hf
  replace hf : some (op x y, h2) = some (r, h') := hf
  cases hf
  refine ha p l e R s m args below meth c Q z D tc sc X L st _ _ _ k n e1 hst hk hn ?_
  refine hb p l e R s m args below meth c Q z D tc sc X L (.int x :: st) _ _ _ k n e2 (hst.cons rfl) hk hn ?_
  intro H locs ls hR hS hl
  exact ho _ _ _ _ _ _ _ _ _ _ _ _ _ _ _ _ _ _ _ X.1 X.2.1 (K H locs ls hR hS hl)
/-- division and remainder: the divisor isn't 0 -/
def fD (op : Int32 → Int32 → Int32) (fa fb : jx_fI) : jx_fI := fun L h => (fa L h).bind fun q => (fb L q.2).bind fun w => if w.1 = 0 then none else some (op q.1 w.1, w.2)
theorem ei_div {M : jx_M} {d pc p1 p2 : Nat} {fa fb : jx_fI} (ha : jx_EI M d pc p1 fa) (hb : jx_EI M (d + 1) p1 p2 fb) (hdg : decode M.1 p2 = .ok (.idiv, 1)) : jx_EI M d pc (p2 + 1) (fD jDiv fa fb) := by
  intro p l e R s m args below meth c Q z D tc sc X L st h r h' k n hf hst hk hn K
  obtain ⟨⟨x, h1⟩, e1, hf⟩ := Option.bind_eq_some_iff.mp hf
  obtain ⟨⟨y, h2⟩, e2, hf⟩ := Option.bind_eq_some_iff.mp hf
  replace hf : (if y = 0 then none else some (jDiv x y, h2)) = some (r, h') := hf
  by_cases hy : y = 0
  · rw [if_pos hy] at hf
    cases hf
  rw [if_neg hy] at hf
  cases hf
  refine ha p l e R s m args below meth c Q z D tc sc X L st _ _ _ k n e1 hst hk hn ?_
  refine hb p l e R s m args below meth c Q z D tc sc X L (.int x :: st) _ _ _ k n e2 (hst.cons rfl) hk hn ?_
  intro H locs ls hR hS hl
  exact lv_idiv X.1 X.2.1 hdg hy (K H locs ls hR hS hl)
theorem ei_rem {M : jx_M} {d pc p1 p2 : Nat} {fa fb : jx_fI} (ha : jx_EI M d pc p1 fa) (hb : jx_EI M (d + 1) p1 p2 fb) (hdg : decode M.1 p2 = .ok (.irem, 1)) : jx_EI M d pc (p2 + 1) (fD jRem fa fb) := by
  intro p l e R s m args below meth c Q z D tc sc X L st h r h' k n hf hst hk hn K
  obtain ⟨⟨x, h1⟩, e1, hf⟩ := Option.bind_eq_some_iff.mp hf
  obtain ⟨⟨y, h2⟩, e2, hf⟩ := Option.bind_eq_some_iff.mp hf
  replace hf : (if y = 0 then none else some (jRem x y, h2)) = some (r, h') := hf
  by_cases hy : y = 0
  · rw [if_pos hy] at hf
    cases hf
  rw [if_neg hy] at hf
  cases hf
  refine ha p l e R s m args below meth c Q z D tc sc X L st _ _ _ k n e1 hst hk hn ?_
  refine hb p l e R s m args below meth c Q z D tc sc X L (.int x :: st) _ _ _ k n e2 (hst.cons rfl) hk hn ?_
  intro H locs ls hR hS hl
  exact lv_irem X.1 X.2.1 hdg hy (K H locs ls hR hS hl)
/-! fields -/
/-- field k of class ci, linked at index of class own's pool; plain or of a nest mate -/
def jx_FL (own : String) (index ci k : Nat) : Prop := ∃ (C : String) (T : u_T) (N : Nat), vwCl[ci]? = some (C, T, N) ∧ ci < 50 ∧ k < N ∧ (∀ w ∈ u_ws C T N, w ∈ jx_ws) ∧ (Cond.fieldLink own index (T k).1 (T k).2.1 (T k).2.2.1 ∈ jx_ws ∨ ∃ host : String, Cond.fieldLinkNest own index (T k).1 (T k).2.1 (T k).2.2.1 host ∈ jx_ws)
def hp_g (h : hp_H) (a ci k : Nat) : Option Value := (h[a]?).bind fun c => if c.1 = ci then c.2[k]? else none
theorem hp_g_spec {h : hp_H} {a ci k : Nat} {v : Value} (e : hp_g h a ci k = some v) : ∃ fs, h[a]? = some (ci, fs) ∧ fs[k]? = some v := by
  obtain ⟨⟨c, fs⟩, e1, e2⟩ := Option.bind_eq_some_iff.mp e
  replace e2 : (if c = ci then fs[k]? else none) = some v := e2
  by_cases hc : c = ci
  · rw [if_pos hc] at e2
    subst hc
    exact ⟨fs, e1, e2⟩
  · rw [if_neg hc] at e2
    cases e2
theorem jx_get {M : jx_M} {pc index ci k : Nat} (hF : jx_FL M.2.1 index ci k) (hdg : decode M.1 pc = .ok (.getfield index, 3)) {p : Program} {l : Launch} {e : Env} {R : Room} {s : State} {m : MethodId} {args : Array Value} {below : List Frame} {meth : Method} {c : Code} {Q : State → Prop} {z : Nat} {D : va_G} {tc : Nat → ClassId} {sc : Option Nat} (X : jx_C M p R s m args meth c z D tc sc) {h : hp_H} {a : Nat} {v : Value} (hg : hp_g h a ci k = some v) {H : Heap} (hR : hp_R z D tc h H) {locs : List Loc} {k0 n0 : Nat} {ls : Array Slot} {rest : List Value} (kk : W p l e R s m args below meth c H locs k0 n0 Q (F0 m (pc + 3) ls (hp_v z v :: rest))) : W p l e R s m args below meth c H locs k0 n0 Q (F0 m pc ls (.ref (z + a) :: rest)) := by
  obtain ⟨C, T, N, hc, hci, hk, hin, hlk⟩ := hF
  obtain ⟨fs, hf, hv⟩ := hp_g_spec hg
  obtain ⟨hx, hb, hml, hown, hts, ⟨hK, -⟩, -⟩ := X
  obtain ⟨r, h1, h2, cell, q1, q2, q3, q4⟩ := (hR.2 a _ hf).1 hci
  have hr : r = (C, T, N) := Option.some.inj (h1.symm.trans hc)
  subst hr
  obtain ⟨hS, hfc, kC, hkC, hkind⟩ := hK.1 ci _ hc
  obtain ⟨cf, kf, fi, f, hi, hsl⟩ := hS k hk
  have hsl2 : cell.slots[f.slot]? = some (hp_v z v) := by
    rw [hsl, q4 k hk]
    simp [List.getD_eq_getElem?_getD, hv]
  have hst := (u_facts hfc hkC (u_lays hts hin hk) hi).1
  rcases hlk with hlk | ⟨host, hlk⟩
  · exact W.getf hx hb hown (hts _ hlk) hi hst q1 (by rw [q3]; exact fun h => by cases h) (v := hp_v z v) hsl2 rfl rfl hdg kk
  · exact va_Wgetf hx hb hown (hts _ hlk) hi hst q1 (by rw [q3]; exact fun h => by cases h) (v := hp_v z v) hsl2 rfl rfl hdg kk
def gI (ci k : Nat) (f : jx_fR) : jx_fI := fun L h => (f L h).bind fun q => match hp_g q.2 q.1 ci k with
  | some (.int x) => some (x, q.2)
  | _ => none
def gR (ci k : Nat) (f : jx_fR) : jx_fR := fun L h => (f L h).bind fun q => match hp_g q.2 q.1 ci k with
  | some (.ref a) => some (a, q.2)
  | _ => none
theorem ei_get {M : jx_M} {d pc p1 index ci k : Nat} {f : jx_fR} (hf0 : jx_ER M d pc p1 f) (hF : jx_FL M.2.1 index ci k) (hdg : decode M.1 p1 = .ok (.getfield index, 3)) : jx_EI M d pc (p1 + 3) (gI ci k f) := by
  intro p l e R s m args below meth c Q z D tc sc X L st h r h' k0 n0 hf hst hk hn K
  obtain ⟨⟨a, h1⟩, e1, hf⟩ := Option.bind_eq_some_iff.mp hf
  refine hf0 p l e R s m args below meth c Q z D tc sc X L st _ _ _ k0 n0 e1 hst hk hn ?_
  intro H locs ls hR hS hl
  split at hf
  · rename_i x hx
    cases hf
    exact jx_get hF hdg X hx hR (K H locs ls hR hS hl)
  · cases hf
theorem er_get {M : jx_M} {d pc p1 index ci k : Nat} {f : jx_fR} (hf0 : jx_ER M d pc p1 f) (hF : jx_FL M.2.1 index ci k) (hdg : decode M.1 p1 = .ok (.getfield index, 3)) : jx_ER M d pc (p1 + 3) (gR ci k f) := by
  intro p l e R s m args below meth c Q z D tc sc X L st h r h' k0 n0 hf hst hk hn K
  obtain ⟨⟨a, h1⟩, e1, hf⟩ := Option.bind_eq_some_iff.mp hf
  refine hf0 p l e R s m args below meth c Q z D tc sc X L st _ _ _ k0 n0 e1 hst hk hn ?_
  intro H locs ls hR hS hl
  split at hf
  · rename_i x hx
    cases hf
    exact jx_get hF hdg X hx hR (K H locs ls hR hS hl)
  · cases hf
/-! arrays -/
/-- the place of an array's cell, if the index is in it -/
def hp_i (h : hp_H) (a t : Nat) (i : Int32) : Option Value := (h[a]?).bind fun c => if c.1 = t ∧ ¬ (i < 0 ∨ c.2.length ≤ i.toNatClampNeg) then c.2[i.toNatClampNeg]? else none
theorem hp_i_spec {h : hp_H} {a t : Nat} {i : Int32} {v : Value} (e : hp_i h a t i = some v) : ∃ fs, h[a]? = some (t, fs) ∧ ¬ (i < 0 ∨ fs.length ≤ i.toNatClampNeg) ∧ fs[i.toNatClampNeg]? = some v := by
  obtain ⟨⟨c, fs⟩, e1, e2⟩ := Option.bind_eq_some_iff.mp e
  replace e2 : (if c = t ∧ ¬ (i < 0 ∨ fs.length ≤ i.toNatClampNeg) then fs[i.toNatClampNeg]? else none) = some v := e2
  split at e2
  · rename_i hc
    obtain ⟨rfl, h2⟩ := hc
    exact ⟨fs, e1, h2, e2⟩
  · cases e2
def aI (t : Nat) (fa : jx_fR) (fi : jx_fI) : jx_fI := fun L h => (fa L h).bind fun q => (fi L q.2).bind fun w => match hp_i w.2 q.1 t w.1 with
  | some (.int x) => some (x, w.2)
  | _ => none
def aR (t : Nat) (fa : jx_fR) (fi : jx_fI) : jx_fR := fun L h => (fa L h).bind fun q => (fi L q.2).bind fun w => match hp_i w.2 q.1 t w.1 with
  | some (.ref x) => some (x, w.2)
  | _ => none
theorem ei_iald {M : jx_M} {d pc p1 p2 : Nat} {fa : jx_fR} {fi : jx_fI} (ha : jx_ER M d pc p1 fa) (hi : jx_EI M (d + 1) p1 p2 fi) (hdg : decode M.1 p2 = .ok (.iaload, 1)) : jx_EI M d pc (p2 + 1) (aI 50 fa fi) := by
  intro p l e R s m args below meth c Q z D tc sc X L st h r h' k0 n0 hf hst hk hn K
  obtain ⟨⟨a, h1⟩, e1, hf⟩ := Option.bind_eq_some_iff.mp hf
  obtain ⟨⟨i, h2⟩, e2, hf⟩ := Option.bind_eq_some_iff.mp hf
  refine ha p l e R s m args below meth c Q z D tc sc X L st _ _ _ k0 n0 e1 hst hk hn ?_
  refine hi p l e R s m args below meth c Q z D tc sc X L (.ref a :: st) _ _ _ k0 n0 e2 (hst.cons rfl) hk hn ?_
  intro H locs ls hR hS hl
  split at hf
  · rename_i x hx
    cases hf
    obtain ⟨fs, g1, g2, g3⟩ := hp_i_spec hx
    have hc := (hR.2 a _ g1).2 (Nat.le_of_ble_eq_true rfl)
    have hlt : i.toNatClampNeg < fs.length := Nat.not_le.mp fun q => g2 (Or.inr q)
    exact W.iald (v := .int r) X.1 X.2.1 hc ((X.2.2.2.2.2.1.1.2 0 _ rfl).1 _ _) (fun q => by cases q) (by rw [arrV_size]; exact g2) (by rw [arrV_read _ _ hlt]; simp [List.getD_eq_getElem?_getD, g3, hp_v]) rfl rfl hdg (K H locs ls hR hS hl)
  · cases hf
theorem ei_bald {M : jx_M} {d pc p1 p2 : Nat} {fa : jx_fR} {fi : jx_fI} (ha : jx_ER M d pc p1 fa) (hi : jx_EI M (d + 1) p1 p2 fi) (hdg : decode M.1 p2 = .ok (.baload, 1)) : jx_EI M d pc (p2 + 1) (aI 51 fa fi) := by
  intro p l e R s m args below meth c Q z D tc sc X L st h r h' k0 n0 hf hst hk hn K
  obtain ⟨⟨a, h1⟩, e1, hf⟩ := Option.bind_eq_some_iff.mp hf
  obtain ⟨⟨i, h2⟩, e2, hf⟩ := Option.bind_eq_some_iff.mp hf
  refine ha p l e R s m args below meth c Q z D tc sc X L st _ _ _ k0 n0 e1 hst hk hn ?_
  refine hi p l e R s m args below meth c Q z D tc sc X L (.ref a :: st) _ _ _ k0 n0 e2 (hst.cons rfl) hk hn ?_
  intro H locs ls hR hS hl
  split at hf
  · rename_i x hx
    cases hf
    obtain ⟨fs, g1, g2, g3⟩ := hp_i_spec hx
    have hc := (hR.2 a _ g1).2 (Nat.le_of_ble_eq_true rfl)
    have hlt : i.toNatClampNeg < fs.length := Nat.not_le.mp fun q => g2 (Or.inr q)
    exact W.zald (v := .int r) X.1 X.2.1 hc ((X.2.2.2.2.2.1.1.2 1 _ rfl).1 _ _) (fun q => by cases q) (by rw [arrV_size]; exact g2) (by rw [arrV_read _ _ hlt]; simp [List.getD_eq_getElem?_getD, g3, hp_v]) rfl rfl hdg (K H locs ls hR hS hl)
  · cases hf
/-- an element of an array of references: t - 50 is its place in the table of array classes -/
theorem er_aald {M : jx_M} {d pc p1 p2 t : Nat} {fa : jx_fR} {fi : jx_fI} (ht : t = 52 ∨ t = 53 ∨ t = 54) (ha : jx_ER M d pc p1 fa) (hi : jx_EI M (d + 1) p1 p2 fi) (hdg : decode M.1 p2 = .ok (.aaload, 1)) : jx_ER M d pc (p2 + 1) (aR t fa fi) := by
  intro p l e R s m args below meth c Q z D tc sc X L st h r h' k0 n0 hf hst hk hn K
  obtain ⟨⟨a, h1⟩, e1, hf⟩ := Option.bind_eq_some_iff.mp hf
  obtain ⟨⟨i, h2⟩, e2, hf⟩ := Option.bind_eq_some_iff.mp hf
  refine ha p l e R s m args below meth c Q z D tc sc X L st _ _ _ k0 n0 e1 hst hk hn ?_
  refine hi p l e R s m args below meth c Q z D tc sc X L (.ref a :: st) _ _ _ k0 n0 e2 (hst.cons rfl) hk hn ?_
  intro H locs ls hR hS hl
  split at hf
  · rename_i x hx
    cases hf
    obtain ⟨fs, g1, g2, g3⟩ := hp_i_spec hx
    have hlt : i.toNatClampNeg < fs.length := Nat.not_le.mp fun q => g2 (Or.inr q)
    rcases ht with rfl | rfl | rfl
    · exact W.aald (v := .ref (z + r)) X.1 X.2.1 ((hR.2 a _ g1).2 (Nat.le_of_ble_eq_true rfl)) ((X.2.2.2.2.2.1.1.2 2 _ rfl).1 _ _) rfl (fun q => by cases q) (by rw [arrV_size]; exact g2) (by rw [arrV_read _ _ hlt]; simp [List.getD_eq_getElem?_getD, g3, hp_v]) rfl rfl hdg (K H locs ls hR hS hl)
    · exact W.aald (v := .ref (z + r)) X.1 X.2.1 ((hR.2 a _ g1).2 (Nat.le_of_ble_eq_true rfl)) ((X.2.2.2.2.2.1.1.2 3 _ rfl).1 _ _) rfl (fun q => by cases q) (by rw [arrV_size]; exact g2) (by rw [arrV_read _ _ hlt]; simp [List.getD_eq_getElem?_getD, g3, hp_v]) rfl rfl hdg (K H locs ls hR hS hl)
    · exact W.aald (v := .ref (z + r)) X.1 X.2.1 ((hR.2 a _ g1).2 (Nat.le_of_ble_eq_true rfl)) ((X.2.2.2.2.2.1.1.2 4 _ rfl).1 _ _) rfl (fun q => by cases q) (by rw [arrV_size]; exact g2) (by rw [arrV_read _ _ hlt]; simp [List.getD_eq_getElem?_getD, g3, hp_v]) rfl rfl hdg (K H locs ls hR hS hl)
  · cases hf
def aN (t : Nat) (fa : jx_fR) : jx_fI := fun L h => (fa L h).bind fun q => (q.2[q.1]?).bind fun c => if c.1 = t then some (Int32.ofNat c.2.length, q.2) else none
theorem ei_alen {M : jx_M} {d pc p1 : Nat} {fa : jx_fR} (ha : jx_ER M d pc p1 fa) (hdg : decode M.1 p1 = .ok (.arraylength, 1)) : jx_EI M d pc (p1 + 1) (aN 50 fa) := by
  intro p l e R s m args below meth c Q z D tc sc X L st h r h' k0 n0 hf hst hk hn K
  obtain ⟨⟨a, h1⟩, e1, hf⟩ := Option.bind_eq_some_iff.mp hf
  obtain ⟨⟨t, fs⟩, e2, hf⟩ := Option.bind_eq_some_iff.mp hf
  refine ha p l e R s m args below meth c Q z D tc sc X L st _ _ _ k0 n0 e1 hst hk hn ?_
  intro H locs ls hR hS hl
  replace hf : (if t = 50 then some (Int32.ofNat fs.length, h1) else none) = some (r, h') := hf
  split at hf
  · rename_i ht
    subst ht
    cases hf
    exact W.alen X.1 X.2.1 ((hR.2 a _ e2).2 (Nat.le_of_ble_eq_true rfl)) ((X.2.2.2.2.2.1.1.2 0 _ rfl).1 _ _) (by rw [arrV_size]) rfl rfl hdg (K H locs ls hR hS hl)
  · cases hf
/-! conditions -/
def jLt (x y : Int32) : Bool := decide (x < y)
def jGe (x y : Int32) : Bool := decide (y ≤ x)
def jGt (x y : Int32) : Bool := decide (y < x)
def jLe (x y : Int32) : Bool := decide (x ≤ y)
def jEq (x y : Int32) : Bool := decide (x = y)
def jNe (x y : Int32) : Bool := decide (¬ x = y)
theorem jLt_t {x y : Int32} : jLt x y = true ↔ x < y := decide_eq_true_iff
theorem jGe_t {x y : Int32} : jGe x y = true ↔ y ≤ x := decide_eq_true_iff
theorem jGt_t {x y : Int32} : jGt x y = true ↔ y < x := decide_eq_true_iff
theorem jLe_t {x y : Int32} : jLe x y = true ↔ x ≤ y := decide_eq_true_iff
theorem jEq_t {x y : Int32} : jEq x y = true ↔ x = y := decide_eq_true_iff
theorem jNe_t {x y : Int32} : jNe x y = true ↔ ¬ x = y := decide_eq_true_iff
theorem jLt_f {x y : Int32} : jLt x y = false ↔ y ≤ x := by rw [jLt, decide_eq_false_iff_not, Int32.not_lt]
theorem jGe_f {x y : Int32} : jGe x y = false ↔ x < y := by rw [jGe, decide_eq_false_iff_not, Int32.not_le]
theorem jGt_f {x y : Int32} : jGt x y = false ↔ x ≤ y := by rw [jGt, decide_eq_false_iff_not, Int32.not_lt]
theorem jLe_f {x y : Int32} : jLe x y = false ↔ y < x := by rw [jLe, decide_eq_false_iff_not, Int32.not_le]
theorem jEq_f {x y : Int32} : jEq x y = false ↔ ¬ x = y := by rw [jEq, decide_eq_false_iff_not]
theorem jNe_f {x y : Int32} : jNe x y = false ↔ x = y := by rw [jNe, decide_eq_false_iff_not, Decidable.not_not]
/-- a compare of two ints: to tg if it is b0 -/
def jx_cmp (M : jx_M) (pc tg : Nat) (b0 : Bool) (op : Int32 → Int32 → Bool) : Prop :=
  ∀ (p : Program) (l : Launch) (e : Env) (R : Room) (s : State) (m : MethodId) (args : Array Value) (below : List Frame) (meth : Method) (c : Code) (Q : State → Prop) (H : Heap) (locs : List Loc) (k n : Nat) (ls : Array Slot) (rest : List Value) (x y : Int32), p.tables.exec = Jvm.exec → c.code = M.1 →
    (op x y = b0 → W p l e R s m args below meth c H locs k n Q (F0 m tg ls rest)) → (op x y = !b0 → W p l e R s m args below meth c H locs k n Q (F0 m (pc + 3) ls rest)) → W p l e R s m args below meth c H locs k n Q (F0 m pc ls (.int y :: .int x :: rest))
/-- .. of an int with 0 -/
def jx_cm0 (M : jx_M) (pc tg : Nat) (b0 : Bool) (op : Int32 → Int32 → Bool) : Prop :=
  ∀ (p : Program) (l : Launch) (e : Env) (R : Room) (s : State) (m : MethodId) (args : Array Value) (below : List Frame) (meth : Method) (c : Code) (Q : State → Prop) (H : Heap) (locs : List Loc) (k n : Nat) (ls : Array Slot) (rest : List Value) (x : Int32), p.tables.exec = Jvm.exec → c.code = M.1 →
    (op x 0 = b0 → W p l e R s m args below meth c H locs k n Q (F0 m tg ls rest)) → (op x 0 = !b0 → W p l e R s m args below meth c H locs k n Q (F0 m (pc + 3) ls rest)) → W p l e R s m args below meth c H locs k n Q (F0 m pc ls (.int x :: rest))
theorem k_lt_t {M : jx_M} {pc tg : Nat} {off : Int} (hdg : decode M.1 pc = .ok (.if_icmp .lt off, 3)) (ht : (pc : Int) + off = (tg : Int)) : jx_cmp M pc tg true jLt := by
  intro p l e R s m args below meth c Q H locs k n ls rest x y hx hb kt kf
  exact lv_icmp_lt hx hb hdg ht (fun h => kt (jLt_t.mpr h)) (fun h => kf (by cases hq : jLt x y <;> first | rfl | exact absurd (jLt_t.mp hq) h | exact absurd h (jLt_t.mp hq)))
theorem k_lt_t0 {M : jx_M} {pc tg : Nat} {off : Int} (hdg : decode M.1 pc = .ok (.ifCond .lt off, 3)) (ht : (pc : Int) + off = (tg : Int)) : jx_cm0 M pc tg true jLt := by
  intro p l e R s m args below meth c Q H locs k n ls rest x hx hb kt kf
  exact lv_if_lt hx hb hdg ht (fun h => kt (jLt_t.mpr h)) (fun h => kf (by cases hq : jLt x 0 <;> first | rfl | exact absurd (jLt_t.mp hq) h | exact absurd h (jLt_t.mp hq)))
theorem k_lt_f {M : jx_M} {pc tg : Nat} {off : Int} (hdg : decode M.1 pc = .ok (.if_icmp .ge off, 3)) (ht : (pc : Int) + off = (tg : Int)) : jx_cmp M pc tg false jLt := by
  intro p l e R s m args below meth c Q H locs k n ls rest x y hx hb kt kf
  exact lv_icmp_ge hx hb hdg ht (fun h => kt (jLt_f.mpr h)) (fun h => kf (by cases hq : jLt x y <;> first | rfl | exact absurd (jLt_f.mp hq) h | exact absurd h (jLt_f.mp hq)))
theorem k_lt_f0 {M : jx_M} {pc tg : Nat} {off : Int} (hdg : decode M.1 pc = .ok (.ifCond .ge off, 3)) (ht : (pc : Int) + off = (tg : Int)) : jx_cm0 M pc tg false jLt := by
  intro p l e R s m args below meth c Q H locs k n ls rest x hx hb kt kf
  exact lv_if_ge hx hb hdg ht (fun h => kt (jLt_f.mpr h)) (fun h => kf (by cases hq : jLt x 0 <;> first | rfl | exact absurd (jLt_f.mp hq) h | exact absurd h (jLt_f.mp hq)))
theorem k_ge_t {M : jx_M} {pc tg : Nat} {off : Int} (hdg : decode M.1 pc = .ok (.if_icmp .ge off, 3)) (ht : (pc : Int) + off = (tg : Int)) : jx_cmp M pc tg true jGe := by
  intro p l e R s m args below meth c Q H locs k n ls rest x y hx hb kt kf
  exact lv_icmp_ge hx hb hdg ht (fun h => kt (jGe_t.mpr h)) (fun h => kf (by cases hq : jGe x y <;> first | rfl | exact absurd (jGe_t.mp hq) h | exact absurd h (jGe_t.mp hq)))
theorem k_ge_t0 {M : jx_M} {pc tg : Nat} {off : Int} (hdg : decode M.1 pc = .ok (.ifCond .ge off, 3)) (ht : (pc : Int) + off = (tg : Int)) : jx_cm0 M pc tg true jGe := by
  intro p l e R s m args below meth c Q H locs k n ls rest x hx hb kt kf
  exact lv_if_ge hx hb hdg ht (fun h => kt (jGe_t.mpr h)) (fun h => kf (by cases hq : jGe x 0 <;> first | rfl | exact absurd (jGe_t.mp hq) h | exact absurd h (jGe_t.mp hq)))
theorem k_ge_f {M : jx_M} {pc tg : Nat} {off : Int} (hdg : decode M.1 pc = .ok (.if_icmp .lt off, 3)) (ht : (pc : Int) + off = (tg : Int)) : jx_cmp M pc tg false jGe := by
  intro p l e R s m args below meth c Q H locs k n ls rest x y hx hb kt kf
  exact lv_icmp_lt hx hb hdg ht (fun h => kt (jGe_f.mpr h)) (fun h => kf (by cases hq : jGe x y <;> first | rfl | exact absurd (jGe_f.mp hq) h | exact absurd h (jGe_f.mp hq)))
theorem k_ge_f0 {M : jx_M} {pc tg : Nat} {off : Int} (hdg : decode M.1 pc = .ok (.ifCond .lt off, 3)) (ht : (pc : Int) + off = (tg : Int)) : jx_cm0 M pc tg false jGe := by
  intro p l e R s m args below meth c Q H locs k n ls rest x hx hb kt kf
  exact lv_if_lt hx hb hdg ht (fun h => kt (jGe_f.mpr h)) (fun h => kf (by cases hq : jGe x 0 <;> first | rfl | exact absurd (jGe_f.mp hq) h | exact absurd h (jGe_f.mp hq)))
theorem k_gt_t {M : jx_M} {pc tg : Nat} {off : Int} (hdg : decode M.1 pc = .ok (.if_icmp .gt off, 3)) (ht : (pc : Int) + off = (tg : Int)) : jx_cmp M pc tg true jGt := by
  intro p l e R s m args below meth c Q H locs k n ls rest x y hx hb kt kf
  exact lv_icmp_gt hx hb hdg ht (fun h => kt (jGt_t.mpr h)) (fun h => kf (by cases hq : jGt x y <;> first | rfl | exact absurd (jGt_t.mp hq) h | exact absurd h (jGt_t.mp hq)))
theorem k_gt_t0 {M : jx_M} {pc tg : Nat} {off : Int} (hdg : decode M.1 pc = .ok (.ifCond .gt off, 3)) (ht : (pc : Int) + off = (tg : Int)) : jx_cm0 M pc tg true jGt := by
  intro p l e R s m args below meth c Q H locs k n ls rest x hx hb kt kf
  exact lv_if_gt hx hb hdg ht (fun h => kt (jGt_t.mpr h)) (fun h => kf (by cases hq : jGt x 0 <;> first | rfl | exact absurd (jGt_t.mp hq) h | exact absurd h (jGt_t.mp hq)))
theorem k_gt_f {M : jx_M} {pc tg : Nat} {off : Int} (hdg : decode M.1 pc = .ok (.if_icmp .le off, 3)) (ht : (pc : Int) + off = (tg : Int)) : jx_cmp M pc tg false jGt := by
  intro p l e R s m args below meth c Q H locs k n ls rest x y hx hb kt kf
  exact lv_icmp_le hx hb hdg ht (fun h => kt (jGt_f.mpr h)) (fun h => kf (by cases hq : jGt x y <;> first | rfl | exact absurd (jGt_f.mp hq) h | exact absurd h (jGt_f.mp hq)))
theorem k_gt_f0 {M : jx_M} {pc tg : Nat} {off : Int} (hdg : decode M.1 pc = .ok (.ifCond .le off, 3)) (ht : (pc : Int) + off = (tg : Int)) : jx_cm0 M pc tg false jGt := by
  intro p l e R s m args below meth c Q H locs k n ls rest x hx hb kt kf
  exact lv_if_le hx hb hdg ht (fun h => kt (jGt_f.mpr h)) (fun h => kf (by cases hq : jGt x 0 <;> first | rfl | exact absurd (jGt_f.mp hq) h | exact absurd h (jGt_f.mp hq)))
theorem k_le_t {M : jx_M} {pc tg : Nat} {off : Int} (hdg : decode M.1 pc = .ok (.if_icmp .le off, 3)) (ht : (pc : Int) + off = (tg : Int)) : jx_cmp M pc tg true jLe := by
  intro p l e R s m args below meth c Q H locs k n ls rest x y hx hb kt kf
  exact lv_icmp_le hx hb hdg ht (fun h => kt (jLe_t.mpr h)) (fun h => kf (by cases hq : jLe x y <;> first | rfl | exact absurd (jLe_t.mp hq) h | exact absurd h (jLe_t.mp hq)))
theorem k_le_t0 {M : jx_M} {pc tg : Nat} {off : Int} (hdg : decode M.1 pc = .ok (.ifCond .le off, 3)) (ht : (pc : Int) + off = (tg : Int)) : jx_cm0 M pc tg true jLe := by
  intro p l e R s m args below meth c Q H locs k n ls rest x hx hb kt kf
  exact lv_if_le hx hb hdg ht (fun h => kt (jLe_t.mpr h)) (fun h => kf (by cases hq : jLe x 0 <;> first | rfl | exact absurd (jLe_t.mp hq) h | exact absurd h (jLe_t.mp hq)))
theorem k_le_f {M : jx_M} {pc tg : Nat} {off : Int} (hdg : decode M.1 pc = .ok (.if_icmp .gt off, 3)) (ht : (pc : Int) + off = (tg : Int)) : jx_cmp M pc tg false jLe := by
  intro p l e R s m args below meth c Q H locs k n ls rest x y hx hb kt kf
  exact lv_icmp_gt hx hb hdg ht (fun h => kt (jLe_f.mpr h)) (fun h => kf (by cases hq : jLe x y <;> first | rfl | exact absurd (jLe_f.mp hq) h | exact absurd h (jLe_f.mp hq)))
theorem k_le_f0 {M : jx_M} {pc tg : Nat} {off : Int} (hdg : decode M.1 pc = .ok (.ifCond .gt off, 3)) (ht : (pc : Int) + off = (tg : Int)) : jx_cm0 M pc tg false jLe := by
  intro p l e R s m args below meth c Q H locs k n ls rest x hx hb kt kf
  exact lv_if_gt hx hb hdg ht (fun h => kt (jLe_f.mpr h)) (fun h => kf (by cases hq : jLe x 0 <;> first | rfl | exact absurd (jLe_f.mp hq) h | exact absurd h (jLe_f.mp hq)))
theorem k_eq_t {M : jx_M} {pc tg : Nat} {off : Int} (hdg : decode M.1 pc = .ok (.if_icmp .eq off, 3)) (ht : (pc : Int) + off = (tg : Int)) : jx_cmp M pc tg true jEq := by
  intro p l e R s m args below meth c Q H locs k n ls rest x y hx hb kt kf
  exact lv_icmp_eq hx hb hdg ht (fun h => kt (jEq_t.mpr h)) (fun h => kf (by cases hq : jEq x y <;> first | rfl | exact absurd (jEq_t.mp hq) h | exact absurd h (jEq_t.mp hq)))
theorem k_eq_t0 {M : jx_M} {pc tg : Nat} {off : Int} (hdg : decode M.1 pc = .ok (.ifCond .eq off, 3)) (ht : (pc : Int) + off = (tg : Int)) : jx_cm0 M pc tg true jEq := by
  intro p l e R s m args below meth c Q H locs k n ls rest x hx hb kt kf
  exact lv_if_eq hx hb hdg ht (fun h => kt (jEq_t.mpr h)) (fun h => kf (by cases hq : jEq x 0 <;> first | rfl | exact absurd (jEq_t.mp hq) h | exact absurd h (jEq_t.mp hq)))
theorem k_eq_f {M : jx_M} {pc tg : Nat} {off : Int} (hdg : decode M.1 pc = .ok (.if_icmp .ne off, 3)) (ht : (pc : Int) + off = (tg : Int)) : jx_cmp M pc tg false jEq := by
  intro p l e R s m args below meth c Q H locs k n ls rest x y hx hb kt kf
  exact lv_icmp_ne hx hb hdg ht (fun h => kt (jEq_f.mpr h)) (fun h => kf (by cases hq : jEq x y <;> first | rfl | exact absurd (jEq_f.mp hq) h | exact absurd h (jEq_f.mp hq)))
theorem k_eq_f0 {M : jx_M} {pc tg : Nat} {off : Int} (hdg : decode M.1 pc = .ok (.ifCond .ne off, 3)) (ht : (pc : Int) + off = (tg : Int)) : jx_cm0 M pc tg false jEq := by
  intro p l e R s m args below meth c Q H locs k n ls rest x hx hb kt kf
  exact lv_if_ne hx hb hdg ht (fun h => kt (jEq_f.mpr h)) (fun h => kf (by cases hq : jEq x 0 <;> first | rfl | exact absurd (jEq_f.mp hq) h | exact absurd h (jEq_f.mp hq)))
theorem k_ne_t {M : jx_M} {pc tg : Nat} {off : Int} (hdg : decode M.1 pc = .ok (.if_icmp .ne off, 3)) (ht : (pc : Int) + off = (tg : Int)) : jx_cmp M pc tg true jNe := by
  intro p l e R s m args below meth c Q H locs k n ls rest x y hx hb kt kf
  exact lv_icmp_ne hx hb hdg ht (fun h => kt (jNe_t.mpr h)) (fun h => kf (by cases hq : jNe x y <;> first | rfl | exact absurd (jNe_t.mp hq) h | exact absurd h (jNe_t.mp hq)))
theorem k_ne_t0 {M : jx_M} {pc tg : Nat} {off : Int} (hdg : decode M.1 pc = .ok (.ifCond .ne off, 3)) (ht : (pc : Int) + off = (tg : Int)) : jx_cm0 M pc tg true jNe := by
  intro p l e R s m args below meth c Q H locs k n ls rest x hx hb kt kf
  exact lv_if_ne hx hb hdg ht (fun h => kt (jNe_t.mpr h)) (fun h => kf (by cases hq : jNe x 0 <;> first | rfl | exact absurd (jNe_t.mp hq) h | exact absurd h (jNe_t.mp hq)))
theorem k_ne_f {M : jx_M} {pc tg : Nat} {off : Int} (hdg : decode M.1 pc = .ok (.if_icmp .eq off, 3)) (ht : (pc : Int) + off = (tg : Int)) : jx_cmp M pc tg false jNe := by
  intro p l e R s m args below meth c Q H locs k n ls rest x y hx hb kt kf
  exact lv_icmp_eq hx hb hdg ht (fun h => kt (jNe_f.mpr h)) (fun h => kf (by cases hq : jNe x y <;> first | rfl | exact absurd (jNe_f.mp hq) h | exact absurd h (jNe_f.mp hq)))
theorem k_ne_f0 {M : jx_M} {pc tg : Nat} {off : Int} (hdg : decode M.1 pc = .ok (.ifCond .eq off, 3)) (ht : (pc : Int) + off = (tg : Int)) : jx_cm0 M pc tg false jNe := by
  intro p l e R s m args below meth c Q H locs k n ls rest x hx hb kt kf
  exact lv_if_eq hx hb hdg ht (fun h => kt (jNe_f.mpr h)) (fun h => kf (by cases hq : jNe x 0 <;> first | rfl | exact absurd (jNe_f.mp hq) h | exact absurd h (jNe_f.mp hq)))
def fC (op : Int32 → Int32 → Bool) (fa fb : jx_fI) : jx_fB := fun L h => (fa L h).bind fun q => (fb L q.2).bind fun w => some (op q.1 w.1, w.2)
theorem c2_cmt {M : jx_M} {d pc p1 p2 tg : Nat} {op : Int32 → Int32 → Bool} {fa fb : jx_fI} {mc ms : Nat} (ha : jx_EIc M d pc p1 fa mc ms) (hb : jx_EI M (d + 1) p1 p2 fb) (ho : jx_cmp M p2 tg true op) : jx_C2c M d pc tg (p2 + 3) (fC op fa fb) mc ms := by
  intro p l e R s m args below meth c Q z D tc sc X L st h r h' k n hf hst hk hn K1 K2
  obtain ⟨⟨x, h1⟩, e1, hf⟩ := Option.bind_eq_some_iff.mp hf
  obtain ⟨⟨y, h2⟩, e2, hf⟩ := Option.bind_eq_some_iff.mp hf
  replace hf : some (op x y, h2) = some (r, h') := hf
  cases hf
  refine ha p l e R s m args below meth c Q z D tc sc X L st _ _ _ k n e1 hst hk hn ?_
  refine hb p l e R s m args below meth c Q z D tc sc X L (.int x :: st) _ _ _ (k + mc) (n + ms) e2 (hst.cons rfl) hk hn ?_
  intro H locs ls hR hS hl
  exact ho _ _ _ _ _ _ _ _ _ _ _ _ _ _ _ _ _ _ _ X.1 X.2.1 (fun q => K1 q H locs ls hR hS hl) (fun q => K2 q H locs ls hR hS hl)
theorem c2_cmf {M : jx_M} {d pc p1 p2 tg : Nat} {op : Int32 → Int32 → Bool} {fa fb : jx_fI} {mc ms : Nat} (ha : jx_EIc M d pc p1 fa mc ms) (hb : jx_EI M (d + 1) p1 p2 fb) (ho : jx_cmp M p2 tg false op) : jx_C2c M d pc (p2 + 3) tg (fC op fa fb) mc ms := by
  intro p l e R s m args below meth c Q z D tc sc X L st h r h' k n hf hst hk hn K1 K2
  obtain ⟨⟨x, h1⟩, e1, hf⟩ := Option.bind_eq_some_iff.mp hf
  obtain ⟨⟨y, h2⟩, e2, hf⟩ := Option.bind_eq_some_iff.mp hf
  replace hf : some (op x y, h2) = some (r, h') := hf
  cases hf
  refine ha p l e R s m args below meth c Q z D tc sc X L st _ _ _ k n e1 hst hk hn ?_
  refine hb p l e R s m args below meth c Q z D tc sc X L (.int x :: st) _ _ _ (k + mc) (n + ms) e2 (hst.cons rfl) hk hn ?_
  intro H locs ls hR hS hl
  exact ho _ _ _ _ _ _ _ _ _ _ _ _ _ _ _ _ _ _ _ X.1 X.2.1 (fun q => K2 q H locs ls hR hS hl) (fun q => K1 q H locs ls hR hS hl)
theorem c2_c0t {M : jx_M} {d pc p1 tg : Nat} {op : Int32 → Int32 → Bool} {fa : jx_fI} (ha : jx_EI M d pc p1 fa) (ho : jx_cm0 M p1 tg true op) : jx_C2 M d pc tg (p1 + 3) (fC op fa (fI 0)) := by
  intro p l e R s m args below meth c Q z D tc sc X L st h r h' k n hf hst hk hn K1 K2
  obtain ⟨⟨x, h1⟩, e1, hf⟩ := Option.bind_eq_some_iff.mp hf
  replace hf : some (op x 0, h1) = some (r, h') := hf
  cases hf
  refine ha p l e R s m args below meth c Q z D tc sc X L st _ _ _ k n e1 hst hk hn ?_
  intro H locs ls hR hS hl
  exact ho _ _ _ _ _ _ _ _ _ _ _ _ _ _ _ _ _ _ X.1 X.2.1 (fun q => K1 q H locs ls hR hS hl) (fun q => K2 q H locs ls hR hS hl)
theorem c2_c0f {M : jx_M} {d pc p1 tg : Nat} {op : Int32 → Int32 → Bool} {fa : jx_fI} (ha : jx_EI M d pc p1 fa) (ho : jx_cm0 M p1 tg false op) : jx_C2 M d pc (p1 + 3) tg (fC op fa (fI 0)) := by
  intro p l e R s m args below meth c Q z D tc sc X L st h r h' k n hf hst hk hn K1 K2
  obtain ⟨⟨x, h1⟩, e1, hf⟩ := Option.bind_eq_some_iff.mp hf
  replace hf : some (op x 0, h1) = some (r, h') := hf
  cases hf
  refine ha p l e R s m args below meth c Q z D tc sc X L st _ _ _ k n e1 hst hk hn ?_
  intro H locs ls hR hS hl
  exact ho _ _ _ _ _ _ _ _ _ _ _ _ _ _ _ _ _ _ X.1 X.2.1 (fun q => K2 q H locs ls hR hS hl) (fun q => K1 q H locs ls hR hS hl)
/-- an int as a truth -/
def fT (fa : jx_fI) : jx_fB := fC jNe fa (fI 0)
theorem c2_t {M : jx_M} {d pc p1 tg : Nat} {off : Int} {fa : jx_fI} (ha : jx_EI M d pc p1 fa) (hdg : decode M.1 p1 = .ok (.ifCond .ne off, 3)) (ht : (p1 : Int) + off = (tg : Int)) : jx_C2 M d pc tg (p1 + 3) (fT fa) := c2_c0t ha (k_ne_t0 hdg ht)
theorem c2_f {M : jx_M} {d pc p1 tg : Nat} {off : Int} {fa : jx_fI} (ha : jx_EI M d pc p1 fa) (hdg : decode M.1 p1 = .ok (.ifCond .eq off, 3)) (ht : (p1 : Int) + off = (tg : Int)) : jx_C2 M d pc (p1 + 3) tg (fT fa) := c2_c0f ha (k_ne_f0 hdg ht)
theorem c2_ty {M : jx_M} {d pc T F : Nat} {f : jx_fB} {mc ms : Nat} (h : jx_C2c M d pc T F f mc ms) : jx_C2c M d pc T F f mc ms := h
def fAnd (fa fb : jx_fB) : jx_fB := fun L h => (fa L h).bind fun q => if q.1 = true then fb L q.2 else some (false, q.2)
def fOr (fa fb : jx_fB) : jx_fB := fun L h => (fa L h).bind fun q => if q.1 = true then some (true, q.2) else fb L q.2
def fNot (fa : jx_fB) : jx_fB := fun L h => (fa L h).bind fun q => some (!q.1, q.2)
def fCC (fc fa fb : jx_fB) : jx_fB := fun L h => (fc L h).bind fun q => if q.1 = true then fa L q.2 else fb L q.2
theorem c2_not {M : jx_M} {d pc T F : Nat} {fa : jx_fB} (ha : jx_C2 M d pc T F fa) : jx_C2 M d pc F T (fNot fa) := by
  intro p l e R s m args below meth c Q z D tc sc X L st h r h' k n hf hst hk hn K1 K2
  obtain ⟨⟨x, h1⟩, e1, hf⟩ := Option.bind_eq_some_iff.mp hf
  replace hf : some (!x, h1) = some (r, h') := hf
  cases hf
  exact ha p l e R s m args below meth c Q z D tc sc X L st _ _ _ k n e1 hst hk hn (fun q => K2 (by rw [q]; rfl)) (fun q => K1 (by rw [q]; rfl))
theorem c2_and {M : jx_M} {d pc p1 T F : Nat} {fa fb : jx_fB} (ha : jx_C2 M d pc p1 F fa) (hb : jx_C2 M d p1 T F fb) : jx_C2 M d pc T F (fAnd fa fb) := by
  intro p l e R s m args below meth c Q z D tc sc X L st h r h' k n hf hst hk hn K1 K2
  obtain ⟨⟨x, h1⟩, e1, hf⟩ := Option.bind_eq_some_iff.mp hf
  replace hf : (if x = true then fb L h1 else some (false, h1)) = some (r, h') := hf
  refine ha p l e R s m args below meth c Q z D tc sc X L st _ _ _ k n e1 hst hk hn (fun q => ?_) (fun q => ?_)
  · rw [q] at hf
    exact hb p l e R s m args below meth c Q z D tc sc X L st _ _ _ k n hf hst hk hn K1 K2
  · rw [q] at hf
    cases hf
    exact K2 rfl
theorem c2_or {M : jx_M} {d pc p1 T F : Nat} {fa fb : jx_fB} (ha : jx_C2 M d pc T p1 fa) (hb : jx_C2 M d p1 T F fb) : jx_C2 M d pc T F (fOr fa fb) := by
  intro p l e R s m args below meth c Q z D tc sc X L st h r h' k n hf hst hk hn K1 K2
  obtain ⟨⟨x, h1⟩, e1, hf⟩ := Option.bind_eq_some_iff.mp hf
  replace hf : (if x = true then some (true, h1) else fb L h1) = some (r, h') := hf
  refine ha p l e R s m args below meth c Q z D tc sc X L st _ _ _ k n e1 hst hk hn (fun q => ?_) (fun q => ?_)
  · rw [q] at hf
    cases hf
    exact K1 rfl
  · rw [q] at hf
    exact hb p l e R s m args below meth c Q z D tc sc X L st _ _ _ k n hf hst hk hn K1 K2
theorem c2_cc {M : jx_M} {d pc p1 p2 T F : Nat} {fc fa fb : jx_fB} (hc : jx_C2 M d pc p1 p2 fc) (ha : jx_C2 M d p1 T F fa) (hb : jx_C2 M d p2 T F fb) : jx_C2 M d pc T F (fCC fc fa fb) := by
  intro p l e R s m args below meth c Q z D tc sc X L st h r h' k n hf hst hk hn K1 K2
  obtain ⟨⟨x, h1⟩, e1, hf⟩ := Option.bind_eq_some_iff.mp hf
  replace hf : (if x = true then fa L h1 else fb L h1) = some (r, h') := hf
  refine hc p l e R s m args below meth c Q z D tc sc X L st _ _ _ k n e1 hst hk hn (fun q => ?_) (fun q => ?_)
  · rw [q] at hf
    exact ha p l e R s m args below meth c Q z D tc sc X L st _ _ _ k n hf hst hk hn K1 K2
  · rw [q] at hf
    exact hb p l e R s m args below meth c Q z D tc sc X L st _ _ _ k n hf hst hk hn K1 K2
theorem c2_gT {M : jx_M} {d pc T0 T F : Nat} {off : Int} {fa : jx_fB} (ha : jx_C2 M d pc T0 F fa) (hdg : decode M.1 T0 = .ok (.goto off, 3)) (ht : (T0 : Int) + off = (T : Int)) : jx_C2 M d pc T F fa := by
  intro p l e R s m args below meth c Q z D tc sc X L st h r h' k n hf hst hk hn K1 K2
  refine ha p l e R s m args below meth c Q z D tc sc X L st _ _ _ k n hf hst hk hn (fun q => ?_) K2
  intro H locs ls hR hS hl
  exact lv_goto X.1 X.2.1 hdg ht (K1 q H locs ls hR hS hl)
theorem c2_gF {M : jx_M} {d pc F0 T F : Nat} {off : Int} {fa : jx_fB} (ha : jx_C2 M d pc T F0 fa) (hdg : decode M.1 F0 = .ok (.goto off, 3)) (ht : (F0 : Int) + off = (F : Int)) : jx_C2 M d pc T F fa := by
  intro p l e R s m args below meth c Q z D tc sc X L st h r h' k n hf hst hk hn K1 K2
  refine ha p l e R s m args below meth c Q z D tc sc X L st _ _ _ k n hf hst hk hn K1 (fun q => ?_)
  intro H locs ls hR hS hl
  exact lv_goto X.1 X.2.1 hdg ht (K2 q H locs ls hR hS hl)
/-! a choice of two ints -/
def fIf (fc : jx_fB) (fa fb : jx_fI) : jx_fI := fun L h => (fc L h).bind fun q => if q.1 = true then fa L q.2 else fb L q.2
theorem ei_if {M : jx_M} {d pc p1 tE pE : Nat} {fc : jx_fB} {fa fb : jx_fI} (hc : jx_C2 M d pc p1 tE fc) (ha : jx_EI M d p1 pE fa) (hb : jx_EI M d tE pE fb) : jx_EI M d pc pE (fIf fc fa fb) := by
  intro p l e R s m args below meth c Q z D tc sc X L st h r h' k n hf hst hk hn K
  obtain ⟨⟨x, h1⟩, e1, hf⟩ := Option.bind_eq_some_iff.mp hf
  replace hf : (if x = true then fa L h1 else fb L h1) = some (r, h') := hf
  refine hc p l e R s m args below meth c Q z D tc sc X L st _ _ _ k n e1 hst hk hn (fun q => ?_) (fun q => ?_)
  · rw [q] at hf
    exact ha p l e R s m args below meth c Q z D tc sc X L st _ _ _ k n hf hst hk hn K
  · rw [q] at hf
    exact hb p l e R s m args below meth c Q z D tc sc X L st _ _ _ k n hf hst hk hn K
theorem ei_goto {M : jx_M} {d pc p2 pE : Nat} {off : Int} {fa : jx_fI} (ha : jx_EI M d pc p2 fa) (hdg : decode M.1 p2 = .ok (.goto off, 3)) (ht : (p2 : Int) + off = (pE : Int)) : jx_EI M d pc pE fa := by
  intro p l e R s m args below meth c Q z D tc sc X L st h r h' k n hf hst hk hn K
  refine ha p l e R s m args below meth c Q z D tc sc X L st _ _ _ k n hf hst hk hn ?_
  intro H locs ls hR hS hl
  exact lv_goto X.1 X.2.1 hdg ht (K H locs ls hR hS hl)
/-! arguments -/
def fNil : jx_fA := fun _ h => some ([], h)
def fAi (f : jx_fI) (g : jx_fA) : jx_fA := fun L h => (f L h).bind fun q => (g L q.2).bind fun w => some (.int q.1 :: w.1, w.2)
def fAr (f : jx_fR) (g : jx_fA) : jx_fA := fun L h => (f L h).bind fun q => (g L q.2).bind fun w => some (.ref q.1 :: w.1, w.2)
theorem ea_nil {M : jx_M} {d pc : Nat} : jx_EA M d 0 pc pc fNil := by
  intro p l e R s m args below meth c Q z D tc sc X L st h r h' k n hf hst hk hn K
  replace hf : some (([] : List Value), h) = some (r, h') := hf
  cases hf
  exact K rfl (fun _ h => by cases h)
theorem ea_i {M : jx_M} {d na pc p1 p2 : Nat} {f : jx_fI} {g : jx_fA} (hf0 : jx_EI M d pc p1 f) (hg : jx_EA M (d + 1) na p1 p2 g) : jx_EA M d (na + 1) pc p2 (fAi f g) := by
  intro p l e R s m args below meth c Q z D tc sc X L st h r h' k n hf hst hk hn K
  obtain ⟨⟨x, h1⟩, e1, hf⟩ := Option.bind_eq_some_iff.mp hf
  obtain ⟨⟨vs, h2⟩, e2, hf⟩ := Option.bind_eq_some_iff.mp hf
  replace hf : some (Value.int x :: vs, h2) = some (r, h') := hf
  cases hf
  refine hf0 p l e R s m args below meth c Q z D tc sc X L st _ _ _ k n e1 hst hk hn ?_
  refine hg p l e R s m args below meth c Q z D tc sc X L (.int x :: st) _ _ _ k n e2 (hst.cons rfl) hk hn (fun hle hv => ?_)
  have := K (by rw [List.length_cons, hle]) (fun v hm => by
    rcases List.mem_cons.mp hm with rfl | hm
    · rfl
    · exact hv v hm)
  rw [List.reverse_cons, List.append_assoc] at this
  exact this
theorem ea_r {M : jx_M} {d na pc p1 p2 : Nat} {f : jx_fR} {g : jx_fA} (hf0 : jx_ER M d pc p1 f) (hg : jx_EA M (d + 1) na p1 p2 g) : jx_EA M d (na + 1) pc p2 (fAr f g) := by
  intro p l e R s m args below meth c Q z D tc sc X L st h r h' k n hf hst hk hn K
  obtain ⟨⟨x, h1⟩, e1, hf⟩ := Option.bind_eq_some_iff.mp hf
  obtain ⟨⟨vs, h2⟩, e2, hf⟩ := Option.bind_eq_some_iff.mp hf
  replace hf : some (Value.ref x :: vs, h2) = some (r, h') := hf
  cases hf
  refine hf0 p l e R s m args below meth c Q z D tc sc X L st _ _ _ k n e1 hst hk hn ?_
  refine hg p l e R s m args below meth c Q z D tc sc X L (.ref x :: st) _ _ _ k n e2 (hst.cons rfl) hk hn (fun hle hv => ?_)
  have := K (by rw [List.length_cons, hle]) (fun v hm => by
    rcases List.mem_cons.mp hm with rfl | hm
    · rfl
    · exact hv v hm)
  rw [List.reverse_cons, List.append_assoc] at this
  exact this
end
section
/-! calls -/
abbrev jx_Pre (z : Nat) (D : va_G) (tc : Nat → ClassId) (as : List Value) (h : hp_H) : Array Value → State → Prop := va_Pc (as.map (hp_v z)) (fun U => hp_K D tc U ∧ hp_R z D tc h U.heap)
/-- a method that answers an int: what it does to the abstract heap -/
def jx_MI (y : MethodName) (b : ByteArray) (nL fr lc : Nat) (ret : FieldType) (G : List Value → hp_H → Option (Int32 × hp_H)) (mc ms : Nat) : Prop :=
  ∀ (l : Launch) (z : Nat) (D : va_G) (tc : Nat → ClassId) (as : List Value) (h : hp_H) (r : Int32) (h' : hp_H), G as h = some (r, h') → (∀ v ∈ as, v.category = 1) →
    Met l y (Cond.code y b nL (some ret) :: jx_ws) { frames := fr, cells := mc, slots := ms, locals := lc } (jx_Pre z D tc as h) (va_Qi (fun r' (_ : Unit) => r' = r) (fun _ t => hp_R z D tc h' t.heap) (fun q => z ≤ q)) mc ms (fun q => z ≤ q)
def jx_MV (y : MethodName) (b : ByteArray) (nL fr lc : Nat) (G : List Value → hp_H → Option hp_H) (mc ms : Nat) : Prop :=
  ∀ (l : Launch) (z : Nat) (D : va_G) (tc : Nat → ClassId) (as : List Value) (h : hp_H) (h' : hp_H), G as h = some h' → (∀ v ∈ as, v.category = 1) →
    Met l y (Cond.code y b nL none :: jx_ws) { frames := fr, cells := mc, slots := ms, locals := lc } (jx_Pre z D tc as h) (va_Qv (fun (_ : Unit) => True) (fun _ t => hp_R z D tc h' t.heap) (fun q => z ≤ q)) mc ms (fun q => z ≤ q)
def jx_MR (y : MethodName) (b : ByteArray) (nL fr lc : Nat) (ret : FieldType) (G : List Value → hp_H → Option (Nat × hp_H)) (mc ms : Nat) : Prop :=
  ∀ (l : Launch) (z : Nat) (D : va_G) (tc : Nat → ClassId) (as : List Value) (h : hp_H) (r : Nat) (h' : hp_H), G as h = some (r, h') → (∀ v ∈ as, v.category = 1) →
    Met l y (Cond.code y b nL (some ret) :: jx_ws) { frames := fr, cells := mc, slots := ms, locals := lc } (jx_Pre z D tc as h) (va_Qr (fun (_ : Unit) => True) (fun _ a t => a = z + r ∧ hp_R z D tc h' t.heap) (fun q => z ≤ q)) mc ms (fun q => z ≤ q)
theorem jx_blind {z : Nat} {D : va_G} {tc : Nat → ClassId} {as : List Value} {h : hp_H} : FrameBlind (jx_Pre z D tc as h) := fun a U g mk q => ⟨q.1, q.2.1.same (U := U.calling g mk a) rfl, q.2.2⟩
theorem jx_good {y : MethodName} {b : ByteArray} {nL : Nat} {ret : Option FieldType} (h : Cond.code y b nL ret ∈ jx_ws) : GoodIn jx_ws (Cond.code y b nL ret :: jx_ws) := fun w hw => by
  rcases List.mem_cons.mp hw with rfl | hw
  · exact ⟨h, jx_allgood _ h⟩
  · exact ⟨hw, jx_allgood _ hw⟩
/-- the words of a call: n arguments beside the receiver -/
def jx_W (M : jx_M) (index : Nat) (y : MethodName) (b : ByteArray) (nL fr lc : Nat) (ret : Option FieldType) (n : Nat) : Prop :=
  (Cond.methodLink M.2.1 index y ∈ jx_ws ∨ ∃ host : String, (M.2.1, index, y, host) ∈ jx_nl) ∧ Cond.code y b nL ret ∈ jx_ws ∧ Cond.initialized y.cls ∈ jx_ws ∧ (y.cls ≠ "java/lang/invoke/MethodHandle" ∧ y.cls ≠ "java/lang/invoke/VarHandle" ∧ (parseMethodDescriptor y.desc).map (fun d => d.parameters.length) = some n) ∧ fr + 1 ≤ M.2.2.2.1 ∧ 8 + (nL + 11) + lc ≤ M.2.2.2.2.1
section JXC
variable {M : jx_M} {index : Nat} {y : MethodName} {b : ByteArray} {nL fr lc : Nat} {ret : Option FieldType} {na : Nat} {p : Program} {l : Launch} {e : Env} {R : Room} {s : State} {m : MethodId} {args : Array Value} {below : List Frame} {meth : Method} {c : Code} {z : Nat} {D : va_G} {tc : Nat → ClassId} {sc : Option Nat} {mc ms : Nat}
theorem jx_callB (X : jx_C M p R s m args meth c z D tc sc) (w : jx_W M index y b nL fr lc ret na) (hl : Cond.methodLink M.2.1 index y ∈ jx_ws) : CallB R s args M.2.1 index y b nL ret (Cond.code y b nL ret :: jx_ws) { frames := fr, cells := mc, slots := ms, locals := lc } mc ms na := by
  obtain ⟨-, w2, w3, w4, w5, w6⟩ := w
  have hts := X.2.2.2.2.1
  have hfr := X.2.2.2.2.2.2.1
  have hlo := X.2.2.2.2.2.2.2.1
  exact callB_of na hts (jx_good w2) rfl rfl rfl (hts _ w3) (hts _ hl) w4 ⟨by show fr + 1 ≤ R.frames; omega, by show 8 + (nL + 11) + lc ≤ R.locals; omega⟩
theorem jx_callN {host : String} (X : jx_C M p R s m args meth c z D tc sc) (w : jx_W M index y b nL fr lc ret na) (hl : (M.2.1, index, y, host) ∈ jx_nl) : va_CN R s args M.2.1 index y host b nL ret (Cond.code y b nL ret :: jx_ws) { frames := fr, cells := mc, slots := ms, locals := lc } mc ms na := by
  obtain ⟨-, w2, w3, w4, w5, w6⟩ := w
  have hts := X.2.2.2.2.1
  have hfr := X.2.2.2.2.2.2.1
  have hlo := X.2.2.2.2.2.2.2.1
  refine ⟨⟨rfl, rfl, by show fr + 1 ≤ R.frames; omega, by show 8 + (nL + 11) + lc ≤ R.locals; omega, pay_in hts (jx_good w2), List.mem_cons_self⟩, hts _ w2, hts _ w3, ⟨w4.1, w4.2.1⟩, fun sig h => ?_, va_Nw.use rfl (X.2.2.2.2.2.1.2.1 _ hl)⟩
  have h2 := w4.2.2
  rw [h] at h2
  exact (Option.some.inj h2).symm
variable {Pc : Array Value → State → Prop} {Qc : Array Value → State → Outcome → State → Prop} {free : Addr → Prop} {H : Heap} {locs : List Loc} {k n pc : Nat} {ls : Array Slot} {rest As : List Value} {o : Addr}
theorem jx_runV (X : jx_C M p R s m args meth c z D tc sc) (w : jx_W M index y b nL fr lc ret na) (hi : Cond.instanceMethod y ∈ jx_ws) (hs : Cond.selects y.cls y y ∈ jx_ws) (hM : Met l y (Cond.code y b nL ret :: jx_ws) { frames := fr, cells := mc, slots := ms, locals := lc } Pc Qc mc ms free) (hp : PreV s H y.cls o Pc As) (hn : As.length = na) (hsize : ls.size = M.2.2.1) (hW : 2 * (F0 m pc ls (As.reverse ++ .ref o :: rest)).monitorRoom + (rest.map fun v => v.category).sum ≤ 8) (hdg : decode M.1 pc = .ok (.invokevirtual index, 3)) (hf : k + mc ≤ R.cells ∧ n + ms ≤ R.slots) :
    va_Run p l e R s m args below meth c H locs k n mc ms (F0 m pc ls (As.reverse ++ .ref o :: rest)) rest (Qc (Value.ref o :: As).toArray) free := by
  have hts := X.2.2.2.2.1
  rcases w.1 with hl | ⟨host, hl⟩
  · exact va_runV ⟨X.1, X.2.1, X.2.2.1, X.2.2.2.1, hts⟩ hM ⟨jx_callB X w hl, hts _ hi, hts _ hs⟩ hp rfl hn hsize rfl hW hdg hf
  · exact va_runVN ⟨X.1, X.2.1, X.2.2.1, X.2.2.2.1, hts⟩ hM ⟨jx_callN X w hl, hts _ hi, hts _ hs⟩ hp rfl hn hsize rfl hW hdg hf
theorem jx_runS (X : jx_C M p R s m args meth c z D tc sc) (w : jx_W M index y b nL fr lc ret na) (hi : Cond.static y ∈ jx_ws) (hM : Met l y (Cond.code y b nL ret :: jx_ws) { frames := fr, cells := mc, slots := ms, locals := lc } Pc Qc mc ms free) (hp : PreS s H Pc As) (hn : As.length = na) (hsize : ls.size = M.2.2.1) (hW : 2 * (F0 m pc ls (As.reverse ++ rest)).monitorRoom + (rest.map fun v => v.category).sum ≤ 8) (hdg : decode M.1 pc = .ok (.invokestatic index, 3)) (hf : k + mc ≤ R.cells ∧ n + ms ≤ R.slots) :
    va_Run p l e R s m args below meth c H locs k n mc ms (F0 m pc ls (As.reverse ++ rest)) rest (Qc As.toArray) free := by
  have hts := X.2.2.2.2.1
  rcases w.1 with hl | ⟨host, hl⟩
  · exact va_runS ⟨X.1, X.2.1, X.2.2.1, X.2.2.2.1, hts⟩ hM ⟨jx_callB X w hl, hts _ hi⟩ hp rfl hn hsize rfl hW hdg hf
  · exact va_runSN ⟨X.1, X.2.1, X.2.2.1, X.2.2.2.1, hts⟩ hM ⟨jx_callN X w hl, hts _ hi, trivial⟩ hp rfl hn hsize rfl hW hdg hf
theorem jx_runI (X : jx_C M p R s m args meth c z D tc sc) (w : jx_W M index y b nL fr lc none na) (hi : Cond.instanceMethod y ∈ jx_ws) (hy : y.name = "<init>") (hM : Met l y (Cond.code y b nL none :: jx_ws) { frames := fr, cells := mc, slots := ms, locals := lc } Pc Qc mc ms free) (hp : PreS s H Pc (.ref o :: As)) (hn : As.length = na) (hsize : ls.size = M.2.2.1) (hW : 2 * (F0 m pc ls (As.reverse ++ .ref o :: rest)).monitorRoom + (rest.map fun v => v.category).sum ≤ 8) (hdg : decode M.1 pc = .ok (.invokespecial index, 3)) (hf : k + mc ≤ R.cells ∧ n + ms ≤ R.slots) :
    va_Run p l e R s m args below meth c H locs k n mc ms (F0 m pc ls (As.reverse ++ .ref o :: rest)) rest (Qc (Value.ref o :: As).toArray) free := by
  have hts := X.2.2.2.2.1
  rcases w.1 with hl | ⟨host, hl⟩
  · exact va_runI ⟨X.1, X.2.1, X.2.2.1, X.2.2.2.1, hts⟩ hM ⟨jx_callB X w hl, hy, hts _ hi⟩ hp rfl hn hsize rfl hW hdg hf
  · exact va_runIN ⟨X.1, X.2.1, X.2.2.1, X.2.2.2.1, hts⟩ hM ⟨jx_callN X w hl, hy, hts _ hi⟩ hp rfl hn hsize rfl hW hdg hf
/-- the receiver: an object of the class -/
theorem jx_recv {ci : Nat} {T : u_T} {N : Nat} {C : String} (hK : hp_K D tc s) {h : hp_H} (hR : hp_R z D tc h H) {a : Nat} {fs : List Value} (ha : h[a]? = some (ci, fs)) (hci : ci < 50) (hc : vwCl[ci]? = some (C, T, N)) : ∃ cellB : Cell, H[z + a]? = some cellB ∧ cellB.vm.isStatics = false ∧ s.vm.findClass C = some cellB.cls := by
  obtain ⟨r, h1, h2, cell, q1, q2, q3, q4⟩ := (hR.2 a _ ha).1 hci
  have hr : r = (C, T, N) := Option.some.inj (h1.symm.trans hc)
  subst hr
  exact ⟨cell, q1, by rw [q3]; rfl, by rw [q2]; exact (hK.1.1 ci _ hc).2.1⟩
theorem jx_pre {as : List Value} {h : hp_H} (hK : hp_K D tc s) (hR : hp_R z D tc h H) : ∀ U : State, U.heap = H → s.WarmedH U.vm → jx_Pre z D tc as h (as.map (hp_v z)).toArray U := fun U hU hW => ⟨rfl, hK.warm hW, by rw [hU]; exact hR⟩
end JXC
/-- the class number of a receiver -/
def hp_k (h : hp_H) (a : Nat) : Option Nat := (h[a]?).map fun c => c.1
theorem hp_k_spec {h : hp_H} {a ci : Nat} (e : hp_k h a = some ci) : ∃ fs, h[a]? = some (ci, fs) := by
  obtain ⟨⟨c, fs⟩, e1, e2⟩ := Option.map_eq_some_iff.mp e
  cases e2
  exact ⟨fs, e1⟩
def jx_cl (ci : Nat) (C : String) : Prop := ci < 50 ∧ ∃ (T : u_T) (N : Nat), vwCl[ci]? = some (C, T, N)
/-- a call on a receiver of class ci -/
def cV {α : Type} (ci : Nat) (g : jx_fA) (G : List Value → hp_H → Option α) : hp_L → hp_H → Option α := fun L h => (g L h).bind fun q => match q.1 with
  | .ref a :: _ => if hp_k q.2 a = some ci then G q.1 q.2 else none
  | _ => none
def cS {α : Type} (g : jx_fA) (G : List Value → hp_H → Option α) : hp_L → hp_H → Option α := fun L h => (g L h).bind fun q => G q.1 q.2
theorem cV_spec {α : Type} {ci : Nat} {g : jx_fA} {G : List Value → hp_H → Option α} {L : hp_L} {h : hp_H} {r : α} (e : cV ci g G L h = some r) : ∃ (a : Nat) (As : List Value) (h1 : hp_H) (fs : List Value), g L h = some (.ref a :: As, h1) ∧ h1[a]? = some (ci, fs) ∧ G (.ref a :: As) h1 = some r := by
  obtain ⟨⟨vs, h1⟩, e1, e2⟩ := Option.bind_eq_some_iff.mp e
  dsimp only at e2
  split at e2
  · rename_i a As
    split at e2
    · rename_i hk
      obtain ⟨fs, hfs⟩ := hp_k_spec hk
      exact ⟨a, As, h1, fs, e1, hfs, e2⟩
    · cases e2
  · cases e2
theorem jx_room {m : MethodId} {pc : Nat} {ls : Array Slot} {st0 : List Value} {z d : Nat} {st : List Value} (hst : jx_st d st) (hd : d ≤ 8) : 2 * (F0 m pc ls st0).monitorRoom + ((st.map (hp_v z)).map fun v => v.category).sum ≤ 8 := by
  refine lv_room ?_
  rw [hp_vs_cat z st hst.2, hst.1]
  exact hd
theorem jx_stk (z a : Nat) (As st : List Value) : ((Value.ref a :: As).reverse ++ st).map (hp_v z) = (As.map (hp_v z)).reverse ++ .ref (z + a) :: st.map (hp_v z) := by
  simp [List.map_append, List.map_reverse, hp_v]
theorem jx_stk0 (z : Nat) (As st : List Value) : (As.reverse ++ st).map (hp_v z) = (As.map (hp_v z)).reverse ++ st.map (hp_v z) := by
  simp [List.map_append, List.map_reverse]
theorem ei_callV {M : jx_M} {d na pc p1 index ci : Nat} {g : jx_fA} {y : MethodName} {b : ByteArray} {nL fr lc : Nat} {ret : FieldType} {G : List Value → hp_H → Option (Int32 × hp_H)} {mc ms : Nat} (hg : jx_EA M d (na + 1) pc p1 g) (hM : jx_MI y b nL fr lc ret G mc ms) (w : jx_W M index y b nL fr lc (some ret) na) (hi : Cond.instanceMethod y ∈ jx_ws) (hs : Cond.selects y.cls y y ∈ jx_ws) (hci : jx_cl ci y.cls) (hd : d ≤ 8) (hdg : decode M.1 p1 = .ok (.invokevirtual index, 3)) : jx_EIc M d pc (p1 + 3) (cV ci g G) mc ms := by
  intro p l e R s m args below meth c Q z D tc sc X L st h r h' k n hf hst hk hn K
  obtain ⟨a, As, h1, fs, e1, e2, e3⟩ := cV_spec hf
  refine hg p l e R s m args below meth c Q z D tc sc X L st _ _ _ k n e1 hst (by omega) (by omega) (fun hle hcat => ?_)
  obtain ⟨hci, T, N, hc⟩ := hci
  intro H locs ls hR hS hl
  rw [jx_stk]
  have hK := X.2.2.2.2.2.1
  refine va_calli (jx_runV (As := As.map (hp_v z)) X w hi hs (hM l z D tc _ h1 r h' e3 hcat) ⟨jx_blind, jx_recv hK hR e2 hci hc, jx_pre hK hR⟩ (by rw [List.length_map]; exact Nat.succ.inj hle) hl.1 (jx_room hst hd) hdg ⟨hk, hn⟩) hS (fun q _ hq => hq) (fun q hq => hq) (fun r' u t H1 locs1 ht hvm hpost hB hz1 hk1 hS1 => ?_)
  subst hpost
  subst ht
  exact K _ locs1 ls hB hS1 hl
theorem ei_callS {M : jx_M} {d na pc p1 index : Nat} {g : jx_fA} {y : MethodName} {b : ByteArray} {nL fr lc : Nat} {ret : FieldType} {G : List Value → hp_H → Option (Int32 × hp_H)} {mc ms : Nat} (hg : jx_EA M d na pc p1 g) (hM : jx_MI y b nL fr lc ret G mc ms) (w : jx_W M index y b nL fr lc (some ret) na) (hi : Cond.static y ∈ jx_ws) (hd : d ≤ 8) (hdg : decode M.1 p1 = .ok (.invokestatic index, 3)) : jx_EIc M d pc (p1 + 3) (cS g G) mc ms := by
  intro p l e R s m args below meth c Q z D tc sc X L st h r h' k n hf hst hk hn K
  obtain ⟨⟨As, h1⟩, e1, e3⟩ := Option.bind_eq_some_iff.mp hf
  refine hg p l e R s m args below meth c Q z D tc sc X L st _ _ _ k n e1 hst (by omega) (by omega) (fun hle hcat => ?_)
  intro H locs ls hR hS hl
  rw [jx_stk0]
  have hK := X.2.2.2.2.2.1
  refine va_calli (jx_runS (As := As.map (hp_v z)) X w hi (hM l z D tc _ h1 r h' e3 hcat) ⟨jx_blind, jx_pre hK hR⟩ (by rw [List.length_map]; exact hle) hl.1 (jx_room hst hd) hdg ⟨hk, hn⟩) hS (fun q _ hq => hq) (fun q hq => hq) (fun r' u t H1 locs1 ht hvm hpost hB hz1 hk1 hS1 => ?_)
  subst hpost
  subst ht
  exact K _ locs1 ls hB hS1 hl
theorem er_callV {M : jx_M} {d na pc p1 index ci : Nat} {g : jx_fA} {y : MethodName} {b : ByteArray} {nL fr lc : Nat} {ret : FieldType} {G : List Value → hp_H → Option (Nat × hp_H)} {mc ms : Nat} (hg : jx_EA M d (na + 1) pc p1 g) (hM : jx_MR y b nL fr lc ret G mc ms) (w : jx_W M index y b nL fr lc (some ret) na) (hi : Cond.instanceMethod y ∈ jx_ws) (hs : Cond.selects y.cls y y ∈ jx_ws) (hci : jx_cl ci y.cls) (hd : d ≤ 8) (hdg : decode M.1 p1 = .ok (.invokevirtual index, 3)) : jx_ERc M d pc (p1 + 3) (cV ci g G) mc ms := by
  intro p l e R s m args below meth c Q z D tc sc X L st h r h' k n hf hst hk hn K
  obtain ⟨a, As, h1, fs, e1, e2, e3⟩ := cV_spec hf
  refine hg p l e R s m args below meth c Q z D tc sc X L st _ _ _ k n e1 hst (by omega) (by omega) (fun hle hcat => ?_)
  obtain ⟨hci, T, N, hc⟩ := hci
  intro H locs ls hR hS hl
  rw [jx_stk]
  have hK := X.2.2.2.2.2.1
  refine va_callr (jx_runV (As := As.map (hp_v z)) X w hi hs (hM l z D tc _ h1 r h' e3 hcat) ⟨jx_blind, jx_recv hK hR e2 hci hc, jx_pre hK hR⟩ (by rw [List.length_map]; exact Nat.succ.inj hle) hl.1 (jx_room hst hd) hdg ⟨hk, hn⟩) hS (fun q _ hq => hq) (fun q hq => hq) (fun u r' t H1 locs1 ht hvm hpost hB hz1 hk1 hS1 => ?_)
  obtain ⟨rfl, hB⟩ := hB
  subst ht
  exact K _ locs1 ls hB hS1 hl
def sCall (f : hp_L → hp_H → Option hp_H) : jx_fS := fun L h => (f L h).bind fun h' => some (.inl (L, h'))
theorem sx_callV {M : jx_M} {na pc p1 index ci : Nat} {g : jx_fA} {y : MethodName} {b : ByteArray} {nL fr lc : Nat} {G : List Value → hp_H → Option hp_H} {mc ms : Nat} (hg : jx_EA M 0 (na + 1) pc p1 g) (hM : jx_MV y b nL fr lc G mc ms) (w : jx_W M index y b nL fr lc none na) (hi : Cond.instanceMethod y ∈ jx_ws) (hs : Cond.selects y.cls y y ∈ jx_ws) (hci : jx_cl ci y.cls) (hdg : decode M.1 p1 = .ok (.invokevirtual index, 3)) : jx_SX M pc (p1 + 3) (sCall (cV ci g G)) mc ms := by
  intro p l e R s m args below meth c Q z D tc sc X L h o k n hf hk hn K1 K2
  obtain ⟨h', e0, hf⟩ := Option.bind_eq_some_iff.mp hf
  cases hf
  obtain ⟨a, As, h1, fs, e1, e2, e3⟩ := cV_spec e0
  refine hg p l e R s m args below meth c Q z D tc sc X L [] _ _ _ k n e1 jx_st0 (by omega) (by omega) (fun hle hcat => ?_)
  obtain ⟨hci, T, N, hc⟩ := hci
  intro H locs ls hR hS hl
  rw [jx_stk]
  have hK := X.2.2.2.2.2.1
  refine va_callv (jx_runV (As := As.map (hp_v z)) X w hi hs (hM l z D tc _ h1 h' e3 hcat) ⟨jx_blind, jx_recv hK hR e2 hci hc, jx_pre hK hR⟩ (by rw [List.length_map]; exact Nat.succ.inj hle) hl.1 (jx_room jx_st0 (by decide)) hdg ⟨hk, hn⟩) hS (fun q _ hq => hq) (fun q hq => hq) (fun u t H1 locs1 ht hvm hpost hB hz1 hk1 hS1 => ?_)
  subst ht
  exact K1 L h' rfl _ locs1 ls hB hS1 hl
theorem sx_callS {M : jx_M} {na pc p1 index : Nat} {g : jx_fA} {y : MethodName} {b : ByteArray} {nL fr lc : Nat} {G : List Value → hp_H → Option hp_H} {mc ms : Nat} (hg : jx_EA M 0 na pc p1 g) (hM : jx_MV y b nL fr lc G mc ms) (w : jx_W M index y b nL fr lc none na) (hi : Cond.static y ∈ jx_ws) (hdg : decode M.1 p1 = .ok (.invokestatic index, 3)) : jx_SX M pc (p1 + 3) (sCall (cS g G)) mc ms := by
  intro p l e R s m args below meth c Q z D tc sc X L h o k n hf hk hn K1 K2
  obtain ⟨h', e0, hf⟩ := Option.bind_eq_some_iff.mp hf
  cases hf
  obtain ⟨⟨As, h1⟩, e1, e3⟩ := Option.bind_eq_some_iff.mp e0
  refine hg p l e R s m args below meth c Q z D tc sc X L [] _ _ _ k n e1 jx_st0 (by omega) (by omega) (fun hle hcat => ?_)
  intro H locs ls hR hS hl
  rw [jx_stk0]
  have hK := X.2.2.2.2.2.1
  refine va_callv (jx_runS (As := As.map (hp_v z)) X w hi (hM l z D tc _ h1 h' e3 hcat) ⟨jx_blind, jx_pre hK hR⟩ (by rw [List.length_map]; exact hle) hl.1 (jx_room jx_st0 (by decide)) hdg ⟨hk, hn⟩) hS (fun q _ hq => hq) (fun q hq => hq) (fun u t H1 locs1 ht hvm hpost hB hz1 hk1 hS1 => ?_)
  subst ht
  exact K1 L h' rfl _ locs1 ls hB hS1 hl
end
section
/-! statements -/
def sSkip : jx_fS := fun L h => some (.inl (L, h))
def sSeq (f g : jx_fS) : jx_fS := fun L h => (f L h).bind fun o => match o with
  | .inl q => g q.1 q.2
  | .inr r => some (.inr r)
theorem sx_skip {M : jx_M} {pc : Nat} : jx_SX M pc pc sSkip 0 0 := by
  intro p l e R s m args below meth c Q z D tc sc X L h o k n hf hk hn K1 K2
  replace hf : some (Sum.inl (L, h)) = some o := hf
  cases hf
  exact K1 L h rfl
theorem sx_seqc {M : jx_M} {pc p1 p2 : Nat} {f g : jx_fS} {a1 b1 a2 b2 : Nat} (hf0 : jx_SX M pc p1 f a1 b1) (hg : jx_SX M p1 p2 g a2 b2) : jx_SX M pc p2 (sSeq f g) (a1 + a2) (b1 + b2) := by
  intro p l e R s m args below meth c Q z D tc sc X L h o k n hf hk hn K1 K2
  obtain ⟨o1, e1, e2⟩ := Option.bind_eq_some_iff.mp hf
  refine hf0 p l e R s m args below meth c Q z D tc sc X L h o1 k n e1 (by omega) (by omega) (fun L' h' q => ?_) (fun rv h' q => ?_)
  · subst q
    replace e2 : g L' h' = some o := e2
    refine hg p l e R s m args below meth c Q z D tc sc X L' h' o (k + a1) (n + b1) e2 (by omega) (by omega) (fun L2 h2 q2 => ?_) (fun rv h2 q2 => ?_)
    · rw [Nat.add_assoc, Nat.add_assoc]
      exact K1 L2 h2 q2
    · rw [Nat.add_assoc, Nat.add_assoc]
      exact K2 rv h2 q2
  · subst q
    replace e2 : some (Sum.inr (rv, h')) = some o := e2
    cases e2
    exact (K2 rv h' rfl).widen (by omega) (by omega)
theorem sx_seq {M : jx_M} {pc p1 p2 : Nat} {f g : jx_fS} (hf0 : jx_SX M pc p1 f 0 0) (hg : jx_SX M p1 p2 g 0 0) : jx_SX M pc p2 (sSeq f g) 0 0 := sx_seqc hf0 hg
/-- more room than is needed -/
theorem sx_pad {M : jx_M} {pc p1 : Nat} {f : jx_fS} {a1 b1 a2 b2 : Nat} (hf0 : jx_SX M pc p1 f a1 b1) (ha : a1 ≤ a2) (hb : b1 ≤ b2) : jx_SX M pc p1 f a2 b2 := by
  intro p l e R s m args below meth c Q z D tc sc X L h o k n hf hk hn K1 K2
  exact hf0 p l e R s m args below meth c Q z D tc sc X L h o k n hf (by omega) (by omega) (fun L' h' q => (K1 L' h' q).widen (by omega) (by omega)) (fun rv h' q => (K2 rv h' q).widen (by omega) (by omega))
theorem sx_goto {M : jx_M} {pc p2 pE : Nat} {off : Int} {f : jx_fS} {mc ms : Nat} (ha : jx_SX M pc p2 f mc ms) (hdg : decode M.1 p2 = .ok (.goto off, 3)) (ht : (p2 : Int) + off = (pE : Int)) : jx_SX M pc pE f mc ms := by
  intro p l e R s m args below meth c Q z D tc sc X L h o k n hf hk hn K1 K2
  refine ha p l e R s m args below meth c Q z D tc sc X L h o k n hf hk hn (fun L' h' q => ?_) K2
  intro H locs ls hR hS hl
  exact lv_goto X.1 X.2.1 hdg ht (K1 L' h' q H locs ls hR hS hl)
/-! locals -/
def sSt (i : Nat) (f : jx_fI) : jx_fS := fun L h => (f L h).bind fun q => some (.inl (L.set i (some (.int q.1)), q.2))
def sSr (i : Nat) (f : jx_fR) : jx_fS := fun L h => (f L h).bind fun q => some (.inl (L.set i (some (.ref q.1)), q.2))
def sInc (i : Nat) (v : Int32) : jx_fS := fun L h => match L[i]? with
  | some (some (.int x)) => some (.inl (L.set i (some (.int (x + v))), h))
  | _ => none
theorem sx_st_n {M : jx_M} {pc p1 i : Nat} {j : Fin 4} {f : jx_fI} (hf0 : jx_EI M 0 pc p1 f) (hdg : decode M.1 p1 = .ok (.istore_n j, 1)) (hi : (j : Nat) = i) (h0 : i ≠ 0) (hn0 : i < M.2.2.1) : jx_SX M pc (p1 + 1) (sSt i f) 0 0 := by
  intro p l e R s m args below meth c Q z D tc sc X L h o k n hf hk hn K1 K2
  obtain ⟨⟨x, h1⟩, e1, hf⟩ := Option.bind_eq_some_iff.mp hf
  replace hf : some (Sum.inl (L.set i (some (.int x)), h1)) = some o := hf
  cases hf
  refine hf0 p l e R s m args below meth c Q z D tc sc X L [] _ _ _ k n e1 jx_st0 hk hn ?_
  intro H locs ls hR hS hl
  exact lv_istore_n X.1 X.2.1 hdg hi (hp_all_has hl.1 hl.2.1) hn0 rfl (fun ls' h' => K1 _ _ rfl H locs ls' hR hS (hp_store hl h0 rfl h'))
theorem sx_st {M : jx_M} {pc p1 i : Nat} {f : jx_fI} (hf0 : jx_EI M 0 pc p1 f) (hdg : decode M.1 p1 = .ok (.istore i, 2)) (h0 : i ≠ 0) (hn0 : i < M.2.2.1) : jx_SX M pc (p1 + 2) (sSt i f) 0 0 := by
  intro p l e R s m args below meth c Q z D tc sc X L h o k n hf hk hn K1 K2
  obtain ⟨⟨x, h1⟩, e1, hf⟩ := Option.bind_eq_some_iff.mp hf
  replace hf : some (Sum.inl (L.set i (some (.int x)), h1)) = some o := hf
  cases hf
  refine hf0 p l e R s m args below meth c Q z D tc sc X L [] _ _ _ k n e1 jx_st0 hk hn ?_
  intro H locs ls hR hS hl
  exact lv_istore X.1 X.2.1 hdg (hp_all_has hl.1 hl.2.1) hn0 rfl (fun ls' h' => K1 _ _ rfl H locs ls' hR hS (hp_store hl h0 rfl h'))
theorem sx_sr_n {M : jx_M} {pc p1 i : Nat} {j : Fin 4} {f : jx_fR} {mc ms : Nat} (hf0 : jx_ERc M 0 pc p1 f mc ms) (hdg : decode M.1 p1 = .ok (.astore_n j, 1)) (hi : (j : Nat) = i) (h0 : i ≠ 0) (hn0 : i < M.2.2.1) : jx_SX M pc (p1 + 1) (sSr i f) mc ms := by
  intro p l e R s m args below meth c Q z D tc sc X L h o k n hf hk hn K1 K2
  obtain ⟨⟨x, h1⟩, e1, hf⟩ := Option.bind_eq_some_iff.mp hf
  replace hf : some (Sum.inl (L.set i (some (.ref x)), h1)) = some o := hf
  cases hf
  refine hf0 p l e R s m args below meth c Q z D tc sc X L [] _ _ _ k n e1 jx_st0 hk hn ?_
  intro H locs ls hR hS hl
  exact lv_astore_n X.1 X.2.1 hdg hi (hp_all_has hl.1 hl.2.1) hn0 rfl (fun ls' h' => K1 _ _ rfl H locs ls' hR hS (hp_store hl h0 rfl h'))
theorem sx_sr {M : jx_M} {pc p1 i : Nat} {f : jx_fR} {mc ms : Nat} (hf0 : jx_ERc M 0 pc p1 f mc ms) (hdg : decode M.1 p1 = .ok (.astore i, 2)) (h0 : i ≠ 0) (hn0 : i < M.2.2.1) : jx_SX M pc (p1 + 2) (sSr i f) mc ms := by
  intro p l e R s m args below meth c Q z D tc sc X L h o k n hf hk hn K1 K2
  obtain ⟨⟨x, h1⟩, e1, hf⟩ := Option.bind_eq_some_iff.mp hf
  replace hf : some (Sum.inl (L.set i (some (.ref x)), h1)) = some o := hf
  cases hf
  refine hf0 p l e R s m args below meth c Q z D tc sc X L [] _ _ _ k n e1 jx_st0 hk hn ?_
  intro H locs ls hR hS hl
  exact lv_astore X.1 X.2.1 hdg (hp_all_has hl.1 hl.2.1) hn0 rfl (fun ls' h' => K1 _ _ rfl H locs ls' hR hS (hp_store hl h0 rfl h'))
theorem sx_inc {M : jx_M} {pc i : Nat} {v : Int} {w : Int32} (hdg : decode M.1 pc = .ok (.iinc i v, 3)) (hw : Int32.ofInt v = w) (h0 : i ≠ 0) (hn0 : i < M.2.2.1) : jx_SX M pc (pc + 3) (sInc i w) 0 0 := by
  intro p l e R s m args below meth c Q z D tc sc X L h o k n hf hk hn K1 K2
  intro H locs ls hR hS hl
  unfold sInc at hf
  split at hf
  · rename_i x hx
    cases hf
    obtain ⟨kk, hkk⟩ := List.getElem?_of_mem (hp_all_mem.mpr (hp_int hl hx))
    exact lv_iinc X.1 X.2.1 hdg (hp_all_has hl.1 hl.2.1) hkk (by rw [hw]) hn0 rfl (fun ls' h' => K1 _ _ rfl H locs ls' hR hS (hp_store hl h0 rfl h'))
  · cases hf
/-! fields -/
def hp_p (h : hp_H) (a ci k : Nat) (v : Value) : Option hp_H := (h[a]?).bind fun c => if c.1 = ci ∧ k < c.2.length then some (h.set a (ci, c.2.set k v)) else none
theorem hp_p_spec {h h' : hp_H} {a ci k : Nat} {v : Value} (e : hp_p h a ci k v = some h') : ∃ fs, h[a]? = some (ci, fs) ∧ k < fs.length ∧ h' = h.set a (ci, fs.set k v) := by
  obtain ⟨⟨c, fs⟩, e1, e2⟩ := Option.bind_eq_some_iff.mp e
  replace e2 : (if c = ci ∧ k < fs.length then some (h.set a (ci, fs.set k v)) else none) = some h' := e2
  split at e2
  · rename_i hc
    obtain ⟨rfl, h2⟩ := hc
    cases e2
    exact ⟨fs, e1, h2, rfl⟩
  · cases e2
/-- a field that is put: its type ty; final ones in a constructor alone -/
def jx_FP (M : jx_M) (index ci k : Nat) (ty : FieldType) : Prop := ∃ (C : String) (T : u_T) (N : Nat) (tt : Nat → FieldType), vwCl[ci]? = some (C, T, N) ∧ ci < 50 ∧ k < N ∧ (∀ w ∈ u_ws C T N, w ∈ jx_ws) ∧ (∀ k, k < N → parseFieldDescriptor (T k).2.2.1 = some (tt k)) ∧ (∀ a, a < N → ∀ b, b < N → a ≠ b → (T a).2.1 ≠ (T b).2.1) ∧ tt k = ty ∧
  (((T k).2.2.2 = false ∧ (Cond.fieldLink M.2.1 index (T k).1 (T k).2.1 (T k).2.2.1 ∈ jx_ws ∨ ∃ host : String, Cond.fieldLinkNest M.2.1 index (T k).1 (T k).2.1 (T k).2.2.1 host ∈ jx_ws)) ∨ ((T k).2.2.2 = true ∧ (T k).1 = M.2.1 ∧ M.2.2.2.2.2.1 = true ∧ Cond.fieldLink M.2.1 index (T k).1 (T k).2.1 (T k).2.2.1 ∈ jx_ws))
theorem hp_upd {z : Nat} {fs : List Value} {k : Nat} (hk : k < fs.length) (v : Value) (j : Nat) : updV (fun k => hp_v z (fs.getD k .null)) k (hp_v z v) j = hp_v z ((fs.set k v).getD j .null) := by
  unfold updV
  by_cases hj : j = k
  · subst hj
    simp [List.getD_eq_getElem?_getD, List.getElem?_set, hk]
  · rw [if_neg hj]
    simp [List.getD_eq_getElem?_getD, List.getElem?_set, Ne.symm hj]
theorem jx_put {M : jx_M} {pc index ci k : Nat} {ty : FieldType} (hF : jx_FP M index ci k ty) (hdg : decode M.1 pc = .ok (.putfield index, 3)) {p : Program} {l : Launch} {e : Env} {R : Room} {s : State} {m : MethodId} {args : Array Value} {below : List Frame} {meth : Method} {c : Code} {Q : State → Prop} {z : Nat} {D : va_G} {tc : Nat → ClassId} {sc : Option Nat} (X : jx_C M p R s m args meth c z D tc sc) {h h' : hp_H} {a : Nat} {v : Value} (hg : hp_p h a ci k v = some h') (hnv : narrow ty (hp_v z v) = hp_v z v) (hfv : fits ty (hp_v z v) = true) {H : Heap} (hR : hp_R z D tc h H) {locs : List Loc} (hS0 : va_S (fun q => z ≤ q) s.heap H locs) {k0 n0 : Nat} {ls : Array Slot} {rest : List Value} (kk : ∀ (H1 : Heap) (locs1 : List Loc), hp_R z D tc h' H1 → va_S (fun q => z ≤ q) s.heap H1 locs1 → W p l e R s m args below meth c H1 locs1 k0 n0 Q (F0 m (pc + 3) ls rest)) : W p l e R s m args below meth c H locs k0 n0 Q (F0 m pc ls (hp_v z v :: .ref (z + a) :: rest)) := by
  obtain ⟨C, T, N, tt, hc, hci, hk, hin, hty, hnm, htk, hlk⟩ := hF
  obtain ⟨fs, hf, hkl, rfl⟩ := hp_p_spec hg
  obtain ⟨hx, hb, hml, hown, hts, ⟨hK, -⟩, -, -, -, hini, -⟩ := X
  have hap := va_apart (own := M.2.1) hts hin tt hty hnm hK hc
  obtain ⟨r, h1, h2, cell, q1, q2, q3, q4⟩ := (hR.2 a _ hf).1 hci
  have hr : r = (C, T, N) := Option.some.inj (h1.symm.trans hc)
  subst hr
  obtain ⟨hS, hfc, kC, hkC, hkind⟩ := hK.1 ci _ hc
  obtain ⟨cf, kf, fi, f, hi, hsl⟩ := hS k hk
  have hlay := hts _ (hin _ (u_in_lay hk))
  have hd : parseFieldDescriptor (T k).2.2.1 = some ty := by rw [hty k hk, htk]
  have hst := (u_facts hfc hkC (u_lays hts hin hk) hi).1
  have fin : ∀ H' : Heap, H'[z + a]? = some (cell.setSlot f.slot (hp_v z v)) → H'.size = H.size → (∀ q, q ≠ z + a → H'[q]? = H[q]?) → W p l e R s m args below meth c H' (locs ++ [⟨z + a, f.slot⟩]) k0 n0 Q (F0 m (pc + 3) ls rest) := by
    intro H' e1 e2 e3
    refine kk H' _ (hR.set (hp_lt hf) ⟨fun _ => ⟨_, hc, ?_, ?_⟩, fun h50 => ?_⟩ e2 e3) (hS0.put e2 e3 (Nat.le_add_right _ _))
    · show (fs.set k v).length = N
      rw [List.length_set]
      exact h2
    · rw [hsl] at e1
      exact t_OB.to (V := updV (fun k => hp_v z (fs.getD k .null)) k (hp_v z v)) ⟨_, e1, q2, q3, t_set q4 hap hk (hp_v z v)⟩ (fun j _ => hp_upd hkl v j)
    · have h50 : 50 ≤ ci := h50
      omega
  rcases hlk with ⟨hfin, hlk⟩ | ⟨hfin, hown1, hM, hlk⟩
  · unfold u_lay at hlay
    rw [if_neg (by rw [hfin]; decide)] at hlay
    have h6 := u_store hfc hkC hkind hlay hi hd hnv hfv
    rcases hlk with hlk | ⟨host, hlk⟩
    · exact W.putK hx hb (f := f) ⟨hown, hts _ hlk, ⟨_, _, _, hi⟩, hst⟩ (by rw [q2]; exact h6) q1 q3 (by rw [hsl]; exact k2_hasslot (q4 k hk)) rfl rfl hdg fin
    · exact va_WputK hx hb (f := f) hown (hts _ hlk) hi hst (by rw [q2]; exact h6) q1 q3 (by rw [hsl]; exact k2_hasslot (q4 k hk)) rfl rfl hdg fin
  · unfold u_lay at hlay
    rw [if_pos hfin] at hlay
    have hcf : m.cls = cf := by
      obtain ⟨_, _, c', _, _, _, -, -, hf', -, -, -, hown2, -⟩ := Cond.laysFinal_spec hlay
      have e1 : c' = cf := by have := hi.symm.trans hf'; simp at this; exact this.1.symm
      rw [hown1] at hown2
      rw [← e1]; exact Option.some.inj (hown.symm.trans hown2)
    have h6 := u_fits hfc hkC hkind (Or.inr hlay) hi hd hnv hfv
    exact W.putFinK hx hb hown (hts _ hlk) hi hst hcf (hini hM) (by rw [q2]; exact h6) q1 q3 (by rw [hsl]; exact k2_hasslot (q4 k hk)) rfl rfl hdg fin
def sPI (ci k : Nat) (fo : jx_fR) (fv : jx_fI) : jx_fS := fun L h => (fo L h).bind fun q => (fv L q.2).bind fun w => (hp_p w.2 q.1 ci k (.int w.1)).bind fun h' => some (.inl (L, h'))
def sPZ (ci k : Nat) (fo : jx_fR) (fv : jx_fI) : jx_fS := fun L h => (fo L h).bind fun q => (fv L q.2).bind fun w => if w.1 = 0 ∨ w.1 = 1 then (hp_p w.2 q.1 ci k (.int w.1)).bind fun h' => some (.inl (L, h')) else none
def sPR (ci k : Nat) (fo : jx_fR) (fv : jx_fR) : jx_fS := fun L h => (fo L h).bind fun q => (fv L q.2).bind fun w => (hp_p w.2 q.1 ci k (.ref w.1)).bind fun h' => some (.inl (L, h'))
theorem sx_putI {M : jx_M} {pc p1 p2 index ci k : Nat} {fo : jx_fR} {fv : jx_fI} (ho : jx_ER M 0 pc p1 fo) (hv : jx_EI M 1 p1 p2 fv) (hF : jx_FP M index ci k .int) (hdg : decode M.1 p2 = .ok (.putfield index, 3)) : jx_SX M pc (p2 + 3) (sPI ci k fo fv) 0 0 := by
  intro p l e R s m args below meth c Q z D tc sc X L h o k0 n0 hf hk hn K1 K2
  obtain ⟨⟨a, h1⟩, e1, hf⟩ := Option.bind_eq_some_iff.mp hf
  obtain ⟨⟨x, h2⟩, e2, hf⟩ := Option.bind_eq_some_iff.mp hf
  obtain ⟨h3, e3, hf⟩ := Option.bind_eq_some_iff.mp hf
  cases hf
  refine ho p l e R s m args below meth c Q z D tc sc X L [] _ _ _ k0 n0 e1 jx_st0 hk hn ?_
  refine hv p l e R s m args below meth c Q z D tc sc X L [.ref a] _ _ _ k0 n0 e2 (jx_st0.cons rfl) hk hn ?_
  intro H locs ls hR hS hl
  exact jx_put (v := .int x) hF hdg X e3 rfl rfl hR hS (fun H1 locs1 r1 r2 => K1 L h3 rfl H1 locs1 ls r1 r2 hl)
theorem jx_bool {x : Int32} (h : x = 0 ∨ x = 1) : narrow .boolean (.int x) = .int x ∧ fits .boolean (.int x) = true := by
  rcases h with rfl | rfl
  · exact ⟨by decide +kernel, by decide +kernel⟩
  · exact ⟨by decide +kernel, by decide +kernel⟩
theorem sx_putZ {M : jx_M} {pc p1 p2 index ci k : Nat} {fo : jx_fR} {fv : jx_fI} (ho : jx_ER M 0 pc p1 fo) (hv : jx_EI M 1 p1 p2 fv) (hF : jx_FP M index ci k .boolean) (hdg : decode M.1 p2 = .ok (.putfield index, 3)) : jx_SX M pc (p2 + 3) (sPZ ci k fo fv) 0 0 := by
  intro p l e R s m args below meth c Q z D tc sc X L h o k0 n0 hf hk hn K1 K2
  obtain ⟨⟨a, h1⟩, e1, hf⟩ := Option.bind_eq_some_iff.mp hf
  obtain ⟨⟨x, h2⟩, e2, hf⟩ := Option.bind_eq_some_iff.mp hf
  replace hf : (if x = 0 ∨ x = 1 then (hp_p h2 a ci k (.int x)).bind fun h' => some (Sum.inl (L, h')) else none) = some o := hf
  split at hf
  · rename_i hx
    obtain ⟨h3, e3, hf⟩ := Option.bind_eq_some_iff.mp hf
    cases hf
    refine ho p l e R s m args below meth c Q z D tc sc X L [] _ _ _ k0 n0 e1 jx_st0 hk hn ?_
    refine hv p l e R s m args below meth c Q z D tc sc X L [.ref a] _ _ _ k0 n0 e2 (jx_st0.cons rfl) hk hn ?_
    intro H locs ls hR hS hl
    exact jx_put (v := .int x) hF hdg X e3 (jx_bool hx).1 (jx_bool hx).2 hR hS (fun H1 locs1 r1 r2 => K1 L h3 rfl H1 locs1 ls r1 r2 hl)
  · cases hf
theorem sx_putR {M : jx_M} {pc p1 p2 index ci k : Nat} {ty : FieldType} {fo fv : jx_fR} {mc ms : Nat} (hty : ∀ a, narrow ty (.ref a) = .ref a ∧ fits ty (.ref a) = true) (ho : jx_ER M 0 pc p1 fo) (hv : jx_ERc M 1 p1 p2 fv mc ms) (hF : jx_FP M index ci k ty) (hdg : decode M.1 p2 = .ok (.putfield index, 3)) : jx_SX M pc (p2 + 3) (sPR ci k fo fv) mc ms := by
  intro p l e R s m args below meth c Q z D tc sc X L h o k0 n0 hf hk hn K1 K2
  obtain ⟨⟨a, h1⟩, e1, hf⟩ := Option.bind_eq_some_iff.mp hf
  obtain ⟨⟨x, h2⟩, e2, hf⟩ := Option.bind_eq_some_iff.mp hf
  obtain ⟨h3, e3, hf⟩ := Option.bind_eq_some_iff.mp hf
  cases hf
  refine ho p l e R s m args below meth c Q z D tc sc X L [] _ _ _ k0 n0 e1 jx_st0 (by omega) (by omega) ?_
  refine hv p l e R s m args below meth c Q z D tc sc X L [.ref a] _ _ _ k0 n0 e2 (jx_st0.cons rfl) hk hn ?_
  intro H locs ls hR hS hl
  exact jx_put (v := .ref x) hF hdg X e3 (hty _).1 (hty _).2 hR hS (fun H1 locs1 r1 r2 => K1 L h3 rfl H1 locs1 ls r1 r2 hl)
/-- x.f op= e -/
def sPO (ci k : Nat) (op : Int32 → Int32 → Int32) (fo : jx_fR) (fe : jx_fI) : jx_fS := fun L h => (fo L h).bind fun q => match hp_g q.2 q.1 ci k with
  | some (.int v) => (fe L q.2).bind fun w => (hp_p w.2 q.1 ci k (.int (op v w.1))).bind fun h' => some (.inl (L, h'))
  | _ => none
theorem sx_putO {M : jx_M} {pc p1 p2 index ci k : Nat} {op : Int32 → Int32 → Int32} {fo : jx_fR} {fe : jx_fI} (ho : jx_ER M 0 pc p1 fo) (hd1 : decode M.1 p1 = .ok (.dup, 1)) (hL : jx_FL M.2.1 index ci k) (hd2 : decode M.1 (p1 + 1) = .ok (.getfield index, 3)) (he : jx_EI M 2 (p1 + 1 + 3) p2 fe) (hop : jx_op2 M p2 op) (hF : jx_FP M index ci k .int) (hdg : decode M.1 (p2 + 1) = .ok (.putfield index, 3)) : jx_SX M pc (p2 + 1 + 3) (sPO ci k op fo fe) 0 0 := by
  intro p l e R s m args below meth c Q z D tc sc X L h o k0 n0 hf hk hn K1 K2
  obtain ⟨⟨a, h1⟩, e1, hf⟩ := Option.bind_eq_some_iff.mp hf
  refine ho p l e R s m args below meth c Q z D tc sc X L [] _ _ _ k0 n0 e1 jx_st0 hk hn ?_
  dsimp only at hf
  split at hf
  · rename_i v hv
    obtain ⟨⟨x, h2⟩, e2, hf⟩ := Option.bind_eq_some_iff.mp hf
    obtain ⟨h3, e3, hf⟩ := Option.bind_eq_some_iff.mp hf
    cases hf
    intro H locs ls hR hS hl
    refine lv_dup X.1 X.2.1 hd1 rfl ?_
    refine jx_get hL hd2 X hv hR ?_
    refine he p l e R s m args below meth c Q z D tc sc X L [.int v, .ref a] _ _ _ k0 n0 e2 ((jx_st0.cons rfl).cons rfl) hk hn ?_ H locs ls hR hS hl
    intro H locs ls hR hS hl
    refine hop _ _ _ _ _ _ _ _ _ _ _ _ _ _ _ _ _ _ _ X.1 X.2.1 ?_
    exact jx_put (v := .int (op v x)) hF hdg X e3 rfl rfl hR hS (fun H1 locs1 r1 r2 => K1 L h3 rfl H1 locs1 ls r1 r2 hl)
  · cases hf
/-! arrays -/
def hp_w (h : hp_H) (a t : Nat) (i : Int32) (v : Value) : Option hp_H := (h[a]?).bind fun c => if c.1 = t ∧ ¬ (i < 0 ∨ c.2.length ≤ i.toNatClampNeg) then some (h.set a (t, c.2.set i.toNatClampNeg v)) else none
theorem hp_w_spec {h h' : hp_H} {a t : Nat} {i : Int32} {v : Value} (e : hp_w h a t i v = some h') : ∃ fs, h[a]? = some (t, fs) ∧ ¬ (i < 0 ∨ fs.length ≤ i.toNatClampNeg) ∧ h' = h.set a (t, fs.set i.toNatClampNeg v) := by
  obtain ⟨⟨c, fs⟩, e1, e2⟩ := Option.bind_eq_some_iff.mp e
  replace e2 : (if c = t ∧ ¬ (i < 0 ∨ fs.length ≤ i.toNatClampNeg) then some (h.set a (t, fs.set i.toNatClampNeg v)) else none) = some h' := e2
  split at e2
  · rename_i hc
    obtain ⟨rfl, h2⟩ := hc
    cases e2
    exact ⟨fs, e1, h2, rfl⟩
  · cases e2
theorem hp_arr {z : Nat} {D : va_G} {tc : Nat → ClassId} {h : hp_H} {H H1 : Heap} {a t i : Nat} {fs : List Value} {v : Value} (hR : hp_R z D tc h H) (ha : h[a]? = some (t, fs)) (ht : 50 ≤ t) (hi : i < fs.length) (e1 : H1[z + a]? = some ((arrV (tc t) fs.length (fun j => hp_v z (fs.getD j .null))).setSlot i (hp_v z v))) (e2 : H1.size = H.size) (e3 : ∀ q : Nat, q ≠ z + a → H1[q]? = H[q]?) : hp_R z D tc (h.set a (t, fs.set i v)) H1 := by
  refine hR.set (hp_lt ha) ⟨fun h50 => ?_, fun _ => ?_⟩ e2 e3
  · have h50 : t < 50 := h50
    omega
  · show H1[z + a]? = some (arrV (tc t) (fs.set i v).length _)
    rw [e1, arrV_store, List.length_set]
    congr 2
    funext j
    exact hp_upd hi v j
def sAI (fa : jx_fR) (fi fv : jx_fI) : jx_fS := fun L h => (fa L h).bind fun q => (fi L q.2).bind fun w => (fv L w.2).bind fun x => (hp_w x.2 q.1 50 w.1 (.int x.1)).bind fun h' => some (.inl (L, h'))
def sAZ (fa : jx_fR) (fi fv : jx_fI) : jx_fS := fun L h => (fa L h).bind fun q => (fi L q.2).bind fun w => (fv L w.2).bind fun x => if x.1 = 0 ∨ x.1 = 1 then (hp_w x.2 q.1 51 w.1 (.int x.1)).bind fun h' => some (.inl (L, h')) else none
theorem jx_iast {M : jx_M} {pc : Nat} (hdg : decode M.1 pc = .ok (.iastore, 1)) {p : Program} {l : Launch} {e : Env} {R : Room} {s : State} {m : MethodId} {args : Array Value} {below : List Frame} {meth : Method} {c : Code} {Q : State → Prop} {z : Nat} {D : va_G} {tc : Nat → ClassId} {sc : Option Nat} (X : jx_C M p R s m args meth c z D tc sc) {h h' : hp_H} {a : Nat} {i x : Int32} (hg : hp_w h a 50 i (.int x) = some h') {H : Heap} (hR : hp_R z D tc h H) {locs : List Loc} (hS0 : va_S (fun q => z ≤ q) s.heap H locs) {k0 n0 : Nat} {ls : Array Slot} {rest : List Value} (kk : ∀ (H1 : Heap) (locs1 : List Loc), hp_R z D tc h' H1 → va_S (fun q => z ≤ q) s.heap H1 locs1 → W p l e R s m args below meth c H1 locs1 k0 n0 Q (F0 m (pc + 1) ls rest)) : W p l e R s m args below meth c H locs k0 n0 Q (F0 m pc ls (.int x :: .int i :: .ref (z + a) :: rest)) := by
  obtain ⟨fs, g1, g2, rfl⟩ := hp_w_spec hg
  have hlt : i.toNatClampNeg < fs.length := Nat.not_le.mp fun q => g2 (Or.inr q)
  exact W.iast X.1 X.2.1 ((hR.2 a _ g1).2 (Nat.le_of_ble_eq_true rfl)) ((X.2.2.2.2.2.1.1.2 0 _ rfl).1 _ _) (fun q => by cases q) (by rw [arrV_size]; exact g2) rfl rfl hdg (fun H1 e1 e2 e3 => kk H1 _ (hp_arr (v := .int x) hR g1 (by decide) hlt e1 e2 e3) (hS0.put e2 e3 (Nat.le_add_right _ _)))
theorem sx_ast {M : jx_M} {pc p1 p2 p3 : Nat} {fa : jx_fR} {fi fv : jx_fI} (ha : jx_ER M 0 pc p1 fa) (hi : jx_EI M 1 p1 p2 fi) (hv : jx_EI M 2 p2 p3 fv) (hdg : decode M.1 p3 = .ok (.iastore, 1)) : jx_SX M pc (p3 + 1) (sAI fa fi fv) 0 0 := by
  intro p l e R s m args below meth c Q z D tc sc X L h o k0 n0 hf hk hn K1 K2
  obtain ⟨⟨a, h1⟩, e1, hf⟩ := Option.bind_eq_some_iff.mp hf
  obtain ⟨⟨i, h2⟩, e2, hf⟩ := Option.bind_eq_some_iff.mp hf
  obtain ⟨⟨x, h3⟩, e3, hf⟩ := Option.bind_eq_some_iff.mp hf
  obtain ⟨h4, e4, hf⟩ := Option.bind_eq_some_iff.mp hf
  cases hf
  refine ha p l e R s m args below meth c Q z D tc sc X L [] _ _ _ k0 n0 e1 jx_st0 hk hn ?_
  refine hi p l e R s m args below meth c Q z D tc sc X L [.ref a] _ _ _ k0 n0 e2 (jx_st0.cons rfl) hk hn ?_
  refine hv p l e R s m args below meth c Q z D tc sc X L [.int i, .ref a] _ _ _ k0 n0 e3 ((jx_st0.cons rfl).cons rfl) hk hn ?_
  intro H locs ls hR hS hl
  exact jx_iast hdg X e4 hR hS (fun H1 locs1 r1 r2 => K1 L h4 rfl H1 locs1 ls r1 r2 hl)
theorem sx_bst {M : jx_M} {pc p1 p2 p3 : Nat} {fa : jx_fR} {fi fv : jx_fI} (ha : jx_ER M 0 pc p1 fa) (hi : jx_EI M 1 p1 p2 fi) (hv : jx_EI M 2 p2 p3 fv) (hdg : decode M.1 p3 = .ok (.bastore, 1)) : jx_SX M pc (p3 + 1) (sAZ fa fi fv) 0 0 := by
  intro p l e R s m args below meth c Q z D tc sc X L h o k0 n0 hf hk hn K1 K2
  obtain ⟨⟨a, h1⟩, e1, hf⟩ := Option.bind_eq_some_iff.mp hf
  obtain ⟨⟨i, h2⟩, e2, hf⟩ := Option.bind_eq_some_iff.mp hf
  obtain ⟨⟨x, h3⟩, e3, hf⟩ := Option.bind_eq_some_iff.mp hf
  replace hf : (if x = 0 ∨ x = 1 then (hp_w h3 a 51 i (.int x)).bind fun h' => some (Sum.inl (L, h')) else none) = some o := hf
  split at hf
  · rename_i hx
    obtain ⟨h4, e4, hf⟩ := Option.bind_eq_some_iff.mp hf
    cases hf
    refine ha p l e R s m args below meth c Q z D tc sc X L [] _ _ _ k0 n0 e1 jx_st0 hk hn ?_
    refine hi p l e R s m args below meth c Q z D tc sc X L [.ref a] _ _ _ k0 n0 e2 (jx_st0.cons rfl) hk hn ?_
    refine hv p l e R s m args below meth c Q z D tc sc X L [.int i, .ref a] _ _ _ k0 n0 e3 ((jx_st0.cons rfl).cons rfl) hk hn ?_
    intro H locs ls hR hS hl
    obtain ⟨fs, g1, g2, rfl⟩ := hp_w_spec e4
    have hlt : i.toNatClampNeg < fs.length := Nat.not_le.mp fun q => g2 (Or.inr q)
    exact W.zast X.1 X.2.1 ((hR.2 a _ g1).2 (Nat.le_of_ble_eq_true rfl)) ((X.2.2.2.2.2.1.1.2 1 _ rfl).1 _ _) (fun q => by cases q) (by rw [arrV_size]; exact g2) rfl rfl hdg (fun H1 e1 e2 e3 => K1 L _ rfl H1 _ ls (hp_arr (v := .int x) hR g1 (by decide) hlt (by rw [(jx_bool hx).1] at e1; exact e1) e2 e3) (hS.put e2 e3 (Nat.le_add_right _ _)) hl)
  · cases hf
/-- a[i] op= e -/
def sAO (op : Int32 → Int32 → Int32) (fa : jx_fR) (fi fe : jx_fI) : jx_fS := fun L h => (fa L h).bind fun q => (fi L q.2).bind fun w => match hp_i w.2 q.1 50 w.1 with
  | some (.int v) => (fe L w.2).bind fun x => (hp_w x.2 q.1 50 w.1 (.int (op v x.1))).bind fun h' => some (.inl (L, h'))
  | _ => none
theorem sx_astO {M : jx_M} {pc p1 p2 p3 : Nat} {op : Int32 → Int32 → Int32} {fa : jx_fR} {fi fe : jx_fI} (ha : jx_ER M 0 pc p1 fa) (hi : jx_EI M 1 p1 p2 fi) (hd1 : decode M.1 p2 = .ok (.dup2, 1)) (hd2 : decode M.1 (p2 + 1) = .ok (.iaload, 1)) (he : jx_EI M 3 (p2 + 1 + 1) p3 fe) (hop : jx_op2 M p3 op) (hdg : decode M.1 (p3 + 1) = .ok (.iastore, 1)) : jx_SX M pc (p3 + 1 + 1) (sAO op fa fi fe) 0 0 := by
  intro p l e R s m args below meth c Q z D tc sc X L h o k0 n0 hf hk hn K1 K2
  obtain ⟨⟨a, h1⟩, e1, hf⟩ := Option.bind_eq_some_iff.mp hf
  obtain ⟨⟨i, h2⟩, e2, hf⟩ := Option.bind_eq_some_iff.mp hf
  refine ha p l e R s m args below meth c Q z D tc sc X L [] _ _ _ k0 n0 e1 jx_st0 hk hn ?_
  refine hi p l e R s m args below meth c Q z D tc sc X L [.ref a] _ _ _ k0 n0 e2 (jx_st0.cons rfl) hk hn ?_
  dsimp only at hf
  split at hf
  · rename_i v hv
    obtain ⟨⟨x, h3⟩, e3, hf⟩ := Option.bind_eq_some_iff.mp hf
    obtain ⟨h4, e4, hf⟩ := Option.bind_eq_some_iff.mp hf
    cases hf
    obtain ⟨fs, g1, g2, g3⟩ := hp_i_spec hv
    have hlt : i.toNatClampNeg < fs.length := Nat.not_le.mp fun q => g2 (Or.inr q)
    intro H locs ls hR hS hl
    refine lv_dup2_11 X.1 X.2.1 hd1 rfl rfl ?_
    refine W.iald (v := .int v) X.1 X.2.1 ((hR.2 a _ g1).2 (Nat.le_of_ble_eq_true rfl)) ((X.2.2.2.2.2.1.1.2 0 _ rfl).1 _ _) (fun q => by cases q) (by rw [arrV_size]; exact g2) (by rw [arrV_read _ _ hlt]; simp [List.getD_eq_getElem?_getD, g3, hp_v]) rfl rfl hd2 ?_
    refine he p l e R s m args below meth c Q z D tc sc X L [.int v, .int i, .ref a] _ _ _ k0 n0 e3 (((jx_st0.cons rfl).cons rfl).cons rfl) hk hn ?_ H locs ls hR hS hl
    intro H locs ls hR hS hl
    refine hop _ _ _ _ _ _ _ _ _ _ _ _ _ _ _ _ _ _ _ X.1 X.2.1 ?_
    exact jx_iast hdg X e4 hR hS (fun H1 locs1 r1 r2 => K1 L h4 rfl H1 locs1 ls r1 r2 hl)
  · cases hf
/-! answers -/
def sRI (f : jx_fI) : jx_fS := fun L h => (f L h).bind fun q => some (.inr (some (.int q.1), q.2))
def sRR (f : jx_fR) : jx_fS := fun L h => (f L h).bind fun q => some (.inr (some (.ref q.1), q.2))
def sRV : jx_fS := fun _ h => some (.inr (none, h))
theorem sx_retI {M : jx_M} {pc p1 pE : Nat} {f : jx_fI} (hf0 : jx_EI M 0 pc p1 f) (hdg : decode M.1 p1 = .ok (.ireturn, 1)) : jx_SX M pc pE (sRI f) 0 0 := by
  intro p l e R s m args below meth c Q z D tc sc X L h o k n hf hk hn K1 K2
  obtain ⟨⟨x, h1⟩, e1, hf⟩ := Option.bind_eq_some_iff.mp hf
  replace hf : some (Sum.inr (some (.int x), h1)) = some o := hf
  cases hf
  refine hf0 p l e R s m args below meth c Q z D tc sc X L [] _ _ _ k n e1 jx_st0 hk hn ?_
  intro H locs ls hR hS hl
  exact K2 _ _ rfl H locs p1 ls hR hS (by rw [X.2.1]; exact hdg)
theorem sx_retR {M : jx_M} {pc p1 pE : Nat} {f : jx_fR} (hf0 : jx_ER M 0 pc p1 f) (hdg : decode M.1 p1 = .ok (.areturn, 1)) : jx_SX M pc pE (sRR f) 0 0 := by
  intro p l e R s m args below meth c Q z D tc sc X L h o k n hf hk hn K1 K2
  obtain ⟨⟨x, h1⟩, e1, hf⟩ := Option.bind_eq_some_iff.mp hf
  replace hf : some (Sum.inr (some (.ref x), h1)) = some o := hf
  cases hf
  refine hf0 p l e R s m args below meth c Q z D tc sc X L [] _ _ _ k n e1 jx_st0 hk hn ?_
  intro H locs ls hR hS hl
  exact K2 _ _ rfl H locs p1 ls hR hS (by rw [X.2.1]; exact hdg)
theorem sx_retV {M : jx_M} {pc pE : Nat} (hdg : decode M.1 pc = .ok (.return_, 1)) : jx_SX M pc pE sRV 0 0 := by
  intro p l e R s m args below meth c Q z D tc sc X L h o k n hf hk hn K1 K2
  replace hf : some (Sum.inr (none, h)) = some o := hf
  cases hf
  intro H locs ls hR hS hl
  exact K2 _ _ rfl H locs pc ls hR hS (by rw [X.2.1]; exact hdg)
/-- an answer that nobody wants -/
def sPopI (f : jx_fI) : jx_fS := fun L h => (f L h).bind fun q => some (.inl (L, q.2))
def sPopR (f : jx_fR) : jx_fS := fun L h => (f L h).bind fun q => some (.inl (L, q.2))
theorem sx_popI {M : jx_M} {pc p1 : Nat} {f : jx_fI} (hf0 : jx_EI M 0 pc p1 f) (hdg : decode M.1 p1 = .ok (.pop, 1)) : jx_SX M pc (p1 + 1) (sPopI f) 0 0 := by
  intro p l e R s m args below meth c Q z D tc sc X L h o k n hf hk hn K1 K2
  obtain ⟨⟨x, h1⟩, e1, hf⟩ := Option.bind_eq_some_iff.mp hf
  replace hf : some (Sum.inl (L, h1)) = some o := hf
  cases hf
  refine hf0 p l e R s m args below meth c Q z D tc sc X L [] _ _ _ k n e1 jx_st0 hk hn ?_
  intro H locs ls hR hS hl
  exact lv_pop X.1 X.2.1 hdg rfl (K1 L h1 rfl H locs ls hR hS hl)
theorem sx_popR {M : jx_M} {pc p1 : Nat} {f : jx_fR} (hf0 : jx_ER M 0 pc p1 f) (hdg : decode M.1 p1 = .ok (.pop, 1)) : jx_SX M pc (p1 + 1) (sPopR f) 0 0 := by
  intro p l e R s m args below meth c Q z D tc sc X L h o k n hf hk hn K1 K2
  obtain ⟨⟨x, h1⟩, e1, hf⟩ := Option.bind_eq_some_iff.mp hf
  replace hf : some (Sum.inl (L, h1)) = some o := hf
  cases hf
  refine hf0 p l e R s m args below meth c Q z D tc sc X L [] _ _ _ k n e1 jx_st0 hk hn ?_
  intro H locs ls hR hS hl
  exact lv_pop X.1 X.2.1 hdg rfl (K1 L h1 rfl H locs ls hR hS hl)
/-! choice and loop -/
def sIf (fc : jx_fB) (f g : jx_fS) : jx_fS := fun L h => (fc L h).bind fun q => if q.1 = true then f L q.2 else g L q.2
theorem sx_ifc {M : jx_M} {pc p1 tE pE : Nat} {fc : jx_fB} {f g : jx_fS} {a1 b1 a2 b2 : Nat} (hc : jx_C2c M 0 pc p1 tE fc a1 b1) (ha : jx_SX M p1 pE f a2 b2) (hb : jx_SX M tE pE g a2 b2) : jx_SX M pc pE (sIf fc f g) (a1 + a2) (b1 + b2) := by
  intro p l e R s m args below meth c Q z D tc sc X L h o k n hf hk hn K1 K2
  obtain ⟨⟨x, h1⟩, e1, hf⟩ := Option.bind_eq_some_iff.mp hf
  replace hf : (if x = true then f L h1 else g L h1) = some o := hf
  rw [← Nat.add_assoc] at hk hn
  rw [← Nat.add_assoc, ← Nat.add_assoc] at K1 K2
  refine hc p l e R s m args below meth c Q z D tc sc X L [] _ _ _ k n e1 jx_st0 (by omega) (by omega) (fun q => ?_) (fun q => ?_)
  · rw [q] at hf
    exact ha p l e R s m args below meth c Q z D tc sc X L h1 o (k + a1) (n + b1) hf hk hn K1 K2
  · rw [q] at hf
    exact hb p l e R s m args below meth c Q z D tc sc X L h1 o (k + a1) (n + b1) hf hk hn K1 K2
theorem sx_ife {M : jx_M} {pc p1 tE pE : Nat} {fc : jx_fB} {f g : jx_fS} (hc : jx_C2 M 0 pc p1 tE fc) (ha : jx_SX M p1 pE f 0 0) (hb : jx_SX M tE pE g 0 0) : jx_SX M pc pE (sIf fc f g) 0 0 := sx_ifc hc ha hb
theorem sx_if {M : jx_M} {pc p1 pE : Nat} {fc : jx_fB} {f : jx_fS} (hc : jx_C2 M 0 pc p1 pE fc) (ha : jx_SX M p1 pE f 0 0) : jx_SX M pc pE (sIf fc f sSkip) 0 0 := sx_ifc hc ha sx_skip
def sWh (fc : jx_fB) (fb : jx_fS) : Nat → jx_fS
  | 0 => fun _ _ => none
  | N + 1 => fun L h => (fc L h).bind fun q => if q.1 = true then (fb L q.2).bind (fun o => match o with
    | .inl w => sWh fc fb N w.1 w.2
    | .inr r => some (.inr r)) else some (.inl (L, q.2))
theorem sx_whc {M : jx_M} {pc p1 pE : Nat} {fc : jx_fB} {fb : jx_fS} {a b : Nat} (hc : jx_C2 M 0 pc p1 pE fc) (hb : jx_SX M p1 pc fb a b) : ∀ N : Nat, jx_SX M pc pE (sWh fc fb N) (N * a) (N * b)
  | 0 => by
    intro p l e R s m args below meth c Q z D tc sc X L h o k n hf
    cases hf
  | N + 1 => by
    intro p l e R s m args below meth c Q z D tc sc X L h o k n hf hk hn K1 K2
    obtain ⟨⟨x, h1⟩, e1, hf⟩ := Option.bind_eq_some_iff.mp hf
    replace hf : (if x = true then (fb L h1).bind (fun o => match o with
      | .inl w => sWh fc fb N w.1 w.2
      | .inr r => some (.inr r)) else some (.inl (L, h1))) = some o := hf
    have ea : k + (N + 1) * a = k + a + N * a := by rw [Nat.add_mul, Nat.one_mul]; omega
    have eb : n + (N + 1) * b = n + b + N * b := by rw [Nat.add_mul, Nat.one_mul]; omega
    rw [ea] at hk
    rw [eb] at hn
    rw [ea, eb] at K1 K2
    refine hc p l e R s m args below meth c Q z D tc sc X L [] _ _ _ k n e1 jx_st0 (by omega) (by omega) (fun q => ?_) (fun q => ?_)
    · rw [q, if_pos rfl] at hf
      obtain ⟨o1, e2, hf⟩ := Option.bind_eq_some_iff.mp hf
      refine hb p l e R s m args below meth c Q z D tc sc X L h1 o1 k n e2 (by omega) (by omega) (fun L2 h2 q2 => ?_) (fun rv h2 q2 => ?_)
      · subst q2
        exact sx_whc hc hb N p l e R s m args below meth c Q z D tc sc X L2 h2 o (k + a) (n + b) hf hk hn K1 K2
      · subst q2
        cases hf
        exact (K2 rv h2 rfl).widen (by omega) (by omega)
    · rw [q] at hf
      cases hf
      exact (K1 L h1 rfl).widen (by omega) (by omega)
theorem sx_wh {M : jx_M} {pc p1 pE : Nat} {fc : jx_fB} {fb : jx_fS} (hc : jx_C2 M 0 pc p1 pE fc) (hb : jx_SX M p1 pc fb 0 0) (N : Nat) : jx_SX M pc pE (sWh fc fb N) 0 0 := by
  have := sx_whc hc hb N
  rwa [Nat.mul_zero] at this
/-- a switch: the cases' statements by the values from lo on; gd otherwise -/
def sSw (fe : jx_fI) (lo : Int) (gs : List jx_fS) (gd : jx_fS) : jx_fS := fun L h => (fe L h).bind fun q => (if q.1.toInt < lo then gd else gs.getD (q.1.toInt - lo).toNat gd) L q.2
theorem sx_sw {M : jx_M} {pc p1 pE len td : Nat} {fe : jx_fI} {dflt lo hi : Int} {offs : Array Int} {gs : List jx_fS} {gd : jx_fS} {mc ms : Nat} (he : jx_EI M 0 pc p1 fe) (hdg : decode M.1 p1 = .ok (.tableswitch dflt lo hi offs, len)) (hlen : hi + 1 - lo = (gs.length : Int)) (htd : (p1 : Int) + dflt = (td : Int)) (hd : jx_SX M td pE gd mc ms) (hg : ∀ (i : Nat) (f : jx_fS), gs[i]? = some f → ∃ (off : Int) (tg : Nat), offs[i]? = some off ∧ (p1 : Int) + off = (tg : Int) ∧ jx_SX M tg pE f mc ms) : jx_SX M pc pE (sSw fe lo gs gd) mc ms := by
  intro p l e R s m args below meth c Q z D tc sc X L h o k n hf hk hn K1 K2
  obtain ⟨⟨x, h1⟩, e1, hf⟩ := Option.bind_eq_some_iff.mp hf
  replace hf : (if x.toInt < lo then gd else gs.getD (x.toInt - lo).toNat gd) L h1 = some o := hf
  refine he p l e R s m args below meth c Q z D tc sc X L [] _ _ _ k n e1 jx_st0 (by omega) (by omega) ?_
  intro H locs ls hR hS hl
  by_cases h1' : x.toInt < lo
  · rw [if_pos h1'] at hf
    exact lv_tableOut X.1 X.2.1 hdg (Or.inl h1') htd (hd p l e R s m args below meth c Q z D tc sc X L h1 o k n hf hk hn K1 K2 H locs ls hR hS hl)
  · rw [if_neg h1'] at hf
    by_cases h2' : hi < x.toInt
    · have hb : gs.length ≤ (x.toInt - lo).toNat := by omega
      rw [List.getD_eq_getElem?_getD, List.getElem?_eq_none hb] at hf
      exact lv_tableOut X.1 X.2.1 hdg (Or.inr h2') htd (hd p l e R s m args below meth c Q z D tc sc X L h1 o k n hf hk hn K1 K2 H locs ls hR hS hl)
    · have hb : (x.toInt - lo).toNat < gs.length := by omega
      have hget : gs[(x.toInt - lo).toNat]? = some gs[(x.toInt - lo).toNat] := List.getElem?_eq_getElem hb
      rw [List.getD_eq_getElem?_getD, hget] at hf
      obtain ⟨off, tg, g1, g2, g3⟩ := hg _ _ hget
      exact lv_tableIn X.1 X.2.1 hdg h1' h2' g1 g2 (g3 p l e R s m args below meth c Q z D tc sc X L h1 o k n hf hk hn K1 K2 H locs ls hR hS hl)
theorem sw_nil {M : jx_M} {p1 pE : Nat} {offs : Array Int} {mc ms : Nat} {i0 : Nat} : ∀ (i : Nat) (f : jx_fS), ([] : List jx_fS)[i]? = some f → ∃ (off : Int) (tg : Nat), offs[i0 + i]? = some off ∧ (p1 : Int) + off = (tg : Int) ∧ jx_SX M tg pE f mc ms := fun i f h => by simp at h
theorem sw_cons {M : jx_M} {p1 pE : Nat} {offs : Array Int} {mc ms : Nat} {i0 tg : Nat} {off : Int} {f0 : jx_fS} {gs : List jx_fS} (h1 : offs[i0]? = some off) (h2 : (p1 : Int) + off = (tg : Int)) (h3 : jx_SX M tg pE f0 mc ms) (hr : ∀ (i : Nat) (f : jx_fS), gs[i]? = some f → ∃ (off : Int) (tg : Nat), offs[(i0 + 1) + i]? = some off ∧ (p1 : Int) + off = (tg : Int) ∧ jx_SX M tg pE f mc ms) : ∀ (i : Nat) (f : jx_fS), (f0 :: gs)[i]? = some f → ∃ (off : Int) (tg : Nat), offs[i0 + i]? = some off ∧ (p1 : Int) + off = (tg : Int) ∧ jx_SX M tg pE f mc ms
  | 0, f, h => by
    rw [List.getElem?_cons_zero] at h
    cases h
    exact ⟨off, tg, h1, h2, h3⟩
  | i + 1, f, h => by
    rw [List.getElem?_cons_succ] at h
    rw [show i0 + (i + 1) = (i0 + 1) + i by omega]
    exact hr i f h
theorem sw_done {M : jx_M} {p1 pE : Nat} {offs : Array Int} {mc ms : Nat} {gs : List jx_fS} (hr : ∀ (i : Nat) (f : jx_fS), gs[i]? = some f → ∃ (off : Int) (tg : Nat), offs[0 + i]? = some off ∧ (p1 : Int) + off = (tg : Int) ∧ jx_SX M tg pE f mc ms) : ∀ (i : Nat) (f : jx_fS), gs[i]? = some f → ∃ (off : Int) (tg : Nat), offs[i]? = some off ∧ (p1 : Int) + off = (tg : Int) ∧ jx_SX M tg pE f mc ms := fun i f h => by
  have := hr i f h
  rwa [Nat.zero_add] at this
/-! a method out of its body -/
def jx_L0 (nL : Nat) (as : List Value) : hp_L := as.map some ++ List.replicate (nL - as.length) none
def mI (nL : Nat) (body : jx_fS) : List Value → hp_H → Option (Int32 × hp_H) := fun as h => if as.length ≤ nL then (match body (jx_L0 nL as) h with
  | some (.inr (some (.int r), h')) => some (r, h')
  | _ => none) else none
def mZ (nL : Nat) (body : jx_fS) : List Value → hp_H → Option (Int32 × hp_H) := fun as h => if as.length ≤ nL then (match body (jx_L0 nL as) h with
  | some (.inr (some (.int r), h')) => if r = 0 ∨ r = 1 then some (r, h') else none
  | _ => none) else none
def mR (nL : Nat) (body : jx_fS) : List Value → hp_H → Option (Nat × hp_H) := fun as h => if as.length ≤ nL then (match body (jx_L0 nL as) h with
  | some (.inr (some (.ref r), h')) => some (r, h')
  | _ => none) else none
def mV (nL : Nat) (body : jx_fS) : List Value → hp_H → Option hp_H := fun as h => if as.length ≤ nL then (match body (jx_L0 nL as) h with
  | some (.inr (none, h')) => some h'
  | _ => none) else none
theorem jx_entry {z nL : Nat} {as : List Value} (hc : ∀ v ∈ as, v.category = 1) (hle : as.length ≤ nL) : hp_l z none nL (((as.map (hp_v z)).map Slot.val ++ List.replicate (nL - (as.map (hp_v z)).length) Slot.unset).toArray) (jx_L0 nL as) := by
  have hn2 : ∀ (i : Nat) (x : Slot), (((as.map (hp_v z)).map Slot.val ++ List.replicate (nL - (as.map (hp_v z)).length) Slot.unset).toArray)[i]? = some x → x = .unset ∨ ∃ v, x = .val v ∧ v.category = 1 := by
    intro i x hx
    rw [List.getElem?_toArray] at hx
    rcases List.mem_append.mp (List.mem_of_getElem? hx) with h | h
    · obtain ⟨w, hw, rfl⟩ := List.mem_map.mp h
      obtain ⟨v, hv, rfl⟩ := List.mem_map.mp hw
      exact Or.inr ⟨_, rfl, by rw [hp_v_cat]; exact hc v hv⟩
    · exact Or.inl (List.eq_of_mem_replicate h)
  refine ⟨by simp; omega, ⟨fun i v h h2 => ?_, fun i h => ?_⟩, fun i v h => ?_, fun b h => by cases h⟩
  · rcases hn2 _ _ h with e | ⟨w, e, hw⟩
    · cases e
    · cases e
      omega
  · rcases hn2 _ _ h with e | ⟨w, e, hw⟩
    · cases e
    · cases e
  · unfold jx_L0 at h
    by_cases hi : i < as.length
    · rw [List.getElem?_append_left (by rw [List.length_map]; exact hi), List.getElem?_map] at h
      obtain ⟨w, hw, e⟩ := Option.map_eq_some_iff.mp h
      cases e
      refine ⟨hc _ (List.mem_of_getElem? hw), ?_⟩
      rw [List.getElem?_toArray, List.getElem?_append_left (by simpa using hi), List.getElem?_map, List.getElem?_map, hw]
      rfl
    · rw [List.getElem?_append_right (by rw [List.length_map]; omega)] at h
      have := List.eq_of_mem_replicate (List.mem_of_getElem? h)
      cases this
theorem jx_cats {z : Nat} {as : List Value} (hc : ∀ v ∈ as, v.category = 1) : ∀ v ∈ as.map (hp_v z), v.category = 1 := fun v hv => by
  obtain ⟨w, hw, rfl⟩ := List.mem_map.mp hv
  rw [hp_v_cat]
  exact hc w hw
theorem hp_Rh {z : Nat} {D : va_G} {tc : Nat → ClassId} {h : hp_H} {H : Heap} {t : State} (ht : t.heap = H) (hR : hp_R z D tc h H) : hp_R z D tc h t.heap := by rw [ht]; exact hR
section JXM
variable {y : MethodName} {b : ByteArray} {nL fr lc mc ms pE : Nat} {body : jx_fS} {ini : Bool}
/-- a method's body, walked from its entry -/
theorem jx_walk {l : Launch} {ret : Option FieldType} {Qc : Array Value → State → Outcome → State → Prop} {z : Nat} {D : va_G} {tc : Nat → ClassId} {as : List Value} {h h' : hp_H} {rv : Option Value} (hy : plainName y.cls = true) (hini : ini = true → y.name = "<init>") (hb0 : jx_SX (b, y.cls, nL, fr, lc, ini, 0, fun _ => 0) 0 pE body mc ms) (hcat : ∀ v ∈ as, v.category = 1) (hle : as.length ≤ nL) (hbody : body (jx_L0 nL as) h = some (.inr (rv, h')))
    (hend : ∀ (p : Program) (e : Env) (R : Room) (s : State) (m : MethodId) (below : List Frame) (meth : Method) (c : Code), p.tables.exec = Jvm.exec → c.code = b → meth.sig.returnType = ret → meth.locks = false → jx_Rt p l e R s m (as.map (hp_v z)).toArray below meth c (MQ below Qc (as.map (hp_v z)).toArray s mc ms (fun q => z ≤ q)) z D tc rv h' mc ms) : Met l y (Cond.code y b nL ret :: jx_ws) { frames := fr, cells := mc, slots := ms, locals := lc } (jx_Pre z D tc as h) Qc mc ms (fun q => z ≤ q) := by
  refine Met.ofW (cc := b) (maxL := nL) (ret := ret) hy rfl ?_
  intro p e s m args below meth c s₁ B hml hv
  obtain ⟨rfl, hK, hR⟩ := hv
  have hts := atoms_spec (ws := Cond.code y b nL ret :: jx_ws) B.pre
  have hown : s.vm.findClass y.cls = some m.cls := findClass_of_methodNamed B.named
  have hin : meth.name = y.name := (name_of_methodNamed B.named B.method).1
  rw [entry_eq m _ (jx_cats hcat) nL]
  have X : jx_C (b, y.cls, nL, fr, lc, ini, 0, fun _ => 0) p (headSpec (Cond.code y b nL ret :: jx_ws) { frames := fr, cells := mc, slots := ms, locals := lc }).room s m (as.map (hp_v z)).toArray meth c z D tc none := ⟨B.exec, B.bytes, hml, hown, fun w hw => hts w (List.mem_cons_of_mem _ hw), hK, Nat.le_refl _, Nat.le_refl _, by rw [hR.1]; exact Nat.le_add_right _ _, fun hi => by rw [hin]; exact hini hi, fun N h => by cases h⟩
  refine hb0 p l e _ s m _ below meth c _ z D tc none X (jx_L0 nL as) h _ 0 0 hbody (by show 0 + mc ≤ mc; omega) (by show 0 + ms ≤ ms; omega) (fun L' h2 q => by cases q) (fun rv2 h2 q => ?_) s.heap [] _ hR va_S.rf (jx_entry hcat hle)
  cases q
  rw [Nat.zero_add, Nat.zero_add]
  exact hend p e _ s m below meth c B.exec B.bytes B.returns B.notSynchronized
theorem mi_of (hy : plainName y.cls = true) (hb0 : jx_SX (b, y.cls, nL, fr, lc, false, 0, fun _ => 0) 0 pE body mc ms) : jx_MI y b nL fr lc .int (mI nL body) mc ms := by
  intro l z D tc as h r h' hG hcat
  unfold mI at hG
  split at hG
  · rename_i hle
    split at hG
    · rename_i r' h'' hbody
      cases hG
      refine jx_walk hy (fun h => by cases h) hb0 hcat hle hbody ?_
      intro p e R s m below meth c hx hb hr hlk H locs pc ls hR hS hd
      exact W.iret hx hb hr (fun t ht hW => ⟨⟨_, (), rfl, rfl, hp_Rh ht hR⟩, hS.F ht⟩) hS.2.2 (by rw [← hb]; exact hd) hlk
    · cases hG
  · cases hG
theorem mz_of (hy : plainName y.cls = true) (hb0 : jx_SX (b, y.cls, nL, fr, lc, false, 0, fun _ => 0) 0 pE body mc ms) : jx_MI y b nL fr lc .boolean (mZ nL body) mc ms := by
  intro l z D tc as h r h' hG hcat
  unfold mZ at hG
  split at hG
  · rename_i hle
    split at hG
    · rename_i r' h'' hbody
      split at hG
      · rename_i hr01
        cases hG
        refine jx_walk hy (fun h => by cases h) hb0 hcat hle hbody ?_
        intro p e R s m below meth c hx hb hr hlk H locs pc ls hR hS hd
        exact W.zret hx hb hr (jx_bool hr01).1 (fun t ht hW => ⟨⟨_, (), rfl, rfl, hp_Rh ht hR⟩, hS.F ht⟩) hS.2.2 (by rw [← hb]; exact hd) hlk
      · cases hG
    · cases hG
  · cases hG
theorem mv_of (hy : plainName y.cls = true) (hini : ini = true → y.name = "<init>") (hb0 : jx_SX (b, y.cls, nL, fr, lc, ini, 0, fun _ => 0) 0 pE body mc ms) : jx_MV y b nL fr lc (mV nL body) mc ms := by
  intro l z D tc as h h' hG hcat
  unfold mV at hG
  split at hG
  · rename_i hle
    split at hG
    · rename_i h'' hbody
      cases hG
      refine jx_walk hy hini hb0 hcat hle hbody ?_
      intro p e R s m below meth c hx hb hr hlk H locs pc ls hR hS hd
      exact W.vret hx hb hr (fun t ht hW => ⟨⟨(), rfl, trivial, hp_Rh ht hR⟩, hS.F ht⟩) hS.2.2 (by rw [← hb]; exact hd) hlk
    · cases hG
  · cases hG
theorem mr_of {C : String} (hy : plainName y.cls = true) (hb0 : jx_SX (b, y.cls, nL, fr, lc, false, 0, fun _ => 0) 0 pE body mc ms) : jx_MR y b nL fr lc (.object C) (mR nL body) mc ms := by
  intro l z D tc as h r h' hG hcat
  unfold mR at hG
  split at hG
  · rename_i hle
    split at hG
    · rename_i r' h'' hbody
      cases hG
      refine jx_walk hy (fun h => by cases h) hb0 hcat hle hbody ?_
      intro p e R s m below meth c hx hb hr hlk H locs pc ls hR hS hd
      exact W.aret hx hb hr (Or.inl ⟨_, rfl⟩) (Or.inr ⟨_, rfl⟩) (fun t ht hW => ⟨⟨(), _, rfl, trivial, rfl, hp_Rh ht hR⟩, hS.F ht⟩) hS.2.2 (by rw [← hb]; exact hd) hlk
    · cases hG
  · cases hG
end JXM
end
section
/-! what is made -/
def fNew (ci : Nat) (fs0 : List Value) (g : jx_fA) (G : List Value → hp_H → Option hp_H) : jx_fR := fun L h => (g L (h ++ [(ci, fs0)])).bind fun q => (G (.ref h.length :: q.1) q.2).bind fun h' => some (h.length, h')
/-- the words and tables of a class that is made -/
def jx_NW (own : String) (index ci : Nat) (fs0 : List Value) : Prop := ∃ (C : String) (T : u_T) (N : Nat) (tt : Nat → FieldType), vwCl[ci]? = some (C, T, N) ∧ ci < 50 ∧ fs0.length = N ∧ (∀ w ∈ u_ws C T N, w ∈ jx_ws) ∧ (∀ k, k < N → parseFieldDescriptor (T k).2.2.1 = some (tt k)) ∧ (∀ k, k < N → defaultValue (tt k) = fs0.getD k .null) ∧ (∀ v ∈ fs0, v = .int 0 ∨ v = .null) ∧ Cond.classLink own index C ∈ jx_ws ∧ Cond.instantiable C N ∈ jx_ws ∧ Cond.initialized C ∈ jx_ws
theorem va_S.grow {A : Nat → Prop} {H0 H H1 : Heap} {locs : List Loc} (h : va_S A H0 H locs) (hz : H.size ≤ H1.size) (ho : ∀ q : Nat, q < H.size → H1[q]? = H[q]?) : va_S A H0 H1 locs := ⟨Nat.le_trans h.1 hz, fun q h1 h2 => (ho q (Nat.lt_of_lt_of_le h1 h.1)).trans (h.2.1 q h1 h2), h.2.2⟩
theorem er_new {M : jx_M} {d na pc p1 i1 i2 ci : Nat} {fs0 : List Value} {g : jx_fA} {y : MethodName} {b : ByteArray} {nL fr lc : Nat} {G : List Value → hp_H → Option hp_H} {mc ms : Nat} (hdn : decode M.1 pc = .ok (.new i1, 3)) (hdd : decode M.1 (pc + 3) = .ok (.dup, 1)) (hN : jx_NW M.2.1 i1 ci fs0) (hg : jx_EA M (d + 1 + 1) na (pc + 3 + 1) p1 g) (hM : jx_MV y b nL fr lc G mc ms) (w : jx_W M i2 y b nL fr lc none na) (hi : Cond.instanceMethod y ∈ jx_ws) (hy : y.name = "<init>") (hd : d + 1 ≤ 8) (hdg : decode M.1 p1 = .ok (.invokespecial i2, 3)) : jx_ERc M d pc (p1 + 3) (fNew ci fs0 g G) (1 + mc) (fs0.length + ms) := by
  intro p l e R s m args below meth c Q z D tc sc X L st h r h' k n hf hst hk hn K
  obtain ⟨⟨As, h1⟩, e1, hf⟩ := Option.bind_eq_some_iff.mp hf
  obtain ⟨h2, e2, hf⟩ := Option.bind_eq_some_iff.mp hf
  replace hf : some (h.length, h2) = some (r, h') := hf
  cases hf
  obtain ⟨C, T, N, tt, hc, hci, hle, hin, hty, hdf, hv0, w1, w2, w3⟩ := hN
  have hts := X.2.2.2.2.1
  have hK := X.2.2.2.2.2.1
  have hKn := hK.1.1 ci _ hc
  rw [← Nat.add_assoc, ← Nat.add_assoc] at K
  rw [← Nat.add_assoc] at hk hn
  intro H locs ls hR hS hl
  refine W.newcK X.1 X.2.1 X.2.2.2.1 (hts _ w1) (hts _ w2) (hts _ w3) rfl hdn (by omega) (by omega) hKn.2.1 rfl fun H1 kC hkC g1 z1 o1 => ?_
  have hR1 : hp_R z D tc (h ++ [(ci, fs0)]) H1 := by
    refine hR.push ⟨fun _ => ⟨_, hc, hle, ?_⟩, fun h50 => ?_⟩ z1 o1
    · rw [hR.1] at g1
      refine (u_born tt hts hin hKn hkC g1 hty).to (fun k hk => ?_)
      rw [hdf k hk]
      rcases hq : fs0[k]? with _ | v
      · simp [List.getD_eq_getElem?_getD, hq, hp_v]
      · rcases hv0 v (List.mem_of_getElem? hq) with rfl | rfl <;> simp [List.getD_eq_getElem?_getD, hq, hp_v]
    · have h50 : 50 ≤ ci := h50
      omega
  have hS1 : va_S (fun q => z ≤ q) s.heap H1 locs := hS.grow (by omega) o1
  refine lv_dup X.1 X.2.1 hdd rfl ?_
  rw [hR.1]
  rw [← hle]
  refine hg p l e R s m args below meth c Q z D tc sc X L (.ref h.length :: .ref h.length :: st) _ _ _ (k + 1) (n + fs0.length) e1 ((hst.cons rfl).cons rfl) (by omega) (by omega) (fun hle2 hcat => ?_) H1 locs ls hR1 hS1 hl
  intro H locs ls hR hS hl
  have est : (As.reverse ++ .ref h.length :: .ref h.length :: st).map (hp_v z) = (As.map (hp_v z)).reverse ++ .ref (z + h.length) :: (.ref h.length :: st).map (hp_v z) := by
    simp [List.map_append, List.map_reverse, hp_v]
  rw [est]
  refine va_callv (jx_runI (As := As.map (hp_v z)) X w hi hy (hM l z D tc (.ref h.length :: As) _ _ e2 (fun v hv => by
    rcases List.mem_cons.mp hv with rfl | hv
    · rfl
    · exact hcat v hv)) ⟨jx_blind, jx_pre hK hR⟩ (by rw [List.length_map]; exact hle2) hl.1 (jx_room (hst.cons (v := .ref h.length) rfl) hd) hdg ⟨by omega, by omega⟩) hS (fun q _ hq => hq) (fun q hq => hq) (fun u t H1 locs1 ht hvm hpost hB hz1 hk1 hS1 => ?_)
  subst ht
  exact K _ locs1 ls hB hS1 hl
def fNA (t N : Nat) (v0 : Value) : jx_fR := fun _ h => some (h.length, h ++ [(t, List.replicate N v0)])
theorem hp_repl {z N : Nat} {v0 : Value} (h0 : hp_v z v0 = v0) {cA : ClassId} : arrV cA N (fun _ => v0) = arrV cA (List.replicate N v0).length (fun j => hp_v z ((List.replicate N v0).getD j .null)) := by
  rw [List.length_replicate]
  unfold arrV
  congr 1
  apply congrArg
  funext j
  have : (List.replicate N v0)[j.val]? = some v0 := by rw [List.getElem?_replicate, if_pos j.isLt]
  simp [List.getD_eq_getElem?_getD, this, h0]
theorem er_newi {M : jx_M} {d pc p1 N : Nat} {x : Int32} (hs : jx_EI M d pc p1 (fI x)) (hx : ¬ x < 0) (hN : x.toNatClampNeg = N) (hsm : N * 4 ≤ 536870912) (hw : Cond.arrayClass .int ∈ jx_ws) (hdg : decode M.1 p1 = .ok (.newarray .int, 2)) : jx_ERc M d pc (p1 + 2) (fNA 50 N (.int 0)) 1 N := by
  intro p l e R s m args below meth c Q z D tc sc X L st h r h' k n hf hst hk hn K
  replace hf : some (h.length, h ++ [(50, List.replicate N (Value.int 0))]) = some (r, h') := hf
  cases hf
  refine hs p l e R s m args below meth c Q z D tc sc X L st h x h k n rfl hst (by omega) (by omega) ?_
  intro H locs ls hR hS hl
  refine va_newaK (atype := .int) X.1 X.2.1 (X.2.2.2.2.1 _ hw) rfl hdg rfl hx hN hsm hk hn rfl (fun H1 cA g1 z1 o1 _ hcA => ?_)
  have hcA : cA = tc 50 := Option.some.inj (hcA.symm.trans (X.2.2.2.2.2.1.1.2 0 _ rfl).2)
  subst hcA
  rw [hR.1] at g1 ⊢
  refine K H1 locs ls (hR.push ⟨fun h50 => ?_, fun _ => ?_⟩ z1 o1) (hS.grow (by omega) o1) hl
  · have h50 : 50 < 50 := h50
    omega
  · rw [g1]
    exact congrArg some (hp_repl (v0 := .int 0) rfl)
theorem er_newz {M : jx_M} {d pc p1 N : Nat} {x : Int32} (hs : jx_EI M d pc p1 (fI x)) (hx : ¬ x < 0) (hN : x.toNatClampNeg = N) (hsm : N * 1 ≤ 536870912) (hw : Cond.arrayClass .boolean ∈ jx_ws) (hdg : decode M.1 p1 = .ok (.newarray .boolean, 2)) : jx_ERc M d pc (p1 + 2) (fNA 51 N (.int 0)) 1 N := by
  intro p l e R s m args below meth c Q z D tc sc X L st h r h' k n hf hst hk hn K
  replace hf : some (h.length, h ++ [(51, List.replicate N (Value.int 0))]) = some (r, h') := hf
  cases hf
  refine hs p l e R s m args below meth c Q z D tc sc X L st h x h k n rfl hst (by omega) (by omega) ?_
  intro H locs ls hR hS hl
  refine va_newaK (atype := .boolean) X.1 X.2.1 (X.2.2.2.2.1 _ hw) rfl hdg rfl hx hN hsm hk hn rfl (fun H1 cA g1 z1 o1 _ hcA => ?_)
  have hcA : cA = tc 51 := Option.some.inj (hcA.symm.trans (X.2.2.2.2.2.1.1.2 1 _ rfl).2)
  subst hcA
  rw [hR.1] at g1 ⊢
  refine K H1 locs ls (hR.push ⟨fun h50 => ?_, fun _ => ?_⟩ z1 o1) (hS.grow (by omega) o1) hl
  · have h50 : 51 < 50 := h50
    omega
  · rw [g1]
    exact congrArg some (hp_repl (v0 := .int 0) rfl)
theorem er_newq {M : jx_M} {d pc p1 N t index : Nat} {C : String} {x : Int32} (ht : t = 52 ∧ C = "StationLine$Datagram" ∨ t = 53 ∧ C = "StationLine$Station") (hs : jx_EI M d pc p1 (fI x)) (hx : ¬ x < 0) (hN : x.toNatClampNeg = N) (hsm : N * 4 ≤ 536870912) (hw1 : Cond.classLink M.2.1 index C ∈ jx_ws) (hdg : decode M.1 p1 = .ok (.anewarray index, 3)) : jx_ERc M d pc (p1 + 3) (fNA t N .null) 1 N := by
  intro p l e R s m args below meth c Q z D tc sc X L st h r h' k n hf hst hk hn K
  replace hf : some (h.length, h ++ [(t, List.replicate N Value.null)]) = some (r, h') := hf
  cases hf
  refine hs p l e R s m args below meth c Q z D tc sc X L st h x h k n rfl hst (by omega) (by omega) ?_
  intro H locs ls hR hS hl
  subst hN
  have hAO : (Cond.arrayOver (.object C)).before args s = true := by
    rcases ht with ⟨-, rfl⟩ | ⟨-, rfl⟩
    · exact X.2.2.2.2.2.1.2.2.1
    · exact X.2.2.2.2.2.1.2.2.2.1
  refine W.anew X.1 X.2.1 X.2.2.2.1 (X.2.2.2.2.1 _ hw1) hAO rfl hdg rfl hx hsm hk hn (fun cA kA comp q1 q2 q3 q4 => ?_)
  have ht50 : 50 ≤ t := by rcases ht with ⟨rfl, -⟩ | ⟨rfl, -⟩ <;> decide
  have hcA : cA = tc t := by
    rcases ht with ⟨rfl, rfl⟩ | ⟨rfl, rfl⟩
    · obtain ⟨_, _, _, _, _, h4⟩ := (X.2.2.2.2.2.1.1.2 2 _ rfl).2
      exact Option.some.inj (q1.symm.trans h4)
    · obtain ⟨_, _, _, _, _, h4⟩ := (X.2.2.2.2.2.1.1.2 3 _ rfl).2
      exact Option.some.inj (q1.symm.trans h4)
  subst hcA
  rw [arrV_new]
  have o1 : ∀ q : Nat, q < H.size → (H.push (arrV (tc t) x.toNatClampNeg (fun _ => .null)))[q]? = H[q]? := fun q hq => by
    rw [Array.getElem?_push, if_neg (Nat.ne_of_lt hq)]
  have z1 : (H.push (arrV (tc t) x.toNatClampNeg (fun _ => .null))).size = H.size + 1 := by simp
  have e0 : H.size = z + h.length := hR.1
  have := K _ locs ls (hR.push ⟨fun h50 => ?_, fun _ => ?_⟩ z1 o1) (hS.grow (by omega) o1) hl
  · rw [e0]
    exact this
  · have h50 : t < 50 := h50
    omega
  · rw [← e0]
    simp only [Array.getElem?_push, if_pos]
    exact congrArg some (hp_repl (v0 := .null) rfl)
/-! an object put into an array of its class -/
def sAR (t : Nat) (fa : jx_fR) (fi : jx_fI) (fv : jx_fR) (ci : Nat) : jx_fS := fun L h => (fa L h).bind fun q => (fi L q.2).bind fun w => (fv L w.2).bind fun x => if hp_k x.2 x.1 = some ci then (hp_w x.2 q.1 t w.1 (.ref x.1)).bind fun h' => some (.inl (L, h')) else none
theorem sx_aast {M : jx_M} {pc p1 p2 p3 t t0 ci : Nat} {C : String} {fa fv : jx_fR} {fi : jx_fI} {mc ms : Nat} (ht : t = 52 ∧ C = "StationLine$Datagram" ∧ t0 = 2 ∨ t = 53 ∧ C = "StationLine$Station" ∧ t0 = 3) (hci : jx_cl ci C) (ha : jx_ER M 0 pc p1 fa) (hi : jx_EI M 1 p1 p2 fi) (hv : jx_ERc M 2 p2 p3 fv mc ms) (hdg : decode M.1 p3 = .ok (.aastore, 1)) : jx_SX M pc (p3 + 1) (sAR t fa fi fv ci) mc ms := by
  intro p l e R s m args below meth c Q z D tc sc X L h o k0 n0 hf hk hn K1 K2
  obtain ⟨⟨a, h1⟩, e1, hf⟩ := Option.bind_eq_some_iff.mp hf
  obtain ⟨⟨i, h2⟩, e2, hf⟩ := Option.bind_eq_some_iff.mp hf
  obtain ⟨⟨x, h3⟩, e3, hf⟩ := Option.bind_eq_some_iff.mp hf
  replace hf : (if hp_k h3 x = some ci then (hp_w h3 a t i (.ref x)).bind fun h' => some (Sum.inl (L, h')) else none) = some o := hf
  split at hf
  · rename_i hx
    obtain ⟨h4, e4, hf⟩ := Option.bind_eq_some_iff.mp hf
    cases hf
    refine ha p l e R s m args below meth c Q z D tc sc X L [] _ _ _ k0 n0 e1 jx_st0 (by omega) (by omega) ?_
    refine hi p l e R s m args below meth c Q z D tc sc X L [.ref a] _ _ _ k0 n0 e2 (jx_st0.cons rfl) (by omega) (by omega) ?_
    refine hv p l e R s m args below meth c Q z D tc sc X L [.int i, .ref a] _ _ _ k0 n0 e3 ((jx_st0.cons rfl).cons rfl) hk hn ?_
    intro H locs ls hR hS hl
    obtain ⟨fs, g1, g2, rfl⟩ := hp_w_spec e4
    obtain ⟨fv0, gx⟩ := hp_k_spec hx
    have hlt : i.toNatClampNeg < fs.length := Nat.not_le.mp fun q => g2 (Or.inr q)
    have h0 : ¬ i < 0 := fun q => g2 (Or.inl q)
    obtain ⟨hci, T, N, hc⟩ := hci
    have hK := X.2.2.2.2.2.1
    obtain ⟨r, r1, r2, cellV, v1, v2, v3, -⟩ := (hR.2 x _ gx).1 hci
    have hcls := (hK.1.1 ci _ hc).2
    have hRA : ∃ (kA : Class) (comp : ClassId), s.vm.classes[tc t]? = some kA ∧ kA.kind = .array comp (.object C) ∧ s.vm.findClass C = some comp := by
      rcases ht with ⟨rfl, rfl, rfl⟩ | ⟨rfl, rfl, rfl⟩
      · obtain ⟨kA, comp, k1, k2, k3, -⟩ := (hK.1.2 2 _ rfl).2
        exact ⟨kA, comp, k1, k2, k3⟩
      · obtain ⟨kA, comp, k1, k2, k3, -⟩ := (hK.1.2 3 _ rfl).2
        exact ⟨kA, comp, k1, k2, k3⟩
    obtain ⟨kA, comp, k1, k2, k3⟩ := hRA
    have hcomp : comp = D.1 ci := Option.some.inj (k3.symm.trans hcls.1)
    subst hcomp
    obtain ⟨kC, hkC, -⟩ := hcls.2
    have ht50 : 50 ≤ t := by rcases ht with ⟨rfl, -⟩ | ⟨rfl, -⟩ <;> decide
    exact W.aast X.1 X.2.1 ((hR.2 a _ g1).2 ht50) (fun q h => by cases h) (fun h => by cases h) k1 k2 rfl hkC ⟨h0, by rw [arrV_size]; exact hlt⟩ v1 (fun q h => by rw [v3] at h; cases h) (by rw [v2]; exact hkC) (by rw [v2]; exact va_assign hcls) rfl rfl hdg (fun H1 e1 e2 e3 => K1 L _ rfl H1 _ ls (hp_arr (v := .ref x) hR g1 ht50 hlt e1 e2 e3) (hS.put e2 e3 (Nat.le_add_right _ _)) hl)
  · cases hf
/-! Object's constructor; Math; System.arraycopy -/
def sObj : jx_fS := fun L h => match L[0]? with
  | some (some (Value.ref _)) => some (.inl (L, h))
  | _ => none
theorem sx_obj {M : jx_M} {pc idx : Nat} (h0 : decode M.1 pc = .ok (.aload_n 0, 1)) (hdg : decode M.1 (pc + 1) = .ok (.invokespecial idx, 3)) (w1 : Cond.methodLink M.2.1 idx objectInit ∈ jx_ws) (w2 : Cond.instanceMethod objectInit ∈ jx_ws) (w3 : Cond.code objectInit ⟨#[0xb1]⟩ 1 none ∈ jx_ws) (hfr : 1 ≤ M.2.2.2.1) (hlo : 12 ≤ M.2.2.2.2.1) : jx_SX M pc (pc + 1 + 3) sObj 0 0 := by
  intro p l e R s m args below meth c Q z D tc sc X L h o k n hf hk hn K1 K2
  unfold sObj at hf
  split at hf
  · rename_i a ha
    cases hf
    intro H locs ls hR hS hl
    have f1 := X.2.2.2.2.2.2.1
    have f2 := X.2.2.2.2.2.2.2.1
    refine lv_aload_n (i := 0) X.1 X.2.1 h0 rfl (hp_ref hl ha) ?_
    refine W.objInit X.1 X.2.1 X.2.2.2.1 (X.2.2.2.2.1 _ w1) (X.2.2.2.2.1 _ w2) (X.2.2.2.2.1 _ w3) rfl (by rw [X.2.2.1]; exact hl.1) rfl hdg (by omega) (by show 2 * 0 + 0 + 12 ≤ _; omega) ?_
    exact K1 L h rfl H locs ls hR hS hl
  · cases hf
/-! new int[N][K]: the outer array, then the rows -/
def fNM (N K : Nat) : jx_fR := fun _ h => some (h.length, h ++ ((54, (List.range N).map (fun i => Value.ref (h.length + 1 + i))) :: List.replicate N (50, List.replicate K (Value.int 0))))
theorem hp_outer (c : ClassId) (N h0 : Nat) : ∀ i : Nat, Jvm.Free.Multi.outerC c N h0 i = arrV c N (fun j => if j < i then .ref (h0 + 1 + j) else .null)
  | 0 => by
    show ({ cls := c, slots := Array.replicate N .null, vm := .none } : Cell) = _
    rw [arrV_new]
    refine congrArg (arrV c N) (funext fun j => ?_)
    simp
  | i + 1 => by
    show (Jvm.Free.Multi.outerC c N h0 i).setSlot i (.ref (h0 + 1 + i)) = _
    rw [hp_outer c N h0 i, arrV_store]
    refine congrArg (arrV c N) (funext fun j => ?_)
    by_cases e : j = i
    · subst e
      simp [updV]
    · by_cases h : j < i
      · simp [updV, e, h, Nat.lt_succ_of_lt h]
      · simp [updV, e, h, show ¬ j < i + 1 by omega]
theorem er_newm {M : jx_M} {d pc p1 p2 index N K : Nat} {n k : Int32} (hn0 : jx_EI M d pc p1 (fI n)) (hk0 : jx_EI M (d + 1) p1 p2 (fI k)) (hw : Cond.classLink M.2.1 index "[[I" ∈ jx_ws) (hdg : decode M.1 p2 = .ok (.multianewarray index 2, 4)) (hn : ¬ n < 0) (hk : ¬ k < 0) (hN : n.toNatClampNeg = N) (hK : k.toNatClampNeg = K) (hb1 : N * 4 ≤ 536870912) (hb2 : K * 4 ≤ 536870912) : jx_ERc M d pc (p2 + 4) (fNM N K) (1 + N) (N + N * K) := by
  intro p l e R s m args below meth c Q z D tc sc X L st h r h' k1 n1 hf hst hcl hsl Kk
  replace hf : some (h.length, h ++ ((54, (List.range N).map (fun i => Value.ref (h.length + 1 + i))) :: List.replicate N (50, List.replicate K (Value.int 0)))) = some (r, h') := hf
  cases hf
  refine hn0 p l e R s m args below meth c Q z D tc sc X L st _ _ _ k1 n1 rfl hst (by omega) (by omega) ?_
  refine hk0 p l e R s m args below meth c Q z D tc sc X L (.int n :: st) _ _ _ k1 n1 rfl (hst.cons rfl) (by omega) (by omega) ?_
  intro H locs ls hR hS hl
  subst hN
  subst hK
  intro T hT Xs
  have hts := X.2.2.2.2.1
  obtain ⟨vm₁, cA, comp, -, fA, fC, -, -, X', step⟩ := Xs.multianewarray2F (ty := .int) X.1 X.2.2.2.1 (hts _ hw) X.2.2.2.2.2.1.2.2.2.2 (hts _ jw_ai) (g := F0 m p2 ls (.int k :: .int n :: st.map (hp_v z))) rfl (by rw [X.2.1]; exact hdg) rfl hn hk hb1 hb2 (by omega) rfl rfl hcl hsl
  have eA : cA = tc 54 := Option.some.inj (fA.symm.trans (X.2.2.2.2.2.1.1.2 4 _ rfl).2)
  have eC : comp = tc 50 := Option.some.inj (fC.symm.trans (X.2.2.2.2.2.1.1.2 0 _ rfl).2)
  subst eA
  subst eC
  have hTh : (T.setVm vm₁).heap = H := hT
  obtain ⟨f1, f2, -, -⟩ := Jvm.Free.Multi.fill_facts (T.setVm vm₁) (tc 54) (tc 50) n.toNatClampNeg k.toNatClampNeg (defaultValue .int) n.toNatClampNeg
  have hold : ∀ x : Nat, x < H.size → (Jvm.Free.Multi.fill (T.setVm vm₁) (tc 54) (tc 50) n.toNatClampNeg k.toNatClampNeg (defaultValue .int) n.toNatClampNeg).heap[x]? = H[x]? := fun x hx => by
    have := Jvm.Free.Multi.fill_old (T.setVm vm₁) (tc 54) (tc 50) n.toNatClampNeg k.toNatClampNeg (defaultValue .int) (a := x) (by rw [hTh]; exact hx) n.toNatClampNeg
    rw [hTh] at this
    exact this
  have hrow : ∀ j : Nat, j < n.toNatClampNeg → (Jvm.Free.Multi.fill (T.setVm vm₁) (tc 54) (tc 50) n.toNatClampNeg k.toNatClampNeg (defaultValue .int) n.toNatClampNeg).heap[H.size + 1 + j]? = some (Jvm.Free.Multi.innerC (tc 50) k.toNatClampNeg (defaultValue .int)) := fun j hj => by
    have := Jvm.Free.Multi.fill_inner (T.setVm vm₁) (tc 54) (tc 50) n.toNatClampNeg k.toNatClampNeg (defaultValue .int) n.toNatClampNeg j hj
    rw [hTh] at this
    exact this
  rw [hTh] at f1 f2
  rw [hp_outer] at f2
  generalize Jvm.Free.Multi.fill (T.setVm vm₁) (tc 54) (tc 50) n.toNatClampNeg k.toNatClampNeg (defaultValue .int) n.toNatClampNeg = F at *
  have hz : F.heap.size = H.size + 1 + n.toNatClampNeg := by omega
  have hR1 : hp_R z D tc (h ++ ((54, (List.range n.toNatClampNeg).map (fun i => Value.ref (h.length + 1 + i))) :: List.replicate n.toNatClampNeg (50, List.replicate k.toNatClampNeg (Value.int 0)))) F.heap := by
    refine ⟨?_, fun i x hx => ?_⟩
    · rw [hz, hR.1, List.length_append, List.length_cons, List.length_replicate]
      omega
    · by_cases hi : i < h.length
      · rw [List.getElem?_append_left hi] at hx
        exact (hR.2 i x hx).kept (hold _ (by rw [hR.1]; omega))
      · rw [List.getElem?_append_right (by omega)] at hx
        cases hj : i - h.length with
        | zero =>
          rw [hj, List.getElem?_cons_zero] at hx
          cases hx
          refine ⟨fun q => absurd (show 54 < 50 from q) (by decide), fun _ => ?_⟩
          rw [show z + i = H.size by rw [hR.1]; omega, f2]
          show some (arrV _ _ _) = some (arrV _ _ _)
          rw [List.length_map, List.length_range]
          unfold arrV
          congr 2
          apply congrArg
          funext q
          have : ((List.range n.toNatClampNeg).map (fun i => Value.ref (h.length + 1 + i)))[q.val]? = some (Value.ref (h.length + 1 + q.val)) := by
            rw [List.getElem?_map, List.getElem?_range q.isLt]
            rfl
          dsimp only
          rw [List.getD_eq_getElem?_getD, this, if_pos q.isLt, hR.1]
          exact congrArg Value.ref (show z + h.length + 1 + q.val = z + (h.length + 1 + q.val) by omega)
        | succ j =>
          rw [hj, List.getElem?_cons_succ] at hx
          have hjl : j < n.toNatClampNeg := by
            have := (List.getElem?_eq_some_iff.mp hx).1
            rwa [List.length_replicate] at this
          rw [List.getElem?_replicate, if_pos hjl] at hx
          cases hx
          refine ⟨fun q => absurd (show 50 < 50 from q) (by decide), fun _ => ?_⟩
          rw [show z + i = H.size + 1 + j by rw [hR.1]; omega, hrow j hjl]
          show some ({ cls := tc 50, slots := Array.replicate k.toNatClampNeg (.int 0), vm := .none } : Cell) = _
          rw [arrV_new]
          exact congrArg some (hp_repl (v0 := .int 0) rfl)
  have hW := Kk F.heap locs ls hR1 (hS.grow (by omega) hold) hl
  obtain ⟨t, a1, b1⟩ := hW F rfl (by
    rw [show k1 + 0 + 1 + n.toNatClampNeg = k1 + (1 + n.toNatClampNeg) by omega, show n1 + 0 + n.toNatClampNeg + n.toNatClampNeg * k.toNatClampNeg = n1 + (n.toNatClampNeg + n.toNatClampNeg * k.toNatClampNeg) by omega] at X'
    exact X')
  have hsz : T.heap.size = z + h.length := by rw [hT]; exact hR.1
  rw [hsz] at step
  exact ⟨t, step t a1, b1⟩
end
section
/-! Math.min, Math.max -/
def jMin (x y : Int32) : Int32 := if y < x then y else x
def jMax (x y : Int32) : Int32 := if x < y then y else x
theorem ei_min {M : jx_M} {d pc p1 p2 index : Nat} {fa fb : jx_fI} (ha : jx_EI M d pc p1 fa) (hb : jx_EI M (d + 1) p1 p2 fb) (w : Cond.methodLink M.2.1 index Lib.Math.min.name ∈ jx_ws ∧ Cond.static Lib.Math.min.name ∈ jx_ws ∧ Cond.initialized "java/lang/Math" ∈ jx_ws ∧ Cond.code Lib.Math.min.name Lib.Math.min.code 2 (some .int) ∈ jx_ws) (hr : 1 ≤ M.2.2.2.1 ∧ d + 13 ≤ M.2.2.2.2.1) (hdg : decode M.1 p2 = .ok (.invokestatic index, 3)) : jx_EI M d pc (p2 + 3) (fB jMin fa fb) := by
  intro p l e R s m args below meth c Q z D tc sc X L st h r h' k n hf hst hk hn K
  obtain ⟨⟨x, h1⟩, e1, hf⟩ := Option.bind_eq_some_iff.mp hf
  obtain ⟨⟨y, h2⟩, e2, hf⟩ := Option.bind_eq_some_iff.mp hf
  replace hf : some (jMin x y, h2) = some (r, h') := hf
  cases hf
  refine ha p l e R s m args below meth c Q z D tc sc X L st _ _ _ k n e1 hst hk hn ?_
  refine hb p l e R s m args below meth c Q z D tc sc X L (.int x :: st) _ _ _ k n e2 (hst.cons rfl) hk hn ?_
  intro H locs ls hR hS hl
  have hts := X.2.2.2.2.1
  have f1 := X.2.2.2.2.2.2.1
  have f2 := X.2.2.2.2.2.2.2.1
  exact va_mmin X.1 X.2.1 (by rw [X.2.2.1]; exact hl.1.symm) X.2.2.2.1 (hts _ w.1) (hts _ w.2.1) (hts _ w.2.2.1) (hts _ w.2.2.2) (by omega) (by rw [hp_vs_cat z st hst.2, hst.1]; omega) hk hn hdg (K H locs ls hR hS hl)
theorem ei_max {M : jx_M} {d pc p1 p2 index : Nat} {fa fb : jx_fI} (ha : jx_EI M d pc p1 fa) (hb : jx_EI M (d + 1) p1 p2 fb) (w : Cond.methodLink M.2.1 index Lib.Math.max.name ∈ jx_ws ∧ Cond.static Lib.Math.max.name ∈ jx_ws ∧ Cond.initialized "java/lang/Math" ∈ jx_ws ∧ Cond.code Lib.Math.max.name Lib.Math.max.code 2 (some .int) ∈ jx_ws) (hr : 1 ≤ M.2.2.2.1 ∧ d + 13 ≤ M.2.2.2.2.1) (hdg : decode M.1 p2 = .ok (.invokestatic index, 3)) : jx_EI M d pc (p2 + 3) (fB jMax fa fb) := by
  intro p l e R s m args below meth c Q z D tc sc X L st h r h' k n hf hst hk hn K
  obtain ⟨⟨x, h1⟩, e1, hf⟩ := Option.bind_eq_some_iff.mp hf
  obtain ⟨⟨y, h2⟩, e2, hf⟩ := Option.bind_eq_some_iff.mp hf
  replace hf : some (jMax x y, h2) = some (r, h') := hf
  cases hf
  refine ha p l e R s m args below meth c Q z D tc sc X L st _ _ _ k n e1 hst hk hn ?_
  refine hb p l e R s m args below meth c Q z D tc sc X L (.int x :: st) _ _ _ k n e2 (hst.cons rfl) hk hn ?_
  intro H locs ls hR hS hl
  have hts := X.2.2.2.2.1
  have f1 := X.2.2.2.2.2.2.1
  have f2 := X.2.2.2.2.2.2.2.1
  exact va_mmax X.1 X.2.1 (by rw [X.2.2.1]; exact hl.1.symm) X.2.2.2.1 (hts _ w.1) (hts _ w.2.1) (hts _ w.2.2.1) (hts _ w.2.2.2) (by omega) (by rw [hp_vs_cat z st hst.2, hst.1]; omega) hk hn hdg (K H locs ls hR hS hl)
/-! System.arraycopy of ints -/
def hp_isI (v : Value) : Bool := match v with
  | .int _ => true
  | _ => false
def hp_cpl (f g : List Value) (sp dp n : Nat) : List Value := (List.range g.length).map (va_cpy (fun j => f.getD j .null) (fun j => g.getD j .null) sp dp n)
def hp_cp (h : hp_H) (a0 : Nat) (sp : Int32) (a1 : Nat) (dp n : Int32) : Option hp_H := (h[a0]?).bind fun c0 => (h[a1]?).bind fun c1 =>
  if c0.1 = 50 ∧ c1.1 = 50 ∧ ¬ sp < 0 ∧ ¬ dp < 0 ∧ ¬ n < 0 ∧ sp.toNatClampNeg + n.toNatClampNeg ≤ c0.2.length ∧ dp.toNatClampNeg + n.toNatClampNeg ≤ c1.2.length ∧ c0.2.all hp_isI = true then some (h.set a1 (50, hp_cpl c0.2 c1.2 sp.toNatClampNeg dp.toNatClampNeg n.toNatClampNeg)) else none
def sCopy (g : jx_fA) : jx_fS := fun L h => (g L h).bind fun q => match q.1 with
  | [.ref a0, .int sp, .ref a1, .int dp, .int n] => (hp_cp q.2 a0 sp a1 dp n).bind fun h' => some (.inl (L, h'))
  | _ => none
theorem hp_cpv {z : Nat} {f g : List Value} {sp dp n : Nat} {cA : ClassId} (h1 : sp + n ≤ f.length) (h2 : dp + n ≤ g.length) : arrV cA g.length (va_cpy (fun j => hp_v z (f.getD j .null)) (fun j => hp_v z (g.getD j .null)) sp dp n) = arrV cA (hp_cpl f g sp dp n).length (fun j => hp_v z ((hp_cpl f g sp dp n).getD j .null)) := by
  unfold hp_cpl
  rw [List.length_map, List.length_range]
  unfold arrV
  congr 1
  apply congrArg
  funext j
  have : ((List.range g.length).map (va_cpy (fun j => f.getD j .null) (fun j => g.getD j .null) sp dp n))[j.val]? = some (va_cpy (fun j => f.getD j .null) (fun j => g.getD j .null) sp dp n j.val) := by
    rw [List.getElem?_map, List.getElem?_range j.isLt]
    rfl
  dsimp only
  rw [List.getD_eq_getElem?_getD, this]
  unfold va_cpy
  by_cases h : dp ≤ j.val ∧ j.val < dp + n
  · simp [h]
  · simp [h]
theorem jx_nn (z : Int32) (hz : ¬ z < 0) : z.toInt = (z.toNatClampNeg : Int) := by
  have hz0 : (0 : Int) ≤ z.toInt := by
    have := Int32.not_lt.mp hz
    simpa using Int32.le_iff_toInt_le.mp this
  show z.toInt = ((z.toInt.toNat : Nat) : Int)
  omega
theorem sx_copy {M : jx_M} {pc p1 index : Nat} {g : jx_fA} (hg : jx_EA M 0 5 pc p1 g) (w : Cond.methodLink M.2.1 index arraycopyName ∈ jx_ws ∧ Cond.native arraycopyName ∈ jx_ws ∧ Cond.static arraycopyName ∈ jx_ws ∧ Cond.initialized "java/lang/System" ∈ jx_ws) (hr : 1 ≤ M.2.2.2.1 ∧ nativeFrameWords "java/lang/System" "arraycopy" 5 + 11 ≤ M.2.2.2.2.1) (hdg : decode M.1 p1 = .ok (.invokestatic index, 3)) : jx_SX M pc (p1 + 3) (sCopy g) 0 0 := by
  intro p l e R s m args below meth c Q z D tc sc X L h o k0 n0 hf hk hn K1 K2
  obtain ⟨⟨vs, h1⟩, e1, hf⟩ := Option.bind_eq_some_iff.mp hf
  refine hg p l e R s m args below meth c Q z D tc sc X L [] _ _ _ k0 n0 e1 jx_st0 hk hn (fun _ _ => ?_)
  dsimp only at hf
  split at hf
  · rename_i a0 sp a1 dp n hx1 hx2
    obtain ⟨h2, e2, hf⟩ := Option.bind_eq_some_iff.mp hf
    cases hf
    obtain ⟨⟨t0, f⟩, q0, e3⟩ := Option.bind_eq_some_iff.mp e2
    clear e2
    obtain ⟨⟨t1, g1⟩, q1, e4⟩ := Option.bind_eq_some_iff.mp e3
    clear e3
    dsimp only at e4
    split at e4
    · rename_i hc
      obtain ⟨rfl, rfl, c1, c2, c3, c4, c5, c6⟩ := hc
      cases e4
      intro H locs ls hR hS hl
      have hts := X.2.2.2.2.1
      have f1 := X.2.2.2.2.2.2.1
      have f2 := X.2.2.2.2.2.2.2.1
      have hK := X.2.2.2.2.2.1
      have hc0 := (hR.2 a0 _ q0).2 (Nat.le_of_ble_eq_true rfl)
      have hc1 := (hR.2 a1 _ q1).2 (Nat.le_of_ble_eq_true rfl)
      intro T hT XS
      obtain ⟨-, k0', hk0, cm0, hkk0⟩ := (hK.1.2 0 _ rfl).1 f.length (fun j => hp_v z (f.getD j .null))
      obtain ⟨-, k1', hk1, cm1, hkk1⟩ := (hK.1.2 0 _ rfl).1 g1.length (fun j => hp_v z (g1.getD j .null))
      obtain ⟨vm', X', step⟩ := XS.arraycopy X.1 X.2.2.2.1 (hts _ w.1) (hts _ w.2.1) (hts _ w.2.2.1) (hts _ w.2.2.2) (src := z + a0) (dst := z + a1) (cs := arrV (tc 50) f.length (fun j => hp_v z (f.getD j .null))) (cd := arrV (tc 50) g1.length (fun j => hp_v z (g1.getD j .null))) (srcPos := sp) (destPos := dp) (n := n) (by rw [hT]; exact hc0) (by rw [hT]; exact hc1)
        (fun _ h => by cases h) (fun _ h => by cases h) (fun h => by cases h) (fun h => by cases h) hk0 hk1 hkk0 hkk1 (by rfl) c1 c2 c3
        (by rw [jx_nn sp c1, jx_nn n c3, arrV_size]; omega)
        (by rw [jx_nn dp c2, jx_nn n c3, arrV_size]; omega)
        (fun vm₁ _ i hi => by
          have hlt : sp.toNatClampNeg + i < f.length := by omega
          have e9 : f[sp.toNatClampNeg + i]? = some f[sp.toNatClampNeg + i] := List.getElem?_eq_getElem hlt
          have e8 : hp_isI f[sp.toNatClampNeg + i] = true := List.all_eq_true.mp c6 _ (List.getElem_mem hlt)
          have e7 : (arrV (tc 50) f.length (fun j => hp_v z (f.getD j .null))).slots.getD (sp.toNatClampNeg + i) .null = hp_v z f[sp.toNatClampNeg + i] := by
            rw [Array.getD_eq_getD_getElem?, arrV_read _ _ hlt]
            simp [List.getD_eq_getElem?_getD, e9]
          rw [e7]
          unfold hp_isI at e8
          split at e8
          · rename_i x hx
            rw [hx]
            exact ⟨rfl, trivial⟩
          · cases e8)
        (g := F0 m p1 ls [.int n, .int dp, .ref (z + a1), .int sp, .ref (z + a0)]) rfl (by rw [X.2.2.1]; exact hl.1) (rest := []) rfl (by rw [X.2.1]; exact hdg) (by omega) (by show 2 * 0 + 0 + _ ≤ _; omega)
      have e1 : copied (arrV (tc 50) f.length (fun j => hp_v z (f.getD j .null))) (arrV (tc 50) g1.length (fun j => hp_v z (g1.getD j .null))) sp dp n = arrV (tc 50) (hp_cpl f g1 sp.toNatClampNeg dp.toNatClampNeg n.toNatClampNeg).length (fun j => hp_v z ((hp_cpl f g1 sp.toNatClampNeg dp.toNatClampNeg n.toNatClampNeg).getD j .null)) := (va_copied (fun z => z) (tc 50) (tc 50) _ _ c4).trans (hp_cpv c4 c5)
      rw [e1] at X' step
      have hlt : z + a1 < H.size := (Array.getElem?_eq_some_iff.mp hc1).1
      have hheap : ((T.setVm vm').setCell (z + a1) (arrV (tc 50) (hp_cpl f g1 sp.toNatClampNeg dp.toNatClampNeg n.toNatClampNeg).length (fun j => hp_v z ((hp_cpl f g1 sp.toNatClampNeg dp.toNatClampNeg n.toNatClampNeg).getD j .null)))).heap = H.setIfInBounds (z + a1) (arrV (tc 50) (hp_cpl f g1 sp.toNatClampNeg dp.toNatClampNeg n.toNatClampNeg).length (fun j => hp_v z ((hp_cpl f g1 sp.toNatClampNeg dp.toNatClampNeg n.toNatClampNeg).getD j .null))) := by rw [← hT]; rfl
      have oq : ∀ q : Nat, q ≠ z + a1 → (H.setIfInBounds (z + a1) (arrV (tc 50) (hp_cpl f g1 sp.toNatClampNeg dp.toNatClampNeg n.toNatClampNeg).length (fun j => hp_v z ((hp_cpl f g1 sp.toNatClampNeg dp.toNatClampNeg n.toNatClampNeg).getD j .null))))[q]? = H[q]? := fun q hq => by simp [Array.getElem?_setIfInBounds, Ne.symm hq]
      obtain ⟨t, a1', b1⟩ := K1 L _ rfl (H.setIfInBounds (z + a1) (arrV (tc 50) (hp_cpl f g1 sp.toNatClampNeg dp.toNatClampNeg n.toNatClampNeg).length (fun j => hp_v z ((hp_cpl f g1 sp.toNatClampNeg dp.toNatClampNeg n.toNatClampNeg).getD j .null)))) _ ls (hR.set (hp_lt q1) ⟨fun h50 => absurd (show 50 < 50 from h50) (by decide), fun _ => by simp [Array.getElem?_setIfInBounds, hlt]⟩ (by simp) oq) ⟨by simp; exact hS.1, fun q g1 g2 => by
          rw [oq q (fun e => g2 (by rw [e]; exact Nat.le_add_right _ _))]
          exact hS.2.1 q g1 g2, fun q hq => by
          rcases List.mem_append.mp hq with h | h
          · exact hS.2.2 q h
          · obtain ⟨z', -, hz⟩ := List.mem_map.mp h
            rw [← hz]
            exact Nat.le_add_right _ _⟩ hl _ hheap X'
      exact ⟨t, step t a1', b1⟩
    · cases e4
  · cases hf
/-! the law's script, in its local 0 -/
def fScN (N : Nat) : jx_fI := fun _ h => some (Int32.ofNat N, h)
def fSk (N : Nat) (xs : Nat → Int32) (i : Nat) (v : Int32) : jx_fI := fun L h => match L[i]? with
  | some (some (.int x)) => if ¬ (x + v < 0 ∨ N ≤ (x + v).toNatClampNeg) then some (xs (x + v).toNatClampNeg, h) else none
  | _ => none
def fSc0 (N : Nat) (xs : Nat → Int32) (i : Nat) : jx_fI := fun L h => match L[i]? with
  | some (some (.int x)) => if ¬ (x < 0 ∨ N ≤ x.toNatClampNeg) then some (xs x.toNatClampNeg, h) else none
  | _ => none
theorem ei_scn {M : jx_M} {d pc N : Nat} (hN : M.2.2.2.2.2.2.1 = N + 1) (h0 : decode M.1 pc = .ok (.aload_n 0, 1)) (hdg : decode M.1 (pc + 1) = .ok (.arraylength, 1)) : jx_EI M d pc (pc + 1 + 1) (fScN N) := by
  intro p l e R s m args below meth c Q z D tc sc X L st h r h' k n hf hst hk hn K H locs ls hR hS hl
  replace hf : some (Int32.ofNat N, h) = some (r, h') := hf
  cases hf
  obtain ⟨b, rfl, hX, hbz⟩ := X.2.2.2.2.2.2.2.2.2.2 N hN
  refine lv_aload_n (i := 0) X.1 X.2.1 h0 rfl (hl.2.2.2 b rfl) ?_
  exact va_slen (A := fun q => z ≤ q) X.1 X.2.1 hX (Nat.lt_of_lt_of_le hbz X.2.2.2.2.2.2.2.2.1) (fun h => by have h : z ≤ b := h; omega) hS hdg (K H locs ls hR hS hl)
theorem ei_sc0 {M : jx_M} {d pc N i : Nat} {j : Fin 4} (hN : M.2.2.2.2.2.2.1 = N + 1) (h0 : decode M.1 pc = .ok (.aload_n 0, 1)) (h1 : decode M.1 (pc + 1) = .ok (.iload_n j, 1)) (hj : (j : Nat) = i) (hdg : decode M.1 (pc + 1 + 1) = .ok (.iaload, 1)) : jx_EI M d pc (pc + 1 + 1 + 1) (fSc0 N M.2.2.2.2.2.2.2 i) := by
  intro p l e R s m args below meth c Q z D tc sc X L st h r h' k n hf hst hk hn K H locs ls hR hS hl
  obtain ⟨b, rfl, hX, hbz⟩ := X.2.2.2.2.2.2.2.2.2.2 N hN
  unfold fSc0 at hf
  split at hf
  · rename_i x hx
    split at hf
    · rename_i hin
      cases hf
      refine lv_aload_n (i := 0) X.1 X.2.1 h0 rfl (hl.2.2.2 b rfl) ?_
      refine lv_iload_n X.1 X.2.1 h1 hj (hp_int hl hx) ?_
      exact va_sld (A := fun q => z ≤ q) X.1 X.2.1 hX (Nat.lt_of_lt_of_le hbz X.2.2.2.2.2.2.2.2.1) (fun h => by have h : z ≤ b := h; omega) hS hin hdg (K H locs ls hR hS hl)
    · cases hf
  · cases hf
theorem ei_sck {M : jx_M} {d pc N i : Nat} {j : Fin 4} {v : Int} {w : Int32} (hN : M.2.2.2.2.2.2.1 = N + 1) (h0 : decode M.1 pc = .ok (.aload_n 0, 1)) (h1 : decode M.1 (pc + 1) = .ok (.iload_n j, 1)) (hj : (j : Nat) = i) (h2 : decode M.1 (pc + 1 + 1) = .ok (.iconst v, 1)) (hw : Int32.ofInt v = w) (h3 : decode M.1 (pc + 1 + 1 + 1) = .ok (.iadd, 1)) (hdg : decode M.1 (pc + 1 + 1 + 1 + 1) = .ok (.iaload, 1)) : jx_EI M d pc (pc + 1 + 1 + 1 + 1 + 1) (fSk N M.2.2.2.2.2.2.2 i w) := by
  intro p l e R s m args below meth c Q z D tc sc X L st h r h' k n hf hst hk hn K H locs ls hR hS hl
  obtain ⟨b, rfl, hX, hbz⟩ := X.2.2.2.2.2.2.2.2.2.2 N hN
  unfold fSk at hf
  split at hf
  · rename_i x hx
    split at hf
    · rename_i hin
      cases hf
      refine lv_aload_n (i := 0) X.1 X.2.1 h0 rfl (hl.2.2.2 b rfl) ?_
      refine lv_iload_n X.1 X.2.1 h1 hj (hp_int hl hx) ?_
      refine lv_iconst X.1 X.2.1 h2 hw ?_
      refine lv_iadd X.1 X.2.1 h3 ?_
      exact va_sld (A := fun q => z ≤ q) X.1 X.2.1 hX (Nat.lt_of_lt_of_le hbz X.2.2.2.2.2.2.2.2.1) (fun h => by have h : z ≤ b := h; omega) hS hin hdg (K H locs ls hR hS hl)
    · cases hf
  · cases hf
end
section
theorem cl_D : jx_cl 0 "StationLine$Datagram" := ⟨by decide, _, _, rfl⟩
theorem cl_F : jx_cl 1 "StationLine$Frame" := ⟨by decide, _, _, rfl⟩
theorem cl_I : jx_cl 2 "StationLine$Image" := ⟨by decide, _, _, rfl⟩
theorem cl_N : jx_cl 3 "StationLine$Line" := ⟨by decide, _, _, rfl⟩
theorem cl_B : jx_cl 4 "StationLine$MappedBits" := ⟨by decide, _, _, rfl⟩
theorem cl_E : jx_cl 5 "StationLine$Memory" := ⟨by decide, _, _, rfl⟩
theorem cl_S : jx_cl 6 "StationLine$Station" := ⟨by decide, _, _, rfl⟩
theorem cl_L : jx_cl 7 "StationLine" := ⟨by decide, _, _, rfl⟩
theorem cl_R : jx_cl 8 "StationLineModel" := ⟨by decide, _, _, rfl⟩
theorem fl_B_21 : jx_FL "StationLine$MappedBits" 21 0 3 := ⟨_, _, _, rfl, by decide, by decide, in_D, Or.inl w_195⟩
theorem fl_B_27 : jx_FL "StationLine$MappedBits" 27 4 0 := ⟨_, _, _, rfl, by decide, by decide, in_B, Or.inl w_197⟩
theorem fl_B_32 : jx_FL "StationLine$MappedBits" 32 4 1 := ⟨_, _, _, rfl, by decide, by decide, in_B, Or.inl w_191⟩
theorem fl_B_35 : jx_FL "StationLine$MappedBits" 35 4 2 := ⟨_, _, _, rfl, by decide, by decide, in_B, Or.inl w_192⟩
theorem fl_B_9 : jx_FL "StationLine$MappedBits" 9 0 1 := ⟨_, _, _, rfl, by decide, by decide, in_D, Or.inl w_193⟩
theorem fl_E_17 : jx_FL "StationLine$Memory" 17 5 1 := ⟨_, _, _, rfl, by decide, by decide, in_E, Or.inl w_47⟩
theorem fl_E_20 : jx_FL "StationLine$Memory" 20 5 2 := ⟨_, _, _, rfl, by decide, by decide, in_E, Or.inl w_48⟩
theorem fl_E_23 : jx_FL "StationLine$Memory" 23 5 3 := ⟨_, _, _, rfl, by decide, by decide, in_E, Or.inl w_49⟩
theorem fl_E_27 : jx_FL "StationLine$Memory" 27 5 4 := ⟨_, _, _, rfl, by decide, by decide, in_E, Or.inl w_50⟩
theorem fl_E_30 : jx_FL "StationLine$Memory" 30 5 5 := ⟨_, _, _, rfl, by decide, by decide, in_E, Or.inl w_51⟩
theorem fl_E_33 : jx_FL "StationLine$Memory" 33 5 6 := ⟨_, _, _, rfl, by decide, by decide, in_E, Or.inl w_52⟩
theorem fl_E_9 : jx_FL "StationLine$Memory" 9 5 0 := ⟨_, _, _, rfl, by decide, by decide, in_E, Or.inl w_45⟩
theorem fl_F_11 : jx_FL "StationLine$Frame" 11 1 0 := ⟨_, _, _, rfl, by decide, by decide, in_F, Or.inl w_6⟩
theorem fl_F_18 : jx_FL "StationLine$Frame" 18 1 1 := ⟨_, _, _, rfl, by decide, by decide, in_F, Or.inl w_81⟩
theorem fl_F_31 : jx_FL "StationLine$Frame" 31 0 3 := ⟨_, _, _, rfl, by decide, by decide, in_D, Or.inl w_85⟩
theorem fl_F_34 : jx_FL "StationLine$Frame" 34 0 4 := ⟨_, _, _, rfl, by decide, by decide, in_D, Or.inl w_86⟩
theorem fl_F_37 : jx_FL "StationLine$Frame" 37 0 5 := ⟨_, _, _, rfl, by decide, by decide, in_D, Or.inl w_87⟩
theorem fl_I_15 : jx_FL "StationLine$Image" 15 2 1 := ⟨_, _, _, rfl, by decide, by decide, in_I, Or.inl w_13⟩
theorem fl_I_18 : jx_FL "StationLine$Image" 18 2 2 := ⟨_, _, _, rfl, by decide, by decide, in_I, Or.inl w_14⟩
theorem fl_I_21 : jx_FL "StationLine$Image" 21 2 3 := ⟨_, _, _, rfl, by decide, by decide, in_I, Or.inl w_15⟩
theorem fl_I_24 : jx_FL "StationLine$Image" 24 2 4 := ⟨_, _, _, rfl, by decide, by decide, in_I, Or.inl w_16⟩
theorem fl_I_27 : jx_FL "StationLine$Image" 27 2 5 := ⟨_, _, _, rfl, by decide, by decide, in_I, Or.inl w_330⟩
theorem fl_I_31 : jx_FL "StationLine$Image" 31 2 6 := ⟨_, _, _, rfl, by decide, by decide, in_I, Or.inl w_331⟩
theorem fl_I_40 : jx_FL "StationLine$Image" 40 6 0 := ⟨_, _, _, rfl, by decide, by decide, in_S, Or.inl w_351⟩
theorem fl_I_45 : jx_FL "StationLine$Image" 45 6 1 := ⟨_, _, _, rfl, by decide, by decide, in_S, Or.inl w_352⟩
theorem fl_I_9 : jx_FL "StationLine$Image" 9 2 0 := ⟨_, _, _, rfl, by decide, by decide, in_I, Or.inl w_12⟩
theorem fl_L_102 : jx_FL "StationLine" 102 6 1 := ⟨_, _, _, rfl, by decide, by decide, in_S, Or.inl w_324⟩
theorem fl_L_105 : jx_FL "StationLine" 105 6 2 := ⟨_, _, _, rfl, by decide, by decide, in_S, Or.inl w_325⟩
theorem fl_L_108 : jx_FL "StationLine" 108 6 0 := ⟨_, _, _, rfl, by decide, by decide, in_S, Or.inl w_326⟩
theorem fl_L_111 : jx_FL "StationLine" 111 6 3 := ⟨_, _, _, rfl, by decide, by decide, in_S, Or.inl w_327⟩
theorem fl_L_114 : jx_FL "StationLine" 114 6 4 := ⟨_, _, _, rfl, by decide, by decide, in_S, Or.inl w_328⟩
theorem fl_L_118 : jx_FL "StationLine" 118 5 0 := ⟨_, _, _, rfl, by decide, by decide, in_E, Or.inl w_329⟩
theorem fl_L_12 : jx_FL "StationLine" 12 7 0 := ⟨_, _, _, rfl, by decide, by decide, in_L, Or.inl w_28⟩
theorem fl_L_124 : jx_FL "StationLine" 124 7 5 := ⟨_, _, _, rfl, by decide, by decide, in_L, Or.inl w_337⟩
theorem fl_L_145 : jx_FL "StationLine" 145 2 6 := ⟨_, _, _, rfl, by decide, by decide, in_I, Or.inl w_369⟩
theorem fl_L_146 : jx_FL "StationLine" 146 2 0 := ⟨_, _, _, rfl, by decide, by decide, in_I, Or.inl w_370⟩
theorem fl_L_165 : jx_FL "StationLine" 165 2 1 := ⟨_, _, _, rfl, by decide, by decide, in_I, Or.inl w_382⟩
theorem fl_L_168 : jx_FL "StationLine" 168 0 3 := ⟨_, _, _, rfl, by decide, by decide, in_D, Or.inl w_383⟩
theorem fl_L_179 : jx_FL "StationLine" 179 2 2 := ⟨_, _, _, rfl, by decide, by decide, in_I, Or.inl w_346⟩
theorem fl_L_185 : jx_FL "StationLine" 185 2 3 := ⟨_, _, _, rfl, by decide, by decide, in_I, Or.inl w_350⟩
theorem fl_L_19 : jx_FL "StationLine" 19 7 1 := ⟨_, _, _, rfl, by decide, by decide, in_L, Or.inl w_34⟩
theorem fl_L_26 : jx_FL "StationLine" 26 7 2 := ⟨_, _, _, rfl, by decide, by decide, in_L, Or.inl w_41⟩
theorem fl_L_30 : jx_FL "StationLine" 30 7 3 := ⟨_, _, _, rfl, by decide, by decide, in_L, Or.inl w_42⟩
theorem fl_L_33 : jx_FL "StationLine" 33 3 2 := ⟨_, _, _, rfl, by decide, by decide, in_N, Or.inl w_73⟩
theorem fl_L_37 : jx_FL "StationLine" 37 3 0 := ⟨_, _, _, rfl, by decide, by decide, in_N, Or.inl w_74⟩
theorem fl_L_46 : jx_FL "StationLine" 46 1 1 := ⟨_, _, _, rfl, by decide, by decide, in_F, Or.inl w_92⟩
theorem fl_L_62 : jx_FL "StationLine" 62 1 0 := ⟨_, _, _, rfl, by decide, by decide, in_F, Or.inl w_110⟩
theorem fl_L_66 : jx_FL "StationLine" 66 0 5 := ⟨_, _, _, rfl, by decide, by decide, in_D, Or.inl w_111⟩
theorem fl_L_76 : jx_FL "StationLine" 76 7 4 := ⟨_, _, _, rfl, by decide, by decide, in_L, Or.inl w_246⟩
theorem fl_L_83 : jx_FL "StationLine" 83 0 4 := ⟨_, _, _, rfl, by decide, by decide, in_D, Or.inl w_248⟩
theorem fl_L_86 : jx_FL "StationLine" 86 0 1 := ⟨_, _, _, rfl, by decide, by decide, in_D, Or.inl w_249⟩
theorem fl_L_92 : jx_FL "StationLine" 92 3 1 := ⟨_, _, _, rfl, by decide, by decide, in_N, Or.inl w_254⟩
theorem fl_N_11 : jx_FL "StationLine$Line" 11 3 0 := ⟨_, _, _, rfl, by decide, by decide, in_N, Or.inl w_19⟩
theorem fl_N_17 : jx_FL "StationLine$Line" 17 3 1 := ⟨_, _, _, rfl, by decide, by decide, in_N, Or.inl w_20⟩
theorem fl_N_21 : jx_FL "StationLine$Line" 21 3 3 := ⟨_, _, _, rfl, by decide, by decide, in_N, Or.inl w_21⟩
theorem fl_N_25 : jx_FL "StationLine$Line" 25 3 2 := ⟨_, _, _, rfl, by decide, by decide, in_N, Or.inl w_112⟩
theorem fl_N_32 : jx_FL "StationLine$Line" 32 1 1 := ⟨_, _, _, rfl, by decide, by decide, in_F, Or.inl w_236⟩
theorem fl_N_37 : jx_FL "StationLine$Line" 37 1 0 := ⟨_, _, _, rfl, by decide, by decide, in_F, Or.inl w_237⟩
theorem fl_R_102 : jx_FL "StationLineModel" 102 8 39 := ⟨_, _, _, rfl, by decide, by decide, in_R, Or.inl w_416⟩
theorem fl_R_105 : jx_FL "StationLineModel" 105 8 40 := ⟨_, _, _, rfl, by decide, by decide, in_R, Or.inl w_417⟩
theorem fl_R_108 : jx_FL "StationLineModel" 108 8 0 := ⟨_, _, _, rfl, by decide, by decide, in_R, Or.inl w_418⟩
theorem fl_R_13 : jx_FL "StationLineModel" 13 8 2 := ⟨_, _, _, rfl, by decide, by decide, in_R, Or.inl w_387⟩
theorem fl_R_16 : jx_FL "StationLineModel" 16 8 3 := ⟨_, _, _, rfl, by decide, by decide, in_R, Or.inl w_388⟩
theorem fl_R_168 : jx_FL "StationLineModel" 168 8 30 := ⟨_, _, _, rfl, by decide, by decide, in_R, Or.inl w_484⟩
theorem fl_R_172 : jx_FL "StationLineModel" 172 8 31 := ⟨_, _, _, rfl, by decide, by decide, in_R, Or.inl w_485⟩
theorem fl_R_185 : jx_FL "StationLineModel" 185 8 19 := ⟨_, _, _, rfl, by decide, by decide, in_R, Or.inl w_503⟩
theorem fl_R_191 : jx_FL "StationLineModel" 191 8 20 := ⟨_, _, _, rfl, by decide, by decide, in_R, Or.inl w_508⟩
theorem fl_R_197 : jx_FL "StationLineModel" 197 8 18 := ⟨_, _, _, rfl, by decide, by decide, in_R, Or.inl w_534⟩
theorem fl_R_20 : jx_FL "StationLineModel" 20 8 4 := ⟨_, _, _, rfl, by decide, by decide, in_R, Or.inl w_389⟩
theorem fl_R_23 : jx_FL "StationLineModel" 23 8 5 := ⟨_, _, _, rfl, by decide, by decide, in_R, Or.inl w_390⟩
theorem fl_R_241 : jx_FL "StationLineModel" 241 8 32 := ⟨_, _, _, rfl, by decide, by decide, in_R, Or.inl w_539⟩
theorem fl_R_244 : jx_FL "StationLineModel" 244 8 33 := ⟨_, _, _, rfl, by decide, by decide, in_R, Or.inl w_525⟩
theorem fl_R_247 : jx_FL "StationLineModel" 247 8 34 := ⟨_, _, _, rfl, by decide, by decide, in_R, Or.inl w_529⟩
theorem fl_R_26 : jx_FL "StationLineModel" 26 8 6 := ⟨_, _, _, rfl, by decide, by decide, in_R, Or.inl w_391⟩
theorem fl_R_29 : jx_FL "StationLineModel" 29 8 7 := ⟨_, _, _, rfl, by decide, by decide, in_R, Or.inl w_392⟩
theorem fl_R_32 : jx_FL "StationLineModel" 32 8 8 := ⟨_, _, _, rfl, by decide, by decide, in_R, Or.inl w_393⟩
theorem fl_R_35 : jx_FL "StationLineModel" 35 8 9 := ⟨_, _, _, rfl, by decide, by decide, in_R, Or.inl w_394⟩
theorem fl_R_38 : jx_FL "StationLineModel" 38 8 10 := ⟨_, _, _, rfl, by decide, by decide, in_R, Or.inl w_395⟩
theorem fl_R_41 : jx_FL "StationLineModel" 41 8 11 := ⟨_, _, _, rfl, by decide, by decide, in_R, Or.inl w_396⟩
theorem fl_R_44 : jx_FL "StationLineModel" 44 8 12 := ⟨_, _, _, rfl, by decide, by decide, in_R, Or.inl w_397⟩
theorem fl_R_47 : jx_FL "StationLineModel" 47 8 13 := ⟨_, _, _, rfl, by decide, by decide, in_R, Or.inl w_398⟩
theorem fl_R_50 : jx_FL "StationLineModel" 50 8 14 := ⟨_, _, _, rfl, by decide, by decide, in_R, Or.inl w_399⟩
theorem fl_R_53 : jx_FL "StationLineModel" 53 8 15 := ⟨_, _, _, rfl, by decide, by decide, in_R, Or.inl w_400⟩
theorem fl_R_56 : jx_FL "StationLineModel" 56 8 16 := ⟨_, _, _, rfl, by decide, by decide, in_R, Or.inl w_401⟩
theorem fl_R_59 : jx_FL "StationLineModel" 59 8 17 := ⟨_, _, _, rfl, by decide, by decide, in_R, Or.inl w_402⟩
theorem fl_R_62 : jx_FL "StationLineModel" 62 8 21 := ⟨_, _, _, rfl, by decide, by decide, in_R, Or.inl w_403⟩
theorem fl_R_66 : jx_FL "StationLineModel" 66 8 22 := ⟨_, _, _, rfl, by decide, by decide, in_R, Or.inl w_404⟩
theorem fl_R_69 : jx_FL "StationLineModel" 69 8 23 := ⟨_, _, _, rfl, by decide, by decide, in_R, Or.inl w_405⟩
theorem fl_R_7 : jx_FL "StationLineModel" 7 8 1 := ⟨_, _, _, rfl, by decide, by decide, in_R, Or.inl w_386⟩
theorem fl_R_72 : jx_FL "StationLineModel" 72 8 24 := ⟨_, _, _, rfl, by decide, by decide, in_R, Or.inl w_406⟩
theorem fl_R_75 : jx_FL "StationLineModel" 75 8 25 := ⟨_, _, _, rfl, by decide, by decide, in_R, Or.inl w_407⟩
theorem fl_R_78 : jx_FL "StationLineModel" 78 8 26 := ⟨_, _, _, rfl, by decide, by decide, in_R, Or.inl w_408⟩
theorem fl_R_81 : jx_FL "StationLineModel" 81 8 27 := ⟨_, _, _, rfl, by decide, by decide, in_R, Or.inl w_409⟩
theorem fl_R_84 : jx_FL "StationLineModel" 84 8 28 := ⟨_, _, _, rfl, by decide, by decide, in_R, Or.inl w_410⟩
theorem fl_R_87 : jx_FL "StationLineModel" 87 8 29 := ⟨_, _, _, rfl, by decide, by decide, in_R, Or.inl w_411⟩
theorem fl_R_90 : jx_FL "StationLineModel" 90 8 35 := ⟨_, _, _, rfl, by decide, by decide, in_R, Or.inl w_412⟩
theorem fl_R_93 : jx_FL "StationLineModel" 93 8 36 := ⟨_, _, _, rfl, by decide, by decide, in_R, Or.inl w_413⟩
theorem fl_R_96 : jx_FL "StationLineModel" 96 8 37 := ⟨_, _, _, rfl, by decide, by decide, in_R, Or.inl w_414⟩
theorem fl_R_99 : jx_FL "StationLineModel" 99 8 38 := ⟨_, _, _, rfl, by decide, by decide, in_R, Or.inl w_415⟩
theorem fl_S_130 : jx_FL "StationLine$Station" 130 5 7 := ⟨_, _, _, rfl, by decide, by decide, in_E, Or.inl w_285⟩
theorem fl_S_146 : jx_FL "StationLine$Station" 146 5 8 := ⟨_, _, _, rfl, by decide, by decide, in_E, Or.inl w_267⟩
theorem fl_S_149 : jx_FL "StationLine$Station" 149 5 9 := ⟨_, _, _, rfl, by decide, by decide, in_E, Or.inl w_268⟩
theorem fl_S_15 : jx_FL "StationLine$Station" 15 6 3 := ⟨_, _, _, rfl, by decide, by decide, in_S, Or.inl w_55⟩
theorem fl_S_156 : jx_FL "StationLine$Station" 156 5 3 := ⟨_, _, _, rfl, by decide, by decide, in_E, Or.inl w_265⟩
theorem fl_S_171 : jx_FL "StationLine$Station" 171 5 2 := ⟨_, _, _, rfl, by decide, by decide, in_E, Or.inl w_266⟩
theorem fl_S_21 : jx_FL "StationLine$Station" 21 6 4 := ⟨_, _, _, rfl, by decide, by decide, in_S, Or.inl w_61⟩
theorem fl_S_28 : jx_FL "StationLine$Station" 28 6 5 := ⟨_, _, _, rfl, by decide, by decide, in_S, Or.inl w_67⟩
theorem fl_S_32 : jx_FL "StationLine$Station" 32 6 6 := ⟨_, _, _, rfl, by decide, by decide, in_S, Or.inl w_68⟩
theorem fl_S_35 : jx_FL "StationLine$Station" 35 6 7 := ⟨_, _, _, rfl, by decide, by decide, in_S, Or.inl w_69⟩
theorem fl_S_38 : jx_FL "StationLine$Station" 38 6 0 := ⟨_, _, _, rfl, by decide, by decide, in_S, Or.inl w_70⟩
theorem fl_S_42 : jx_FL "StationLine$Station" 42 6 1 := ⟨_, _, _, rfl, by decide, by decide, in_S, Or.inl w_71⟩
theorem fl_S_45 : jx_FL "StationLine$Station" 45 5 0 := ⟨_, _, _, rfl, by decide, by decide, in_E, Or.inl w_72⟩
theorem fl_S_48 : jx_FL "StationLine$Station" 48 0 0 := ⟨_, _, _, rfl, by decide, by decide, in_D, Or.inl w_178⟩
theorem fl_S_53 : jx_FL "StationLine$Station" 53 0 1 := ⟨_, _, _, rfl, by decide, by decide, in_D, Or.inl w_222⟩
theorem fl_S_64 : jx_FL "StationLine$Station" 64 0 2 := ⟨_, _, _, rfl, by decide, by decide, in_D, Or.inl w_176⟩
theorem fl_S_67 : jx_FL "StationLine$Station" 67 0 3 := ⟨_, _, _, rfl, by decide, by decide, in_D, Or.inl w_177⟩
theorem fl_S_70 : jx_FL "StationLine$Station" 70 5 4 := ⟨_, _, _, rfl, by decide, by decide, in_E, Or.inl w_179⟩
theorem fl_S_73 : jx_FL "StationLine$Station" 73 0 5 := ⟨_, _, _, rfl, by decide, by decide, in_D, Or.inl w_180⟩
theorem fl_S_74 : jx_FL "StationLine$Station" 74 5 5 := ⟨_, _, _, rfl, by decide, by decide, in_E, Or.inl w_181⟩
theorem fl_S_81 : jx_FL "StationLine$Station" 81 0 4 := ⟨_, _, _, rfl, by decide, by decide, in_D, Or.inl w_186⟩
theorem fl_S_9 : jx_FL "StationLine$Station" 9 6 2 := ⟨_, _, _, rfl, by decide, by decide, in_S, Or.inl w_54⟩
abbrev M_D_init : jx_M := (prog_2_method_1_code, "StationLine$Datagram", 1, 1, 12, true, 0, fun _ => 0)
abbrev M_F_init : jx_M := (prog_3_method_1_code, "StationLine$Frame", 2, 2, 32, true, 0, fun _ => 0)
abbrev M_I_init : jx_M := (prog_4_method_1_code, "StationLine$Image", 1, 1, 12, true, 0, fun _ => 0)
abbrev M_N_init : jx_M := (prog_5_method_1_code, "StationLine$Line", 1, 1, 12, true, 0, fun _ => 0)
abbrev M_L_init : jx_M := (prog_1_method_1_code, "StationLine", 1, 3, 53, true, 0, fun _ => 0)
abbrev M_B_init : jx_M := (prog_6_method_1_code, "StationLine$MappedBits", 1, 1, 12, true, 0, fun _ => 0)
abbrev M_E_init : jx_M := (prog_7_method_1_code, "StationLine$Memory", 1, 1, 12, true, 0, fun _ => 0)
abbrev M_S_init : jx_M := (prog_8_method_1_code, "StationLine$Station", 3, 2, 32, true, 0, fun _ => 0)
abbrev M_L_station : jx_M := (prog_1_method_2_code, "StationLine", 3, 3, 54, false, 0, fun _ => 0)
abbrev M_L_isCommand : jx_M := (prog_1_method_21_code, "StationLine", 1, 0, 0, false, 0, fun _ => 0)
abbrev M_A_fill : jx_M := (prog_13_method_103_code, "java/util/Arrays", 4, 0, 0, false, 0, fun _ => 0)
abbrev M_F_append : jx_M := (prog_3_method_2_code, "StationLine$Frame", 6, 1, 23, false, 0, fun _ => 0)
abbrev M_L_datagram : jx_M := (prog_1_method_3_code, "StationLine", 5, 2, 48, false, 0, fun _ => 0)
abbrev M_F_hasDatagram : jx_M := (prog_3_method_3_code, "StationLine$Frame", 2, 0, 0, false, 0, fun _ => 0)
abbrev M_F_hasByte : jx_M := (prog_3_method_5_code, "StationLine$Frame", 3, 1, 21, false, 0, fun _ => 0)
abbrev M_L_data : jx_M := (prog_1_method_4_code, "StationLine", 4, 2, 43, false, 0, fun _ => 0)
abbrev M_N_stationsBeforeBreak : jx_M := (prog_5_method_4_code, "StationLine$Line", 2, 0, 0, false, 0, fun _ => 0)
abbrev M_E_modeOf : jx_M := (prog_7_method_7_code, "StationLine$Memory", 2, 0, 0, false, 0, fun _ => 0)
abbrev M_E_startOf : jx_M := (prog_7_method_5_code, "StationLine$Memory", 2, 0, 0, false, 0, fun _ => 0)
abbrev M_E_beforeReading : jx_M := (prog_7_method_13_code, "StationLine$Memory", 3, 1, 21, false, 0, fun _ => 0)
abbrev M_E_isOpen : jx_M := (prog_7_method_2_code, "StationLine$Memory", 5, 0, 0, false, 0, fun _ => 0)
abbrev M_E_lengthOf : jx_M := (prog_7_method_6_code, "StationLine$Memory", 2, 0, 0, false, 0, fun _ => 0)
abbrev M_E_findOwners : jx_M := (prog_7_method_10_code, "StationLine$Memory", 6, 1, 24, false, 0, fun _ => 0)
abbrev M_E_heldByte : jx_M := (prog_7_method_14_code, "StationLine$Memory", 5, 1, 21, false, 0, fun _ => 0)
abbrev M_E_allows : jx_M := (prog_7_method_12_code, "StationLine$Memory", 7, 0, 0, false, 0, fun _ => 0)
abbrev M_E_isAllowed : jx_M := (prog_7_method_11_code, "StationLine$Memory", 6, 1, 26, false, 0, fun _ => 0)
abbrev M_E_readRow : jx_M := (prog_7_method_8_code, "StationLine$Memory", 5, 2, 51, false, 0, fun _ => 0)
abbrev M_E_storeInChannel : jx_M := (prog_7_method_15_code, "StationLine$Memory", 5, 1, 21, false, 0, fun _ => 0)
abbrev M_E_clearChannel : jx_M := (prog_7_method_17_code, "StationLine$Memory", 3, 0, 0, false, 0, fun _ => 0)
abbrev M_E_storePlain : jx_M := (prog_7_method_16_code, "StationLine$Memory", 3, 1, 22, false, 0, fun _ => 0)
abbrev M_E_writeRow : jx_M := (prog_7_method_9_code, "StationLine$Memory", 7, 2, 51, false, 0, fun _ => 0)
abbrev M_S_performDirect : jx_M := (prog_8_method_3_code, "StationLine$Station", 5, 3, 77, false, 0, fun _ => 0)
abbrev M_B_lastByte : jx_M := (prog_6_method_4_code, "StationLine$MappedBits", 1, 0, 0, false, 0, fun _ => 0)
abbrev M_B_find : jx_M := (prog_6_method_2_code, "StationLine$MappedBits", 10, 1, 21, false, 0, fun _ => 0)
abbrev M_B_firstByte : jx_M := (prog_6_method_3_code, "StationLine$MappedBits", 1, 0, 0, false, 0, fun _ => 0)
abbrev M_B_putIntoData : jx_M := (prog_6_method_5_code, "StationLine$MappedBits", 8, 1, 20, false, 0, fun _ => 0)
abbrev M_B_putIntoRow : jx_M := (prog_6_method_6_code, "StationLine$MappedBits", 9, 1, 23, false, 0, fun _ => 0)
abbrev M_S_performLogical : jx_M := (prog_8_method_4_code, "StationLine$Station", 8, 3, 77, false, 0, fun _ => 0)
abbrev M_S_perform : jx_M := (prog_8_method_2_code, "StationLine$Station", 2, 4, 104, false, 0, fun _ => 0)
abbrev M_N_carry : jx_M := (prog_5_method_3_code, "StationLine$Line", 8, 5, 125, false, 0, fun _ => 0)
abbrev M_L_send : jx_M := (prog_1_method_5_code, "StationLine", 2, 6, 152, false, 0, fun _ => 0)
abbrev M_L_returned : jx_M := (prog_1_method_6_code, "StationLine", 3, 2, 43, false, 0, fun _ => 0)
abbrev M_N_hasStation : jx_M := (prog_5_method_2_code, "StationLine$Line", 2, 0, 0, false, 0, fun _ => 0)
abbrev M_L_cut : jx_M := (prog_1_method_7_code, "StationLine", 3, 1, 21, false, 0, fun _ => 0)
abbrev M_L_spoil : jx_M := (prog_1_method_8_code, "StationLine", 2, 0, 0, false, 0, fun _ => 0)
abbrev M_E_isOpenAs : jx_M := (prog_7_method_3_code, "StationLine$Memory", 4, 1, 24, false, 0, fun _ => 0)
abbrev M_S_present : jx_M := (prog_8_method_6_code, "StationLine$Station", 1, 0, 0, false, 0, fun _ => 0)
abbrev M_S_moveActuators : jx_M := (prog_8_method_16_code, "StationLine$Station", 1, 2, 47, false, 0, fun _ => 0)
abbrev M_S_become : jx_M := (prog_8_method_7_code, "StationLine$Station", 3, 0, 0, false, 0, fun _ => 0)
abbrev M_S_enter : jx_M := (prog_8_method_9_code, "StationLine$Station", 2, 1, 22, false, 0, fun _ => 0)
abbrev M_S_hasMailbox : jx_M := (prog_8_method_11_code, "StationLine$Station", 1, 2, 47, false, 0, fun _ => 0)
abbrev M_E_isOn : jx_M := (prog_7_method_4_code, "StationLine$Memory", 2, 0, 0, false, 0, fun _ => 0)
abbrev M_S_isSetUp : jx_M := (prog_8_method_12_code, "StationLine$Station", 4, 2, 47, false, 0, fun _ => 0)
abbrev M_S_objection : jx_M := (prog_8_method_10_code, "StationLine$Station", 3, 3, 70, false, 0, fun _ => 0)
abbrev M_S_obeyControl : jx_M := (prog_8_method_8_code, "StationLine$Station", 4, 4, 92, false, 0, fun _ => 0)
abbrev M_L_writeMessage : jx_M := (prog_1_method_27_code, "StationLine", 5, 0, 0, false, 0, fun _ => 0)
abbrev M_S_doMessage : jx_M := (prog_8_method_14_code, "StationLine$Station", 5, 1, 24, false, 0, fun _ => 0)
abbrev M_S_replyToMessage : jx_M := (prog_8_method_13_code, "StationLine$Station", 3, 3, 67, false, 0, fun _ => 0)
abbrev M_S_takeSensors : jx_M := (prog_8_method_15_code, "StationLine$Station", 1, 2, 47, false, 0, fun _ => 0)
abbrev M_S_watch : jx_M := (prog_8_method_17_code, "StationLine$Station", 2, 1, 23, false, 0, fun _ => 0)
abbrev M_S_makeTick : jx_M := (prog_8_method_5_code, "StationLine$Station", 1, 5, 115, false, 0, fun _ => 0)
abbrev M_L_tick : jx_M := (prog_1_method_9_code, "StationLine", 2, 6, 135, false, 0, fun _ => 0)
abbrev M_L_sense : jx_M := (prog_1_method_10_code, "StationLine", 4, 1, 21, false, 0, fun _ => 0)
abbrev M_L_actuator : jx_M := (prog_1_method_11_code, "StationLine", 3, 1, 21, false, 0, fun _ => 0)
abbrev M_L_state : jx_M := (prog_1_method_12_code, "StationLine", 3, 1, 21, false, 0, fun _ => 0)
abbrev M_L_startFrame : jx_M := (prog_1_method_22_code, "StationLine", 5, 2, 48, false, 0, fun _ => 0)
abbrev M_I_forget : jx_M := (prog_4_method_2_code, "StationLine$Image", 1, 1, 23, false, 0, fun _ => 0)
abbrev M_L_scan : jx_M := (prog_1_method_13_code, "StationLine", 4, 6, 152, false, 0, fun _ => 0)
abbrev M_L_writeChannel : jx_M := (prog_1_method_25_code, "StationLine", 5, 0, 0, false, 0, fun _ => 0)
abbrev M_L_writeMap : jx_M := (prog_1_method_26_code, "StationLine", 5, 0, 0, false, 0, fun _ => 0)
abbrev M_L_startChannelsFrame : jx_M := (prog_1_method_23_code, "StationLine", 6, 3, 72, false, 0, fun _ => 0)
abbrev M_L_startInputsFrame : jx_M := (prog_1_method_24_code, "StationLine", 3, 3, 72, false, 0, fun _ => 0)
abbrev M_F_isCountedOnce : jx_M := (prog_3_method_4_code, "StationLine$Frame", 2, 0, 0, false, 0, fun _ => 0)
abbrev M_I_append : jx_M := (prog_4_method_3_code, "StationLine$Image", 2, 0, 0, false, 0, fun _ => 0)
abbrev M_L_setup : jx_M := (prog_1_method_14_code, "StationLine", 5, 6, 152, false, 0, fun _ => 0)
abbrev M_L_request : jx_M := (prog_1_method_15_code, "StationLine", 3, 6, 152, false, 0, fun _ => 0)
abbrev M_L_output : jx_M := (prog_1_method_16_code, "StationLine", 3, 0, 0, false, 0, fun _ => 0)
abbrev M_I_meet : jx_M := (prog_4_method_5_code, "StationLine$Image", 3, 1, 21, false, 0, fun _ => 0)
abbrev M_I_expected : jx_M := (prog_4_method_4_code, "StationLine$Image", 4, 2, 43, false, 0, fun _ => 0)
abbrev M_L_cycle : jx_M := (prog_1_method_17_code, "StationLine", 4, 6, 152, false, 0, fun _ => 0)
abbrev M_L_input : jx_M := (prog_1_method_18_code, "StationLine", 2, 0, 0, false, 0, fun _ => 0)
abbrev M_L_ask : jx_M := (prog_1_method_19_code, "StationLine", 6, 6, 152, false, 0, fun _ => 0)
abbrev M_L_answer : jx_M := (prog_1_method_20_code, "StationLine", 3, 6, 152, false, 0, fun _ => 0)
abbrev M_R_init : jx_M := (prog_10_method_1_code, "StationLineModel", 1, 1, 12, true, 0, fun _ => 0)
abbrev M_R_isStation : jx_M := (prog_10_method_2_code, "StationLineModel", 2, 0, 0, false, 0, fun _ => 0)
abbrev M_R_actuator : jx_M := (prog_10_method_44_code, "StationLineModel", 3, 1, 21, false, 0, fun _ => 0)
abbrev M_R_gram : jx_M := (prog_10_method_28_code, "StationLineModel", 7, 0, 0, false, 0, fun _ => 0)
abbrev M_R_copyGram : jx_M := (prog_10_method_25_code, "StationLineModel", 4, 0, 0, false, 0, fun _ => 0)
abbrev M_R_at : jx_M := (prog_10_method_4_code, "StationLineModel", 3, 0, 0, false, 0, fun _ => 0)
abbrev M_R_begin : jx_M := (prog_10_method_5_code, "StationLineModel", 3, 1, 22, false, 0, fun _ => 0)
abbrev M_R_many : jx_M := (prog_10_method_6_code, "StationLineModel", 3, 1, 22, false, 0, fun _ => 0)
abbrev M_R_open : jx_M := (prog_10_method_8_code, "StationLineModel", 4, 2, 44, false, 0, fun _ => 0)
abbrev M_R_channelOf : jx_M := (prog_10_method_10_code, "StationLineModel", 4, 3, 67, false, 0, fun _ => 0)
abbrev M_R_full : jx_M := (prog_10_method_11_code, "StationLineModel", 3, 1, 22, false, 0, fun _ => 0)
abbrev M_R_kind : jx_M := (prog_10_method_7_code, "StationLineModel", 3, 1, 22, false, 0, fun _ => 0)
abbrev M_R_lets : jx_M := (prog_10_method_14_code, "StationLineModel", 7, 2, 44, false, 0, fun _ => 0)
abbrev M_R_allowed : jx_M := (prog_10_method_15_code, "StationLineModel", 7, 4, 90, false, 0, fun _ => 0)
abbrev M_R_cell : jx_M := (prog_10_method_16_code, "StationLineModel", 4, 2, 44, false, 0, fun _ => 0)
abbrev M_R_copy : jx_M := (prog_10_method_13_code, "StationLineModel", 5, 0, 0, false, 0, fun _ => 0)
abbrev M_R_fill : jx_M := (prog_10_method_12_code, "StationLineModel", 4, 0, 0, false, 0, fun _ => 0)
abbrev M_R_reads : jx_M := (prog_10_method_17_code, "StationLineModel", 6, 5, 116, false, 0, fun _ => 0)
abbrev M_R_stays : jx_M := (prog_10_method_22_code, "StationLineModel", 4, 4, 90, false, 0, fun _ => 0)
abbrev M_R_wipe : jx_M := (prog_10_method_19_code, "StationLineModel", 4, 1, 23, false, 0, fun _ => 0)
abbrev M_R_store : jx_M := (prog_10_method_18_code, "StationLineModel", 5, 4, 90, false, 0, fun _ => 0)
abbrev M_R_writes : jx_M := (prog_10_method_20_code, "StationLineModel", 6, 5, 114, false, 0, fun _ => 0)
abbrev M_R_map : jx_M := (prog_10_method_23_code, "StationLineModel", 19, 6, 141, false, 0, fun _ => 0)
abbrev M_R_touch : jx_M := (prog_10_method_21_code, "StationLineModel", 7, 6, 141, false, 0, fun _ => 0)
abbrev M_R_handle : jx_M := (prog_10_method_24_code, "StationLineModel", 5, 7, 179, false, 0, fun _ => 0)
abbrev M_R_travel : jx_M := (prog_10_method_26_code, "StationLineModel", 7, 8, 203, false, 0, fun _ => 0)
abbrev M_R_answer : jx_M := (prog_10_method_58_code, "StationLineModel", 2, 9, 229, false, 0, fun _ => 0)
abbrev M_R_six : jx_M := (prog_10_method_48_code, "StationLineModel", 8, 0, 0, false, 0, fun _ => 0)
abbrev M_R_ask : jx_M := (prog_10_method_57_code, "StationLineModel", 5, 9, 229, false, 0, fun _ => 0)
abbrev M_R_cut : jx_M := (prog_10_method_32_code, "StationLineModel", 3, 1, 21, false, 0, fun _ => 0)
abbrev M_R_lies : jx_M := (prog_10_method_53_code, "StationLineModel", 3, 0, 0, false, 0, fun _ => 0)
abbrev M_R_expected : jx_M := (prog_10_method_54_code, "StationLineModel", 4, 1, 22, false, 0, fun _ => 0)
abbrev M_R_cycle : jx_M := (prog_10_method_55_code, "StationLineModel", 4, 9, 229, false, 0, fun _ => 0)
abbrev M_R_data : jx_M := (prog_10_method_29_code, "StationLineModel", 4, 0, 0, false, 0, fun _ => 0)
abbrev M_R_datagram : jx_M := (prog_10_method_27_code, "StationLineModel", 6, 1, 26, false, 0, fun _ => 0)
abbrev M_R_input : jx_M := (prog_10_method_56_code, "StationLineModel", 2, 0, 0, false, 0, fun _ => 0)
abbrev M_R_output : jx_M := (prog_10_method_52_code, "StationLineModel", 3, 0, 0, false, 0, fun _ => 0)
abbrev M_R_single : jx_M := (prog_10_method_46_code, "StationLineModel", 5, 9, 229, false, 0, fun _ => 0)
abbrev M_R_request : jx_M := (prog_10_method_51_code, "StationLineModel", 2, 10, 253, false, 0, fun _ => 0)
abbrev M_R_returned : jx_M := (prog_10_method_31_code, "StationLineModel", 3, 0, 0, false, 0, fun _ => 0)
abbrev M_R_scan : jx_M := (prog_10_method_47_code, "StationLineModel", 3, 10, 253, false, 0, fun _ => 0)
abbrev M_R_send : jx_M := (prog_10_method_30_code, "StationLineModel", 2, 9, 229, false, 0, fun _ => 0)
abbrev M_R_sense : jx_M := (prog_10_method_43_code, "StationLineModel", 4, 1, 21, false, 0, fun _ => 0)
abbrev M_R_equip : jx_M := (prog_10_method_49_code, "StationLineModel", 6, 9, 229, false, 0, fun _ => 0)
abbrev M_R_setup : jx_M := (prog_10_method_50_code, "StationLineModel", 4, 10, 254, false, 0, fun _ => 0)
abbrev M_R_spoil : jx_M := (prog_10_method_33_code, "StationLineModel", 2, 0, 0, false, 0, fun _ => 0)
abbrev M_R_state : jx_M := (prog_10_method_45_code, "StationLineModel", 2, 1, 22, false, 0, fun _ => 0)
abbrev M_R_station : jx_M := (prog_10_method_3_code, "StationLineModel", 3, 0, 0, false, 0, fun _ => 0)
abbrev M_R_fail : jx_M := (prog_10_method_34_code, "StationLineModel", 3, 0, 0, false, 0, fun _ => 0)
abbrev M_R_like : jx_M := (prog_10_method_9_code, "StationLineModel", 5, 3, 67, false, 0, fun _ => 0)
abbrev M_R_fit : jx_M := (prog_10_method_36_code, "StationLineModel", 5, 4, 91, false, 0, fun _ => 0)
abbrev M_R_mailed : jx_M := (prog_10_method_35_code, "StationLineModel", 2, 4, 91, false, 0, fun _ => 0)
abbrev M_R_hindrance : jx_M := (prog_10_method_37_code, "StationLineModel", 3, 5, 115, false, 0, fun _ => 0)
abbrev M_R_control : jx_M := (prog_10_method_38_code, "StationLineModel", 5, 6, 137, false, 0, fun _ => 0)
abbrev M_R_message : jx_M := (prog_10_method_39_code, "StationLineModel", 10, 1, 23, false, 0, fun _ => 0)
abbrev M_R_rest : jx_M := (prog_10_method_40_code, "StationLineModel", 3, 0, 0, false, 0, fun _ => 0)
abbrev M_R_turn : jx_M := (prog_10_method_41_code, "StationLineModel", 3, 7, 161, false, 0, fun _ => 0)
abbrev M_R_tick : jx_M := (prog_10_method_42_code, "StationLineModel", 2, 8, 183, false, 0, fun _ => 0)
theorem fp_B_27 (M : jx_M) (h : M.2.1 = "StationLine$MappedBits") : jx_FP M 27 4 0 (.int) := ⟨_, _, _, tt_B, rfl, by decide, by decide, in_B, to_B, nn_B, rfl, Or.inl ⟨rfl, Or.inl (by rw [h]; exact w_197)⟩⟩
theorem fp_B_32 (M : jx_M) (h : M.2.1 = "StationLine$MappedBits") : jx_FP M 32 4 1 (.int) := ⟨_, _, _, tt_B, rfl, by decide, by decide, in_B, to_B, nn_B, rfl, Or.inl ⟨rfl, Or.inl (by rw [h]; exact w_191)⟩⟩
theorem fp_B_35 (M : jx_M) (h : M.2.1 = "StationLine$MappedBits") : jx_FP M 35 4 2 (.int) := ⟨_, _, _, tt_B, rfl, by decide, by decide, in_B, to_B, nn_B, rfl, Or.inl ⟨rfl, Or.inl (by rw [h]; exact w_192)⟩⟩
theorem fp_E_100 (M : jx_M) (h : M.2.1 = "StationLine$Memory") : jx_FP M 100 5 9 (.int) := ⟨_, _, _, tt_E, rfl, by decide, by decide, in_E, to_E, nn_E, rfl, Or.inl ⟨rfl, Or.inl (by rw [h]; exact w_162)⟩⟩
theorem fp_E_104 (M : jx_M) (h : M.2.1 = "StationLine$Memory") : jx_FP M 104 5 7 (.boolean) := ⟨_, _, _, tt_E, rfl, by decide, by decide, in_E, to_E, nn_E, rfl, Or.inl ⟨rfl, Or.inl (by rw [h]; exact w_163)⟩⟩
theorem fp_E_96 (M : jx_M) (h : M.2.1 = "StationLine$Memory") : jx_FP M 96 5 8 (.boolean) := ⟨_, _, _, tt_E, rfl, by decide, by decide, in_E, to_E, nn_E, rfl, Or.inl ⟨rfl, Or.inl (by rw [h]; exact w_161)⟩⟩
theorem fp_F_18 (M : jx_M) (h : M.2.1 = "StationLine$Frame") : jx_FP M 18 1 1 (.int) := ⟨_, _, _, tt_F, rfl, by decide, by decide, in_F, to_F, nn_F, rfl, Or.inl ⟨rfl, Or.inl (by rw [h]; exact w_81)⟩⟩
theorem fp_F_22 (M : jx_M) (h : M.2.1 = "StationLine$Frame") : jx_FP M 22 0 0 (.int) := ⟨_, _, _, tt_D, rfl, by decide, by decide, in_D, to_D, nn_D, rfl, Or.inl ⟨rfl, Or.inl (by rw [h]; exact w_82)⟩⟩
theorem fp_F_25 (M : jx_M) (h : M.2.1 = "StationLine$Frame") : jx_FP M 25 0 1 (.int) := ⟨_, _, _, tt_D, rfl, by decide, by decide, in_D, to_D, nn_D, rfl, Or.inl ⟨rfl, Or.inl (by rw [h]; exact w_83)⟩⟩
theorem fp_F_28 (M : jx_M) (h : M.2.1 = "StationLine$Frame") : jx_FP M 28 0 2 (.int) := ⟨_, _, _, tt_D, rfl, by decide, by decide, in_D, to_D, nn_D, rfl, Or.inl ⟨rfl, Or.inl (by rw [h]; exact w_84)⟩⟩
theorem fp_F_31 (M : jx_M) (h : M.2.1 = "StationLine$Frame") : jx_FP M 31 0 3 (.int) := ⟨_, _, _, tt_D, rfl, by decide, by decide, in_D, to_D, nn_D, rfl, Or.inl ⟨rfl, Or.inl (by rw [h]; exact w_85)⟩⟩
theorem fp_F_34 (M : jx_M) (h : M.2.1 = "StationLine$Frame") : jx_FP M 34 0 4 (.int) := ⟨_, _, _, tt_D, rfl, by decide, by decide, in_D, to_D, nn_D, rfl, Or.inl ⟨rfl, Or.inl (by rw [h]; exact w_86)⟩⟩
theorem fp_I_27 (M : jx_M) (h : M.2.1 = "StationLine$Image") : jx_FP M 27 2 5 (.int) := ⟨_, _, _, tt_I, rfl, by decide, by decide, in_I, to_I, nn_I, rfl, Or.inl ⟨rfl, Or.inl (by rw [h]; exact w_330)⟩⟩
theorem fp_I_31 (M : jx_M) (h : M.2.1 = "StationLine$Image") : jx_FP M 31 2 6 (.int) := ⟨_, _, _, tt_I, rfl, by decide, by decide, in_I, to_I, nn_I, rfl, Or.inl ⟨rfl, Or.inl (by rw [h]; exact w_331)⟩⟩
theorem fp_L_124 (M : jx_M) (h : M.2.1 = "StationLine") : jx_FP M 124 7 5 (.int) := ⟨_, _, _, tt_L, rfl, by decide, by decide, in_L, to_L, nn_L, rfl, Or.inl ⟨rfl, Or.inl (by rw [h]; exact w_337)⟩⟩
theorem fp_L_26 (M : jx_M) (h : M.2.1 = "StationLine") : jx_FP M 26 7 2 (.object "StationLine$Frame") := ⟨_, _, _, tt_L, rfl, by decide, by decide, in_L, to_L, nn_L, rfl, Or.inl ⟨rfl, Or.inl (by rw [h]; exact w_41)⟩⟩
theorem fp_L_30 (M : jx_M) (h : M.2.1 = "StationLine") : jx_FP M 30 7 3 (.object "StationLine$Frame") := ⟨_, _, _, tt_L, rfl, by decide, by decide, in_L, to_L, nn_L, rfl, Or.inl ⟨rfl, Or.inl (by rw [h]; exact w_42)⟩⟩
theorem fp_L_33 (M : jx_M) (h : M.2.1 = "StationLine") : jx_FP M 33 3 2 (.int) := ⟨_, _, _, tt_N, rfl, by decide, by decide, in_N, to_N, nn_N, rfl, Or.inl ⟨rfl, Or.inl (by rw [h]; exact w_73)⟩⟩
theorem fp_L_46 (M : jx_M) (h : M.2.1 = "StationLine") : jx_FP M 46 1 1 (.int) := ⟨_, _, _, tt_F, rfl, by decide, by decide, in_F, to_F, nn_F, rfl, Or.inl ⟨rfl, Or.inl (by rw [h]; exact w_92)⟩⟩
theorem fp_L_76 (M : jx_M) (h : M.2.1 = "StationLine") : jx_FP M 76 7 4 (.boolean) := ⟨_, _, _, tt_L, rfl, by decide, by decide, in_L, to_L, nn_L, rfl, Or.inl ⟨rfl, Or.inl (by rw [h]; exact w_246)⟩⟩
theorem fp_L_96 (M : jx_M) (h : M.2.1 = "StationLine") : jx_FP M 96 3 3 (.int) := ⟨_, _, _, tt_N, rfl, by decide, by decide, in_N, to_N, nn_N, rfl, Or.inl ⟨rfl, Or.inl (by rw [h]; exact w_255)⟩⟩
theorem fp_N_21 (M : jx_M) (h : M.2.1 = "StationLine$Line") : jx_FP M 21 3 3 (.int) := ⟨_, _, _, tt_N, rfl, by decide, by decide, in_N, to_N, nn_N, rfl, Or.inl ⟨rfl, Or.inl (by rw [h]; exact w_21)⟩⟩
theorem fp_R_108 (M : jx_M) (h : M.2.1 = "StationLineModel") : jx_FP M 108 8 0 (.int) := ⟨_, _, _, tt_R, rfl, by decide, by decide, in_R, to_R, nn_R, rfl, Or.inl ⟨rfl, Or.inl (by rw [h]; exact w_418)⟩⟩
theorem fp_R_168 (M : jx_M) (h : M.2.1 = "StationLineModel") : jx_FP M 168 8 30 (.boolean) := ⟨_, _, _, tt_R, rfl, by decide, by decide, in_R, to_R, nn_R, rfl, Or.inl ⟨rfl, Or.inl (by rw [h]; exact w_484)⟩⟩
theorem fp_R_172 (M : jx_M) (h : M.2.1 = "StationLineModel") : jx_FP M 172 8 31 (.boolean) := ⟨_, _, _, tt_R, rfl, by decide, by decide, in_R, to_R, nn_R, rfl, Or.inl ⟨rfl, Or.inl (by rw [h]; exact w_485)⟩⟩
theorem fp_R_185 (M : jx_M) (h : M.2.1 = "StationLineModel") : jx_FP M 185 8 19 (.int) := ⟨_, _, _, tt_R, rfl, by decide, by decide, in_R, to_R, nn_R, rfl, Or.inl ⟨rfl, Or.inl (by rw [h]; exact w_503)⟩⟩
theorem fp_R_191 (M : jx_M) (h : M.2.1 = "StationLineModel") : jx_FP M 191 8 20 (.int) := ⟨_, _, _, tt_R, rfl, by decide, by decide, in_R, to_R, nn_R, rfl, Or.inl ⟨rfl, Or.inl (by rw [h]; exact w_508)⟩⟩
theorem fp_R_197 (M : jx_M) (h : M.2.1 = "StationLineModel") : jx_FP M 197 8 18 (.int) := ⟨_, _, _, tt_R, rfl, by decide, by decide, in_R, to_R, nn_R, rfl, Or.inl ⟨rfl, Or.inl (by rw [h]; exact w_534)⟩⟩
theorem fp_R_241 (M : jx_M) (h : M.2.1 = "StationLineModel") : jx_FP M 241 8 32 (.int) := ⟨_, _, _, tt_R, rfl, by decide, by decide, in_R, to_R, nn_R, rfl, Or.inl ⟨rfl, Or.inl (by rw [h]; exact w_539)⟩⟩
theorem fp_R_244 (M : jx_M) (h : M.2.1 = "StationLineModel") : jx_FP M 244 8 33 (.int) := ⟨_, _, _, tt_R, rfl, by decide, by decide, in_R, to_R, nn_R, rfl, Or.inl ⟨rfl, Or.inl (by rw [h]; exact w_525)⟩⟩
theorem fp_R_247 (M : jx_M) (h : M.2.1 = "StationLineModel") : jx_FP M 247 8 34 (.int) := ⟨_, _, _, tt_R, rfl, by decide, by decide, in_R, to_R, nn_R, rfl, Or.inl ⟨rfl, Or.inl (by rw [h]; exact w_529)⟩⟩
theorem fp_R_62 (M : jx_M) (h : M.2.1 = "StationLineModel") : jx_FP M 62 8 21 (.int) := ⟨_, _, _, tt_R, rfl, by decide, by decide, in_R, to_R, nn_R, rfl, Or.inl ⟨rfl, Or.inl (by rw [h]; exact w_403)⟩⟩
theorem fp_S_130 (M : jx_M) (h : M.2.1 = "StationLine$Station") : jx_FP M 130 5 7 (.boolean) := ⟨_, _, _, tt_E, rfl, by decide, by decide, in_E, to_E, nn_E, rfl, Or.inl ⟨rfl, Or.inl (by rw [h]; exact w_285)⟩⟩
theorem fp_S_146 (M : jx_M) (h : M.2.1 = "StationLine$Station") : jx_FP M 146 5 8 (.boolean) := ⟨_, _, _, tt_E, rfl, by decide, by decide, in_E, to_E, nn_E, rfl, Or.inl ⟨rfl, Or.inl (by rw [h]; exact w_267)⟩⟩
theorem fp_S_149 (M : jx_M) (h : M.2.1 = "StationLine$Station") : jx_FP M 149 5 9 (.int) := ⟨_, _, _, tt_E, rfl, by decide, by decide, in_E, to_E, nn_E, rfl, Or.inl ⟨rfl, Or.inl (by rw [h]; exact w_268)⟩⟩
theorem fp_S_53 (M : jx_M) (h : M.2.1 = "StationLine$Station") : jx_FP M 53 0 1 (.int) := ⟨_, _, _, tt_D, rfl, by decide, by decide, in_D, to_D, nn_D, rfl, Or.inl ⟨rfl, Or.inl (by rw [h]; exact w_222)⟩⟩
theorem fp_S_81 (M : jx_M) (h : M.2.1 = "StationLine$Station") : jx_FP M 81 0 4 (.int) := ⟨_, _, _, tt_D, rfl, by decide, by decide, in_D, to_D, nn_D, rfl, Or.inl ⟨rfl, Or.inl (by rw [h]; exact w_186)⟩⟩
theorem fq_D_init_9 : jx_FP M_D_init 9 0 5 (.array (.int)) := ⟨_, _, _, tt_D, rfl, by decide, by decide, in_D, to_D, nn_D, rfl, Or.inr ⟨rfl, rfl, rfl, w_3⟩⟩
theorem fq_E_init_17 : jx_FP M_E_init 17 5 1 (.array (.array (.int))) := ⟨_, _, _, tt_E, rfl, by decide, by decide, in_E, to_E, nn_E, rfl, Or.inr ⟨rfl, rfl, rfl, w_47⟩⟩
theorem fq_E_init_20 : jx_FP M_E_init 20 5 2 (.array (.array (.int))) := ⟨_, _, _, tt_E, rfl, by decide, by decide, in_E, to_E, nn_E, rfl, Or.inr ⟨rfl, rfl, rfl, w_48⟩⟩
theorem fq_E_init_23 : jx_FP M_E_init 23 5 3 (.array (.boolean)) := ⟨_, _, _, tt_E, rfl, by decide, by decide, in_E, to_E, nn_E, rfl, Or.inr ⟨rfl, rfl, rfl, w_49⟩⟩
theorem fq_E_init_27 : jx_FP M_E_init 27 5 4 (.array (.int)) := ⟨_, _, _, tt_E, rfl, by decide, by decide, in_E, to_E, nn_E, rfl, Or.inr ⟨rfl, rfl, rfl, w_50⟩⟩
theorem fq_E_init_30 : jx_FP M_E_init 30 5 5 (.array (.int)) := ⟨_, _, _, tt_E, rfl, by decide, by decide, in_E, to_E, nn_E, rfl, Or.inr ⟨rfl, rfl, rfl, w_51⟩⟩
theorem fq_E_init_33 : jx_FP M_E_init 33 5 6 (.array (.int)) := ⟨_, _, _, tt_E, rfl, by decide, by decide, in_E, to_E, nn_E, rfl, Or.inr ⟨rfl, rfl, rfl, w_52⟩⟩
theorem fq_E_init_9 : jx_FP M_E_init 9 5 0 (.array (.int)) := ⟨_, _, _, tt_E, rfl, by decide, by decide, in_E, to_E, nn_E, rfl, Or.inr ⟨rfl, rfl, rfl, w_45⟩⟩
theorem fq_F_init_11 : jx_FP M_F_init 11 1 0 (.array (.object "StationLine$Datagram")) := ⟨_, _, _, tt_F, rfl, by decide, by decide, in_F, to_F, nn_F, rfl, Or.inr ⟨rfl, rfl, rfl, w_6⟩⟩
theorem fq_I_init_15 : jx_FP M_I_init 15 2 1 (.array (.int)) := ⟨_, _, _, tt_I, rfl, by decide, by decide, in_I, to_I, nn_I, rfl, Or.inr ⟨rfl, rfl, rfl, w_13⟩⟩
theorem fq_I_init_18 : jx_FP M_I_init 18 2 2 (.array (.int)) := ⟨_, _, _, tt_I, rfl, by decide, by decide, in_I, to_I, nn_I, rfl, Or.inr ⟨rfl, rfl, rfl, w_14⟩⟩
theorem fq_I_init_21 : jx_FP M_I_init 21 2 3 (.array (.int)) := ⟨_, _, _, tt_I, rfl, by decide, by decide, in_I, to_I, nn_I, rfl, Or.inr ⟨rfl, rfl, rfl, w_15⟩⟩
theorem fq_I_init_24 : jx_FP M_I_init 24 2 4 (.array (.int)) := ⟨_, _, _, tt_I, rfl, by decide, by decide, in_I, to_I, nn_I, rfl, Or.inr ⟨rfl, rfl, rfl, w_16⟩⟩
theorem fq_I_init_9 : jx_FP M_I_init 9 2 0 (.array (.int)) := ⟨_, _, _, tt_I, rfl, by decide, by decide, in_I, to_I, nn_I, rfl, Or.inr ⟨rfl, rfl, rfl, w_12⟩⟩
theorem fq_L_init_12 : jx_FP M_L_init 12 7 0 (.object "StationLine$Line") := ⟨_, _, _, tt_L, rfl, by decide, by decide, in_L, to_L, nn_L, rfl, Or.inr ⟨rfl, rfl, rfl, w_28⟩⟩
theorem fq_L_init_19 : jx_FP M_L_init 19 7 1 (.object "StationLine$Image") := ⟨_, _, _, tt_L, rfl, by decide, by decide, in_L, to_L, nn_L, rfl, Or.inr ⟨rfl, rfl, rfl, w_34⟩⟩
theorem fq_N_init_11 : jx_FP M_N_init 11 3 0 (.array (.object "StationLine$Station")) := ⟨_, _, _, tt_N, rfl, by decide, by decide, in_N, to_N, nn_N, rfl, Or.inr ⟨rfl, rfl, rfl, w_19⟩⟩
theorem fq_N_init_17 : jx_FP M_N_init 17 3 1 (.array (.boolean)) := ⟨_, _, _, tt_N, rfl, by decide, by decide, in_N, to_N, nn_N, rfl, Or.inr ⟨rfl, rfl, rfl, w_20⟩⟩
theorem fq_R_init_102 : jx_FP M_R_init 102 8 39 (.array (.int)) := ⟨_, _, _, tt_R, rfl, by decide, by decide, in_R, to_R, nn_R, rfl, Or.inr ⟨rfl, rfl, rfl, w_416⟩⟩
theorem fq_R_init_105 : jx_FP M_R_init 105 8 40 (.array (.int)) := ⟨_, _, _, tt_R, rfl, by decide, by decide, in_R, to_R, nn_R, rfl, Or.inr ⟨rfl, rfl, rfl, w_417⟩⟩
theorem fq_R_init_13 : jx_FP M_R_init 13 8 2 (.array (.int)) := ⟨_, _, _, tt_R, rfl, by decide, by decide, in_R, to_R, nn_R, rfl, Or.inr ⟨rfl, rfl, rfl, w_387⟩⟩
theorem fq_R_init_16 : jx_FP M_R_init 16 8 3 (.array (.boolean)) := ⟨_, _, _, tt_R, rfl, by decide, by decide, in_R, to_R, nn_R, rfl, Or.inr ⟨rfl, rfl, rfl, w_388⟩⟩
theorem fq_R_init_20 : jx_FP M_R_init 20 8 4 (.array (.int)) := ⟨_, _, _, tt_R, rfl, by decide, by decide, in_R, to_R, nn_R, rfl, Or.inr ⟨rfl, rfl, rfl, w_389⟩⟩
theorem fq_R_init_23 : jx_FP M_R_init 23 8 5 (.array (.int)) := ⟨_, _, _, tt_R, rfl, by decide, by decide, in_R, to_R, nn_R, rfl, Or.inr ⟨rfl, rfl, rfl, w_390⟩⟩
theorem fq_R_init_26 : jx_FP M_R_init 26 8 6 (.array (.int)) := ⟨_, _, _, tt_R, rfl, by decide, by decide, in_R, to_R, nn_R, rfl, Or.inr ⟨rfl, rfl, rfl, w_391⟩⟩
theorem fq_R_init_29 : jx_FP M_R_init 29 8 7 (.array (.boolean)) := ⟨_, _, _, tt_R, rfl, by decide, by decide, in_R, to_R, nn_R, rfl, Or.inr ⟨rfl, rfl, rfl, w_392⟩⟩
theorem fq_R_init_32 : jx_FP M_R_init 32 8 8 (.array (.int)) := ⟨_, _, _, tt_R, rfl, by decide, by decide, in_R, to_R, nn_R, rfl, Or.inr ⟨rfl, rfl, rfl, w_393⟩⟩
theorem fq_R_init_35 : jx_FP M_R_init 35 8 9 (.array (.boolean)) := ⟨_, _, _, tt_R, rfl, by decide, by decide, in_R, to_R, nn_R, rfl, Or.inr ⟨rfl, rfl, rfl, w_394⟩⟩
theorem fq_R_init_38 : jx_FP M_R_init 38 8 10 (.array (.int)) := ⟨_, _, _, tt_R, rfl, by decide, by decide, in_R, to_R, nn_R, rfl, Or.inr ⟨rfl, rfl, rfl, w_395⟩⟩
theorem fq_R_init_41 : jx_FP M_R_init 41 8 11 (.array (.boolean)) := ⟨_, _, _, tt_R, rfl, by decide, by decide, in_R, to_R, nn_R, rfl, Or.inr ⟨rfl, rfl, rfl, w_396⟩⟩
theorem fq_R_init_44 : jx_FP M_R_init 44 8 12 (.array (.boolean)) := ⟨_, _, _, tt_R, rfl, by decide, by decide, in_R, to_R, nn_R, rfl, Or.inr ⟨rfl, rfl, rfl, w_397⟩⟩
theorem fq_R_init_47 : jx_FP M_R_init 47 8 13 (.array (.int)) := ⟨_, _, _, tt_R, rfl, by decide, by decide, in_R, to_R, nn_R, rfl, Or.inr ⟨rfl, rfl, rfl, w_398⟩⟩
theorem fq_R_init_50 : jx_FP M_R_init 50 8 14 (.array (.int)) := ⟨_, _, _, tt_R, rfl, by decide, by decide, in_R, to_R, nn_R, rfl, Or.inr ⟨rfl, rfl, rfl, w_399⟩⟩
theorem fq_R_init_53 : jx_FP M_R_init 53 8 15 (.array (.int)) := ⟨_, _, _, tt_R, rfl, by decide, by decide, in_R, to_R, nn_R, rfl, Or.inr ⟨rfl, rfl, rfl, w_400⟩⟩
theorem fq_R_init_56 : jx_FP M_R_init 56 8 16 (.array (.int)) := ⟨_, _, _, tt_R, rfl, by decide, by decide, in_R, to_R, nn_R, rfl, Or.inr ⟨rfl, rfl, rfl, w_401⟩⟩
theorem fq_R_init_59 : jx_FP M_R_init 59 8 17 (.array (.int)) := ⟨_, _, _, tt_R, rfl, by decide, by decide, in_R, to_R, nn_R, rfl, Or.inr ⟨rfl, rfl, rfl, w_402⟩⟩
theorem fq_R_init_66 : jx_FP M_R_init 66 8 22 (.array (.int)) := ⟨_, _, _, tt_R, rfl, by decide, by decide, in_R, to_R, nn_R, rfl, Or.inr ⟨rfl, rfl, rfl, w_404⟩⟩
theorem fq_R_init_69 : jx_FP M_R_init 69 8 23 (.array (.int)) := ⟨_, _, _, tt_R, rfl, by decide, by decide, in_R, to_R, nn_R, rfl, Or.inr ⟨rfl, rfl, rfl, w_405⟩⟩
theorem fq_R_init_7 : jx_FP M_R_init 7 8 1 (.array (.int)) := ⟨_, _, _, tt_R, rfl, by decide, by decide, in_R, to_R, nn_R, rfl, Or.inr ⟨rfl, rfl, rfl, w_386⟩⟩
theorem fq_R_init_72 : jx_FP M_R_init 72 8 24 (.array (.int)) := ⟨_, _, _, tt_R, rfl, by decide, by decide, in_R, to_R, nn_R, rfl, Or.inr ⟨rfl, rfl, rfl, w_406⟩⟩
theorem fq_R_init_75 : jx_FP M_R_init 75 8 25 (.array (.int)) := ⟨_, _, _, tt_R, rfl, by decide, by decide, in_R, to_R, nn_R, rfl, Or.inr ⟨rfl, rfl, rfl, w_407⟩⟩
theorem fq_R_init_78 : jx_FP M_R_init 78 8 26 (.array (.int)) := ⟨_, _, _, tt_R, rfl, by decide, by decide, in_R, to_R, nn_R, rfl, Or.inr ⟨rfl, rfl, rfl, w_408⟩⟩
theorem fq_R_init_81 : jx_FP M_R_init 81 8 27 (.array (.int)) := ⟨_, _, _, tt_R, rfl, by decide, by decide, in_R, to_R, nn_R, rfl, Or.inr ⟨rfl, rfl, rfl, w_409⟩⟩
theorem fq_R_init_84 : jx_FP M_R_init 84 8 28 (.array (.int)) := ⟨_, _, _, tt_R, rfl, by decide, by decide, in_R, to_R, nn_R, rfl, Or.inr ⟨rfl, rfl, rfl, w_410⟩⟩
theorem fq_R_init_87 : jx_FP M_R_init 87 8 29 (.array (.int)) := ⟨_, _, _, tt_R, rfl, by decide, by decide, in_R, to_R, nn_R, rfl, Or.inr ⟨rfl, rfl, rfl, w_411⟩⟩
theorem fq_R_init_90 : jx_FP M_R_init 90 8 35 (.array (.int)) := ⟨_, _, _, tt_R, rfl, by decide, by decide, in_R, to_R, nn_R, rfl, Or.inr ⟨rfl, rfl, rfl, w_412⟩⟩
theorem fq_R_init_93 : jx_FP M_R_init 93 8 36 (.array (.int)) := ⟨_, _, _, tt_R, rfl, by decide, by decide, in_R, to_R, nn_R, rfl, Or.inr ⟨rfl, rfl, rfl, w_413⟩⟩
theorem fq_R_init_96 : jx_FP M_R_init 96 8 37 (.array (.int)) := ⟨_, _, _, tt_R, rfl, by decide, by decide, in_R, to_R, nn_R, rfl, Or.inr ⟨rfl, rfl, rfl, w_414⟩⟩
theorem fq_R_init_99 : jx_FP M_R_init 99 8 38 (.array (.int)) := ⟨_, _, _, tt_R, rfl, by decide, by decide, in_R, to_R, nn_R, rfl, Or.inr ⟨rfl, rfl, rfl, w_415⟩⟩
theorem fq_S_init_15 : jx_FP M_S_init 15 6 3 (.array (.int)) := ⟨_, _, _, tt_S, rfl, by decide, by decide, in_S, to_S, nn_S, rfl, Or.inr ⟨rfl, rfl, rfl, w_55⟩⟩
theorem fq_S_init_21 : jx_FP M_S_init 21 6 4 (.object "StationLine$Memory") := ⟨_, _, _, tt_S, rfl, by decide, by decide, in_S, to_S, nn_S, rfl, Or.inr ⟨rfl, rfl, rfl, w_61⟩⟩
theorem fq_S_init_28 : jx_FP M_S_init 28 6 5 (.object "StationLine$MappedBits") := ⟨_, _, _, tt_S, rfl, by decide, by decide, in_S, to_S, nn_S, rfl, Or.inr ⟨rfl, rfl, rfl, w_67⟩⟩
theorem fq_S_init_32 : jx_FP M_S_init 32 6 6 (.array (.int)) := ⟨_, _, _, tt_S, rfl, by decide, by decide, in_S, to_S, nn_S, rfl, Or.inr ⟨rfl, rfl, rfl, w_68⟩⟩
theorem fq_S_init_35 : jx_FP M_S_init 35 6 7 (.array (.int)) := ⟨_, _, _, tt_S, rfl, by decide, by decide, in_S, to_S, nn_S, rfl, Or.inr ⟨rfl, rfl, rfl, w_69⟩⟩
theorem fq_S_init_38 : jx_FP M_S_init 38 6 0 (.int) := ⟨_, _, _, tt_S, rfl, by decide, by decide, in_S, to_S, nn_S, rfl, Or.inr ⟨rfl, rfl, rfl, w_70⟩⟩
theorem fq_S_init_42 : jx_FP M_S_init 42 6 1 (.int) := ⟨_, _, _, tt_S, rfl, by decide, by decide, in_S, to_S, nn_S, rfl, Or.inr ⟨rfl, rfl, rfl, w_71⟩⟩
theorem fq_S_init_9 : jx_FP M_S_init 9 6 2 (.array (.int)) := ⟨_, _, _, tt_S, rfl, by decide, by decide, in_S, to_S, nn_S, rfl, Or.inr ⟨rfl, rfl, rfl, w_54⟩⟩
theorem nw_F_9 : jx_NW "StationLine$Frame" 9 0 df_D := ⟨_, _, _, tt_D, rfl, by decide, rfl, in_D, to_D, dv_D, by decide, w_5, w_7, w_8⟩
theorem nw_L_16 : jx_NW "StationLine" 16 2 df_I := ⟨_, _, _, tt_I, rfl, by decide, rfl, in_I, to_I, dv_I, by decide, w_29, w_30, w_31⟩
theorem nw_L_23 : jx_NW "StationLine" 23 1 df_F := ⟨_, _, _, tt_F, rfl, by decide, rfl, in_F, to_F, dv_F, by decide, w_35, w_36, w_37⟩
theorem nw_L_41 : jx_NW "StationLine" 41 6 df_S := ⟨_, _, _, tt_S, rfl, by decide, rfl, in_S, to_S, dv_S, by decide, w_75, w_76, w_77⟩
theorem nw_L_9 : jx_NW "StationLine" 9 3 df_N := ⟨_, _, _, tt_N, rfl, by decide, rfl, in_N, to_N, dv_N, by decide, w_23, w_24, w_25⟩
theorem nw_S_18 : jx_NW "StationLine$Station" 18 5 df_E := ⟨_, _, _, tt_E, rfl, by decide, rfl, in_E, to_E, dv_E, by decide, w_56, w_57, w_58⟩
theorem nw_S_25 : jx_NW "StationLine$Station" 25 4 df_B := ⟨_, _, _, tt_B, rfl, by decide, rfl, in_B, to_B, dv_B, by decide, w_62, w_63, w_64⟩
theorem nw_W_10 : jx_NW "StationLineLaw" 10 8 df_R := ⟨_, _, _, tt_R, rfl, by decide, rfl, in_R, to_R, dv_R, by decide, w_586, w_587, w_421⟩
theorem nw_W_7 : jx_NW "StationLineLaw" 7 7 df_L := ⟨_, _, _, tt_L, rfl, by decide, rfl, in_L, to_L, dv_L, by decide, w_581, w_582, w_95⟩
theorem jt_ai : ∀ a, narrow (.array .int) (.ref a) = .ref a ∧ fits (.array .int) (.ref a) = true := fun _ => ⟨rfl, rfl⟩
theorem jt_az : ∀ a, narrow (.array .boolean) (.ref a) = .ref a ∧ fits (.array .boolean) (.ref a) = true := fun _ => ⟨rfl, rfl⟩
theorem jt_aai : ∀ a, narrow (.array (.array .int)) (.ref a) = .ref a ∧ fits (.array (.array .int)) (.ref a) = true := fun _ => ⟨rfl, rfl⟩
theorem jt_aD : ∀ a, narrow (.array (.object "StationLine$Datagram")) (.ref a) = .ref a ∧ fits (.array (.object "StationLine$Datagram")) (.ref a) = true := fun _ => ⟨rfl, rfl⟩
theorem jt_aS : ∀ a, narrow (.array (.object "StationLine$Station")) (.ref a) = .ref a ∧ fits (.array (.object "StationLine$Station")) (.ref a) = true := fun _ => ⟨rfl, rfl⟩
theorem jt_o {C : String} : ∀ a, narrow (.object C) (.ref a) = .ref a ∧ fits (.object C) (.ref a) = true := fun _ => ⟨rfl, rfl⟩
end
