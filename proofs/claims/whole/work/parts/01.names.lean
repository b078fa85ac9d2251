-- ===== PART A: goes FIRST, ahead of the names: the tables' words, and 'selects' of the private methods out of them =====
/-- a private method of a class that the tables say can be made, by its rows of tables_1 -/
def lw_okq (q : MethodName × Nat) : Prop := (q.1.cls ≠ "java/lang/invoke/MethodHandle" ∧ q.1.cls ≠ "java/lang/invoke/VarHandle") ∧ Cond.instantiable q.1.cls q.2 ∈ tables_1 ∧ Cond.privateMethod q.1 ∈ tables_1 ∧ Cond.instanceMethod q.1 ∈ tables_1
theorem lw_p0 : lw_okq (⟨"StationLine$Line", "stationsBeforeBreak", "()I"⟩, 4) := ⟨⟨by decide +kernel, by decide +kernel⟩, List.mem_of_getElem? (i := 22) (by decide +kernel), List.mem_of_getElem? (i := 298) (by decide +kernel), List.mem_of_getElem? (i := 299) (by decide +kernel)⟩
theorem lw_p1 : lw_okq (⟨"StationLine$Station", "performDirect", "(LStationLine$Datagram;)V"⟩, 8) := ⟨⟨by decide +kernel, by decide +kernel⟩, List.mem_of_getElem? (i := 161) (by decide +kernel), List.mem_of_getElem? (i := 306) (by decide +kernel), List.mem_of_getElem? (i := 307) (by decide +kernel)⟩
theorem lw_p2 : lw_okq (⟨"StationLine$Memory", "findOwners", "(II)V"⟩, 10) := ⟨⟨by decide +kernel, by decide +kernel⟩, List.mem_of_getElem? (i := 167) (by decide +kernel), List.mem_of_getElem? (i := 314) (by decide +kernel), List.mem_of_getElem? (i := 315) (by decide +kernel)⟩
theorem lw_p3 : lw_okq (⟨"StationLine$Memory", "startOf", "(I)I"⟩, 10) := ⟨⟨by decide +kernel, by decide +kernel⟩, List.mem_of_getElem? (i := 167) (by decide +kernel), List.mem_of_getElem? (i := 323) (by decide +kernel), List.mem_of_getElem? (i := 324) (by decide +kernel)⟩
theorem lw_p4 : lw_okq (⟨"StationLine$Memory", "lengthOf", "(I)I"⟩, 10) := ⟨⟨by decide +kernel, by decide +kernel⟩, List.mem_of_getElem? (i := 167) (by decide +kernel), List.mem_of_getElem? (i := 327) (by decide +kernel), List.mem_of_getElem? (i := 328) (by decide +kernel)⟩
theorem lw_p5 : lw_okq (⟨"StationLine$Memory", "isAllowed", "(IIZ)Z"⟩, 10) := ⟨⟨by decide +kernel, by decide +kernel⟩, List.mem_of_getElem? (i := 167) (by decide +kernel), List.mem_of_getElem? (i := 337) (by decide +kernel), List.mem_of_getElem? (i := 338) (by decide +kernel)⟩
theorem lw_p6 : lw_okq (⟨"StationLine$Memory", "allows", "(IIIZ)Z"⟩, 10) := ⟨⟨by decide +kernel, by decide +kernel⟩, List.mem_of_getElem? (i := 167) (by decide +kernel), List.mem_of_getElem? (i := 341) (by decide +kernel), List.mem_of_getElem? (i := 342) (by decide +kernel)⟩
theorem lw_p7 : lw_okq (⟨"StationLine$Memory", "heldByte", "(II)I"⟩, 10) := ⟨⟨by decide +kernel, by decide +kernel⟩, List.mem_of_getElem? (i := 167) (by decide +kernel), List.mem_of_getElem? (i := 345) (by decide +kernel), List.mem_of_getElem? (i := 346) (by decide +kernel)⟩
theorem lw_p8 : lw_okq (⟨"StationLine$Memory", "modeOf", "(I)I"⟩, 10) := ⟨⟨by decide +kernel, by decide +kernel⟩, List.mem_of_getElem? (i := 167) (by decide +kernel), List.mem_of_getElem? (i := 349) (by decide +kernel), List.mem_of_getElem? (i := 350) (by decide +kernel)⟩
theorem lw_p9 : lw_okq (⟨"StationLine$Memory", "storeInChannel", "(III)V"⟩, 10) := ⟨⟨by decide +kernel, by decide +kernel⟩, List.mem_of_getElem? (i := 167) (by decide +kernel), List.mem_of_getElem? (i := 353) (by decide +kernel), List.mem_of_getElem? (i := 354) (by decide +kernel)⟩
theorem lw_p10 : lw_okq (⟨"StationLine$Memory", "storePlain", "(II)V"⟩, 10) := ⟨⟨by decide +kernel, by decide +kernel⟩, List.mem_of_getElem? (i := 167) (by decide +kernel), List.mem_of_getElem? (i := 360) (by decide +kernel), List.mem_of_getElem? (i := 361) (by decide +kernel)⟩
theorem lw_p11 : lw_okq (⟨"StationLine$Memory", "clearChannel", "(I)V"⟩, 10) := ⟨⟨by decide +kernel, by decide +kernel⟩, List.mem_of_getElem? (i := 167) (by decide +kernel), List.mem_of_getElem? (i := 364) (by decide +kernel), List.mem_of_getElem? (i := 365) (by decide +kernel)⟩
theorem lw_p12 : lw_okq (⟨"StationLine$Memory", "beforeReading", "(II)V"⟩, 10) := ⟨⟨by decide +kernel, by decide +kernel⟩, List.mem_of_getElem? (i := 167) (by decide +kernel), List.mem_of_getElem? (i := 372) (by decide +kernel), List.mem_of_getElem? (i := 373) (by decide +kernel)⟩
theorem lw_p13 : lw_okq (⟨"StationLine$Station", "performLogical", "(LStationLine$Datagram;)V"⟩, 8) := ⟨⟨by decide +kernel, by decide +kernel⟩, List.mem_of_getElem? (i := 161) (by decide +kernel), List.mem_of_getElem? (i := 377) (by decide +kernel), List.mem_of_getElem? (i := 378) (by decide +kernel)⟩
theorem lw_p14 : lw_okq (⟨"StationLine$Station", "obeyControl", "()V"⟩, 8) := ⟨⟨by decide +kernel, by decide +kernel⟩, List.mem_of_getElem? (i := 161) (by decide +kernel), List.mem_of_getElem? (i := 432) (by decide +kernel), List.mem_of_getElem? (i := 433) (by decide +kernel)⟩
theorem lw_p15 : lw_okq (⟨"StationLine$Station", "objection", "(I)I"⟩, 8) := ⟨⟨by decide +kernel, by decide +kernel⟩, List.mem_of_getElem? (i := 161) (by decide +kernel), List.mem_of_getElem? (i := 436) (by decide +kernel), List.mem_of_getElem? (i := 437) (by decide +kernel)⟩
def lw_privs_1 : List (MethodName × Nat) := [(⟨"StationLine$Line", "stationsBeforeBreak", "()I"⟩, 4), (⟨"StationLine$Station", "performDirect", "(LStationLine$Datagram;)V"⟩, 8), (⟨"StationLine$Memory", "findOwners", "(II)V"⟩, 10), (⟨"StationLine$Memory", "startOf", "(I)I"⟩, 10), (⟨"StationLine$Memory", "lengthOf", "(I)I"⟩, 10), (⟨"StationLine$Memory", "isAllowed", "(IIZ)Z"⟩, 10), (⟨"StationLine$Memory", "allows", "(IIIZ)Z"⟩, 10), (⟨"StationLine$Memory", "heldByte", "(II)I"⟩, 10), (⟨"StationLine$Memory", "modeOf", "(I)I"⟩, 10), (⟨"StationLine$Memory", "storeInChannel", "(III)V"⟩, 10), (⟨"StationLine$Memory", "storePlain", "(II)V"⟩, 10), (⟨"StationLine$Memory", "clearChannel", "(I)V"⟩, 10), (⟨"StationLine$Memory", "beforeReading", "(II)V"⟩, 10), (⟨"StationLine$Station", "performLogical", "(LStationLine$Datagram;)V"⟩, 8), (⟨"StationLine$Station", "obeyControl", "()V"⟩, 8), (⟨"StationLine$Station", "objection", "(I)I"⟩, 8)]
theorem lw_r1 : ∀ q ∈ lw_privs_1, lw_okq q := List.forall_mem_cons.mpr ⟨lw_p0, List.forall_mem_cons.mpr ⟨lw_p1, List.forall_mem_cons.mpr ⟨lw_p2, List.forall_mem_cons.mpr ⟨lw_p3, List.forall_mem_cons.mpr ⟨lw_p4, List.forall_mem_cons.mpr ⟨lw_p5, List.forall_mem_cons.mpr ⟨lw_p6, List.forall_mem_cons.mpr ⟨lw_p7, List.forall_mem_cons.mpr ⟨lw_p8, List.forall_mem_cons.mpr ⟨lw_p9, List.forall_mem_cons.mpr ⟨lw_p10, List.forall_mem_cons.mpr ⟨lw_p11, List.forall_mem_cons.mpr ⟨lw_p12, List.forall_mem_cons.mpr ⟨lw_p13, List.forall_mem_cons.mpr ⟨lw_p14, List.forall_mem_cons.mpr ⟨lw_p15, fun _ h => absurd h List.not_mem_nil⟩⟩⟩⟩⟩⟩⟩⟩⟩⟩⟩⟩⟩⟩⟩⟩
theorem lw_p16 : lw_okq (⟨"StationLine$Station", "present", "()I"⟩, 8) := ⟨⟨by decide +kernel, by decide +kernel⟩, List.mem_of_getElem? (i := 161) (by decide +kernel), List.mem_of_getElem? (i := 440) (by decide +kernel), List.mem_of_getElem? (i := 441) (by decide +kernel)⟩
theorem lw_p17 : lw_okq (⟨"StationLine$Station", "hasMailbox", "()Z"⟩, 8) := ⟨⟨by decide +kernel, by decide +kernel⟩, List.mem_of_getElem? (i := 161) (by decide +kernel), List.mem_of_getElem? (i := 444) (by decide +kernel), List.mem_of_getElem? (i := 445) (by decide +kernel)⟩
theorem lw_p18 : lw_okq (⟨"StationLine$Station", "isSetUp", "(III)Z"⟩, 8) := ⟨⟨by decide +kernel, by decide +kernel⟩, List.mem_of_getElem? (i := 161) (by decide +kernel), List.mem_of_getElem? (i := 452) (by decide +kernel), List.mem_of_getElem? (i := 453) (by decide +kernel)⟩
theorem lw_p19 : lw_okq (⟨"StationLine$Station", "become", "(II)V"⟩, 8) := ⟨⟨by decide +kernel, by decide +kernel⟩, List.mem_of_getElem? (i := 161) (by decide +kernel), List.mem_of_getElem? (i := 460) (by decide +kernel), List.mem_of_getElem? (i := 461) (by decide +kernel)⟩
theorem lw_p20 : lw_okq (⟨"StationLine$Station", "enter", "(I)V"⟩, 8) := ⟨⟨by decide +kernel, by decide +kernel⟩, List.mem_of_getElem? (i := 161) (by decide +kernel), List.mem_of_getElem? (i := 464) (by decide +kernel), List.mem_of_getElem? (i := 465) (by decide +kernel)⟩
theorem lw_p21 : lw_okq (⟨"StationLine$Station", "replyToMessage", "()V"⟩, 8) := ⟨⟨by decide +kernel, by decide +kernel⟩, List.mem_of_getElem? (i := 161) (by decide +kernel), List.mem_of_getElem? (i := 468) (by decide +kernel), List.mem_of_getElem? (i := 469) (by decide +kernel)⟩
theorem lw_p22 : lw_okq (⟨"StationLine$Station", "doMessage", "(III[I)V"⟩, 8) := ⟨⟨by decide +kernel, by decide +kernel⟩, List.mem_of_getElem? (i := 161) (by decide +kernel), List.mem_of_getElem? (i := 472) (by decide +kernel), List.mem_of_getElem? (i := 473) (by decide +kernel)⟩
theorem lw_p23 : lw_okq (⟨"StationLine$Station", "takeSensors", "()V"⟩, 8) := ⟨⟨by decide +kernel, by decide +kernel⟩, List.mem_of_getElem? (i := 161) (by decide +kernel), List.mem_of_getElem? (i := 479) (by decide +kernel), List.mem_of_getElem? (i := 480) (by decide +kernel)⟩
theorem lw_p24 : lw_okq (⟨"StationLine$Station", "moveActuators", "()V"⟩, 8) := ⟨⟨by decide +kernel, by decide +kernel⟩, List.mem_of_getElem? (i := 161) (by decide +kernel), List.mem_of_getElem? (i := 483) (by decide +kernel), List.mem_of_getElem? (i := 484) (by decide +kernel)⟩
theorem lw_p25 : lw_okq (⟨"StationLine$Station", "watch", "()V"⟩, 8) := ⟨⟨by decide +kernel, by decide +kernel⟩, List.mem_of_getElem? (i := 161) (by decide +kernel), List.mem_of_getElem? (i := 488) (by decide +kernel), List.mem_of_getElem? (i := 489) (by decide +kernel)⟩
theorem lw_p26 : lw_okq (⟨"StationLine", "startFrame", "(IIII)LStationLine$Datagram;"⟩, 6) := ⟨⟨by decide +kernel, by decide +kernel⟩, List.mem_of_getElem? (i := 14) (by decide +kernel), List.mem_of_getElem? (i := 513) (by decide +kernel), List.mem_of_getElem? (i := 514) (by decide +kernel)⟩
theorem lw_p27 : lw_okq (⟨"StationLine", "startChannelsFrame", "(I)V"⟩, 6) := ⟨⟨by decide +kernel, by decide +kernel⟩, List.mem_of_getElem? (i := 14) (by decide +kernel), List.mem_of_getElem? (i := 526) (by decide +kernel), List.mem_of_getElem? (i := 527) (by decide +kernel)⟩
theorem lw_p28 : lw_okq (⟨"StationLine", "startInputsFrame", "(I)V"⟩, 6) := ⟨⟨by decide +kernel, by decide +kernel⟩, List.mem_of_getElem? (i := 14) (by decide +kernel), List.mem_of_getElem? (i := 540) (by decide +kernel), List.mem_of_getElem? (i := 541) (by decide +kernel)⟩
theorem lw_p29 : lw_okq (⟨"StationLineModel", "gram", "(IIIII)V"⟩, 41) := ⟨⟨by decide +kernel, by decide +kernel⟩, List.mem_of_getElem? (i := 580) (by decide +kernel), List.mem_of_getElem? (i := 719) (by decide +kernel), List.mem_of_getElem? (i := 720) (by decide +kernel)⟩
theorem lw_p30 : lw_okq (⟨"StationLineModel", "copyGram", "(II)V"⟩, 41) := ⟨⟨by decide +kernel, by decide +kernel⟩, List.mem_of_getElem? (i := 580) (by decide +kernel), List.mem_of_getElem? (i := 731) (by decide +kernel), List.mem_of_getElem? (i := 732) (by decide +kernel)⟩
theorem lw_p31 : lw_okq (⟨"StationLineModel", "travel", "()Z"⟩, 41) := ⟨⟨by decide +kernel, by decide +kernel⟩, List.mem_of_getElem? (i := 580) (by decide +kernel), List.mem_of_getElem? (i := 735) (by decide +kernel), List.mem_of_getElem? (i := 736) (by decide +kernel)⟩
def lw_privs_2 : List (MethodName × Nat) := [(⟨"StationLine$Station", "present", "()I"⟩, 8), (⟨"StationLine$Station", "hasMailbox", "()Z"⟩, 8), (⟨"StationLine$Station", "isSetUp", "(III)Z"⟩, 8), (⟨"StationLine$Station", "become", "(II)V"⟩, 8), (⟨"StationLine$Station", "enter", "(I)V"⟩, 8), (⟨"StationLine$Station", "replyToMessage", "()V"⟩, 8), (⟨"StationLine$Station", "doMessage", "(III[I)V"⟩, 8), (⟨"StationLine$Station", "takeSensors", "()V"⟩, 8), (⟨"StationLine$Station", "moveActuators", "()V"⟩, 8), (⟨"StationLine$Station", "watch", "()V"⟩, 8), (⟨"StationLine", "startFrame", "(IIII)LStationLine$Datagram;"⟩, 6), (⟨"StationLine", "startChannelsFrame", "(I)V"⟩, 6), (⟨"StationLine", "startInputsFrame", "(I)V"⟩, 6), (⟨"StationLineModel", "gram", "(IIIII)V"⟩, 41), (⟨"StationLineModel", "copyGram", "(II)V"⟩, 41), (⟨"StationLineModel", "travel", "()Z"⟩, 41)]
theorem lw_r2 : ∀ q ∈ lw_privs_2, lw_okq q := List.forall_mem_cons.mpr ⟨lw_p16, List.forall_mem_cons.mpr ⟨lw_p17, List.forall_mem_cons.mpr ⟨lw_p18, List.forall_mem_cons.mpr ⟨lw_p19, List.forall_mem_cons.mpr ⟨lw_p20, List.forall_mem_cons.mpr ⟨lw_p21, List.forall_mem_cons.mpr ⟨lw_p22, List.forall_mem_cons.mpr ⟨lw_p23, List.forall_mem_cons.mpr ⟨lw_p24, List.forall_mem_cons.mpr ⟨lw_p25, List.forall_mem_cons.mpr ⟨lw_p26, List.forall_mem_cons.mpr ⟨lw_p27, List.forall_mem_cons.mpr ⟨lw_p28, List.forall_mem_cons.mpr ⟨lw_p29, List.forall_mem_cons.mpr ⟨lw_p30, List.forall_mem_cons.mpr ⟨lw_p31, fun _ h => absurd h List.not_mem_nil⟩⟩⟩⟩⟩⟩⟩⟩⟩⟩⟩⟩⟩⟩⟩⟩
theorem lw_p32 : lw_okq (⟨"StationLineModel", "handle", "(II)V"⟩, 41) := ⟨⟨by decide +kernel, by decide +kernel⟩, List.mem_of_getElem? (i := 580) (by decide +kernel), List.mem_of_getElem? (i := 739) (by decide +kernel), List.mem_of_getElem? (i := 740) (by decide +kernel)⟩
theorem lw_p33 : lw_okq (⟨"StationLineModel", "map", "(III)V"⟩, 41) := ⟨⟨by decide +kernel, by decide +kernel⟩, List.mem_of_getElem? (i := 580) (by decide +kernel), List.mem_of_getElem? (i := 743) (by decide +kernel), List.mem_of_getElem? (i := 744) (by decide +kernel)⟩
theorem lw_p34 : lw_okq (⟨"StationLineModel", "at", "(II)I"⟩, 41) := ⟨⟨by decide +kernel, by decide +kernel⟩, List.mem_of_getElem? (i := 580) (by decide +kernel), List.mem_of_getElem? (i := 747) (by decide +kernel), List.mem_of_getElem? (i := 748) (by decide +kernel)⟩
theorem lw_p35 : lw_okq (⟨"StationLineModel", "reads", "(III)Z"⟩, 41) := ⟨⟨by decide +kernel, by decide +kernel⟩, List.mem_of_getElem? (i := 580) (by decide +kernel), List.mem_of_getElem? (i := 751) (by decide +kernel), List.mem_of_getElem? (i := 752) (by decide +kernel)⟩
theorem lw_p36 : lw_okq (⟨"StationLineModel", "allowed", "(IIIZ)Z"⟩, 41) := ⟨⟨by decide +kernel, by decide +kernel⟩, List.mem_of_getElem? (i := 580) (by decide +kernel), List.mem_of_getElem? (i := 755) (by decide +kernel), List.mem_of_getElem? (i := 756) (by decide +kernel)⟩
theorem lw_p37 : lw_okq (⟨"StationLineModel", "channelOf", "(II)I"⟩, 41) := ⟨⟨by decide +kernel, by decide +kernel⟩, List.mem_of_getElem? (i := 580) (by decide +kernel), List.mem_of_getElem? (i := 759) (by decide +kernel), List.mem_of_getElem? (i := 760) (by decide +kernel)⟩
theorem lw_p38 : lw_okq (⟨"StationLineModel", "open", "(II)Z"⟩, 41) := ⟨⟨by decide +kernel, by decide +kernel⟩, List.mem_of_getElem? (i := 580) (by decide +kernel), List.mem_of_getElem? (i := 763) (by decide +kernel), List.mem_of_getElem? (i := 764) (by decide +kernel)⟩
theorem lw_p39 : lw_okq (⟨"StationLineModel", "many", "(II)I"⟩, 41) := ⟨⟨by decide +kernel, by decide +kernel⟩, List.mem_of_getElem? (i := 580) (by decide +kernel), List.mem_of_getElem? (i := 767) (by decide +kernel), List.mem_of_getElem? (i := 768) (by decide +kernel)⟩
theorem lw_p40 : lw_okq (⟨"StationLineModel", "begin", "(II)I"⟩, 41) := ⟨⟨by decide +kernel, by decide +kernel⟩, List.mem_of_getElem? (i := 580) (by decide +kernel), List.mem_of_getElem? (i := 771) (by decide +kernel), List.mem_of_getElem? (i := 772) (by decide +kernel)⟩
theorem lw_p41 : lw_okq (⟨"StationLineModel", "lets", "(IIIIZ)Z"⟩, 41) := ⟨⟨by decide +kernel, by decide +kernel⟩, List.mem_of_getElem? (i := 580) (by decide +kernel), List.mem_of_getElem? (i := 775) (by decide +kernel), List.mem_of_getElem? (i := 776) (by decide +kernel)⟩
theorem lw_p42 : lw_okq (⟨"StationLineModel", "kind", "(II)I"⟩, 41) := ⟨⟨by decide +kernel, by decide +kernel⟩, List.mem_of_getElem? (i := 580) (by decide +kernel), List.mem_of_getElem? (i := 779) (by decide +kernel), List.mem_of_getElem? (i := 780) (by decide +kernel)⟩
theorem lw_p43 : lw_okq (⟨"StationLineModel", "full", "(II)Z"⟩, 41) := ⟨⟨by decide +kernel, by decide +kernel⟩, List.mem_of_getElem? (i := 580) (by decide +kernel), List.mem_of_getElem? (i := 783) (by decide +kernel), List.mem_of_getElem? (i := 784) (by decide +kernel)⟩
theorem lw_p44 : lw_okq (⟨"StationLineModel", "copy", "(IIZ)V"⟩, 41) := ⟨⟨by decide +kernel, by decide +kernel⟩, List.mem_of_getElem? (i := 580) (by decide +kernel), List.mem_of_getElem? (i := 787) (by decide +kernel), List.mem_of_getElem? (i := 788) (by decide +kernel)⟩
theorem lw_p45 : lw_okq (⟨"StationLineModel", "cell", "(III)I"⟩, 41) := ⟨⟨by decide +kernel, by decide +kernel⟩, List.mem_of_getElem? (i := 580) (by decide +kernel), List.mem_of_getElem? (i := 791) (by decide +kernel), List.mem_of_getElem? (i := 792) (by decide +kernel)⟩
theorem lw_p46 : lw_okq (⟨"StationLineModel", "fill", "(III)V"⟩, 41) := ⟨⟨by decide +kernel, by decide +kernel⟩, List.mem_of_getElem? (i := 580) (by decide +kernel), List.mem_of_getElem? (i := 795) (by decide +kernel), List.mem_of_getElem? (i := 796) (by decide +kernel)⟩
theorem lw_p47 : lw_okq (⟨"StationLineModel", "stays", "(II)I"⟩, 41) := ⟨⟨by decide +kernel, by decide +kernel⟩, List.mem_of_getElem? (i := 580) (by decide +kernel), List.mem_of_getElem? (i := 799) (by decide +kernel), List.mem_of_getElem? (i := 800) (by decide +kernel)⟩
def lw_privs_3 : List (MethodName × Nat) := [(⟨"StationLineModel", "handle", "(II)V"⟩, 41), (⟨"StationLineModel", "map", "(III)V"⟩, 41), (⟨"StationLineModel", "at", "(II)I"⟩, 41), (⟨"StationLineModel", "reads", "(III)Z"⟩, 41), (⟨"StationLineModel", "allowed", "(IIIZ)Z"⟩, 41), (⟨"StationLineModel", "channelOf", "(II)I"⟩, 41), (⟨"StationLineModel", "open", "(II)Z"⟩, 41), (⟨"StationLineModel", "many", "(II)I"⟩, 41), (⟨"StationLineModel", "begin", "(II)I"⟩, 41), (⟨"StationLineModel", "lets", "(IIIIZ)Z"⟩, 41), (⟨"StationLineModel", "kind", "(II)I"⟩, 41), (⟨"StationLineModel", "full", "(II)Z"⟩, 41), (⟨"StationLineModel", "copy", "(IIZ)V"⟩, 41), (⟨"StationLineModel", "cell", "(III)I"⟩, 41), (⟨"StationLineModel", "fill", "(III)V"⟩, 41), (⟨"StationLineModel", "stays", "(II)I"⟩, 41)]
theorem lw_r3 : ∀ q ∈ lw_privs_3, lw_okq q := List.forall_mem_cons.mpr ⟨lw_p32, List.forall_mem_cons.mpr ⟨lw_p33, List.forall_mem_cons.mpr ⟨lw_p34, List.forall_mem_cons.mpr ⟨lw_p35, List.forall_mem_cons.mpr ⟨lw_p36, List.forall_mem_cons.mpr ⟨lw_p37, List.forall_mem_cons.mpr ⟨lw_p38, List.forall_mem_cons.mpr ⟨lw_p39, List.forall_mem_cons.mpr ⟨lw_p40, List.forall_mem_cons.mpr ⟨lw_p41, List.forall_mem_cons.mpr ⟨lw_p42, List.forall_mem_cons.mpr ⟨lw_p43, List.forall_mem_cons.mpr ⟨lw_p44, List.forall_mem_cons.mpr ⟨lw_p45, List.forall_mem_cons.mpr ⟨lw_p46, List.forall_mem_cons.mpr ⟨lw_p47, fun _ h => absurd h List.not_mem_nil⟩⟩⟩⟩⟩⟩⟩⟩⟩⟩⟩⟩⟩⟩⟩⟩
theorem lw_p48 : lw_okq (⟨"StationLineModel", "writes", "(III)V"⟩, 41) := ⟨⟨by decide +kernel, by decide +kernel⟩, List.mem_of_getElem? (i := 580) (by decide +kernel), List.mem_of_getElem? (i := 803) (by decide +kernel), List.mem_of_getElem? (i := 804) (by decide +kernel)⟩
theorem lw_p49 : lw_okq (⟨"StationLineModel", "store", "(III)V"⟩, 41) := ⟨⟨by decide +kernel, by decide +kernel⟩, List.mem_of_getElem? (i := 580) (by decide +kernel), List.mem_of_getElem? (i := 807) (by decide +kernel), List.mem_of_getElem? (i := 808) (by decide +kernel)⟩
theorem lw_p50 : lw_okq (⟨"StationLineModel", "wipe", "(II)V"⟩, 41) := ⟨⟨by decide +kernel, by decide +kernel⟩, List.mem_of_getElem? (i := 580) (by decide +kernel), List.mem_of_getElem? (i := 811) (by decide +kernel), List.mem_of_getElem? (i := 812) (by decide +kernel)⟩
theorem lw_p51 : lw_okq (⟨"StationLineModel", "touch", "(II)V"⟩, 41) := ⟨⟨by decide +kernel, by decide +kernel⟩, List.mem_of_getElem? (i := 580) (by decide +kernel), List.mem_of_getElem? (i := 815) (by decide +kernel), List.mem_of_getElem? (i := 816) (by decide +kernel)⟩
theorem lw_p52 : lw_okq (⟨"StationLineModel", "isStation", "(I)Z"⟩, 41) := ⟨⟨by decide +kernel, by decide +kernel⟩, List.mem_of_getElem? (i := 580) (by decide +kernel), List.mem_of_getElem? (i := 827) (by decide +kernel), List.mem_of_getElem? (i := 828) (by decide +kernel)⟩
theorem lw_p53 : lw_okq (⟨"StationLineModel", "turn", "(I)V"⟩, 41) := ⟨⟨by decide +kernel, by decide +kernel⟩, List.mem_of_getElem? (i := 580) (by decide +kernel), List.mem_of_getElem? (i := 839) (by decide +kernel), List.mem_of_getElem? (i := 840) (by decide +kernel)⟩
theorem lw_p54 : lw_okq (⟨"StationLineModel", "control", "(I)V"⟩, 41) := ⟨⟨by decide +kernel, by decide +kernel⟩, List.mem_of_getElem? (i := 580) (by decide +kernel), List.mem_of_getElem? (i := 843) (by decide +kernel), List.mem_of_getElem? (i := 844) (by decide +kernel)⟩
theorem lw_p55 : lw_okq (⟨"StationLineModel", "fail", "(II)V"⟩, 41) := ⟨⟨by decide +kernel, by decide +kernel⟩, List.mem_of_getElem? (i := 580) (by decide +kernel), List.mem_of_getElem? (i := 847) (by decide +kernel), List.mem_of_getElem? (i := 848) (by decide +kernel)⟩
theorem lw_p56 : lw_okq (⟨"StationLineModel", "hindrance", "(II)I"⟩, 41) := ⟨⟨by decide +kernel, by decide +kernel⟩, List.mem_of_getElem? (i := 580) (by decide +kernel), List.mem_of_getElem? (i := 851) (by decide +kernel), List.mem_of_getElem? (i := 852) (by decide +kernel)⟩
theorem lw_p57 : lw_okq (⟨"StationLineModel", "mailed", "(I)Z"⟩, 41) := ⟨⟨by decide +kernel, by decide +kernel⟩, List.mem_of_getElem? (i := 580) (by decide +kernel), List.mem_of_getElem? (i := 855) (by decide +kernel), List.mem_of_getElem? (i := 856) (by decide +kernel)⟩
theorem lw_p58 : lw_okq (⟨"StationLineModel", "like", "(IIII)Z"⟩, 41) := ⟨⟨by decide +kernel, by decide +kernel⟩, List.mem_of_getElem? (i := 580) (by decide +kernel), List.mem_of_getElem? (i := 859) (by decide +kernel), List.mem_of_getElem? (i := 860) (by decide +kernel)⟩
theorem lw_p59 : lw_okq (⟨"StationLineModel", "fit", "(IIII)Z"⟩, 41) := ⟨⟨by decide +kernel, by decide +kernel⟩, List.mem_of_getElem? (i := 580) (by decide +kernel), List.mem_of_getElem? (i := 863) (by decide +kernel), List.mem_of_getElem? (i := 864) (by decide +kernel)⟩
theorem lw_p60 : lw_okq (⟨"StationLineModel", "message", "(I)V"⟩, 41) := ⟨⟨by decide +kernel, by decide +kernel⟩, List.mem_of_getElem? (i := 580) (by decide +kernel), List.mem_of_getElem? (i := 867) (by decide +kernel), List.mem_of_getElem? (i := 868) (by decide +kernel)⟩
theorem lw_p61 : lw_okq (⟨"StationLineModel", "rest", "(I)V"⟩, 41) := ⟨⟨by decide +kernel, by decide +kernel⟩, List.mem_of_getElem? (i := 580) (by decide +kernel), List.mem_of_getElem? (i := 871) (by decide +kernel), List.mem_of_getElem? (i := 872) (by decide +kernel)⟩
theorem lw_p62 : lw_okq (⟨"StationLineModel", "single", "(IIII)Z"⟩, 41) := ⟨⟨by decide +kernel, by decide +kernel⟩, List.mem_of_getElem? (i := 580) (by decide +kernel), List.mem_of_getElem? (i := 891) (by decide +kernel), List.mem_of_getElem? (i := 892) (by decide +kernel)⟩
theorem lw_p63 : lw_okq (⟨"StationLineModel", "equip", "(I)Z"⟩, 41) := ⟨⟨by decide +kernel, by decide +kernel⟩, List.mem_of_getElem? (i := 580) (by decide +kernel), List.mem_of_getElem? (i := 900) (by decide +kernel), List.mem_of_getElem? (i := 901) (by decide +kernel)⟩
def lw_privs_4 : List (MethodName × Nat) := [(⟨"StationLineModel", "writes", "(III)V"⟩, 41), (⟨"StationLineModel", "store", "(III)V"⟩, 41), (⟨"StationLineModel", "wipe", "(II)V"⟩, 41), (⟨"StationLineModel", "touch", "(II)V"⟩, 41), (⟨"StationLineModel", "isStation", "(I)Z"⟩, 41), (⟨"StationLineModel", "turn", "(I)V"⟩, 41), (⟨"StationLineModel", "control", "(I)V"⟩, 41), (⟨"StationLineModel", "fail", "(II)V"⟩, 41), (⟨"StationLineModel", "hindrance", "(II)I"⟩, 41), (⟨"StationLineModel", "mailed", "(I)Z"⟩, 41), (⟨"StationLineModel", "like", "(IIII)Z"⟩, 41), (⟨"StationLineModel", "fit", "(IIII)Z"⟩, 41), (⟨"StationLineModel", "message", "(I)V"⟩, 41), (⟨"StationLineModel", "rest", "(I)V"⟩, 41), (⟨"StationLineModel", "single", "(IIII)Z"⟩, 41), (⟨"StationLineModel", "equip", "(I)Z"⟩, 41)]
theorem lw_r4 : ∀ q ∈ lw_privs_4, lw_okq q := List.forall_mem_cons.mpr ⟨lw_p48, List.forall_mem_cons.mpr ⟨lw_p49, List.forall_mem_cons.mpr ⟨lw_p50, List.forall_mem_cons.mpr ⟨lw_p51, List.forall_mem_cons.mpr ⟨lw_p52, List.forall_mem_cons.mpr ⟨lw_p53, List.forall_mem_cons.mpr ⟨lw_p54, List.forall_mem_cons.mpr ⟨lw_p55, List.forall_mem_cons.mpr ⟨lw_p56, List.forall_mem_cons.mpr ⟨lw_p57, List.forall_mem_cons.mpr ⟨lw_p58, List.forall_mem_cons.mpr ⟨lw_p59, List.forall_mem_cons.mpr ⟨lw_p60, List.forall_mem_cons.mpr ⟨lw_p61, List.forall_mem_cons.mpr ⟨lw_p62, List.forall_mem_cons.mpr ⟨lw_p63, fun _ h => absurd h List.not_mem_nil⟩⟩⟩⟩⟩⟩⟩⟩⟩⟩⟩⟩⟩⟩⟩⟩
theorem lw_p64 : lw_okq (⟨"StationLineModel", "six", "(IIIIIII)V"⟩, 41) := ⟨⟨by decide +kernel, by decide +kernel⟩, List.mem_of_getElem? (i := 580) (by decide +kernel), List.mem_of_getElem? (i := 904) (by decide +kernel), List.mem_of_getElem? (i := 905) (by decide +kernel)⟩
theorem lw_p65 : lw_okq (⟨"StationLineModel", "expected", "(I)I"⟩, 41) := ⟨⟨by decide +kernel, by decide +kernel⟩, List.mem_of_getElem? (i := 580) (by decide +kernel), List.mem_of_getElem? (i := 920) (by decide +kernel), List.mem_of_getElem? (i := 921) (by decide +kernel)⟩
def lw_privs_5 : List (MethodName × Nat) := [(⟨"StationLineModel", "six", "(IIIIIII)V"⟩, 41), (⟨"StationLineModel", "expected", "(I)I"⟩, 41)]
theorem lw_r5 : ∀ q ∈ lw_privs_5, lw_okq q := List.forall_mem_cons.mpr ⟨lw_p64, List.forall_mem_cons.mpr ⟨lw_p65, fun _ h => absurd h List.not_mem_nil⟩⟩
def lw_privs : List (MethodName × Nat) := lw_privs_1 ++ (lw_privs_2 ++ (lw_privs_3 ++ (lw_privs_4 ++ (lw_privs_5))))
def lw_tbl : List Cond := k2_sels lw_privs ++ tables_1
theorem lw_privs_ok : ∀ q ∈ lw_privs, lw_okq q := by
  show ∀ q ∈ lw_privs_1 ++ (lw_privs_2 ++ (lw_privs_3 ++ (lw_privs_4 ++ (lw_privs_5)))), lw_okq q
  exact List.forall_mem_append.mpr ⟨lw_r1, List.forall_mem_append.mpr ⟨lw_r2, List.forall_mem_append.mpr ⟨lw_r3, List.forall_mem_append.mpr ⟨lw_r4, lw_r5⟩⟩⟩⟩
/-- the tables' words that a callee may be handed -/
def jx_ws : List Cond := lw_tbl.filter goodWord
theorem jx_allgood : ∀ w ∈ jx_ws, (w.onTables && w.keeps) = true ∨ ∃ ty, w = .arrayClass ty := fun w h => good_of_word (List.mem_filter.mp h).2
theorem jx_t {w : Cond} (i : Nat) (h : tables_1[i]? = some w) (hg : goodWord w = true) : w ∈ jx_ws := List.mem_filter.mpr ⟨List.mem_append_right _ (List.mem_of_getElem? h), hg⟩
theorem jx_p {w : Cond} (i : Nat) (h : (k2_sels lw_privs)[i]? = some w) (hg : goodWord w = true) : w ∈ jx_ws := List.mem_filter.mpr ⟨List.mem_append_left _ (List.mem_of_getElem? h), hg⟩
theorem jx_t1 {w : Cond} (i : Nat) (h : tables_1_1[i]? = some w) (hg : goodWord w = true) : w ∈ jx_ws := by
  have hm := List.mem_of_getElem? h
  exact List.mem_filter.mpr ⟨List.mem_append_right _ (List.mem_append_left _ hm), hg⟩
theorem jx_t2 {w : Cond} (i : Nat) (h : tables_1_2[i]? = some w) (hg : goodWord w = true) : w ∈ jx_ws := by
  have hm := List.mem_of_getElem? h
  exact List.mem_filter.mpr ⟨List.mem_append_right _ (List.mem_append_right _ (List.mem_append_left _ hm)), hg⟩
theorem jx_t3 {w : Cond} (i : Nat) (h : tables_1_3[i]? = some w) (hg : goodWord w = true) : w ∈ jx_ws := by
  have hm := List.mem_of_getElem? h
  exact List.mem_filter.mpr ⟨List.mem_append_right _ (List.mem_append_right _ (List.mem_append_right _ (List.mem_append_left _ hm))), hg⟩
theorem jx_t4 {w : Cond} (i : Nat) (h : tables_1_4[i]? = some w) (hg : goodWord w = true) : w ∈ jx_ws := by
  have hm := List.mem_of_getElem? h
  exact List.mem_filter.mpr ⟨List.mem_append_right _ (List.mem_append_right _ (List.mem_append_right _ (List.mem_append_right _ (hm)))), hg⟩
theorem jx_pl (ws : List Cond) (ps : List Nat) (hp : ws = ps.filterMap (fun i => tables_1[i]?)) (h : ws.all goodWord = true) : ∀ w ∈ ws, w ∈ jx_ws := by
  intro w hw
  have h1 := List.all_eq_true.mp h w hw
  rw [hp] at hw
  obtain ⟨i, -, hi⟩ := List.mem_filterMap.mp hw
  exact jx_t i hi h1
def T_D : u_T := fun k => match k with
  | 0 => ("StationLine$Datagram", "command", "I", false)
  | 1 => ("StationLine$Datagram", "address", "I", false)
  | 2 => ("StationLine$Datagram", "offset", "I", false)
  | 3 => ("StationLine$Datagram", "length", "I", false)
  | 4 => ("StationLine$Datagram", "counter", "I", false)
  | _ => ("StationLine$Datagram", "bytes", "[I", true)
def tt_D : Nat → FieldType := fun k => match k with
  | 0 => .int
  | 1 => .int
  | 2 => .int
  | 3 => .int
  | 4 => .int
  | _ => .array (.int)
theorem nn_D : ∀ a, a < 6 → ∀ b, b < 6 → a ≠ b → (T_D a).2.1 ≠ (T_D b).2.1 := by decide +kernel
theorem to_D : ∀ k, k < 6 → parseFieldDescriptor (T_D k).2.2.1 = some (tt_D k) := by decide +kernel
theorem in_D : ∀ w ∈ u_ws "StationLine$Datagram" T_D 6, w ∈ jx_ws := jx_pl _ [113, 115, 117, 119, 121, 123] (by decide +kernel) (by decide +kernel)
def df_D : List Value := [.int 0, .int 0, .int 0, .int 0, .int 0, .null]
theorem dv_D : ∀ k, k < 6 → defaultValue (tt_D k) = df_D.getD k .null := by decide +kernel
def T_F : u_T := fun k => match k with
  | 0 => ("StationLine$Frame", "datagrams", "[LStationLine$Datagram;", true)
  | _ => ("StationLine$Frame", "size", "I", false)
def tt_F : Nat → FieldType := fun k => match k with
  | 0 => .array (.object "StationLine$Datagram")
  | _ => .int
theorem nn_F : ∀ a, a < 2 → ∀ b, b < 2 → a ≠ b → (T_F a).2.1 ≠ (T_F b).2.1 := by decide +kernel
theorem to_F : ∀ k, k < 2 → parseFieldDescriptor (T_F k).2.2.1 = some (tt_F k) := by decide +kernel
theorem in_F : ∀ w ∈ u_ws "StationLine$Frame" T_F 2, w ∈ jx_ws := jx_pl _ [132, 134] (by decide +kernel) (by decide +kernel)
def df_F : List Value := [.null, .int 0]
theorem dv_F : ∀ k, k < 2 → defaultValue (tt_F k) = df_F.getD k .null := by decide +kernel
def T_I : u_T := fun k => match k with
  | 0 => ("StationLine$Image", "sent", "[I", true)
  | 1 => ("StationLine$Image", "got", "[I", true)
  | 2 => ("StationLine$Image", "outputsAt", "[I", true)
  | 3 => ("StationLine$Image", "inputsAt", "[I", true)
  | 4 => ("StationLine$Image", "endsAt", "[I", true)
  | 5 => ("StationLine$Image", "stations", "I", false)
  | _ => ("StationLine$Image", "size", "I", false)
def tt_I : Nat → FieldType := fun k => match k with
  | 0 => .array (.int)
  | 1 => .array (.int)
  | 2 => .array (.int)
  | 3 => .array (.int)
  | 4 => .array (.int)
  | 5 => .int
  | _ => .int
theorem nn_I : ∀ a, a < 7 → ∀ b, b < 7 → a ≠ b → (T_I a).2.1 ≠ (T_I b).2.1 := by decide +kernel
theorem to_I : ∀ k, k < 7 → parseFieldDescriptor (T_I k).2.2.1 = some (tt_I k) := by decide +kernel
theorem in_I : ∀ w ∈ u_ws "StationLine$Image" T_I 7, w ∈ jx_ws := jx_pl _ [65, 67, 69, 71, 73, 75, 77] (by decide +kernel) (by decide +kernel)
def df_I : List Value := [.null, .null, .null, .null, .null, .int 0, .int 0]
theorem dv_I : ∀ k, k < 7 → defaultValue (tt_I k) = df_I.getD k .null := by decide +kernel
def T_N : u_T := fun k => match k with
  | 0 => ("StationLine$Line", "stations", "[LStationLine$Station;", true)
  | 1 => ("StationLine$Line", "broken", "[Z", true)
  | 2 => ("StationLine$Line", "count", "I", false)
  | _ => ("StationLine$Line", "spoilBefore", "I", false)
def tt_N : Nat → FieldType := fun k => match k with
  | 0 => .array (.object "StationLine$Station")
  | 1 => .array (.boolean)
  | 2 => .int
  | _ => .int
theorem nn_N : ∀ a, a < 4 → ∀ b, b < 4 → a ≠ b → (T_N a).2.1 ≠ (T_N b).2.1 := by decide +kernel
theorem to_N : ∀ k, k < 4 → parseFieldDescriptor (T_N k).2.2.1 = some (tt_N k) := by decide +kernel
theorem in_N : ∀ w ∈ u_ws "StationLine$Line" T_N 4, w ∈ jx_ws := jx_pl _ [37, 39, 41, 43] (by decide +kernel) (by decide +kernel)
def df_N : List Value := [.null, .null, .int 0, .int 0]
theorem dv_N : ∀ k, k < 4 → defaultValue (tt_N k) = df_N.getD k .null := by decide +kernel
def T_B : u_T := fun k => match k with
  | 0 => ("StationLine$MappedBits", "dataBit", "I", false)
  | 1 => ("StationLine$MappedBits", "memoryBit", "I", false)
  | _ => ("StationLine$MappedBits", "count", "I", false)
def tt_B : Nat → FieldType := fun k => match k with
  | 0 => .int
  | 1 => .int
  | _ => .int
theorem nn_B : ∀ a, a < 3 → ∀ b, b < 3 → a ≠ b → (T_B a).2.1 ≠ (T_B b).2.1 := by decide +kernel
theorem to_B : ∀ k, k < 3 → parseFieldDescriptor (T_B k).2.2.1 = some (tt_B k) := by decide +kernel
theorem in_B : ∀ w ∈ u_ws "StationLine$MappedBits" T_B 3, w ∈ jx_ws := jx_pl _ [223, 225, 227] (by decide +kernel) (by decide +kernel)
def df_B : List Value := [.int 0, .int 0, .int 0]
theorem dv_B : ∀ k, k < 3 → defaultValue (tt_B k) = df_B.getD k .null := by decide +kernel
def T_E : u_T := fun k => match k with
  | 0 => ("StationLine$Memory", "bytes", "[I", true)
  | 1 => ("StationLine$Memory", "fresh", "[[I", true)
  | 2 => ("StationLine$Memory", "done", "[[I", true)
  | 3 => ("StationLine$Memory", "written", "[Z", true)
  | 4 => ("StationLine$Memory", "row", "[I", true)
  | 5 => ("StationLine$Memory", "mask", "[I", true)
  | 6 => ("StationLine$Memory", "owners", "[I", true)
  | 7 => ("StationLine$Memory", "controlWritten", "Z", false)
  | 8 => ("StationLine$Memory", "outputsRenewed", "Z", false)
  | _ => ("StationLine$Memory", "age", "I", false)
def tt_E : Nat → FieldType := fun k => match k with
  | 0 => .array (.int)
  | 1 => .array (.array (.int))
  | 2 => .array (.array (.int))
  | 3 => .array (.boolean)
  | 4 => .array (.int)
  | 5 => .array (.int)
  | 6 => .array (.int)
  | 7 => .boolean
  | 8 => .boolean
  | _ => .int
theorem nn_E : ∀ a, a < 10 → ∀ b, b < 10 → a ≠ b → (T_E a).2.1 ≠ (T_E b).2.1 := by decide +kernel
theorem to_E : ∀ k, k < 10 → parseFieldDescriptor (T_E k).2.2.1 = some (tt_E k) := by decide +kernel
theorem in_E : ∀ w ∈ u_ws "StationLine$Memory" T_E 10, w ∈ jx_ws := jx_pl _ [193, 195, 197, 199, 201, 203, 205, 207, 209, 211] (by decide +kernel) (by decide +kernel)
def df_E : List Value := [.null, .null, .null, .null, .null, .null, .null, .int 0, .int 0, .int 0]
theorem dv_E : ∀ k, k < 10 → defaultValue (tt_E k) = df_E.getD k .null := by decide +kernel
def T_S : u_T := fun k => match k with
  | 0 => ("StationLine$Station", "outputs", "I", true)
  | 1 => ("StationLine$Station", "inputs", "I", true)
  | 2 => ("StationLine$Station", "sensors", "[I", true)
  | 3 => ("StationLine$Station", "actuators", "[I", true)
  | 4 => ("StationLine$Station", "memory", "LStationLine$Memory;", true)
  | 5 => ("StationLine$Station", "bits", "LStationLine$MappedBits;", true)
  | 6 => ("StationLine$Station", "arrived", "[I", true)
  | _ => ("StationLine$Station", "objects", "[I", true)
def tt_S : Nat → FieldType := fun k => match k with
  | 0 => .int
  | 1 => .int
  | 2 => .array (.int)
  | 3 => .array (.int)
  | 4 => .object "StationLine$Memory"
  | 5 => .object "StationLine$MappedBits"
  | 6 => .array (.int)
  | _ => .array (.int)
theorem nn_S : ∀ a, a < 8 → ∀ b, b < 8 → a ≠ b → (T_S a).2.1 ≠ (T_S b).2.1 := by decide +kernel
theorem to_S : ∀ k, k < 8 → parseFieldDescriptor (T_S k).2.2.1 = some (tt_S k) := by decide +kernel
theorem in_S : ∀ w ∈ u_ws "StationLine$Station" T_S 8, w ∈ jx_ws := jx_pl _ [245, 247, 249, 251, 253, 255, 257, 259] (by decide +kernel) (by decide +kernel)
def df_S : List Value := [.int 0, .int 0, .null, .null, .null, .null, .null, .null]
theorem dv_S : ∀ k, k < 8 → defaultValue (tt_S k) = df_S.getD k .null := by decide +kernel
def T_L : u_T := fun k => match k with
  | 0 => ("StationLine", "line", "LStationLine$Line;", true)
  | 1 => ("StationLine", "image", "LStationLine$Image;", true)
  | 2 => ("StationLine", "ready", "LStationLine$Frame;", false)
  | 3 => ("StationLine", "latest", "LStationLine$Frame;", false)
  | 4 => ("StationLine", "cameBack", "Z", false)
  | _ => ("StationLine", "found", "I", false)
def tt_L : Nat → FieldType := fun k => match k with
  | 0 => .object "StationLine$Line"
  | 1 => .object "StationLine$Image"
  | 2 => .object "StationLine$Frame"
  | 3 => .object "StationLine$Frame"
  | 4 => .boolean
  | _ => .int
theorem nn_L : ∀ a, a < 6 → ∀ b, b < 6 → a ≠ b → (T_L a).2.1 ≠ (T_L b).2.1 := by decide +kernel
theorem to_L : ∀ k, k < 6 → parseFieldDescriptor (T_L k).2.2.1 = some (tt_L k) := by decide +kernel
theorem in_L : ∀ w ∈ u_ws "StationLine" T_L 6, w ∈ jx_ws := jx_pl _ [143, 145, 147, 149, 151, 153] (by decide +kernel) (by decide +kernel)
def df_L : List Value := [.null, .null, .null, .null, .int 0, .int 0]
theorem dv_L : ∀ k, k < 6 → defaultValue (tt_L k) = df_L.getD k .null := by decide +kernel
def T_R : u_T := fun k => match k with
  | 0 => ("StationLineModel", "stations", "I", false)
  | 1 => ("StationLineModel", "outs", "[I", true)
  | 2 => ("StationLineModel", "ins", "[I", true)
  | 3 => ("StationLineModel", "broken", "[Z", true)
  | 4 => ("StationLineModel", "memory", "[I", true)
  | 5 => ("StationLineModel", "fresh", "[I", true)
  | 6 => ("StationLineModel", "done", "[I", true)
  | 7 => ("StationLineModel", "written", "[Z", true)
  | 8 => ("StationLineModel", "mode", "[I", true)
  | 9 => ("StationLineModel", "failed", "[Z", true)
  | 10 => ("StationLineModel", "codes", "[I", true)
  | 11 => ("StationLineModel", "controlled", "[Z", true)
  | 12 => ("StationLineModel", "renewed", "[Z", true)
  | 13 => ("StationLineModel", "age", "[I", true)
  | 14 => ("StationLineModel", "messages", "[I", true)
  | 15 => ("StationLineModel", "objects", "[I", true)
  | 16 => ("StationLineModel", "sensors", "[I", true)
  | 17 => ("StationLineModel", "actuators", "[I", true)
  | 18 => ("StationLineModel", "ready", "I", false)
  | 19 => ("StationLineModel", "sent", "I", false)
  | 20 => ("StationLineModel", "back", "I", false)
  | 21 => ("StationLineModel", "spoilt", "I", false)
  | 22 => ("StationLineModel", "command", "[I", true)
  | 23 => ("StationLineModel", "address", "[I", true)
  | 24 => ("StationLineModel", "offset", "[I", true)
  | 25 => ("StationLineModel", "length", "[I", true)
  | 26 => ("StationLineModel", "counter", "[I", true)
  | 27 => ("StationLineModel", "bytes", "[I", true)
  | 28 => ("StationLineModel", "row", "[I", true)
  | 29 => ("StationLineModel", "came", "[I", true)
  | 30 => ("StationLineModel", "readSome", "Z", false)
  | 31 => ("StationLineModel", "wroteSome", "Z", false)
  | 32 => ("StationLineModel", "found", "I", false)
  | 33 => ("StationLineModel", "setUp", "I", false)
  | 34 => ("StationLineModel", "size", "I", false)
  | 35 => ("StationLineModel", "outPlace", "[I", true)
  | 36 => ("StationLineModel", "inPlace", "[I", true)
  | 37 => ("StationLineModel", "knownOuts", "[I", true)
  | 38 => ("StationLineModel", "knownIns", "[I", true)
  | 39 => ("StationLineModel", "image", "[I", true)
  | _ => ("StationLineModel", "taken", "[I", true)
def tt_R : Nat → FieldType := fun k => match k with
  | 0 => .int
  | 1 => .array (.int)
  | 2 => .array (.int)
  | 3 => .array (.boolean)
  | 4 => .array (.int)
  | 5 => .array (.int)
  | 6 => .array (.int)
  | 7 => .array (.boolean)
  | 8 => .array (.int)
  | 9 => .array (.boolean)
  | 10 => .array (.int)
  | 11 => .array (.boolean)
  | 12 => .array (.boolean)
  | 13 => .array (.int)
  | 14 => .array (.int)
  | 15 => .array (.int)
  | 16 => .array (.int)
  | 17 => .array (.int)
  | 18 => .int
  | 19 => .int
  | 20 => .int
  | 21 => .int
  | 22 => .array (.int)
  | 23 => .array (.int)
  | 24 => .array (.int)
  | 25 => .array (.int)
  | 26 => .array (.int)
  | 27 => .array (.int)
  | 28 => .array (.int)
  | 29 => .array (.int)
  | 30 => .boolean
  | 31 => .boolean
  | 32 => .int
  | 33 => .int
  | 34 => .int
  | 35 => .array (.int)
  | 36 => .array (.int)
  | 37 => .array (.int)
  | 38 => .array (.int)
  | 39 => .array (.int)
  | _ => .array (.int)
theorem nn_R : ∀ a, a < 41 → ∀ b, b < 41 → a ≠ b → (T_R a).2.1 ≠ (T_R b).2.1 := by decide +kernel
theorem to_R : ∀ k, k < 41 → parseFieldDescriptor (T_R k).2.2.1 = some (tt_R k) := by decide +kernel
theorem in_R : ∀ w ∈ u_ws "StationLineModel" T_R 41, w ∈ jx_ws := jx_pl _ [626, 628, 630, 632, 634, 636, 638, 640, 642, 644, 646, 648, 650, 652, 654, 656, 658, 660, 662, 664, 666, 668, 670, 672, 674, 676, 678, 680, 682, 684, 686, 688, 690, 692, 694, 696, 698, 700, 702, 704, 706] (by decide +kernel) (by decide +kernel)
def df_R : List Value := [.int 0, .null, .null, .null, .null, .null, .null, .null, .null, .null, .null, .null, .null, .null, .null, .null, .null, .null, .int 0, .int 0, .int 0, .int 0, .null, .null, .null, .null, .null, .null, .null, .null, .int 0, .int 0, .int 0, .int 0, .int 0, .null, .null, .null, .null, .null, .null]
theorem dv_R : ∀ k, k < 41 → defaultValue (tt_R k) = df_R.getD k .null := by decide +kernel
abbrev vwCl : List vw_C := [("StationLine$Datagram", T_D, 6), ("StationLine$Frame", T_F, 2), ("StationLine$Image", T_I, 7), ("StationLine$Line", T_N, 4), ("StationLine$MappedBits", T_B, 3), ("StationLine$Memory", T_E, 10), ("StationLine$Station", T_S, 8), ("StationLine", T_L, 6), ("StationLineModel", T_R, 41)]
abbrev y_D_init : MethodName := ⟨"StationLine$Datagram", "<init>", "()V"⟩
abbrev y_F_init : MethodName := ⟨"StationLine$Frame", "<init>", "()V"⟩
abbrev y_I_init : MethodName := ⟨"StationLine$Image", "<init>", "()V"⟩
abbrev y_N_init : MethodName := ⟨"StationLine$Line", "<init>", "()V"⟩
abbrev y_L_init : MethodName := ⟨"StationLine", "<init>", "()V"⟩
abbrev y_B_init : MethodName := ⟨"StationLine$MappedBits", "<init>", "()V"⟩
abbrev y_E_init : MethodName := ⟨"StationLine$Memory", "<init>", "()V"⟩
abbrev y_S_init : MethodName := ⟨"StationLine$Station", "<init>", "(II)V"⟩
abbrev y_L_station : MethodName := ⟨"StationLine", "station", "(II)I"⟩
abbrev y_L_isCommand : MethodName := ⟨"StationLine", "isCommand", "(I)Z"⟩
abbrev y_A_fill : MethodName := ⟨"java/util/Arrays", "fill", "([II)V"⟩
abbrev y_F_append : MethodName := ⟨"StationLine$Frame", "append", "(IIII)LStationLine$Datagram;"⟩
abbrev y_L_datagram : MethodName := ⟨"StationLine", "datagram", "(IIII)I"⟩
abbrev y_F_hasDatagram : MethodName := ⟨"StationLine$Frame", "hasDatagram", "(I)Z"⟩
abbrev y_F_hasByte : MethodName := ⟨"StationLine$Frame", "hasByte", "(II)Z"⟩
abbrev y_L_data : MethodName := ⟨"StationLine", "data", "(III)Z"⟩
abbrev y_N_stationsBeforeBreak : MethodName := ⟨"StationLine$Line", "stationsBeforeBreak", "()I"⟩
abbrev y_E_modeOf : MethodName := ⟨"StationLine$Memory", "modeOf", "(I)I"⟩
abbrev y_E_startOf : MethodName := ⟨"StationLine$Memory", "startOf", "(I)I"⟩
abbrev y_E_beforeReading : MethodName := ⟨"StationLine$Memory", "beforeReading", "(II)V"⟩
abbrev y_E_isOpen : MethodName := ⟨"StationLine$Memory", "isOpen", "(I)Z"⟩
abbrev y_E_lengthOf : MethodName := ⟨"StationLine$Memory", "lengthOf", "(I)I"⟩
abbrev y_E_findOwners : MethodName := ⟨"StationLine$Memory", "findOwners", "(II)V"⟩
abbrev y_E_heldByte : MethodName := ⟨"StationLine$Memory", "heldByte", "(II)I"⟩
abbrev y_E_allows : MethodName := ⟨"StationLine$Memory", "allows", "(IIIZ)Z"⟩
abbrev y_E_isAllowed : MethodName := ⟨"StationLine$Memory", "isAllowed", "(IIZ)Z"⟩
abbrev y_E_readRow : MethodName := ⟨"StationLine$Memory", "readRow", "(II)Z"⟩
abbrev y_E_storeInChannel : MethodName := ⟨"StationLine$Memory", "storeInChannel", "(III)V"⟩
abbrev y_E_clearChannel : MethodName := ⟨"StationLine$Memory", "clearChannel", "(I)V"⟩
abbrev y_E_storePlain : MethodName := ⟨"StationLine$Memory", "storePlain", "(II)V"⟩
abbrev y_E_writeRow : MethodName := ⟨"StationLine$Memory", "writeRow", "(II)Z"⟩
abbrev y_S_performDirect : MethodName := ⟨"StationLine$Station", "performDirect", "(LStationLine$Datagram;)V"⟩
abbrev y_B_lastByte : MethodName := ⟨"StationLine$MappedBits", "lastByte", "()I"⟩
abbrev y_B_find : MethodName := ⟨"StationLine$MappedBits", "find", "([IILStationLine$Datagram;)Z"⟩
abbrev y_B_firstByte : MethodName := ⟨"StationLine$MappedBits", "firstByte", "()I"⟩
abbrev y_B_putIntoData : MethodName := ⟨"StationLine$MappedBits", "putIntoData", "([I[I)V"⟩
abbrev y_B_putIntoRow : MethodName := ⟨"StationLine$MappedBits", "putIntoRow", "([I[I[I)V"⟩
abbrev y_S_performLogical : MethodName := ⟨"StationLine$Station", "performLogical", "(LStationLine$Datagram;)V"⟩
abbrev y_S_perform : MethodName := ⟨"StationLine$Station", "perform", "(LStationLine$Datagram;)V"⟩
abbrev y_N_carry : MethodName := ⟨"StationLine$Line", "carry", "(LStationLine$Frame;)Z"⟩
abbrev y_L_send : MethodName := ⟨"StationLine", "send", "()I"⟩
abbrev y_L_returned : MethodName := ⟨"StationLine", "returned", "(II)I"⟩
abbrev y_N_hasStation : MethodName := ⟨"StationLine$Line", "hasStation", "(I)Z"⟩
abbrev y_L_cut : MethodName := ⟨"StationLine", "cut", "(IZ)Z"⟩
abbrev y_L_spoil : MethodName := ⟨"StationLine", "spoil", "(I)Z"⟩
abbrev y_E_isOpenAs : MethodName := ⟨"StationLine$Memory", "isOpenAs", "(III)Z"⟩
abbrev y_S_present : MethodName := ⟨"StationLine$Station", "present", "()I"⟩
abbrev y_S_moveActuators : MethodName := ⟨"StationLine$Station", "moveActuators", "()V"⟩
abbrev y_S_become : MethodName := ⟨"StationLine$Station", "become", "(II)V"⟩
abbrev y_S_enter : MethodName := ⟨"StationLine$Station", "enter", "(I)V"⟩
abbrev y_S_hasMailbox : MethodName := ⟨"StationLine$Station", "hasMailbox", "()Z"⟩
abbrev y_E_isOn : MethodName := ⟨"StationLine$Memory", "isOn", "(I)Z"⟩
abbrev y_S_isSetUp : MethodName := ⟨"StationLine$Station", "isSetUp", "(III)Z"⟩
abbrev y_S_objection : MethodName := ⟨"StationLine$Station", "objection", "(I)I"⟩
abbrev y_S_obeyControl : MethodName := ⟨"StationLine$Station", "obeyControl", "()V"⟩
abbrev y_L_writeMessage : MethodName := ⟨"StationLine", "writeMessage", "([IIII)V"⟩
abbrev y_S_doMessage : MethodName := ⟨"StationLine$Station", "doMessage", "(III[I)V"⟩
abbrev y_S_replyToMessage : MethodName := ⟨"StationLine$Station", "replyToMessage", "()V"⟩
abbrev y_S_takeSensors : MethodName := ⟨"StationLine$Station", "takeSensors", "()V"⟩
abbrev y_S_watch : MethodName := ⟨"StationLine$Station", "watch", "()V"⟩
abbrev y_S_makeTick : MethodName := ⟨"StationLine$Station", "makeTick", "()V"⟩
abbrev y_L_tick : MethodName := ⟨"StationLine", "tick", "()V"⟩
abbrev y_L_sense : MethodName := ⟨"StationLine", "sense", "(III)Z"⟩
abbrev y_L_actuator : MethodName := ⟨"StationLine", "actuator", "(II)I"⟩
abbrev y_L_state : MethodName := ⟨"StationLine", "state", "(I)I"⟩
abbrev y_L_startFrame : MethodName := ⟨"StationLine", "startFrame", "(IIII)LStationLine$Datagram;"⟩
abbrev y_I_forget : MethodName := ⟨"StationLine$Image", "forget", "()V"⟩
abbrev y_L_scan : MethodName := ⟨"StationLine", "scan", "()I"⟩
abbrev y_L_writeChannel : MethodName := ⟨"StationLine", "writeChannel", "([IIIII)V"⟩
abbrev y_L_writeMap : MethodName := ⟨"StationLine", "writeMap", "([IIIII)V"⟩
abbrev y_L_startChannelsFrame : MethodName := ⟨"StationLine", "startChannelsFrame", "(I)V"⟩
abbrev y_L_startInputsFrame : MethodName := ⟨"StationLine", "startInputsFrame", "(I)V"⟩
abbrev y_F_isCountedOnce : MethodName := ⟨"StationLine$Frame", "isCountedOnce", "()Z"⟩
abbrev y_I_append : MethodName := ⟨"StationLine$Image", "append", "(LStationLine$Station;)V"⟩
abbrev y_L_setup : MethodName := ⟨"StationLine", "setup", "()I"⟩
abbrev y_L_request : MethodName := ⟨"StationLine", "request", "(I)I"⟩
abbrev y_L_output : MethodName := ⟨"StationLine", "output", "(II)Z"⟩
abbrev y_I_meet : MethodName := ⟨"StationLine$Image", "meet", "(III)Z"⟩
abbrev y_I_expected : MethodName := ⟨"StationLine$Image", "expected", "(I)I"⟩
abbrev y_L_cycle : MethodName := ⟨"StationLine", "cycle", "()I"⟩
abbrev y_L_input : MethodName := ⟨"StationLine", "input", "(I)I"⟩
abbrev y_L_ask : MethodName := ⟨"StationLine", "ask", "(IIII)I"⟩
abbrev y_L_answer : MethodName := ⟨"StationLine", "answer", "(I)I"⟩
abbrev y_R_init : MethodName := ⟨"StationLineModel", "<init>", "()V"⟩
abbrev y_R_isStation : MethodName := ⟨"StationLineModel", "isStation", "(I)Z"⟩
abbrev y_R_actuator : MethodName := ⟨"StationLineModel", "actuator", "(II)I"⟩
abbrev y_R_gram : MethodName := ⟨"StationLineModel", "gram", "(IIIII)V"⟩
abbrev y_R_copyGram : MethodName := ⟨"StationLineModel", "copyGram", "(II)V"⟩
abbrev y_R_at : MethodName := ⟨"StationLineModel", "at", "(II)I"⟩
abbrev y_R_begin : MethodName := ⟨"StationLineModel", "begin", "(II)I"⟩
abbrev y_R_many : MethodName := ⟨"StationLineModel", "many", "(II)I"⟩
abbrev y_R_open : MethodName := ⟨"StationLineModel", "open", "(II)Z"⟩
abbrev y_R_channelOf : MethodName := ⟨"StationLineModel", "channelOf", "(II)I"⟩
abbrev y_R_full : MethodName := ⟨"StationLineModel", "full", "(II)Z"⟩
abbrev y_R_kind : MethodName := ⟨"StationLineModel", "kind", "(II)I"⟩
abbrev y_R_lets : MethodName := ⟨"StationLineModel", "lets", "(IIIIZ)Z"⟩
abbrev y_R_allowed : MethodName := ⟨"StationLineModel", "allowed", "(IIIZ)Z"⟩
abbrev y_R_cell : MethodName := ⟨"StationLineModel", "cell", "(III)I"⟩
abbrev y_R_copy : MethodName := ⟨"StationLineModel", "copy", "(IIZ)V"⟩
abbrev y_R_fill : MethodName := ⟨"StationLineModel", "fill", "(III)V"⟩
abbrev y_R_reads : MethodName := ⟨"StationLineModel", "reads", "(III)Z"⟩
abbrev y_R_stays : MethodName := ⟨"StationLineModel", "stays", "(II)I"⟩
abbrev y_R_wipe : MethodName := ⟨"StationLineModel", "wipe", "(II)V"⟩
abbrev y_R_store : MethodName := ⟨"StationLineModel", "store", "(III)V"⟩
abbrev y_R_writes : MethodName := ⟨"StationLineModel", "writes", "(III)V"⟩
abbrev y_R_map : MethodName := ⟨"StationLineModel", "map", "(III)V"⟩
abbrev y_R_touch : MethodName := ⟨"StationLineModel", "touch", "(II)V"⟩
abbrev y_R_handle : MethodName := ⟨"StationLineModel", "handle", "(II)V"⟩
abbrev y_R_travel : MethodName := ⟨"StationLineModel", "travel", "()Z"⟩
abbrev y_R_answer : MethodName := ⟨"StationLineModel", "answer", "(I)I"⟩
abbrev y_R_six : MethodName := ⟨"StationLineModel", "six", "(IIIIIII)V"⟩
abbrev y_R_ask : MethodName := ⟨"StationLineModel", "ask", "(IIII)I"⟩
abbrev y_R_cut : MethodName := ⟨"StationLineModel", "cut", "(IZ)Z"⟩
abbrev y_R_lies : MethodName := ⟨"StationLineModel", "lies", "(III)Z"⟩
abbrev y_R_expected : MethodName := ⟨"StationLineModel", "expected", "(I)I"⟩
abbrev y_R_cycle : MethodName := ⟨"StationLineModel", "cycle", "()I"⟩
abbrev y_R_data : MethodName := ⟨"StationLineModel", "data", "(III)Z"⟩
abbrev y_R_datagram : MethodName := ⟨"StationLineModel", "datagram", "(IIII)I"⟩
abbrev y_R_input : MethodName := ⟨"StationLineModel", "input", "(I)I"⟩
abbrev y_R_output : MethodName := ⟨"StationLineModel", "output", "(II)Z"⟩
abbrev y_R_single : MethodName := ⟨"StationLineModel", "single", "(IIII)Z"⟩
abbrev y_R_request : MethodName := ⟨"StationLineModel", "request", "(I)I"⟩
abbrev y_R_returned : MethodName := ⟨"StationLineModel", "returned", "(II)I"⟩
abbrev y_R_scan : MethodName := ⟨"StationLineModel", "scan", "()I"⟩
abbrev y_R_send : MethodName := ⟨"StationLineModel", "send", "()I"⟩
abbrev y_R_sense : MethodName := ⟨"StationLineModel", "sense", "(III)Z"⟩
abbrev y_R_equip : MethodName := ⟨"StationLineModel", "equip", "(I)Z"⟩
abbrev y_R_setup : MethodName := ⟨"StationLineModel", "setup", "()I"⟩
abbrev y_R_spoil : MethodName := ⟨"StationLineModel", "spoil", "(I)Z"⟩
abbrev y_R_state : MethodName := ⟨"StationLineModel", "state", "(I)I"⟩
abbrev y_R_station : MethodName := ⟨"StationLineModel", "station", "(II)I"⟩
abbrev y_R_fail : MethodName := ⟨"StationLineModel", "fail", "(II)V"⟩
abbrev y_R_like : MethodName := ⟨"StationLineModel", "like", "(IIII)Z"⟩
abbrev y_R_fit : MethodName := ⟨"StationLineModel", "fit", "(IIII)Z"⟩
abbrev y_R_mailed : MethodName := ⟨"StationLineModel", "mailed", "(I)Z"⟩
abbrev y_R_hindrance : MethodName := ⟨"StationLineModel", "hindrance", "(II)I"⟩
abbrev y_R_control : MethodName := ⟨"StationLineModel", "control", "(I)V"⟩
abbrev y_R_message : MethodName := ⟨"StationLineModel", "message", "(I)V"⟩
abbrev y_R_rest : MethodName := ⟨"StationLineModel", "rest", "(I)V"⟩
abbrev y_R_turn : MethodName := ⟨"StationLineModel", "turn", "(I)V"⟩
abbrev y_R_tick : MethodName := ⟨"StationLineModel", "tick", "()V"⟩
def jx_nl : List (String × Nat × MethodName × String) := [("StationLine", 11, y_N_init, "StationLine"), ("StationLine", 18, y_I_init, "StationLine"), ("StationLine$Frame", 17, y_D_init, "StationLine"), ("StationLine$Station", 20, y_E_init, "StationLine"), ("StationLine$Station", 27, y_B_init, "StationLine"), ("StationLine$Station", 179, y_L_writeMessage, "StationLine")]
theorem nl_0 : ("StationLine", 11, y_N_init, "StationLine") ∈ jx_nl := List.mem_of_getElem? (i := 0) rfl
theorem nl_1 : ("StationLine", 18, y_I_init, "StationLine") ∈ jx_nl := List.mem_of_getElem? (i := 1) rfl
theorem nl_2 : ("StationLine$Frame", 17, y_D_init, "StationLine") ∈ jx_nl := List.mem_of_getElem? (i := 2) rfl
theorem nl_3 : ("StationLine$Station", 20, y_E_init, "StationLine") ∈ jx_nl := List.mem_of_getElem? (i := 3) rfl
theorem nl_4 : ("StationLine$Station", 27, y_B_init, "StationLine") ∈ jx_nl := List.mem_of_getElem? (i := 4) rfl
theorem nl_5 : ("StationLine$Station", 179, y_L_writeMessage, "StationLine") ∈ jx_nl := List.mem_of_getElem? (i := 5) rfl
theorem jx_nlt : ∀ q ∈ jx_nl, Cond.methodLinkNest q.1 q.2.1 q.2.2.1 q.2.2.2 ∈ tables_1 := by decide +kernel
theorem cb_10 : (Int8.ofInt 10).toInt32 = nI 10 := by decide +kernel
theorem cb_11 : (Int8.ofInt 11).toInt32 = nI 11 := by decide +kernel
theorem cb_12 : (Int8.ofInt 12).toInt32 = nI 12 := by decide +kernel
theorem cb_127 : (Int8.ofInt 127).toInt32 = nI 127 := by decide +kernel
theorem cb_14 : (Int8.ofInt 14).toInt32 = nI 14 := by decide +kernel
theorem cb_15 : (Int8.ofInt 15).toInt32 = nI 15 := by decide +kernel
theorem cb_16 : (Int8.ofInt 16).toInt32 = nI 16 := by decide +kernel
theorem cb_17 : (Int8.ofInt 17).toInt32 = nI 17 := by decide +kernel
theorem cb_18 : (Int8.ofInt 18).toInt32 = nI 18 := by decide +kernel
theorem cb_22 : (Int8.ofInt 22).toInt32 = nI 22 := by decide +kernel
theorem cb_24 : (Int8.ofInt 24).toInt32 = nI 24 := by decide +kernel
theorem cb_27 : (Int8.ofInt 27).toInt32 = nI 27 := by decide +kernel
theorem cb_29 : (Int8.ofInt 29).toInt32 = nI 29 := by decide +kernel
theorem cb_30 : (Int8.ofInt 30).toInt32 = nI 30 := by decide +kernel
theorem cb_31 : (Int8.ofInt 31).toInt32 = nI 31 := by decide +kernel
theorem cb_32 : (Int8.ofInt 32).toInt32 = nI 32 := by decide +kernel
theorem cb_33 : (Int8.ofInt 33).toInt32 = nI 33 := by decide +kernel
theorem cb_34 : (Int8.ofInt 34).toInt32 = nI 34 := by decide +kernel
theorem cb_35 : (Int8.ofInt 35).toInt32 = nI 35 := by decide +kernel
theorem cb_38 : (Int8.ofInt 38).toInt32 = nI 38 := by decide +kernel
theorem cb_39 : (Int8.ofInt 39).toInt32 = nI 39 := by decide +kernel
theorem cb_40 : (Int8.ofInt 40).toInt32 = nI 40 := by decide +kernel
theorem cb_47 : (Int8.ofInt 47).toInt32 = nI 47 := by decide +kernel
theorem cb_48 : (Int8.ofInt 48).toInt32 = nI 48 := by decide +kernel
theorem cb_49 : (Int8.ofInt 49).toInt32 = nI 49 := by decide +kernel
theorem cb_51 : (Int8.ofInt 51).toInt32 = nI 51 := by decide +kernel
theorem cb_52 : (Int8.ofInt 52).toInt32 = nI 52 := by decide +kernel
theorem cb_6 : (Int8.ofInt 6).toInt32 = nI 6 := by decide +kernel
theorem cb_64 : (Int8.ofInt 64).toInt32 = nI 64 := by decide +kernel
theorem cb_7 : (Int8.ofInt 7).toInt32 = nI 7 := by decide +kernel
theorem cb_72 : (Int8.ofInt 72).toInt32 = nI 72 := by decide +kernel
theorem cb_8 : (Int8.ofInt 8).toInt32 = nI 8 := by decide +kernel
theorem cb_80 : (Int8.ofInt 80).toInt32 = nI 80 := by decide +kernel
theorem cb_9 : (Int8.ofInt 9).toInt32 = nI 9 := by decide +kernel
theorem cb_96 : (Int8.ofInt 96).toInt32 = nI 96 := by decide +kernel
theorem cb_m17 : (Int8.ofInt (-17)).toInt32 = (-17) := by decide +kernel
theorem cb_m2 : (Int8.ofInt (-2)).toInt32 = (-2) := by decide +kernel
theorem ci_0 : Int32.ofInt 0 = nI 0 := by decide +kernel
theorem ci_1 : Int32.ofInt 1 = nI 1 := by decide +kernel
theorem ci_2 : Int32.ofInt 2 = nI 2 := by decide +kernel
theorem ci_3 : Int32.ofInt 3 = nI 3 := by decide +kernel
theorem ci_4 : Int32.ofInt 4 = nI 4 := by decide +kernel
theorem ci_5 : Int32.ofInt 5 = nI 5 := by decide +kernel
theorem ci_8 : Int32.ofInt 8 = nI 8 := by decide +kernel
theorem ci_m1 : Int32.ofInt (-1) = (-1) := by decide +kernel
theorem cs_1000 : (Int16.ofInt 1000).toInt32 = nI 1000 := by decide +kernel
theorem cs_128 : (Int16.ofInt 128).toInt32 = nI 128 := by decide +kernel
theorem cs_192 : (Int16.ofInt 192).toInt32 = nI 192 := by decide +kernel
theorem cs_255 : (Int16.ofInt 255).toInt32 = nI 255 := by decide +kernel
theorem cs_256 : (Int16.ofInt 256).toInt32 = nI 256 := by decide +kernel
theorem cs_768 : (Int16.ofInt 768).toInt32 = nI 768 := by decide +kernel
theorem w_0 : Cond.methodLink "StationLine$Datagram" 3 objectInit ∈ jx_ws := jx_t1 93 rfl rfl
theorem w_1 : Cond.instanceMethod objectInit ∈ jx_ws := jx_t1 19 rfl rfl
theorem w_2 : Cond.code objectInit ⟨#[0xb1]⟩ 1 none ∈ jx_ws := jx_t1 20 rfl rfl
theorem w_3 : Cond.fieldLink "StationLine$Datagram" 9 "StationLine$Datagram" "bytes" "[I" ∈ jx_ws := jx_t1 109 rfl rfl
theorem w_4 : Cond.methodLink "StationLine$Frame" 3 objectInit ∈ jx_ws := jx_t1 86 rfl rfl
theorem w_5 : Cond.classLink "StationLine$Frame" 9 "StationLine$Datagram" ∈ jx_ws := jx_t1 87 rfl rfl
theorem w_6 : Cond.fieldLink "StationLine$Frame" 11 "StationLine$Frame" "datagrams" "[LStationLine$Datagram;" ∈ jx_ws := jx_t1 126 rfl rfl
theorem w_7 : Cond.instantiable "StationLine$Datagram" 6 ∈ jx_ws := jx_t1 89 rfl rfl
theorem w_8 : Cond.initialized "StationLine$Datagram" ∈ jx_ws := jx_t1 5 rfl rfl
theorem w_9 : Cond.code y_D_init prog_2_method_1_code 1 (none) ∈ jx_ws := jx_t1 92 rfl rfl
theorem w_10 : Cond.instanceMethod y_D_init ∈ jx_ws := jx_t1 91 rfl rfl
theorem w_11 : Cond.methodLink "StationLine$Image" 3 objectInit ∈ jx_ws := jx_t1 52 rfl rfl
theorem w_12 : Cond.fieldLink "StationLine$Image" 9 "StationLine$Image" "sent" "[I" ∈ jx_ws := jx_t1 53 rfl rfl
theorem w_13 : Cond.fieldLink "StationLine$Image" 15 "StationLine$Image" "got" "[I" ∈ jx_ws := jx_t1 55 rfl rfl
theorem w_14 : Cond.fieldLink "StationLine$Image" 18 "StationLine$Image" "outputsAt" "[I" ∈ jx_ws := jx_t1 57 rfl rfl
theorem w_15 : Cond.fieldLink "StationLine$Image" 21 "StationLine$Image" "inputsAt" "[I" ∈ jx_ws := jx_t1 59 rfl rfl
theorem w_16 : Cond.fieldLink "StationLine$Image" 24 "StationLine$Image" "endsAt" "[I" ∈ jx_ws := jx_t1 61 rfl rfl
theorem w_17 : Cond.methodLink "StationLine$Line" 3 objectInit ∈ jx_ws := jx_t1 26 rfl rfl
theorem w_18 : Cond.classLink "StationLine$Line" 9 "StationLine$Station" ∈ jx_ws := jx_t1 27 rfl rfl
theorem w_19 : Cond.fieldLink "StationLine$Line" 11 "StationLine$Line" "stations" "[LStationLine$Station;" ∈ jx_ws := jx_t1 29 rfl rfl
theorem w_20 : Cond.fieldLink "StationLine$Line" 17 "StationLine$Line" "broken" "[Z" ∈ jx_ws := jx_t1 31 rfl rfl
theorem w_21 : Cond.fieldLink "StationLine$Line" 21 "StationLine$Line" "spoilBefore" "I" ∈ jx_ws := jx_t1 35 rfl rfl
theorem w_22 : Cond.methodLink "StationLine" 3 objectInit ∈ jx_ws := jx_t1 18 rfl rfl
theorem w_23 : Cond.classLink "StationLine" 9 "StationLine$Line" ∈ jx_ws := jx_t1 21 rfl rfl
theorem w_24 : Cond.instantiable "StationLine$Line" 4 ∈ jx_ws := jx_t1 22 rfl rfl
theorem w_25 : Cond.initialized "StationLine$Line" ∈ jx_ws := jx_t1 2 rfl rfl
theorem w_26 : Cond.code y_N_init prog_5_method_1_code 1 (none) ∈ jx_ws := jx_t1 25 rfl rfl
theorem w_27 : Cond.instanceMethod y_N_init ∈ jx_ws := jx_t1 24 rfl rfl
theorem w_28 : Cond.fieldLink "StationLine" 12 "StationLine" "line" "LStationLine$Line;" ∈ jx_ws := jx_t1 137 rfl rfl
theorem w_29 : Cond.classLink "StationLine" 16 "StationLine$Image" ∈ jx_ws := jx_t1 47 rfl rfl
theorem w_30 : Cond.instantiable "StationLine$Image" 7 ∈ jx_ws := jx_t1 48 rfl rfl
theorem w_31 : Cond.initialized "StationLine$Image" ∈ jx_ws := jx_t1 3 rfl rfl
theorem w_32 : Cond.code y_I_init prog_4_method_1_code 1 (none) ∈ jx_ws := jx_t1 51 rfl rfl
theorem w_33 : Cond.instanceMethod y_I_init ∈ jx_ws := jx_t1 50 rfl rfl
theorem w_34 : Cond.fieldLink "StationLine" 19 "StationLine" "image" "LStationLine$Image;" ∈ jx_ws := jx_t1 138 rfl rfl
theorem w_35 : Cond.classLink "StationLine" 23 "StationLine$Frame" ∈ jx_ws := jx_t1 81 rfl rfl
theorem w_36 : Cond.instantiable "StationLine$Frame" 2 ∈ jx_ws := jx_t1 82 rfl rfl
theorem w_37 : Cond.initialized "StationLine$Frame" ∈ jx_ws := jx_t1 4 rfl rfl
theorem w_38 : Cond.methodLink "StationLine" 25 y_F_init ∈ jx_ws := jx_t1 83 rfl rfl
theorem w_39 : Cond.code y_F_init prog_3_method_1_code 2 (none) ∈ jx_ws := jx_t1 85 rfl rfl
theorem w_40 : Cond.instanceMethod y_F_init ∈ jx_ws := jx_t1 84 rfl rfl
theorem w_41 : Cond.fieldLink "StationLine" 26 "StationLine" "ready" "LStationLine$Frame;" ∈ jx_ws := jx_t1 139 rfl rfl
theorem w_42 : Cond.fieldLink "StationLine" 30 "StationLine" "latest" "LStationLine$Frame;" ∈ jx_ws := jx_t1 140 rfl rfl
theorem w_43 : Cond.methodLink "StationLine$MappedBits" 3 objectInit ∈ jx_ws := jx_t1 219 rfl rfl
theorem w_44 : Cond.methodLink "StationLine$Memory" 3 objectInit ∈ jx_ws := jx_t1 171 rfl rfl
theorem w_45 : Cond.fieldLink "StationLine$Memory" 9 "StationLine$Memory" "bytes" "[I" ∈ jx_ws := jx_t1 174 rfl rfl
theorem w_46 : Cond.classLink "StationLine$Memory" 15 "[[I" ∈ jx_ws := jx_t1 172 rfl rfl
theorem w_47 : Cond.fieldLink "StationLine$Memory" 17 "StationLine$Memory" "fresh" "[[I" ∈ jx_ws := jx_t1 177 rfl rfl
theorem w_48 : Cond.fieldLink "StationLine$Memory" 20 "StationLine$Memory" "done" "[[I" ∈ jx_ws := jx_t1 178 rfl rfl
theorem w_49 : Cond.fieldLink "StationLine$Memory" 23 "StationLine$Memory" "written" "[Z" ∈ jx_ws := jx_t1 180 rfl rfl
theorem w_50 : Cond.fieldLink "StationLine$Memory" 27 "StationLine$Memory" "row" "[I" ∈ jx_ws := jx_t1 182 rfl rfl
theorem w_51 : Cond.fieldLink "StationLine$Memory" 30 "StationLine$Memory" "mask" "[I" ∈ jx_ws := jx_t1 184 rfl rfl
theorem w_52 : Cond.fieldLink "StationLine$Memory" 33 "StationLine$Memory" "owners" "[I" ∈ jx_ws := jx_t1 186 rfl rfl
theorem w_53 : Cond.methodLink "StationLine$Station" 3 objectInit ∈ jx_ws := jx_t1 165 rfl rfl
theorem w_54 : Cond.fieldLink "StationLine$Station" 9 "StationLine$Station" "sensors" "[I" ∈ jx_ws := jx_t1 236 rfl rfl
theorem w_55 : Cond.fieldLink "StationLine$Station" 15 "StationLine$Station" "actuators" "[I" ∈ jx_ws := jx_t1 238 rfl rfl
theorem w_56 : Cond.classLink "StationLine$Station" 18 "StationLine$Memory" ∈ jx_ws := jx_t1 166 rfl rfl
theorem w_57 : Cond.instantiable "StationLine$Memory" 10 ∈ jx_ws := jx_t1 167 rfl rfl
theorem w_58 : Cond.initialized "StationLine$Memory" ∈ jx_ws := jx_t1 8 rfl rfl
theorem w_59 : Cond.code y_E_init prog_7_method_1_code 1 (none) ∈ jx_ws := jx_t1 170 rfl rfl
theorem w_60 : Cond.instanceMethod y_E_init ∈ jx_ws := jx_t1 169 rfl rfl
theorem w_61 : Cond.fieldLink "StationLine$Station" 21 "StationLine$Station" "memory" "LStationLine$Memory;" ∈ jx_ws := jx_t2 0 rfl rfl
theorem w_62 : Cond.classLink "StationLine$Station" 25 "StationLine$MappedBits" ∈ jx_ws := jx_t1 214 rfl rfl
theorem w_63 : Cond.instantiable "StationLine$MappedBits" 3 ∈ jx_ws := jx_t1 215 rfl rfl
theorem w_64 : Cond.initialized "StationLine$MappedBits" ∈ jx_ws := jx_t1 9 rfl rfl
theorem w_65 : Cond.code y_B_init prog_6_method_1_code 1 (none) ∈ jx_ws := jx_t1 218 rfl rfl
theorem w_66 : Cond.instanceMethod y_B_init ∈ jx_ws := jx_t1 217 rfl rfl
theorem w_67 : Cond.fieldLink "StationLine$Station" 28 "StationLine$Station" "bits" "LStationLine$MappedBits;" ∈ jx_ws := jx_t2 2 rfl rfl
theorem w_68 : Cond.fieldLink "StationLine$Station" 32 "StationLine$Station" "arrived" "[I" ∈ jx_ws := jx_t2 3 rfl rfl
theorem w_69 : Cond.fieldLink "StationLine$Station" 35 "StationLine$Station" "objects" "[I" ∈ jx_ws := jx_t2 4 rfl rfl
theorem w_70 : Cond.fieldLink "StationLine$Station" 38 "StationLine$Station" "outputs" "I" ∈ jx_ws := jx_t1 230 rfl rfl
theorem w_71 : Cond.fieldLink "StationLine$Station" 42 "StationLine$Station" "inputs" "I" ∈ jx_ws := jx_t1 233 rfl rfl
theorem w_72 : Cond.fieldLink "StationLine$Station" 45 "StationLine$Memory" "bytes" "[I" ∈ jx_ws := jx_t1 175 rfl rfl
theorem w_73 : Cond.fieldLink "StationLine" 33 "StationLine$Line" "count" "I" ∈ jx_ws := jx_t1 34 rfl rfl
theorem w_74 : Cond.fieldLink "StationLine" 37 "StationLine$Line" "stations" "[LStationLine$Station;" ∈ jx_ws := jx_t1 30 rfl rfl
theorem w_75 : Cond.classLink "StationLine" 41 "StationLine$Station" ∈ jx_ws := jx_t1 160 rfl rfl
theorem w_76 : Cond.instantiable "StationLine$Station" 8 ∈ jx_ws := jx_t1 161 rfl rfl
theorem w_77 : Cond.initialized "StationLine$Station" ∈ jx_ws := jx_t1 7 rfl rfl
theorem w_78 : Cond.methodLink "StationLine" 43 y_S_init ∈ jx_ws := jx_t1 162 rfl rfl
theorem w_79 : Cond.code y_S_init prog_8_method_1_code 3 (none) ∈ jx_ws := jx_t1 164 rfl rfl
theorem w_80 : Cond.instanceMethod y_S_init ∈ jx_ws := jx_t1 163 rfl rfl
theorem w_81 : Cond.fieldLink "StationLine$Frame" 18 "StationLine$Frame" "size" "I" ∈ jx_ws := jx_t1 129 rfl rfl
theorem w_82 : Cond.fieldLink "StationLine$Frame" 22 "StationLine$Datagram" "command" "I" ∈ jx_ws := jx_t1 95 rfl rfl
theorem w_83 : Cond.fieldLink "StationLine$Frame" 25 "StationLine$Datagram" "address" "I" ∈ jx_ws := jx_t1 96 rfl rfl
theorem w_84 : Cond.fieldLink "StationLine$Frame" 28 "StationLine$Datagram" "offset" "I" ∈ jx_ws := jx_t1 100 rfl rfl
theorem w_85 : Cond.fieldLink "StationLine$Frame" 31 "StationLine$Datagram" "length" "I" ∈ jx_ws := jx_t1 102 rfl rfl
theorem w_86 : Cond.fieldLink "StationLine$Frame" 34 "StationLine$Datagram" "counter" "I" ∈ jx_ws := jx_t1 106 rfl rfl
theorem w_87 : Cond.fieldLink "StationLine$Frame" 37 "StationLine$Datagram" "bytes" "[I" ∈ jx_ws := jx_t1 110 rfl rfl
theorem w_88 : Cond.methodLink "StationLine$Frame" 41 y_A_fill ∈ jx_ws := jx_t2 34 rfl rfl
theorem w_89 : Cond.code y_A_fill prog_13_method_103_code 4 (none) ∈ jx_ws := jx_t2 36 rfl rfl
theorem w_90 : Cond.initialized "java/util/Arrays" ∈ jx_ws := jx_t1 10 rfl rfl
theorem w_91 : Cond.static y_A_fill ∈ jx_ws := jx_t2 35 rfl rfl
theorem w_92 : Cond.fieldLink "StationLine" 46 "StationLine$Frame" "size" "I" ∈ jx_ws := jx_t1 130 rfl rfl
theorem w_93 : Cond.methodLink "StationLine" 49 y_L_isCommand ∈ jx_ws := jx_t2 26 rfl rfl
theorem w_94 : Cond.code y_L_isCommand prog_1_method_21_code 1 (some .boolean) ∈ jx_ws := jx_t2 28 rfl rfl
theorem w_95 : Cond.initialized "StationLine" ∈ jx_ws := jx_t1 1 rfl rfl
theorem w_96 : Cond.static y_L_isCommand ∈ jx_ws := jx_t2 27 rfl rfl
theorem w_97 : Cond.constant "StationLine" 53 (nI 65535) ∈ jx_ws := jx_t2 29 rfl rfl
theorem w_98 : Cond.methodLink "StationLine" 54 y_F_append ∈ jx_ws := jx_t2 30 rfl rfl
theorem w_99 : Cond.code y_F_append prog_3_method_2_code 6 (some (.object "StationLine$Datagram")) ∈ jx_ws := jx_t2 33 rfl rfl
theorem w_100 : Cond.instanceMethod y_F_append ∈ jx_ws := jx_t2 31 rfl rfl
theorem w_101 : Cond.selects y_F_append.cls y_F_append y_F_append ∈ jx_ws := jx_t2 32 rfl rfl
theorem w_102 : Cond.methodLink "StationLine$Frame" 47 y_F_hasDatagram ∈ jx_ws := jx_t2 45 rfl rfl
theorem w_103 : Cond.code y_F_hasDatagram prog_3_method_3_code 2 (some .boolean) ∈ jx_ws := jx_t2 48 rfl rfl
theorem w_104 : Cond.instanceMethod y_F_hasDatagram ∈ jx_ws := jx_t2 46 rfl rfl
theorem w_105 : Cond.selects y_F_hasDatagram.cls y_F_hasDatagram y_F_hasDatagram ∈ jx_ws := jx_t2 47 rfl rfl
theorem w_106 : Cond.methodLink "StationLine" 58 y_F_hasByte ∈ jx_ws := jx_t2 41 rfl rfl
theorem w_107 : Cond.code y_F_hasByte prog_3_method_5_code 3 (some .boolean) ∈ jx_ws := jx_t2 44 rfl rfl
theorem w_108 : Cond.instanceMethod y_F_hasByte ∈ jx_ws := jx_t2 42 rfl rfl
theorem w_109 : Cond.selects y_F_hasByte.cls y_F_hasByte y_F_hasByte ∈ jx_ws := jx_t2 43 rfl rfl
theorem w_110 : Cond.fieldLink "StationLine" 62 "StationLine$Frame" "datagrams" "[LStationLine$Datagram;" ∈ jx_ws := jx_t1 128 rfl rfl
theorem w_111 : Cond.fieldLink "StationLine" 66 "StationLine$Datagram" "bytes" "[I" ∈ jx_ws := jx_t1 112 rfl rfl
theorem w_112 : Cond.fieldLink "StationLine$Line" 25 "StationLine$Line" "count" "I" ∈ jx_ws := jx_t1 33 rfl rfl
theorem w_113 : Cond.methodLink "StationLine$Memory" 40 y_E_modeOf ∈ jx_ws := jx_t2 108 rfl rfl
theorem w_114 : Cond.code y_E_modeOf prog_7_method_7_code 2 (some .int) ∈ jx_ws := jx_t2 111 rfl rfl
theorem w_115 : Cond.instanceMethod y_E_modeOf ∈ jx_ws := jx_t2 110 rfl rfl
theorem w_116 : Cond.selects y_E_modeOf.cls y_E_modeOf y_E_modeOf ∈ jx_ws := jx_p 8 rfl rfl
theorem w_117 : Cond.methodLink "StationLine$Memory" 75 y_E_startOf ∈ jx_ws := jx_t2 82 rfl rfl
theorem w_118 : Cond.code y_E_startOf prog_7_method_5_code 2 (some .int) ∈ jx_ws := jx_t2 85 rfl rfl
theorem w_119 : Cond.instanceMethod y_E_startOf ∈ jx_ws := jx_t2 84 rfl rfl
theorem w_120 : Cond.selects y_E_startOf.cls y_E_startOf y_E_startOf ∈ jx_ws := jx_p 3 rfl rfl
theorem w_121 : Cond.methodLink "StationLine$Memory" 90 arraycopyName ∈ jx_ws := jx_t2 116 rfl rfl
theorem w_122 : Cond.native arraycopyName ∈ jx_ws := jx_t2 118 rfl rfl
theorem w_123 : Cond.static arraycopyName ∈ jx_ws := jx_t2 117 rfl rfl
theorem w_124 : Cond.initialized "java/lang/System" ∈ jx_ws := jx_t1 12 rfl rfl
theorem w_125 : Cond.methodLink "StationLine$Memory" 69 y_A_fill ∈ jx_ws := jx_t2 77 rfl rfl
theorem w_126 : Cond.methodLink "StationLine$Memory" 36 y_E_isOpen ∈ jx_ws := jx_t2 78 rfl rfl
theorem w_127 : Cond.code y_E_isOpen prog_7_method_2_code 5 (some .boolean) ∈ jx_ws := jx_t2 81 rfl rfl
theorem w_128 : Cond.instanceMethod y_E_isOpen ∈ jx_ws := jx_t2 79 rfl rfl
theorem w_129 : Cond.selects y_E_isOpen.cls y_E_isOpen y_E_isOpen ∈ jx_ws := jx_t2 80 rfl rfl
theorem w_130 : Cond.methodLink "StationLine$Memory" 44 y_E_lengthOf ∈ jx_ws := jx_t2 86 rfl rfl
theorem w_131 : Cond.code y_E_lengthOf prog_7_method_6_code 2 (some .int) ∈ jx_ws := jx_t2 89 rfl rfl
theorem w_132 : Cond.instanceMethod y_E_lengthOf ∈ jx_ws := jx_t2 88 rfl rfl
theorem w_133 : Cond.selects y_E_lengthOf.cls y_E_lengthOf y_E_lengthOf ∈ jx_ws := jx_p 4 rfl rfl
theorem w_134 : Cond.methodLink "StationLine$Memory" 78 Lib.Math.min.name ∈ jx_ws := jx_t2 90 rfl rfl
theorem w_135 : Cond.static Lib.Math.min.name ∈ jx_ws := jx_t2 91 rfl rfl
theorem w_136 : Cond.initialized "java/lang/Math" ∈ jx_ws := jx_t1 11 rfl rfl
theorem w_137 : Cond.code Lib.Math.min.name Lib.Math.min.code 2 (some .int) ∈ jx_ws := jx_t2 92 rfl rfl
theorem w_138 : Cond.methodLink "StationLine$Memory" 83 Lib.Math.max.name ∈ jx_ws := jx_t2 93 rfl rfl
theorem w_139 : Cond.static Lib.Math.max.name ∈ jx_ws := jx_t2 94 rfl rfl
theorem w_140 : Cond.code Lib.Math.max.name Lib.Math.max.code 2 (some .int) ∈ jx_ws := jx_t2 95 rfl rfl
theorem w_141 : Cond.methodLink "StationLine$Memory" 86 y_E_allows ∈ jx_ws := jx_t2 100 rfl rfl
theorem w_142 : Cond.code y_E_allows prog_7_method_12_code 7 (some .boolean) ∈ jx_ws := jx_t2 103 rfl rfl
theorem w_143 : Cond.instanceMethod y_E_allows ∈ jx_ws := jx_t2 102 rfl rfl
theorem w_144 : Cond.selects y_E_allows.cls y_E_allows y_E_allows ∈ jx_ws := jx_p 6 rfl rfl
theorem w_145 : Cond.methodLink "StationLine$Memory" 47 y_E_findOwners ∈ jx_ws := jx_t2 73 rfl rfl
theorem w_146 : Cond.code y_E_findOwners prog_7_method_10_code 6 (none) ∈ jx_ws := jx_t2 76 rfl rfl
theorem w_147 : Cond.instanceMethod y_E_findOwners ∈ jx_ws := jx_t2 75 rfl rfl
theorem w_148 : Cond.selects y_E_findOwners.cls y_E_findOwners y_E_findOwners ∈ jx_ws := jx_p 2 rfl rfl
theorem w_149 : Cond.methodLink "StationLine$Memory" 51 y_E_isAllowed ∈ jx_ws := jx_t2 96 rfl rfl
theorem w_150 : Cond.code y_E_isAllowed prog_7_method_11_code 6 (some .boolean) ∈ jx_ws := jx_t2 99 rfl rfl
theorem w_151 : Cond.instanceMethod y_E_isAllowed ∈ jx_ws := jx_t2 98 rfl rfl
theorem w_152 : Cond.selects y_E_isAllowed.cls y_E_isAllowed y_E_isAllowed ∈ jx_ws := jx_p 5 rfl rfl
theorem w_153 : Cond.methodLink "StationLine$Memory" 55 y_E_beforeReading ∈ jx_ws := jx_t2 131 rfl rfl
theorem w_154 : Cond.code y_E_beforeReading prog_7_method_13_code 3 (none) ∈ jx_ws := jx_t2 134 rfl rfl
theorem w_155 : Cond.instanceMethod y_E_beforeReading ∈ jx_ws := jx_t2 133 rfl rfl
theorem w_156 : Cond.selects y_E_beforeReading.cls y_E_beforeReading y_E_beforeReading ∈ jx_ws := jx_p 12 rfl rfl
theorem w_157 : Cond.methodLink "StationLine$Memory" 58 y_E_heldByte ∈ jx_ws := jx_t2 104 rfl rfl
theorem w_158 : Cond.code y_E_heldByte prog_7_method_14_code 5 (some .int) ∈ jx_ws := jx_t2 107 rfl rfl
theorem w_159 : Cond.instanceMethod y_E_heldByte ∈ jx_ws := jx_t2 106 rfl rfl
theorem w_160 : Cond.selects y_E_heldByte.cls y_E_heldByte y_E_heldByte ∈ jx_ws := jx_p 7 rfl rfl
theorem w_161 : Cond.fieldLink "StationLine$Memory" 96 "StationLine$Memory" "outputsRenewed" "Z" ∈ jx_ws := jx_t1 190 rfl rfl
theorem w_162 : Cond.fieldLink "StationLine$Memory" 100 "StationLine$Memory" "age" "I" ∈ jx_ws := jx_t1 192 rfl rfl
theorem w_163 : Cond.fieldLink "StationLine$Memory" 104 "StationLine$Memory" "controlWritten" "Z" ∈ jx_ws := jx_t1 188 rfl rfl
theorem w_164 : Cond.methodLink "StationLine$Memory" 107 y_E_clearChannel ∈ jx_ws := jx_t2 123 rfl rfl
theorem w_165 : Cond.code y_E_clearChannel prog_7_method_17_code 3 (none) ∈ jx_ws := jx_t2 126 rfl rfl
theorem w_166 : Cond.instanceMethod y_E_clearChannel ∈ jx_ws := jx_t2 125 rfl rfl
theorem w_167 : Cond.selects y_E_clearChannel.cls y_E_clearChannel y_E_clearChannel ∈ jx_ws := jx_p 11 rfl rfl
theorem w_168 : Cond.methodLink "StationLine$Memory" 62 y_E_storeInChannel ∈ jx_ws := jx_t2 112 rfl rfl
theorem w_169 : Cond.code y_E_storeInChannel prog_7_method_15_code 5 (none) ∈ jx_ws := jx_t2 115 rfl rfl
theorem w_170 : Cond.instanceMethod y_E_storeInChannel ∈ jx_ws := jx_t2 114 rfl rfl
theorem w_171 : Cond.selects y_E_storeInChannel.cls y_E_storeInChannel y_E_storeInChannel ∈ jx_ws := jx_p 9 rfl rfl
theorem w_172 : Cond.methodLink "StationLine$Memory" 66 y_E_storePlain ∈ jx_ws := jx_t2 119 rfl rfl
theorem w_173 : Cond.code y_E_storePlain prog_7_method_16_code 3 (none) ∈ jx_ws := jx_t2 122 rfl rfl
theorem w_174 : Cond.instanceMethod y_E_storePlain ∈ jx_ws := jx_t2 121 rfl rfl
theorem w_175 : Cond.selects y_E_storePlain.cls y_E_storePlain y_E_storePlain ∈ jx_ws := jx_p 10 rfl rfl
theorem w_176 : Cond.fieldLink "StationLine$Station" 64 "StationLine$Datagram" "offset" "I" ∈ jx_ws := jx_t1 101 rfl rfl
theorem w_177 : Cond.fieldLink "StationLine$Station" 67 "StationLine$Datagram" "length" "I" ∈ jx_ws := jx_t1 104 rfl rfl
theorem w_178 : Cond.fieldLink "StationLine$Station" 48 "StationLine$Datagram" "command" "I" ∈ jx_ws := jx_t1 94 rfl rfl
theorem w_179 : Cond.fieldLink "StationLine$Station" 70 "StationLine$Memory" "row" "[I" ∈ jx_ws := jx_t1 183 rfl rfl
theorem w_180 : Cond.fieldLink "StationLine$Station" 73 "StationLine$Datagram" "bytes" "[I" ∈ jx_ws := jx_t1 111 rfl rfl
theorem w_181 : Cond.fieldLink "StationLine$Station" 74 "StationLine$Memory" "mask" "[I" ∈ jx_ws := jx_t1 185 rfl rfl
theorem w_182 : Cond.methodLink "StationLine$Station" 77 y_E_writeRow ∈ jx_ws := jx_t2 69 rfl rfl
theorem w_183 : Cond.code y_E_writeRow prog_7_method_9_code 7 (some .boolean) ∈ jx_ws := jx_t2 72 rfl rfl
theorem w_184 : Cond.instanceMethod y_E_writeRow ∈ jx_ws := jx_t2 70 rfl rfl
theorem w_185 : Cond.selects y_E_writeRow.cls y_E_writeRow y_E_writeRow ∈ jx_ws := jx_t2 71 rfl rfl
theorem w_186 : Cond.fieldLink "StationLine$Station" 81 "StationLine$Datagram" "counter" "I" ∈ jx_ws := jx_t1 107 rfl rfl
theorem w_187 : Cond.methodLink "StationLine$Station" 84 y_E_readRow ∈ jx_ws := jx_t2 127 rfl rfl
theorem w_188 : Cond.code y_E_readRow prog_7_method_8_code 5 (some .boolean) ∈ jx_ws := jx_t2 130 rfl rfl
theorem w_189 : Cond.instanceMethod y_E_readRow ∈ jx_ws := jx_t2 128 rfl rfl
theorem w_190 : Cond.selects y_E_readRow.cls y_E_readRow y_E_readRow ∈ jx_ws := jx_t2 129 rfl rfl
theorem w_191 : Cond.fieldLink "StationLine$MappedBits" 32 "StationLine$MappedBits" "memoryBit" "I" ∈ jx_ws := jx_t1 221 rfl rfl
theorem w_192 : Cond.fieldLink "StationLine$MappedBits" 35 "StationLine$MappedBits" "count" "I" ∈ jx_ws := jx_t1 222 rfl rfl
theorem w_193 : Cond.fieldLink "StationLine$MappedBits" 9 "StationLine$Datagram" "address" "I" ∈ jx_ws := jx_t1 98 rfl rfl
theorem w_194 : Cond.methodLink "StationLine$MappedBits" 15 Lib.Math.max.name ∈ jx_ws := jx_t2 145 rfl rfl
theorem w_195 : Cond.fieldLink "StationLine$MappedBits" 21 "StationLine$Datagram" "length" "I" ∈ jx_ws := jx_t1 103 rfl rfl
theorem w_196 : Cond.methodLink "StationLine$MappedBits" 24 Lib.Math.min.name ∈ jx_ws := jx_t2 146 rfl rfl
theorem w_197 : Cond.fieldLink "StationLine$MappedBits" 27 "StationLine$MappedBits" "dataBit" "I" ∈ jx_ws := jx_t1 220 rfl rfl
theorem w_198 : Cond.methodLink "StationLine$MappedBits" 38 y_B_lastByte ∈ jx_ws := jx_t2 147 rfl rfl
theorem w_199 : Cond.code y_B_lastByte prog_6_method_4_code 1 (some .int) ∈ jx_ws := jx_t2 150 rfl rfl
theorem w_200 : Cond.instanceMethod y_B_lastByte ∈ jx_ws := jx_t2 148 rfl rfl
theorem w_201 : Cond.selects y_B_lastByte.cls y_B_lastByte y_B_lastByte ∈ jx_ws := jx_t2 149 rfl rfl
theorem w_202 : Cond.methodLink "StationLine$MappedBits" 42 y_B_firstByte ∈ jx_ws := jx_t2 160 rfl rfl
theorem w_203 : Cond.code y_B_firstByte prog_6_method_3_code 1 (some .int) ∈ jx_ws := jx_t2 154 rfl rfl
theorem w_204 : Cond.instanceMethod y_B_firstByte ∈ jx_ws := jx_t2 152 rfl rfl
theorem w_205 : Cond.selects y_B_firstByte.cls y_B_firstByte y_B_firstByte ∈ jx_ws := jx_t2 153 rfl rfl
theorem w_206 : Cond.methodLink "StationLine$MappedBits" 45 y_A_fill ∈ jx_ws := jx_t2 165 rfl rfl
theorem w_207 : Cond.methodLink "StationLine$Station" 87 arraycopyName ∈ jx_ws := jx_t2 140 rfl rfl
theorem w_208 : Cond.methodLink "StationLine$Station" 93 y_B_find ∈ jx_ws := jx_t2 141 rfl rfl
theorem w_209 : Cond.code y_B_find prog_6_method_2_code 10 (some .boolean) ∈ jx_ws := jx_t2 144 rfl rfl
theorem w_210 : Cond.instanceMethod y_B_find ∈ jx_ws := jx_t2 142 rfl rfl
theorem w_211 : Cond.selects y_B_find.cls y_B_find y_B_find ∈ jx_ws := jx_t2 143 rfl rfl
theorem w_212 : Cond.methodLink "StationLine$Station" 97 y_B_firstByte ∈ jx_ws := jx_t2 151 rfl rfl
theorem w_213 : Cond.methodLink "StationLine$Station" 101 y_B_lastByte ∈ jx_ws := jx_t2 155 rfl rfl
theorem w_214 : Cond.methodLink "StationLine$Station" 104 y_B_putIntoData ∈ jx_ws := jx_t2 156 rfl rfl
theorem w_215 : Cond.code y_B_putIntoData prog_6_method_5_code 8 (none) ∈ jx_ws := jx_t2 159 rfl rfl
theorem w_216 : Cond.instanceMethod y_B_putIntoData ∈ jx_ws := jx_t2 157 rfl rfl
theorem w_217 : Cond.selects y_B_putIntoData.cls y_B_putIntoData y_B_putIntoData ∈ jx_ws := jx_t2 158 rfl rfl
theorem w_218 : Cond.methodLink "StationLine$Station" 108 y_B_putIntoRow ∈ jx_ws := jx_t2 161 rfl rfl
theorem w_219 : Cond.code y_B_putIntoRow prog_6_method_6_code 9 (none) ∈ jx_ws := jx_t2 164 rfl rfl
theorem w_220 : Cond.instanceMethod y_B_putIntoRow ∈ jx_ws := jx_t2 162 rfl rfl
theorem w_221 : Cond.selects y_B_putIntoRow.cls y_B_putIntoRow y_B_putIntoRow ∈ jx_ws := jx_t2 163 rfl rfl
theorem w_222 : Cond.fieldLink "StationLine$Station" 53 "StationLine$Datagram" "address" "I" ∈ jx_ws := jx_t1 97 rfl rfl
theorem w_223 : Cond.methodLink "StationLine$Station" 56 y_S_performDirect ∈ jx_ws := jx_t2 65 rfl rfl
theorem w_224 : Cond.code y_S_performDirect prog_8_method_3_code 5 (none) ∈ jx_ws := jx_t2 68 rfl rfl
theorem w_225 : Cond.instanceMethod y_S_performDirect ∈ jx_ws := jx_t2 67 rfl rfl
theorem w_226 : Cond.selects y_S_performDirect.cls y_S_performDirect y_S_performDirect ∈ jx_ws := jx_p 1 rfl rfl
theorem w_227 : Cond.constant "StationLine$Station" 60 (nI 65535) ∈ jx_ws := jx_t2 135 rfl rfl
theorem w_228 : Cond.methodLink "StationLine$Station" 61 y_S_performLogical ∈ jx_ws := jx_t2 136 rfl rfl
theorem w_229 : Cond.code y_S_performLogical prog_8_method_4_code 8 (none) ∈ jx_ws := jx_t2 139 rfl rfl
theorem w_230 : Cond.instanceMethod y_S_performLogical ∈ jx_ws := jx_t2 138 rfl rfl
theorem w_231 : Cond.selects y_S_performLogical.cls y_S_performLogical y_S_performLogical ∈ jx_ws := jx_p 13 rfl rfl
theorem w_232 : Cond.methodLink "StationLine$Line" 28 y_N_stationsBeforeBreak ∈ jx_ws := jx_t2 57 rfl rfl
theorem w_233 : Cond.code y_N_stationsBeforeBreak prog_5_method_4_code 2 (some .int) ∈ jx_ws := jx_t2 60 rfl rfl
theorem w_234 : Cond.instanceMethod y_N_stationsBeforeBreak ∈ jx_ws := jx_t2 59 rfl rfl
theorem w_235 : Cond.selects y_N_stationsBeforeBreak.cls y_N_stationsBeforeBreak y_N_stationsBeforeBreak ∈ jx_ws := jx_p 0 rfl rfl
theorem w_236 : Cond.fieldLink "StationLine$Line" 32 "StationLine$Frame" "size" "I" ∈ jx_ws := jx_t1 131 rfl rfl
theorem w_237 : Cond.fieldLink "StationLine$Line" 37 "StationLine$Frame" "datagrams" "[LStationLine$Datagram;" ∈ jx_ws := jx_t1 127 rfl rfl
theorem w_238 : Cond.methodLink "StationLine$Line" 41 y_S_perform ∈ jx_ws := jx_t2 61 rfl rfl
theorem w_239 : Cond.code y_S_perform prog_8_method_2_code 2 (none) ∈ jx_ws := jx_t2 64 rfl rfl
theorem w_240 : Cond.instanceMethod y_S_perform ∈ jx_ws := jx_t2 62 rfl rfl
theorem w_241 : Cond.selects y_S_perform.cls y_S_perform y_S_perform ∈ jx_ws := jx_t2 63 rfl rfl
theorem w_242 : Cond.methodLink "StationLine" 72 y_N_carry ∈ jx_ws := jx_t2 53 rfl rfl
theorem w_243 : Cond.code y_N_carry prog_5_method_3_code 8 (some .boolean) ∈ jx_ws := jx_t2 56 rfl rfl
theorem w_244 : Cond.instanceMethod y_N_carry ∈ jx_ws := jx_t2 54 rfl rfl
theorem w_245 : Cond.selects y_N_carry.cls y_N_carry y_N_carry ∈ jx_ws := jx_t2 55 rfl rfl
theorem w_246 : Cond.fieldLink "StationLine" 76 "StationLine" "cameBack" "Z" ∈ jx_ws := jx_t1 141 rfl rfl
theorem w_247 : Cond.methodLink "StationLine" 80 y_F_hasDatagram ∈ jx_ws := jx_t2 170 rfl rfl
theorem w_248 : Cond.fieldLink "StationLine" 83 "StationLine$Datagram" "counter" "I" ∈ jx_ws := jx_t1 108 rfl rfl
theorem w_249 : Cond.fieldLink "StationLine" 86 "StationLine$Datagram" "address" "I" ∈ jx_ws := jx_t1 99 rfl rfl
theorem w_250 : Cond.methodLink "StationLine" 89 y_N_hasStation ∈ jx_ws := jx_t2 175 rfl rfl
theorem w_251 : Cond.code y_N_hasStation prog_5_method_2_code 2 (some .boolean) ∈ jx_ws := jx_t2 178 rfl rfl
theorem w_252 : Cond.instanceMethod y_N_hasStation ∈ jx_ws := jx_t2 176 rfl rfl
theorem w_253 : Cond.selects y_N_hasStation.cls y_N_hasStation y_N_hasStation ∈ jx_ws := jx_t2 177 rfl rfl
theorem w_254 : Cond.fieldLink "StationLine" 92 "StationLine$Line" "broken" "[Z" ∈ jx_ws := jx_t1 32 rfl rfl
theorem w_255 : Cond.fieldLink "StationLine" 96 "StationLine$Line" "spoilBefore" "I" ∈ jx_ws := jx_t1 36 rfl rfl
theorem w_256 : Cond.methodLink "StationLine$Station" 115 y_S_present ∈ jx_ws := jx_t2 199 rfl rfl
theorem w_257 : Cond.code y_S_present prog_8_method_6_code 1 (some .int) ∈ jx_ws := jx_t2 202 rfl rfl
theorem w_258 : Cond.instanceMethod y_S_present ∈ jx_ws := jx_t2 201 rfl rfl
theorem w_259 : Cond.selects y_S_present.cls y_S_present y_S_present ∈ jx_ws := jx_p 16 rfl rfl
theorem w_260 : Cond.methodLink "StationLine$Station" 183 y_A_fill ∈ jx_ws := jx_t3 6 rfl rfl
theorem w_261 : Cond.methodLink "StationLine$Station" 164 y_E_isOpenAs ∈ jx_ws := jx_t2 207 rfl rfl
theorem w_262 : Cond.code y_E_isOpenAs prog_7_method_3_code 4 (some .boolean) ∈ jx_ws := jx_t2 210 rfl rfl
theorem w_263 : Cond.instanceMethod y_E_isOpenAs ∈ jx_ws := jx_t2 208 rfl rfl
theorem w_264 : Cond.selects y_E_isOpenAs.cls y_E_isOpenAs y_E_isOpenAs ∈ jx_ws := jx_t2 209 rfl rfl
theorem w_265 : Cond.fieldLink "StationLine$Station" 156 "StationLine$Memory" "written" "[Z" ∈ jx_ws := jx_t1 181 rfl rfl
theorem w_266 : Cond.fieldLink "StationLine$Station" 171 "StationLine$Memory" "done" "[[I" ∈ jx_ws := jx_t1 179 rfl rfl
theorem w_267 : Cond.fieldLink "StationLine$Station" 146 "StationLine$Memory" "outputsRenewed" "Z" ∈ jx_ws := jx_t1 189 rfl rfl
theorem w_268 : Cond.fieldLink "StationLine$Station" 149 "StationLine$Memory" "age" "I" ∈ jx_ws := jx_t1 191 rfl rfl
theorem w_269 : Cond.methodLink "StationLine$Station" 138 y_S_become ∈ jx_ws := jx_t2 219 rfl rfl
theorem w_270 : Cond.code y_S_become prog_8_method_7_code 3 (none) ∈ jx_ws := jx_t2 222 rfl rfl
theorem w_271 : Cond.instanceMethod y_S_become ∈ jx_ws := jx_t2 221 rfl rfl
theorem w_272 : Cond.selects y_S_become.cls y_S_become y_S_become ∈ jx_ws := jx_p 19 rfl rfl
theorem w_273 : Cond.methodLink "StationLine$Station" 167 y_E_isOn ∈ jx_ws := jx_t2 215 rfl rfl
theorem w_274 : Cond.code y_E_isOn prog_7_method_4_code 2 (some .boolean) ∈ jx_ws := jx_t2 218 rfl rfl
theorem w_275 : Cond.instanceMethod y_E_isOn ∈ jx_ws := jx_t2 216 rfl rfl
theorem w_276 : Cond.selects y_E_isOn.cls y_E_isOn y_E_isOn ∈ jx_ws := jx_t2 217 rfl rfl
theorem w_277 : Cond.methodLink "StationLine$Station" 152 y_S_hasMailbox ∈ jx_ws := jx_t2 203 rfl rfl
theorem w_278 : Cond.code y_S_hasMailbox prog_8_method_11_code 1 (some .boolean) ∈ jx_ws := jx_t2 206 rfl rfl
theorem w_279 : Cond.instanceMethod y_S_hasMailbox ∈ jx_ws := jx_t2 205 rfl rfl
theorem w_280 : Cond.selects y_S_hasMailbox.cls y_S_hasMailbox y_S_hasMailbox ∈ jx_ws := jx_p 17 rfl rfl
theorem w_281 : Cond.methodLink "StationLine$Station" 160 y_S_isSetUp ∈ jx_ws := jx_t2 211 rfl rfl
theorem w_282 : Cond.code y_S_isSetUp prog_8_method_12_code 4 (some .boolean) ∈ jx_ws := jx_t2 214 rfl rfl
theorem w_283 : Cond.instanceMethod y_S_isSetUp ∈ jx_ws := jx_t2 213 rfl rfl
theorem w_284 : Cond.selects y_S_isSetUp.cls y_S_isSetUp y_S_isSetUp ∈ jx_ws := jx_p 18 rfl rfl
theorem w_285 : Cond.fieldLink "StationLine$Station" 130 "StationLine$Memory" "controlWritten" "Z" ∈ jx_ws := jx_t1 187 rfl rfl
theorem w_286 : Cond.methodLink "StationLine$Station" 134 y_S_objection ∈ jx_ws := jx_t2 195 rfl rfl
theorem w_287 : Cond.code y_S_objection prog_8_method_10_code 3 (some .int) ∈ jx_ws := jx_t2 198 rfl rfl
theorem w_288 : Cond.instanceMethod y_S_objection ∈ jx_ws := jx_t2 197 rfl rfl
theorem w_289 : Cond.selects y_S_objection.cls y_S_objection y_S_objection ∈ jx_ws := jx_p 15 rfl rfl
theorem w_290 : Cond.methodLink "StationLine$Station" 142 y_S_enter ∈ jx_ws := jx_t2 223 rfl rfl
theorem w_291 : Cond.code y_S_enter prog_8_method_9_code 2 (none) ∈ jx_ws := jx_t2 226 rfl rfl
theorem w_292 : Cond.instanceMethod y_S_enter ∈ jx_ws := jx_t2 225 rfl rfl
theorem w_293 : Cond.selects y_S_enter.cls y_S_enter y_S_enter ∈ jx_ws := jx_p 20 rfl rfl
theorem w_294 : Cond.code y_L_writeMessage prog_1_method_27_code 5 (none) ∈ jx_ws := jx_t2 237 rfl rfl
theorem w_295 : Cond.static y_L_writeMessage ∈ jx_ws := jx_t2 236 rfl rfl
theorem w_296 : Cond.methodLink "StationLine$Station" 175 y_S_doMessage ∈ jx_ws := jx_t2 231 rfl rfl
theorem w_297 : Cond.code y_S_doMessage prog_8_method_14_code 5 (none) ∈ jx_ws := jx_t2 234 rfl rfl
theorem w_298 : Cond.instanceMethod y_S_doMessage ∈ jx_ws := jx_t2 233 rfl rfl
theorem w_299 : Cond.selects y_S_doMessage.cls y_S_doMessage y_S_doMessage ∈ jx_ws := jx_p 22 rfl rfl
theorem w_300 : Cond.methodLink "StationLine$Station" 112 y_S_obeyControl ∈ jx_ws := jx_t2 191 rfl rfl
theorem w_301 : Cond.code y_S_obeyControl prog_8_method_8_code 4 (none) ∈ jx_ws := jx_t2 194 rfl rfl
theorem w_302 : Cond.instanceMethod y_S_obeyControl ∈ jx_ws := jx_t2 193 rfl rfl
theorem w_303 : Cond.selects y_S_obeyControl.cls y_S_obeyControl y_S_obeyControl ∈ jx_ws := jx_p 14 rfl rfl
theorem w_304 : Cond.methodLink "StationLine$Station" 118 y_S_replyToMessage ∈ jx_ws := jx_t2 227 rfl rfl
theorem w_305 : Cond.code y_S_replyToMessage prog_8_method_13_code 3 (none) ∈ jx_ws := jx_t2 230 rfl rfl
theorem w_306 : Cond.instanceMethod y_S_replyToMessage ∈ jx_ws := jx_t2 229 rfl rfl
theorem w_307 : Cond.selects y_S_replyToMessage.cls y_S_replyToMessage y_S_replyToMessage ∈ jx_ws := jx_p 21 rfl rfl
theorem w_308 : Cond.methodLink "StationLine$Station" 121 y_S_takeSensors ∈ jx_ws := jx_t2 238 rfl rfl
theorem w_309 : Cond.code y_S_takeSensors prog_8_method_15_code 1 (none) ∈ jx_ws := jx_t3 1 rfl rfl
theorem w_310 : Cond.instanceMethod y_S_takeSensors ∈ jx_ws := jx_t3 0 rfl rfl
theorem w_311 : Cond.selects y_S_takeSensors.cls y_S_takeSensors y_S_takeSensors ∈ jx_ws := jx_p 23 rfl rfl
theorem w_312 : Cond.methodLink "StationLine$Station" 124 y_S_moveActuators ∈ jx_ws := jx_t3 2 rfl rfl
theorem w_313 : Cond.code y_S_moveActuators prog_8_method_16_code 1 (none) ∈ jx_ws := jx_t3 5 rfl rfl
theorem w_314 : Cond.instanceMethod y_S_moveActuators ∈ jx_ws := jx_t3 4 rfl rfl
theorem w_315 : Cond.selects y_S_moveActuators.cls y_S_moveActuators y_S_moveActuators ∈ jx_ws := jx_p 24 rfl rfl
theorem w_316 : Cond.methodLink "StationLine$Station" 127 y_S_watch ∈ jx_ws := jx_t3 7 rfl rfl
theorem w_317 : Cond.code y_S_watch prog_8_method_17_code 2 (none) ∈ jx_ws := jx_t3 10 rfl rfl
theorem w_318 : Cond.instanceMethod y_S_watch ∈ jx_ws := jx_t3 9 rfl rfl
theorem w_319 : Cond.selects y_S_watch.cls y_S_watch y_S_watch ∈ jx_ws := jx_p 25 rfl rfl
theorem w_320 : Cond.methodLink "StationLine" 99 y_S_makeTick ∈ jx_ws := jx_t2 187 rfl rfl
theorem w_321 : Cond.code y_S_makeTick prog_8_method_5_code 1 (none) ∈ jx_ws := jx_t2 190 rfl rfl
theorem w_322 : Cond.instanceMethod y_S_makeTick ∈ jx_ws := jx_t2 188 rfl rfl
theorem w_323 : Cond.selects y_S_makeTick.cls y_S_makeTick y_S_makeTick ∈ jx_ws := jx_t2 189 rfl rfl
theorem w_324 : Cond.fieldLink "StationLine" 102 "StationLine$Station" "inputs" "I" ∈ jx_ws := jx_t1 235 rfl rfl
theorem w_325 : Cond.fieldLink "StationLine" 105 "StationLine$Station" "sensors" "[I" ∈ jx_ws := jx_t1 237 rfl rfl
theorem w_326 : Cond.fieldLink "StationLine" 108 "StationLine$Station" "outputs" "I" ∈ jx_ws := jx_t1 232 rfl rfl
theorem w_327 : Cond.fieldLink "StationLine" 111 "StationLine$Station" "actuators" "[I" ∈ jx_ws := jx_t1 239 rfl rfl
theorem w_328 : Cond.fieldLink "StationLine" 114 "StationLine$Station" "memory" "LStationLine$Memory;" ∈ jx_ws := jx_t2 1 rfl rfl
theorem w_329 : Cond.fieldLink "StationLine" 118 "StationLine$Memory" "bytes" "[I" ∈ jx_ws := jx_t1 176 rfl rfl
theorem w_330 : Cond.fieldLink "StationLine$Image" 27 "StationLine$Image" "stations" "I" ∈ jx_ws := jx_t1 62 rfl rfl
theorem w_331 : Cond.fieldLink "StationLine$Image" 31 "StationLine$Image" "size" "I" ∈ jx_ws := jx_t1 63 rfl rfl
theorem w_332 : Cond.methodLink "StationLine$Image" 34 y_A_fill ∈ jx_ws := jx_t3 31 rfl rfl
theorem w_333 : Cond.methodLink "StationLine" 121 y_I_forget ∈ jx_ws := jx_t3 27 rfl rfl
theorem w_334 : Cond.code y_I_forget prog_4_method_2_code 1 (none) ∈ jx_ws := jx_t3 30 rfl rfl
theorem w_335 : Cond.instanceMethod y_I_forget ∈ jx_ws := jx_t3 28 rfl rfl
theorem w_336 : Cond.selects y_I_forget.cls y_I_forget y_I_forget ∈ jx_ws := jx_t3 29 rfl rfl
theorem w_337 : Cond.fieldLink "StationLine" 124 "StationLine" "found" "I" ∈ jx_ws := jx_t1 142 rfl rfl
theorem w_338 : Cond.methodLink "StationLine" 127 y_L_startFrame ∈ jx_ws := jx_t3 32 rfl rfl
theorem w_339 : Cond.code y_L_startFrame prog_1_method_22_code 5 (some (.object "StationLine$Datagram")) ∈ jx_ws := jx_t3 35 rfl rfl
theorem w_340 : Cond.instanceMethod y_L_startFrame ∈ jx_ws := jx_t3 34 rfl rfl
theorem w_341 : Cond.selects y_L_startFrame.cls y_L_startFrame y_L_startFrame ∈ jx_ws := jx_p 26 rfl rfl
theorem w_342 : Cond.constant "StationLine" 130 (nI 65536) ∈ jx_ws := jx_t3 36 rfl rfl
theorem w_343 : Cond.methodLink "StationLine" 175 y_L_writeChannel ∈ jx_ws := jx_t3 49 rfl rfl
theorem w_344 : Cond.code y_L_writeChannel prog_1_method_25_code 5 (none) ∈ jx_ws := jx_t3 51 rfl rfl
theorem w_345 : Cond.static y_L_writeChannel ∈ jx_ws := jx_t3 50 rfl rfl
theorem w_346 : Cond.fieldLink "StationLine" 179 "StationLine$Image" "outputsAt" "[I" ∈ jx_ws := jx_t1 58 rfl rfl
theorem w_347 : Cond.methodLink "StationLine" 182 y_L_writeMap ∈ jx_ws := jx_t3 52 rfl rfl
theorem w_348 : Cond.code y_L_writeMap prog_1_method_26_code 5 (none) ∈ jx_ws := jx_t3 54 rfl rfl
theorem w_349 : Cond.static y_L_writeMap ∈ jx_ws := jx_t3 53 rfl rfl
theorem w_350 : Cond.fieldLink "StationLine" 185 "StationLine$Image" "inputsAt" "[I" ∈ jx_ws := jx_t1 60 rfl rfl
theorem w_351 : Cond.fieldLink "StationLine$Image" 40 "StationLine$Station" "outputs" "I" ∈ jx_ws := jx_t1 231 rfl rfl
theorem w_352 : Cond.fieldLink "StationLine$Image" 45 "StationLine$Station" "inputs" "I" ∈ jx_ws := jx_t1 234 rfl rfl
theorem w_353 : Cond.methodLink "StationLine" 131 y_I_append ∈ jx_ws := jx_t3 41 rfl rfl
theorem w_354 : Cond.code y_I_append prog_4_method_3_code 2 (none) ∈ jx_ws := jx_t3 44 rfl rfl
theorem w_355 : Cond.instanceMethod y_I_append ∈ jx_ws := jx_t3 42 rfl rfl
theorem w_356 : Cond.selects y_I_append.cls y_I_append y_I_append ∈ jx_ws := jx_t3 43 rfl rfl
theorem w_357 : Cond.methodLink "StationLine" 134 y_L_startChannelsFrame ∈ jx_ws := jx_t3 45 rfl rfl
theorem w_358 : Cond.code y_L_startChannelsFrame prog_1_method_23_code 6 (none) ∈ jx_ws := jx_t3 48 rfl rfl
theorem w_359 : Cond.instanceMethod y_L_startChannelsFrame ∈ jx_ws := jx_t3 47 rfl rfl
theorem w_360 : Cond.selects y_L_startChannelsFrame.cls y_L_startChannelsFrame y_L_startChannelsFrame ∈ jx_ws := jx_p 27 rfl rfl
theorem w_361 : Cond.methodLink "StationLine" 138 y_F_isCountedOnce ∈ jx_ws := jx_t3 55 rfl rfl
theorem w_362 : Cond.code y_F_isCountedOnce prog_3_method_4_code 2 (some .boolean) ∈ jx_ws := jx_t3 58 rfl rfl
theorem w_363 : Cond.instanceMethod y_F_isCountedOnce ∈ jx_ws := jx_t3 56 rfl rfl
theorem w_364 : Cond.selects y_F_isCountedOnce.cls y_F_isCountedOnce y_F_isCountedOnce ∈ jx_ws := jx_t3 57 rfl rfl
theorem w_365 : Cond.methodLink "StationLine" 142 y_L_startInputsFrame ∈ jx_ws := jx_t3 59 rfl rfl
theorem w_366 : Cond.code y_L_startInputsFrame prog_1_method_24_code 3 (none) ∈ jx_ws := jx_t3 62 rfl rfl
theorem w_367 : Cond.instanceMethod y_L_startInputsFrame ∈ jx_ws := jx_t3 61 rfl rfl
theorem w_368 : Cond.selects y_L_startInputsFrame.cls y_L_startInputsFrame y_L_startInputsFrame ∈ jx_ws := jx_p 28 rfl rfl
theorem w_369 : Cond.fieldLink "StationLine" 145 "StationLine$Image" "size" "I" ∈ jx_ws := jx_t1 64 rfl rfl
theorem w_370 : Cond.fieldLink "StationLine" 146 "StationLine$Image" "sent" "[I" ∈ jx_ws := jx_t1 54 rfl rfl
theorem w_371 : Cond.methodLink "StationLine$Image" 52 Lib.Math.max.name ∈ jx_ws := jx_t3 84 rfl rfl
theorem w_372 : Cond.methodLink "StationLine$Image" 58 Lib.Math.min.name ∈ jx_ws := jx_t3 85 rfl rfl
theorem w_373 : Cond.methodLink "StationLine$Image" 48 y_I_meet ∈ jx_ws := jx_t3 81 rfl rfl
theorem w_374 : Cond.code y_I_meet prog_4_method_5_code 3 (some .boolean) ∈ jx_ws := jx_t3 83 rfl rfl
theorem w_375 : Cond.static y_I_meet ∈ jx_ws := jx_t3 82 rfl rfl
theorem w_376 : Cond.methodLink "StationLine" 149 Lib.Math.min.name ∈ jx_ws := jx_t3 75 rfl rfl
theorem w_377 : Cond.methodLink "StationLine" 155 arraycopyName ∈ jx_ws := jx_t3 76 rfl rfl
theorem w_378 : Cond.methodLink "StationLine" 161 y_I_expected ∈ jx_ws := jx_t3 77 rfl rfl
theorem w_379 : Cond.code y_I_expected prog_4_method_4_code 4 (some .int) ∈ jx_ws := jx_t3 80 rfl rfl
theorem w_380 : Cond.instanceMethod y_I_expected ∈ jx_ws := jx_t3 78 rfl rfl
theorem w_381 : Cond.selects y_I_expected.cls y_I_expected y_I_expected ∈ jx_ws := jx_t3 79 rfl rfl
theorem w_382 : Cond.fieldLink "StationLine" 165 "StationLine$Image" "got" "[I" ∈ jx_ws := jx_t1 56 rfl rfl
theorem w_383 : Cond.fieldLink "StationLine" 168 "StationLine$Datagram" "length" "I" ∈ jx_ws := jx_t1 105 rfl rfl
theorem w_384 : Cond.methodLink "StationLine" 171 y_L_writeMessage ∈ jx_ws := jx_t3 94 rfl rfl
theorem w_385 : Cond.methodLink "StationLineModel" 1 objectInit ∈ jx_ws := jx_t3 104 rfl rfl
theorem w_386 : Cond.fieldLink "StationLineModel" 7 "StationLineModel" "outs" "[I" ∈ jx_ws := jx_t3 106 rfl rfl
theorem w_387 : Cond.fieldLink "StationLineModel" 13 "StationLineModel" "ins" "[I" ∈ jx_ws := jx_t3 107 rfl rfl
theorem w_388 : Cond.fieldLink "StationLineModel" 16 "StationLineModel" "broken" "[Z" ∈ jx_ws := jx_t3 108 rfl rfl
theorem w_389 : Cond.fieldLink "StationLineModel" 20 "StationLineModel" "memory" "[I" ∈ jx_ws := jx_t3 109 rfl rfl
theorem w_390 : Cond.fieldLink "StationLineModel" 23 "StationLineModel" "fresh" "[I" ∈ jx_ws := jx_t3 110 rfl rfl
theorem w_391 : Cond.fieldLink "StationLineModel" 26 "StationLineModel" "done" "[I" ∈ jx_ws := jx_t3 111 rfl rfl
theorem w_392 : Cond.fieldLink "StationLineModel" 29 "StationLineModel" "written" "[Z" ∈ jx_ws := jx_t3 112 rfl rfl
theorem w_393 : Cond.fieldLink "StationLineModel" 32 "StationLineModel" "mode" "[I" ∈ jx_ws := jx_t3 113 rfl rfl
theorem w_394 : Cond.fieldLink "StationLineModel" 35 "StationLineModel" "failed" "[Z" ∈ jx_ws := jx_t3 114 rfl rfl
theorem w_395 : Cond.fieldLink "StationLineModel" 38 "StationLineModel" "codes" "[I" ∈ jx_ws := jx_t3 115 rfl rfl
theorem w_396 : Cond.fieldLink "StationLineModel" 41 "StationLineModel" "controlled" "[Z" ∈ jx_ws := jx_t3 116 rfl rfl
theorem w_397 : Cond.fieldLink "StationLineModel" 44 "StationLineModel" "renewed" "[Z" ∈ jx_ws := jx_t3 117 rfl rfl
theorem w_398 : Cond.fieldLink "StationLineModel" 47 "StationLineModel" "age" "[I" ∈ jx_ws := jx_t3 118 rfl rfl
theorem w_399 : Cond.fieldLink "StationLineModel" 50 "StationLineModel" "messages" "[I" ∈ jx_ws := jx_t3 119 rfl rfl
theorem w_400 : Cond.fieldLink "StationLineModel" 53 "StationLineModel" "objects" "[I" ∈ jx_ws := jx_t3 120 rfl rfl
theorem w_401 : Cond.fieldLink "StationLineModel" 56 "StationLineModel" "sensors" "[I" ∈ jx_ws := jx_t3 121 rfl rfl
theorem w_402 : Cond.fieldLink "StationLineModel" 59 "StationLineModel" "actuators" "[I" ∈ jx_ws := jx_t3 122 rfl rfl
theorem w_403 : Cond.fieldLink "StationLineModel" 62 "StationLineModel" "spoilt" "I" ∈ jx_ws := jx_t3 126 rfl rfl
theorem w_404 : Cond.fieldLink "StationLineModel" 66 "StationLineModel" "command" "[I" ∈ jx_ws := jx_t3 127 rfl rfl
theorem w_405 : Cond.fieldLink "StationLineModel" 69 "StationLineModel" "address" "[I" ∈ jx_ws := jx_t3 128 rfl rfl
theorem w_406 : Cond.fieldLink "StationLineModel" 72 "StationLineModel" "offset" "[I" ∈ jx_ws := jx_t3 129 rfl rfl
theorem w_407 : Cond.fieldLink "StationLineModel" 75 "StationLineModel" "length" "[I" ∈ jx_ws := jx_t3 130 rfl rfl
theorem w_408 : Cond.fieldLink "StationLineModel" 78 "StationLineModel" "counter" "[I" ∈ jx_ws := jx_t3 131 rfl rfl
theorem w_409 : Cond.fieldLink "StationLineModel" 81 "StationLineModel" "bytes" "[I" ∈ jx_ws := jx_t3 132 rfl rfl
theorem w_410 : Cond.fieldLink "StationLineModel" 84 "StationLineModel" "row" "[I" ∈ jx_ws := jx_t3 133 rfl rfl
theorem w_411 : Cond.fieldLink "StationLineModel" 87 "StationLineModel" "came" "[I" ∈ jx_ws := jx_t3 134 rfl rfl
theorem w_412 : Cond.fieldLink "StationLineModel" 90 "StationLineModel" "outPlace" "[I" ∈ jx_ws := jx_t3 140 rfl rfl
theorem w_413 : Cond.fieldLink "StationLineModel" 93 "StationLineModel" "inPlace" "[I" ∈ jx_ws := jx_t3 141 rfl rfl
theorem w_414 : Cond.fieldLink "StationLineModel" 96 "StationLineModel" "knownOuts" "[I" ∈ jx_ws := jx_t3 142 rfl rfl
theorem w_415 : Cond.fieldLink "StationLineModel" 99 "StationLineModel" "knownIns" "[I" ∈ jx_ws := jx_t3 143 rfl rfl
theorem w_416 : Cond.fieldLink "StationLineModel" 102 "StationLineModel" "image" "[I" ∈ jx_ws := jx_t3 144 rfl rfl
theorem w_417 : Cond.fieldLink "StationLineModel" 105 "StationLineModel" "taken" "[I" ∈ jx_ws := jx_t3 145 rfl rfl
theorem w_418 : Cond.fieldLink "StationLineModel" 108 "StationLineModel" "stations" "I" ∈ jx_ws := jx_t3 105 rfl rfl
theorem w_419 : Cond.methodLink "StationLineModel" 208 y_R_isStation ∈ jx_ws := jx_t4 106 rfl rfl
theorem w_420 : Cond.code y_R_isStation prog_10_method_2_code 2 (some .boolean) ∈ jx_ws := jx_t4 109 rfl rfl
theorem w_421 : Cond.initialized "StationLineModel" ∈ jx_ws := jx_t1 6 rfl rfl
theorem w_422 : Cond.instanceMethod y_R_isStation ∈ jx_ws := jx_t4 108 rfl rfl
theorem w_423 : Cond.selects y_R_isStation.cls y_R_isStation y_R_isStation ∈ jx_ws := jx_p 52 rfl rfl
theorem w_424 : Cond.methodLink "StationLineModel" 111 y_R_at ∈ jx_ws := jx_t4 26 rfl rfl
theorem w_425 : Cond.code y_R_at prog_10_method_4_code 3 (some .int) ∈ jx_ws := jx_t4 29 rfl rfl
theorem w_426 : Cond.instanceMethod y_R_at ∈ jx_ws := jx_t4 28 rfl rfl
theorem w_427 : Cond.selects y_R_at.cls y_R_at y_R_at ∈ jx_ws := jx_p 34 rfl rfl
theorem w_428 : Cond.methodLink "StationLineModel" 115 y_R_many ∈ jx_ws := jx_t4 46 rfl rfl
theorem w_429 : Cond.code y_R_many prog_10_method_6_code 3 (some .int) ∈ jx_ws := jx_t4 49 rfl rfl
theorem w_430 : Cond.instanceMethod y_R_many ∈ jx_ws := jx_t4 48 rfl rfl
theorem w_431 : Cond.selects y_R_many.cls y_R_many y_R_many ∈ jx_ws := jx_p 39 rfl rfl
theorem w_432 : Cond.methodLink "StationLineModel" 118 y_R_begin ∈ jx_ws := jx_t4 50 rfl rfl
theorem w_433 : Cond.code y_R_begin prog_10_method_5_code 3 (some .int) ∈ jx_ws := jx_t4 53 rfl rfl
theorem w_434 : Cond.instanceMethod y_R_begin ∈ jx_ws := jx_t4 52 rfl rfl
theorem w_435 : Cond.selects y_R_begin.cls y_R_begin y_R_begin ∈ jx_ws := jx_p 40 rfl rfl
theorem w_436 : Cond.methodLink "StationLineModel" 121 y_R_open ∈ jx_ws := jx_t4 42 rfl rfl
theorem w_437 : Cond.code y_R_open prog_10_method_8_code 4 (some .boolean) ∈ jx_ws := jx_t4 45 rfl rfl
theorem w_438 : Cond.instanceMethod y_R_open ∈ jx_ws := jx_t4 44 rfl rfl
theorem w_439 : Cond.selects y_R_open.cls y_R_open y_R_open ∈ jx_ws := jx_p 38 rfl rfl
theorem w_440 : Cond.methodLink "StationLineModel" 125 y_R_kind ∈ jx_ws := jx_t4 58 rfl rfl
theorem w_441 : Cond.code y_R_kind prog_10_method_7_code 3 (some .int) ∈ jx_ws := jx_t4 61 rfl rfl
theorem w_442 : Cond.instanceMethod y_R_kind ∈ jx_ws := jx_t4 60 rfl rfl
theorem w_443 : Cond.selects y_R_kind.cls y_R_kind y_R_kind ∈ jx_ws := jx_p 42 rfl rfl
theorem w_444 : Cond.methodLink "StationLineModel" 128 y_R_full ∈ jx_ws := jx_t4 62 rfl rfl
theorem w_445 : Cond.code y_R_full prog_10_method_11_code 3 (some .boolean) ∈ jx_ws := jx_t4 65 rfl rfl
theorem w_446 : Cond.instanceMethod y_R_full ∈ jx_ws := jx_t4 64 rfl rfl
theorem w_447 : Cond.selects y_R_full.cls y_R_full y_R_full ∈ jx_ws := jx_p 43 rfl rfl
theorem w_448 : Cond.methodLink "StationLineModel" 131 y_R_channelOf ∈ jx_ws := jx_t4 38 rfl rfl
theorem w_449 : Cond.code y_R_channelOf prog_10_method_10_code 4 (some .int) ∈ jx_ws := jx_t4 41 rfl rfl
theorem w_450 : Cond.instanceMethod y_R_channelOf ∈ jx_ws := jx_t4 40 rfl rfl
theorem w_451 : Cond.selects y_R_channelOf.cls y_R_channelOf y_R_channelOf ∈ jx_ws := jx_p 37 rfl rfl
theorem w_452 : Cond.methodLink "StationLineModel" 134 y_R_lets ∈ jx_ws := jx_t4 54 rfl rfl
theorem w_453 : Cond.code y_R_lets prog_10_method_14_code 7 (some .boolean) ∈ jx_ws := jx_t4 57 rfl rfl
theorem w_454 : Cond.instanceMethod y_R_lets ∈ jx_ws := jx_t4 56 rfl rfl
theorem w_455 : Cond.selects y_R_lets.cls y_R_lets y_R_lets ∈ jx_ws := jx_p 41 rfl rfl
theorem w_456 : Cond.methodLink "StationLineModel" 138 y_R_allowed ∈ jx_ws := jx_t4 34 rfl rfl
theorem w_457 : Cond.code y_R_allowed prog_10_method_15_code 7 (some .boolean) ∈ jx_ws := jx_t4 37 rfl rfl
theorem w_458 : Cond.instanceMethod y_R_allowed ∈ jx_ws := jx_t4 36 rfl rfl
theorem w_459 : Cond.selects y_R_allowed.cls y_R_allowed y_R_allowed ∈ jx_ws := jx_p 36 rfl rfl
theorem w_460 : Cond.methodLink "StationLineModel" 142 y_R_copy ∈ jx_ws := jx_t4 66 rfl rfl
theorem w_461 : Cond.code y_R_copy prog_10_method_13_code 5 (none) ∈ jx_ws := jx_t4 69 rfl rfl
theorem w_462 : Cond.instanceMethod y_R_copy ∈ jx_ws := jx_t4 68 rfl rfl
theorem w_463 : Cond.selects y_R_copy.cls y_R_copy y_R_copy ∈ jx_ws := jx_p 44 rfl rfl
theorem w_464 : Cond.methodLink "StationLineModel" 146 y_R_cell ∈ jx_ws := jx_t4 70 rfl rfl
theorem w_465 : Cond.code y_R_cell prog_10_method_16_code 4 (some .int) ∈ jx_ws := jx_t4 73 rfl rfl
theorem w_466 : Cond.instanceMethod y_R_cell ∈ jx_ws := jx_t4 72 rfl rfl
theorem w_467 : Cond.selects y_R_cell.cls y_R_cell y_R_cell ∈ jx_ws := jx_p 45 rfl rfl
theorem w_468 : Cond.methodLink "StationLineModel" 150 y_R_fill ∈ jx_ws := jx_t4 74 rfl rfl
theorem w_469 : Cond.code y_R_fill prog_10_method_12_code 4 (none) ∈ jx_ws := jx_t4 77 rfl rfl
theorem w_470 : Cond.instanceMethod y_R_fill ∈ jx_ws := jx_t4 76 rfl rfl
theorem w_471 : Cond.selects y_R_fill.cls y_R_fill y_R_fill ∈ jx_ws := jx_p 46 rfl rfl
theorem w_472 : Cond.methodLink "StationLineModel" 154 y_R_wipe ∈ jx_ws := jx_t4 90 rfl rfl
theorem w_473 : Cond.code y_R_wipe prog_10_method_19_code 4 (none) ∈ jx_ws := jx_t4 93 rfl rfl
theorem w_474 : Cond.instanceMethod y_R_wipe ∈ jx_ws := jx_t4 92 rfl rfl
theorem w_475 : Cond.selects y_R_wipe.cls y_R_wipe y_R_wipe ∈ jx_ws := jx_p 50 rfl rfl
theorem w_476 : Cond.methodLink "StationLineModel" 158 y_R_store ∈ jx_ws := jx_t4 86 rfl rfl
theorem w_477 : Cond.code y_R_store prog_10_method_18_code 5 (none) ∈ jx_ws := jx_t4 89 rfl rfl
theorem w_478 : Cond.instanceMethod y_R_store ∈ jx_ws := jx_t4 88 rfl rfl
theorem w_479 : Cond.selects y_R_store.cls y_R_store y_R_store ∈ jx_ws := jx_p 49 rfl rfl
theorem w_480 : Cond.methodLink "StationLineModel" 161 y_R_reads ∈ jx_ws := jx_t4 30 rfl rfl
theorem w_481 : Cond.code y_R_reads prog_10_method_17_code 6 (some .boolean) ∈ jx_ws := jx_t4 33 rfl rfl
theorem w_482 : Cond.instanceMethod y_R_reads ∈ jx_ws := jx_t4 32 rfl rfl
theorem w_483 : Cond.selects y_R_reads.cls y_R_reads y_R_reads ∈ jx_ws := jx_p 35 rfl rfl
theorem w_484 : Cond.fieldLink "StationLineModel" 168 "StationLineModel" "readSome" "Z" ∈ jx_ws := jx_t3 135 rfl rfl
theorem w_485 : Cond.fieldLink "StationLineModel" 172 "StationLineModel" "wroteSome" "Z" ∈ jx_ws := jx_t3 136 rfl rfl
theorem w_486 : Cond.methodLink "StationLineModel" 175 y_R_stays ∈ jx_ws := jx_t4 78 rfl rfl
theorem w_487 : Cond.code y_R_stays prog_10_method_22_code 4 (some .int) ∈ jx_ws := jx_t4 81 rfl rfl
theorem w_488 : Cond.instanceMethod y_R_stays ∈ jx_ws := jx_t4 80 rfl rfl
theorem w_489 : Cond.selects y_R_stays.cls y_R_stays y_R_stays ∈ jx_ws := jx_p 47 rfl rfl
theorem w_490 : Cond.methodLink "StationLineModel" 165 y_R_writes ∈ jx_ws := jx_t4 82 rfl rfl
theorem w_491 : Cond.code y_R_writes prog_10_method_20_code 6 (none) ∈ jx_ws := jx_t4 85 rfl rfl
theorem w_492 : Cond.instanceMethod y_R_writes ∈ jx_ws := jx_t4 84 rfl rfl
theorem w_493 : Cond.selects y_R_writes.cls y_R_writes y_R_writes ∈ jx_ws := jx_p 48 rfl rfl
theorem w_494 : Cond.methodLink "StationLineModel" 178 y_R_map ∈ jx_ws := jx_t4 22 rfl rfl
theorem w_495 : Cond.code y_R_map prog_10_method_23_code 19 (none) ∈ jx_ws := jx_t4 25 rfl rfl
theorem w_496 : Cond.instanceMethod y_R_map ∈ jx_ws := jx_t4 24 rfl rfl
theorem w_497 : Cond.selects y_R_map.cls y_R_map y_R_map ∈ jx_ws := jx_p 33 rfl rfl
theorem w_498 : Cond.methodLink "StationLineModel" 181 y_R_touch ∈ jx_ws := jx_t4 94 rfl rfl
theorem w_499 : Cond.code y_R_touch prog_10_method_21_code 7 (none) ∈ jx_ws := jx_t4 97 rfl rfl
theorem w_500 : Cond.instanceMethod y_R_touch ∈ jx_ws := jx_t4 96 rfl rfl
theorem w_501 : Cond.selects y_R_touch.cls y_R_touch y_R_touch ∈ jx_ws := jx_p 51 rfl rfl
theorem w_502 : Cond.constant "StationLineModel" 184 (nI 65535) ∈ jx_ws := jx_t3 237 rfl rfl
theorem w_503 : Cond.fieldLink "StationLineModel" 185 "StationLineModel" "sent" "I" ∈ jx_ws := jx_t3 124 rfl rfl
theorem w_504 : Cond.methodLink "StationLineModel" 188 y_R_handle ∈ jx_ws := jx_t4 18 rfl rfl
theorem w_505 : Cond.code y_R_handle prog_10_method_24_code 5 (none) ∈ jx_ws := jx_t4 21 rfl rfl
theorem w_506 : Cond.instanceMethod y_R_handle ∈ jx_ws := jx_t4 20 rfl rfl
theorem w_507 : Cond.selects y_R_handle.cls y_R_handle y_R_handle ∈ jx_ws := jx_p 32 rfl rfl
theorem w_508 : Cond.fieldLink "StationLineModel" 191 "StationLineModel" "back" "I" ∈ jx_ws := jx_t3 125 rfl rfl
theorem w_509 : Cond.methodLink "StationLineModel" 194 y_R_copyGram ∈ jx_ws := jx_t4 10 rfl rfl
theorem w_510 : Cond.code y_R_copyGram prog_10_method_25_code 4 (none) ∈ jx_ws := jx_t4 13 rfl rfl
theorem w_511 : Cond.instanceMethod y_R_copyGram ∈ jx_ws := jx_t4 12 rfl rfl
theorem w_512 : Cond.selects y_R_copyGram.cls y_R_copyGram y_R_copyGram ∈ jx_ws := jx_p 30 rfl rfl
theorem w_513 : Cond.methodLink "StationLineModel" 200 y_R_gram ∈ jx_ws := jx_t3 238 rfl rfl
theorem w_514 : Cond.code y_R_gram prog_10_method_28_code 7 (none) ∈ jx_ws := jx_t4 1 rfl rfl
theorem w_515 : Cond.instanceMethod y_R_gram ∈ jx_ws := jx_t4 0 rfl rfl
theorem w_516 : Cond.selects y_R_gram.cls y_R_gram y_R_gram ∈ jx_ws := jx_p 29 rfl rfl
theorem w_517 : Cond.methodLink "StationLineModel" 204 y_R_travel ∈ jx_ws := jx_t4 14 rfl rfl
theorem w_518 : Cond.code y_R_travel prog_10_method_26_code 7 (some .boolean) ∈ jx_ws := jx_t4 17 rfl rfl
theorem w_519 : Cond.instanceMethod y_R_travel ∈ jx_ws := jx_t4 16 rfl rfl
theorem w_520 : Cond.selects y_R_travel.cls y_R_travel y_R_travel ∈ jx_ws := jx_p 31 rfl rfl
theorem w_521 : Cond.methodLink "StationLineModel" 254 y_R_six ∈ jx_ws := jx_t4 183 rfl rfl
theorem w_522 : Cond.code y_R_six prog_10_method_48_code 8 (none) ∈ jx_ws := jx_t4 186 rfl rfl
theorem w_523 : Cond.instanceMethod y_R_six ∈ jx_ws := jx_t4 185 rfl rfl
theorem w_524 : Cond.selects y_R_six.cls y_R_six y_R_six ∈ jx_ws := jx_p 64 rfl rfl
theorem w_525 : Cond.fieldLink "StationLineModel" 244 "StationLineModel" "setUp" "I" ∈ jx_ws := jx_t3 138 rfl rfl
theorem w_526 : Cond.methodLink "StationLineModel" 261 y_R_lies ∈ jx_ws := jx_t4 203 rfl rfl
theorem w_527 : Cond.code y_R_lies prog_10_method_53_code 3 (some .boolean) ∈ jx_ws := jx_t4 205 rfl rfl
theorem w_528 : Cond.static y_R_lies ∈ jx_ws := jx_t4 204 rfl rfl
theorem w_529 : Cond.fieldLink "StationLineModel" 247 "StationLineModel" "size" "I" ∈ jx_ws := jx_t3 139 rfl rfl
theorem w_530 : Cond.methodLink "StationLineModel" 264 y_R_expected ∈ jx_ws := jx_t4 199 rfl rfl
theorem w_531 : Cond.code y_R_expected prog_10_method_54_code 4 (some .int) ∈ jx_ws := jx_t4 202 rfl rfl
theorem w_532 : Cond.instanceMethod y_R_expected ∈ jx_ws := jx_t4 201 rfl rfl
theorem w_533 : Cond.selects y_R_expected.cls y_R_expected y_R_expected ∈ jx_ws := jx_p 65 rfl rfl
theorem w_534 : Cond.fieldLink "StationLineModel" 197 "StationLineModel" "ready" "I" ∈ jx_ws := jx_t3 123 rfl rfl
theorem w_535 : Cond.methodLink "StationLineModel" 250 y_R_single ∈ jx_ws := jx_t4 170 rfl rfl
theorem w_536 : Cond.code y_R_single prog_10_method_46_code 5 (some .boolean) ∈ jx_ws := jx_t4 173 rfl rfl
theorem w_537 : Cond.instanceMethod y_R_single ∈ jx_ws := jx_t4 172 rfl rfl
theorem w_538 : Cond.selects y_R_single.cls y_R_single y_R_single ∈ jx_ws := jx_p 62 rfl rfl
theorem w_539 : Cond.fieldLink "StationLineModel" 241 "StationLineModel" "found" "I" ∈ jx_ws := jx_t3 137 rfl rfl
theorem w_540 : Cond.constant "StationLineModel" 253 (nI 65536) ∈ jx_ws := jx_t4 174 rfl rfl
theorem w_541 : Cond.methodLink "StationLineModel" 258 y_R_equip ∈ jx_ws := jx_t4 179 rfl rfl
theorem w_542 : Cond.code y_R_equip prog_10_method_49_code 6 (some .boolean) ∈ jx_ws := jx_t4 182 rfl rfl
theorem w_543 : Cond.instanceMethod y_R_equip ∈ jx_ws := jx_t4 181 rfl rfl
theorem w_544 : Cond.selects y_R_equip.cls y_R_equip y_R_equip ∈ jx_ws := jx_p 63 rfl rfl
theorem w_545 : Cond.methodLink "StationLineModel" 212 y_R_like ∈ jx_ws := jx_t4 138 rfl rfl
theorem w_546 : Cond.code y_R_like prog_10_method_9_code 5 (some .boolean) ∈ jx_ws := jx_t4 141 rfl rfl
theorem w_547 : Cond.instanceMethod y_R_like ∈ jx_ws := jx_t4 140 rfl rfl
theorem w_548 : Cond.selects y_R_like.cls y_R_like y_R_like ∈ jx_ws := jx_p 58 rfl rfl
theorem w_549 : Cond.methodLink "StationLineModel" 216 y_R_mailed ∈ jx_ws := jx_t4 134 rfl rfl
theorem w_550 : Cond.code y_R_mailed prog_10_method_35_code 2 (some .boolean) ∈ jx_ws := jx_t4 137 rfl rfl
theorem w_551 : Cond.instanceMethod y_R_mailed ∈ jx_ws := jx_t4 136 rfl rfl
theorem w_552 : Cond.selects y_R_mailed.cls y_R_mailed y_R_mailed ∈ jx_ws := jx_p 57 rfl rfl
theorem w_553 : Cond.methodLink "StationLineModel" 219 y_R_fit ∈ jx_ws := jx_t4 142 rfl rfl
theorem w_554 : Cond.code y_R_fit prog_10_method_36_code 5 (some .boolean) ∈ jx_ws := jx_t4 145 rfl rfl
theorem w_555 : Cond.instanceMethod y_R_fit ∈ jx_ws := jx_t4 144 rfl rfl
theorem w_556 : Cond.selects y_R_fit.cls y_R_fit y_R_fit ∈ jx_ws := jx_p 59 rfl rfl
theorem w_557 : Cond.methodLink "StationLineModel" 222 y_R_fail ∈ jx_ws := jx_t4 126 rfl rfl
theorem w_558 : Cond.code y_R_fail prog_10_method_34_code 3 (none) ∈ jx_ws := jx_t4 129 rfl rfl
theorem w_559 : Cond.instanceMethod y_R_fail ∈ jx_ws := jx_t4 128 rfl rfl
theorem w_560 : Cond.selects y_R_fail.cls y_R_fail y_R_fail ∈ jx_ws := jx_p 55 rfl rfl
theorem w_561 : Cond.methodLink "StationLineModel" 225 y_R_hindrance ∈ jx_ws := jx_t4 130 rfl rfl
theorem w_562 : Cond.code y_R_hindrance prog_10_method_37_code 3 (some .int) ∈ jx_ws := jx_t4 133 rfl rfl
theorem w_563 : Cond.instanceMethod y_R_hindrance ∈ jx_ws := jx_t4 132 rfl rfl
theorem w_564 : Cond.selects y_R_hindrance.cls y_R_hindrance y_R_hindrance ∈ jx_ws := jx_p 56 rfl rfl
theorem w_565 : Cond.methodLink "StationLineModel" 228 y_R_control ∈ jx_ws := jx_t4 122 rfl rfl
theorem w_566 : Cond.code y_R_control prog_10_method_38_code 5 (none) ∈ jx_ws := jx_t4 125 rfl rfl
theorem w_567 : Cond.instanceMethod y_R_control ∈ jx_ws := jx_t4 124 rfl rfl
theorem w_568 : Cond.selects y_R_control.cls y_R_control y_R_control ∈ jx_ws := jx_p 54 rfl rfl
theorem w_569 : Cond.methodLink "StationLineModel" 232 y_R_message ∈ jx_ws := jx_t4 146 rfl rfl
theorem w_570 : Cond.code y_R_message prog_10_method_39_code 10 (none) ∈ jx_ws := jx_t4 149 rfl rfl
theorem w_571 : Cond.instanceMethod y_R_message ∈ jx_ws := jx_t4 148 rfl rfl
theorem w_572 : Cond.selects y_R_message.cls y_R_message y_R_message ∈ jx_ws := jx_p 60 rfl rfl
theorem w_573 : Cond.methodLink "StationLineModel" 235 y_R_rest ∈ jx_ws := jx_t4 150 rfl rfl
theorem w_574 : Cond.code y_R_rest prog_10_method_40_code 3 (none) ∈ jx_ws := jx_t4 153 rfl rfl
theorem w_575 : Cond.instanceMethod y_R_rest ∈ jx_ws := jx_t4 152 rfl rfl
theorem w_576 : Cond.selects y_R_rest.cls y_R_rest y_R_rest ∈ jx_ws := jx_p 61 rfl rfl
theorem w_577 : Cond.methodLink "StationLineModel" 238 y_R_turn ∈ jx_ws := jx_t4 118 rfl rfl
theorem w_578 : Cond.code y_R_turn prog_10_method_41_code 3 (none) ∈ jx_ws := jx_t4 121 rfl rfl
theorem w_579 : Cond.instanceMethod y_R_turn ∈ jx_ws := jx_t4 120 rfl rfl
theorem w_580 : Cond.selects y_R_turn.cls y_R_turn y_R_turn ∈ jx_ws := jx_p 53 rfl rfl
theorem w_581 : Cond.classLink "StationLineLaw" 7 "StationLine" ∈ jx_ws := jx_t1 13 rfl rfl
theorem w_582 : Cond.instantiable "StationLine" 6 ∈ jx_ws := jx_t1 14 rfl rfl
theorem w_583 : Cond.methodLink "StationLineLaw" 9 y_L_init ∈ jx_ws := jx_t1 15 rfl rfl
theorem w_584 : Cond.code y_L_init prog_1_method_1_code 1 (none) ∈ jx_ws := jx_t1 17 rfl rfl
theorem w_585 : Cond.instanceMethod y_L_init ∈ jx_ws := jx_t1 16 rfl rfl
theorem w_586 : Cond.classLink "StationLineLaw" 10 "StationLineModel" ∈ jx_ws := jx_t3 99 rfl rfl
theorem w_587 : Cond.instantiable "StationLineModel" 41 ∈ jx_ws := jx_t3 100 rfl rfl
theorem w_588 : Cond.methodLink "StationLineLaw" 12 y_R_init ∈ jx_ws := jx_t3 101 rfl rfl
theorem w_589 : Cond.code y_R_init prog_10_method_1_code 1 (none) ∈ jx_ws := jx_t3 103 rfl rfl
theorem w_590 : Cond.instanceMethod y_R_init ∈ jx_ws := jx_t3 102 rfl rfl
theorem w_591 : Cond.methodLink "StationLineLaw" 13 y_L_station ∈ jx_ws := jx_t1 156 rfl rfl
theorem w_592 : Cond.code y_L_station prog_1_method_2_code 3 (some .int) ∈ jx_ws := jx_t1 159 rfl rfl
theorem w_593 : Cond.instanceMethod y_L_station ∈ jx_ws := jx_t1 157 rfl rfl
theorem w_594 : Cond.selects y_L_station.cls y_L_station y_L_station ∈ jx_ws := jx_t1 158 rfl rfl
theorem w_595 : Cond.methodLink "StationLineLaw" 17 y_R_station ∈ jx_ws := jx_t3 229 rfl rfl
theorem w_596 : Cond.code y_R_station prog_10_method_3_code 3 (some .int) ∈ jx_ws := jx_t3 232 rfl rfl
theorem w_597 : Cond.instanceMethod y_R_station ∈ jx_ws := jx_t3 230 rfl rfl
theorem w_598 : Cond.selects y_R_station.cls y_R_station y_R_station ∈ jx_ws := jx_t3 231 rfl rfl
theorem w_599 : Cond.methodLink "StationLineLaw" 18 y_L_datagram ∈ jx_ws := jx_t2 22 rfl rfl
theorem w_600 : Cond.code y_L_datagram prog_1_method_3_code 5 (some .int) ∈ jx_ws := jx_t2 25 rfl rfl
theorem w_601 : Cond.instanceMethod y_L_datagram ∈ jx_ws := jx_t2 23 rfl rfl
theorem w_602 : Cond.selects y_L_datagram.cls y_L_datagram y_L_datagram ∈ jx_ws := jx_t2 24 rfl rfl
theorem w_603 : Cond.methodLink "StationLineLaw" 22 y_R_datagram ∈ jx_ws := jx_t3 233 rfl rfl
theorem w_604 : Cond.code y_R_datagram prog_10_method_27_code 6 (some .int) ∈ jx_ws := jx_t3 236 rfl rfl
theorem w_605 : Cond.instanceMethod y_R_datagram ∈ jx_ws := jx_t3 234 rfl rfl
theorem w_606 : Cond.selects y_R_datagram.cls y_R_datagram y_R_datagram ∈ jx_ws := jx_t3 235 rfl rfl
theorem w_607 : Cond.methodLink "StationLineLaw" 23 y_L_data ∈ jx_ws := jx_t2 37 rfl rfl
theorem w_608 : Cond.code y_L_data prog_1_method_4_code 4 (some .boolean) ∈ jx_ws := jx_t2 40 rfl rfl
theorem w_609 : Cond.instanceMethod y_L_data ∈ jx_ws := jx_t2 38 rfl rfl
theorem w_610 : Cond.selects y_L_data.cls y_L_data y_L_data ∈ jx_ws := jx_t2 39 rfl rfl
theorem w_611 : Cond.methodLink "StationLineLaw" 27 y_R_data ∈ jx_ws := jx_t4 2 rfl rfl
theorem w_612 : Cond.code y_R_data prog_10_method_29_code 4 (some .boolean) ∈ jx_ws := jx_t4 5 rfl rfl
theorem w_613 : Cond.instanceMethod y_R_data ∈ jx_ws := jx_t4 3 rfl rfl
theorem w_614 : Cond.selects y_R_data.cls y_R_data y_R_data ∈ jx_ws := jx_t4 4 rfl rfl
theorem w_615 : Cond.methodLink "StationLineLaw" 28 y_L_send ∈ jx_ws := jx_t2 49 rfl rfl
theorem w_616 : Cond.code y_L_send prog_1_method_5_code 2 (some .int) ∈ jx_ws := jx_t2 52 rfl rfl
theorem w_617 : Cond.instanceMethod y_L_send ∈ jx_ws := jx_t2 50 rfl rfl
theorem w_618 : Cond.selects y_L_send.cls y_L_send y_L_send ∈ jx_ws := jx_t2 51 rfl rfl
theorem w_619 : Cond.methodLink "StationLineLaw" 32 y_R_send ∈ jx_ws := jx_t4 6 rfl rfl
theorem w_620 : Cond.code y_R_send prog_10_method_30_code 2 (some .int) ∈ jx_ws := jx_t4 9 rfl rfl
theorem w_621 : Cond.instanceMethod y_R_send ∈ jx_ws := jx_t4 7 rfl rfl
theorem w_622 : Cond.selects y_R_send.cls y_R_send y_R_send ∈ jx_ws := jx_t4 8 rfl rfl
theorem w_623 : Cond.methodLink "StationLineLaw" 33 y_L_returned ∈ jx_ws := jx_t2 166 rfl rfl
theorem w_624 : Cond.code y_L_returned prog_1_method_6_code 3 (some .int) ∈ jx_ws := jx_t2 169 rfl rfl
theorem w_625 : Cond.instanceMethod y_L_returned ∈ jx_ws := jx_t2 167 rfl rfl
theorem w_626 : Cond.selects y_L_returned.cls y_L_returned y_L_returned ∈ jx_ws := jx_t2 168 rfl rfl
theorem w_627 : Cond.methodLink "StationLineLaw" 36 y_R_returned ∈ jx_ws := jx_t4 98 rfl rfl
theorem w_628 : Cond.code y_R_returned prog_10_method_31_code 3 (some .int) ∈ jx_ws := jx_t4 101 rfl rfl
theorem w_629 : Cond.instanceMethod y_R_returned ∈ jx_ws := jx_t4 99 rfl rfl
theorem w_630 : Cond.selects y_R_returned.cls y_R_returned y_R_returned ∈ jx_ws := jx_t4 100 rfl rfl
theorem w_631 : Cond.methodLink "StationLineLaw" 37 y_L_cut ∈ jx_ws := jx_t2 171 rfl rfl
theorem w_632 : Cond.code y_L_cut prog_1_method_7_code 3 (some .boolean) ∈ jx_ws := jx_t2 174 rfl rfl
theorem w_633 : Cond.instanceMethod y_L_cut ∈ jx_ws := jx_t2 172 rfl rfl
theorem w_634 : Cond.selects y_L_cut.cls y_L_cut y_L_cut ∈ jx_ws := jx_t2 173 rfl rfl
theorem w_635 : Cond.methodLink "StationLineLaw" 41 y_R_cut ∈ jx_ws := jx_t4 102 rfl rfl
theorem w_636 : Cond.code y_R_cut prog_10_method_32_code 3 (some .boolean) ∈ jx_ws := jx_t4 105 rfl rfl
theorem w_637 : Cond.instanceMethod y_R_cut ∈ jx_ws := jx_t4 103 rfl rfl
theorem w_638 : Cond.selects y_R_cut.cls y_R_cut y_R_cut ∈ jx_ws := jx_t4 104 rfl rfl
theorem w_639 : Cond.methodLink "StationLineLaw" 42 y_L_spoil ∈ jx_ws := jx_t2 179 rfl rfl
theorem w_640 : Cond.code y_L_spoil prog_1_method_8_code 2 (some .boolean) ∈ jx_ws := jx_t2 182 rfl rfl
theorem w_641 : Cond.instanceMethod y_L_spoil ∈ jx_ws := jx_t2 180 rfl rfl
theorem w_642 : Cond.selects y_L_spoil.cls y_L_spoil y_L_spoil ∈ jx_ws := jx_t2 181 rfl rfl
theorem w_643 : Cond.methodLink "StationLineLaw" 46 y_R_spoil ∈ jx_ws := jx_t4 110 rfl rfl
theorem w_644 : Cond.code y_R_spoil prog_10_method_33_code 2 (some .boolean) ∈ jx_ws := jx_t4 113 rfl rfl
theorem w_645 : Cond.instanceMethod y_R_spoil ∈ jx_ws := jx_t4 111 rfl rfl
theorem w_646 : Cond.selects y_R_spoil.cls y_R_spoil y_R_spoil ∈ jx_ws := jx_t4 112 rfl rfl
theorem w_647 : Cond.methodLink "StationLineLaw" 47 y_L_tick ∈ jx_ws := jx_t2 183 rfl rfl
theorem w_648 : Cond.code y_L_tick prog_1_method_9_code 2 (none) ∈ jx_ws := jx_t2 186 rfl rfl
theorem w_649 : Cond.instanceMethod y_L_tick ∈ jx_ws := jx_t2 184 rfl rfl
theorem w_650 : Cond.selects y_L_tick.cls y_L_tick y_L_tick ∈ jx_ws := jx_t2 185 rfl rfl
theorem w_651 : Cond.methodLink "StationLineLaw" 50 y_R_tick ∈ jx_ws := jx_t4 114 rfl rfl
theorem w_652 : Cond.code y_R_tick prog_10_method_42_code 2 (none) ∈ jx_ws := jx_t4 117 rfl rfl
theorem w_653 : Cond.instanceMethod y_R_tick ∈ jx_ws := jx_t4 115 rfl rfl
theorem w_654 : Cond.selects y_R_tick.cls y_R_tick y_R_tick ∈ jx_ws := jx_t4 116 rfl rfl
theorem w_655 : Cond.methodLink "StationLineLaw" 51 y_L_sense ∈ jx_ws := jx_t3 11 rfl rfl
theorem w_656 : Cond.code y_L_sense prog_1_method_10_code 4 (some .boolean) ∈ jx_ws := jx_t3 14 rfl rfl
theorem w_657 : Cond.instanceMethod y_L_sense ∈ jx_ws := jx_t3 12 rfl rfl
theorem w_658 : Cond.selects y_L_sense.cls y_L_sense y_L_sense ∈ jx_ws := jx_t3 13 rfl rfl
theorem w_659 : Cond.methodLink "StationLineLaw" 54 y_R_sense ∈ jx_ws := jx_t4 154 rfl rfl
theorem w_660 : Cond.code y_R_sense prog_10_method_43_code 4 (some .boolean) ∈ jx_ws := jx_t4 157 rfl rfl
theorem w_661 : Cond.instanceMethod y_R_sense ∈ jx_ws := jx_t4 155 rfl rfl
theorem w_662 : Cond.selects y_R_sense.cls y_R_sense y_R_sense ∈ jx_ws := jx_t4 156 rfl rfl
theorem w_663 : Cond.methodLink "StationLineLaw" 55 y_L_actuator ∈ jx_ws := jx_t3 15 rfl rfl
theorem w_664 : Cond.code y_L_actuator prog_1_method_11_code 3 (some .int) ∈ jx_ws := jx_t3 18 rfl rfl
theorem w_665 : Cond.instanceMethod y_L_actuator ∈ jx_ws := jx_t3 16 rfl rfl
theorem w_666 : Cond.selects y_L_actuator.cls y_L_actuator y_L_actuator ∈ jx_ws := jx_t3 17 rfl rfl
theorem w_667 : Cond.methodLink "StationLineLaw" 58 y_R_actuator ∈ jx_ws := jx_t4 158 rfl rfl
theorem w_668 : Cond.code y_R_actuator prog_10_method_44_code 3 (some .int) ∈ jx_ws := jx_t4 161 rfl rfl
theorem w_669 : Cond.instanceMethod y_R_actuator ∈ jx_ws := jx_t4 159 rfl rfl
theorem w_670 : Cond.selects y_R_actuator.cls y_R_actuator y_R_actuator ∈ jx_ws := jx_t4 160 rfl rfl
theorem w_671 : Cond.methodLink "StationLineLaw" 59 y_L_state ∈ jx_ws := jx_t3 19 rfl rfl
theorem w_672 : Cond.code y_L_state prog_1_method_12_code 3 (some .int) ∈ jx_ws := jx_t3 22 rfl rfl
theorem w_673 : Cond.instanceMethod y_L_state ∈ jx_ws := jx_t3 20 rfl rfl
theorem w_674 : Cond.selects y_L_state.cls y_L_state y_L_state ∈ jx_ws := jx_t3 21 rfl rfl
theorem w_675 : Cond.methodLink "StationLineLaw" 63 y_R_state ∈ jx_ws := jx_t4 162 rfl rfl
theorem w_676 : Cond.code y_R_state prog_10_method_45_code 2 (some .int) ∈ jx_ws := jx_t4 165 rfl rfl
theorem w_677 : Cond.instanceMethod y_R_state ∈ jx_ws := jx_t4 163 rfl rfl
theorem w_678 : Cond.selects y_R_state.cls y_R_state y_R_state ∈ jx_ws := jx_t4 164 rfl rfl
theorem w_679 : Cond.methodLink "StationLineLaw" 64 y_L_scan ∈ jx_ws := jx_t3 23 rfl rfl
theorem w_680 : Cond.code y_L_scan prog_1_method_13_code 4 (some .int) ∈ jx_ws := jx_t3 26 rfl rfl
theorem w_681 : Cond.instanceMethod y_L_scan ∈ jx_ws := jx_t3 24 rfl rfl
theorem w_682 : Cond.selects y_L_scan.cls y_L_scan y_L_scan ∈ jx_ws := jx_t3 25 rfl rfl
theorem w_683 : Cond.methodLink "StationLineLaw" 67 y_R_scan ∈ jx_ws := jx_t4 166 rfl rfl
theorem w_684 : Cond.code y_R_scan prog_10_method_47_code 3 (some .int) ∈ jx_ws := jx_t4 169 rfl rfl
theorem w_685 : Cond.instanceMethod y_R_scan ∈ jx_ws := jx_t4 167 rfl rfl
theorem w_686 : Cond.selects y_R_scan.cls y_R_scan y_R_scan ∈ jx_ws := jx_t4 168 rfl rfl
theorem w_687 : Cond.methodLink "StationLineLaw" 68 y_L_setup ∈ jx_ws := jx_t3 37 rfl rfl
theorem w_688 : Cond.code y_L_setup prog_1_method_14_code 5 (some .int) ∈ jx_ws := jx_t3 40 rfl rfl
theorem w_689 : Cond.instanceMethod y_L_setup ∈ jx_ws := jx_t3 38 rfl rfl
theorem w_690 : Cond.selects y_L_setup.cls y_L_setup y_L_setup ∈ jx_ws := jx_t3 39 rfl rfl
theorem w_691 : Cond.methodLink "StationLineLaw" 71 y_R_setup ∈ jx_ws := jx_t4 175 rfl rfl
theorem w_692 : Cond.code y_R_setup prog_10_method_50_code 4 (some .int) ∈ jx_ws := jx_t4 178 rfl rfl
theorem w_693 : Cond.instanceMethod y_R_setup ∈ jx_ws := jx_t4 176 rfl rfl
theorem w_694 : Cond.selects y_R_setup.cls y_R_setup y_R_setup ∈ jx_ws := jx_t4 177 rfl rfl
theorem w_695 : Cond.methodLink "StationLineLaw" 72 y_L_request ∈ jx_ws := jx_t3 63 rfl rfl
theorem w_696 : Cond.code y_L_request prog_1_method_15_code 3 (some .int) ∈ jx_ws := jx_t3 66 rfl rfl
theorem w_697 : Cond.instanceMethod y_L_request ∈ jx_ws := jx_t3 64 rfl rfl
theorem w_698 : Cond.selects y_L_request.cls y_L_request y_L_request ∈ jx_ws := jx_t3 65 rfl rfl
theorem w_699 : Cond.methodLink "StationLineLaw" 75 y_R_request ∈ jx_ws := jx_t4 187 rfl rfl
theorem w_700 : Cond.code y_R_request prog_10_method_51_code 2 (some .int) ∈ jx_ws := jx_t4 190 rfl rfl
theorem w_701 : Cond.instanceMethod y_R_request ∈ jx_ws := jx_t4 188 rfl rfl
theorem w_702 : Cond.selects y_R_request.cls y_R_request y_R_request ∈ jx_ws := jx_t4 189 rfl rfl
theorem w_703 : Cond.methodLink "StationLineLaw" 76 y_L_output ∈ jx_ws := jx_t3 67 rfl rfl
theorem w_704 : Cond.code y_L_output prog_1_method_16_code 3 (some .boolean) ∈ jx_ws := jx_t3 70 rfl rfl
theorem w_705 : Cond.instanceMethod y_L_output ∈ jx_ws := jx_t3 68 rfl rfl
theorem w_706 : Cond.selects y_L_output.cls y_L_output y_L_output ∈ jx_ws := jx_t3 69 rfl rfl
theorem w_707 : Cond.methodLink "StationLineLaw" 80 y_R_output ∈ jx_ws := jx_t4 191 rfl rfl
theorem w_708 : Cond.code y_R_output prog_10_method_52_code 3 (some .boolean) ∈ jx_ws := jx_t4 194 rfl rfl
theorem w_709 : Cond.instanceMethod y_R_output ∈ jx_ws := jx_t4 192 rfl rfl
theorem w_710 : Cond.selects y_R_output.cls y_R_output y_R_output ∈ jx_ws := jx_t4 193 rfl rfl
theorem w_711 : Cond.methodLink "StationLineLaw" 81 y_L_cycle ∈ jx_ws := jx_t3 71 rfl rfl
theorem w_712 : Cond.code y_L_cycle prog_1_method_17_code 4 (some .int) ∈ jx_ws := jx_t3 74 rfl rfl
theorem w_713 : Cond.instanceMethod y_L_cycle ∈ jx_ws := jx_t3 72 rfl rfl
theorem w_714 : Cond.selects y_L_cycle.cls y_L_cycle y_L_cycle ∈ jx_ws := jx_t3 73 rfl rfl
theorem w_715 : Cond.methodLink "StationLineLaw" 84 y_R_cycle ∈ jx_ws := jx_t4 195 rfl rfl
theorem w_716 : Cond.code y_R_cycle prog_10_method_55_code 4 (some .int) ∈ jx_ws := jx_t4 198 rfl rfl
theorem w_717 : Cond.instanceMethod y_R_cycle ∈ jx_ws := jx_t4 196 rfl rfl
theorem w_718 : Cond.selects y_R_cycle.cls y_R_cycle y_R_cycle ∈ jx_ws := jx_t4 197 rfl rfl
theorem w_719 : Cond.methodLink "StationLineLaw" 85 y_L_input ∈ jx_ws := jx_t3 86 rfl rfl
theorem w_720 : Cond.code y_L_input prog_1_method_18_code 2 (some .int) ∈ jx_ws := jx_t3 89 rfl rfl
theorem w_721 : Cond.instanceMethod y_L_input ∈ jx_ws := jx_t3 87 rfl rfl
theorem w_722 : Cond.selects y_L_input.cls y_L_input y_L_input ∈ jx_ws := jx_t3 88 rfl rfl
theorem w_723 : Cond.methodLink "StationLineLaw" 88 y_R_input ∈ jx_ws := jx_t4 206 rfl rfl
theorem w_724 : Cond.code y_R_input prog_10_method_56_code 2 (some .int) ∈ jx_ws := jx_t4 209 rfl rfl
theorem w_725 : Cond.instanceMethod y_R_input ∈ jx_ws := jx_t4 207 rfl rfl
theorem w_726 : Cond.selects y_R_input.cls y_R_input y_R_input ∈ jx_ws := jx_t4 208 rfl rfl
theorem w_727 : Cond.methodLink "StationLineLaw" 89 y_L_ask ∈ jx_ws := jx_t3 90 rfl rfl
theorem w_728 : Cond.code y_L_ask prog_1_method_19_code 6 (some .int) ∈ jx_ws := jx_t3 93 rfl rfl
theorem w_729 : Cond.instanceMethod y_L_ask ∈ jx_ws := jx_t3 91 rfl rfl
theorem w_730 : Cond.selects y_L_ask.cls y_L_ask y_L_ask ∈ jx_ws := jx_t3 92 rfl rfl
theorem w_731 : Cond.methodLink "StationLineLaw" 92 y_R_ask ∈ jx_ws := jx_t4 210 rfl rfl
theorem w_732 : Cond.code y_R_ask prog_10_method_57_code 5 (some .int) ∈ jx_ws := jx_t4 213 rfl rfl
theorem w_733 : Cond.instanceMethod y_R_ask ∈ jx_ws := jx_t4 211 rfl rfl
theorem w_734 : Cond.selects y_R_ask.cls y_R_ask y_R_ask ∈ jx_ws := jx_t4 212 rfl rfl
theorem w_735 : Cond.methodLink "StationLineLaw" 93 y_L_answer ∈ jx_ws := jx_t3 95 rfl rfl
theorem w_736 : Cond.code y_L_answer prog_1_method_20_code 3 (some .int) ∈ jx_ws := jx_t3 98 rfl rfl
theorem w_737 : Cond.instanceMethod y_L_answer ∈ jx_ws := jx_t3 96 rfl rfl
theorem w_738 : Cond.selects y_L_answer.cls y_L_answer y_L_answer ∈ jx_ws := jx_t3 97 rfl rfl
theorem w_739 : Cond.methodLink "StationLineLaw" 96 y_R_answer ∈ jx_ws := jx_t4 214 rfl rfl
theorem w_740 : Cond.code y_R_answer prog_10_method_58_code 2 (some .int) ∈ jx_ws := jx_t4 217 rfl rfl
theorem w_741 : Cond.instanceMethod y_R_answer ∈ jx_ws := jx_t4 215 rfl rfl
theorem w_742 : Cond.selects y_R_answer.cls y_R_answer y_R_answer ∈ jx_ws := jx_t4 216 rfl rfl
theorem w_743 : Cond.arrayClass .int ∈ jx_ws := jx_t1 80 rfl rfl
theorem w_744 : Cond.arrayClass .boolean ∈ jx_ws := jx_t1 46 rfl rfl
theorem jw_ai : Cond.arrayClass .int ∈ jx_ws := w_743
theorem jw_az : Cond.arrayClass .boolean ∈ jx_ws := w_744
theorem yk_A_fill : y_A_fill.cls ≠ "java/lang/invoke/MethodHandle" ∧ y_A_fill.cls ≠ "java/lang/invoke/VarHandle" ∧ (parseMethodDescriptor y_A_fill.desc).map (fun d => d.parameters.length) = some 2 := by decide +kernel
theorem yk_B_find : y_B_find.cls ≠ "java/lang/invoke/MethodHandle" ∧ y_B_find.cls ≠ "java/lang/invoke/VarHandle" ∧ (parseMethodDescriptor y_B_find.desc).map (fun d => d.parameters.length) = some 3 := by decide +kernel
theorem yk_B_firstByte : y_B_firstByte.cls ≠ "java/lang/invoke/MethodHandle" ∧ y_B_firstByte.cls ≠ "java/lang/invoke/VarHandle" ∧ (parseMethodDescriptor y_B_firstByte.desc).map (fun d => d.parameters.length) = some 0 := by decide +kernel
theorem yk_B_init : y_B_init.cls ≠ "java/lang/invoke/MethodHandle" ∧ y_B_init.cls ≠ "java/lang/invoke/VarHandle" ∧ (parseMethodDescriptor y_B_init.desc).map (fun d => d.parameters.length) = some 0 := by decide +kernel
theorem yk_B_lastByte : y_B_lastByte.cls ≠ "java/lang/invoke/MethodHandle" ∧ y_B_lastByte.cls ≠ "java/lang/invoke/VarHandle" ∧ (parseMethodDescriptor y_B_lastByte.desc).map (fun d => d.parameters.length) = some 0 := by decide +kernel
theorem yk_B_putIntoData : y_B_putIntoData.cls ≠ "java/lang/invoke/MethodHandle" ∧ y_B_putIntoData.cls ≠ "java/lang/invoke/VarHandle" ∧ (parseMethodDescriptor y_B_putIntoData.desc).map (fun d => d.parameters.length) = some 2 := by decide +kernel
theorem yk_B_putIntoRow : y_B_putIntoRow.cls ≠ "java/lang/invoke/MethodHandle" ∧ y_B_putIntoRow.cls ≠ "java/lang/invoke/VarHandle" ∧ (parseMethodDescriptor y_B_putIntoRow.desc).map (fun d => d.parameters.length) = some 3 := by decide +kernel
theorem yk_D_init : y_D_init.cls ≠ "java/lang/invoke/MethodHandle" ∧ y_D_init.cls ≠ "java/lang/invoke/VarHandle" ∧ (parseMethodDescriptor y_D_init.desc).map (fun d => d.parameters.length) = some 0 := by decide +kernel
theorem yk_E_allows : y_E_allows.cls ≠ "java/lang/invoke/MethodHandle" ∧ y_E_allows.cls ≠ "java/lang/invoke/VarHandle" ∧ (parseMethodDescriptor y_E_allows.desc).map (fun d => d.parameters.length) = some 4 := by decide +kernel
theorem yk_E_beforeReading : y_E_beforeReading.cls ≠ "java/lang/invoke/MethodHandle" ∧ y_E_beforeReading.cls ≠ "java/lang/invoke/VarHandle" ∧ (parseMethodDescriptor y_E_beforeReading.desc).map (fun d => d.parameters.length) = some 2 := by decide +kernel
theorem yk_E_clearChannel : y_E_clearChannel.cls ≠ "java/lang/invoke/MethodHandle" ∧ y_E_clearChannel.cls ≠ "java/lang/invoke/VarHandle" ∧ (parseMethodDescriptor y_E_clearChannel.desc).map (fun d => d.parameters.length) = some 1 := by decide +kernel
theorem yk_E_findOwners : y_E_findOwners.cls ≠ "java/lang/invoke/MethodHandle" ∧ y_E_findOwners.cls ≠ "java/lang/invoke/VarHandle" ∧ (parseMethodDescriptor y_E_findOwners.desc).map (fun d => d.parameters.length) = some 2 := by decide +kernel
theorem yk_E_heldByte : y_E_heldByte.cls ≠ "java/lang/invoke/MethodHandle" ∧ y_E_heldByte.cls ≠ "java/lang/invoke/VarHandle" ∧ (parseMethodDescriptor y_E_heldByte.desc).map (fun d => d.parameters.length) = some 2 := by decide +kernel
theorem yk_E_init : y_E_init.cls ≠ "java/lang/invoke/MethodHandle" ∧ y_E_init.cls ≠ "java/lang/invoke/VarHandle" ∧ (parseMethodDescriptor y_E_init.desc).map (fun d => d.parameters.length) = some 0 := by decide +kernel
theorem yk_E_isAllowed : y_E_isAllowed.cls ≠ "java/lang/invoke/MethodHandle" ∧ y_E_isAllowed.cls ≠ "java/lang/invoke/VarHandle" ∧ (parseMethodDescriptor y_E_isAllowed.desc).map (fun d => d.parameters.length) = some 3 := by decide +kernel
theorem yk_E_isOn : y_E_isOn.cls ≠ "java/lang/invoke/MethodHandle" ∧ y_E_isOn.cls ≠ "java/lang/invoke/VarHandle" ∧ (parseMethodDescriptor y_E_isOn.desc).map (fun d => d.parameters.length) = some 1 := by decide +kernel
theorem yk_E_isOpen : y_E_isOpen.cls ≠ "java/lang/invoke/MethodHandle" ∧ y_E_isOpen.cls ≠ "java/lang/invoke/VarHandle" ∧ (parseMethodDescriptor y_E_isOpen.desc).map (fun d => d.parameters.length) = some 1 := by decide +kernel
theorem yk_E_isOpenAs : y_E_isOpenAs.cls ≠ "java/lang/invoke/MethodHandle" ∧ y_E_isOpenAs.cls ≠ "java/lang/invoke/VarHandle" ∧ (parseMethodDescriptor y_E_isOpenAs.desc).map (fun d => d.parameters.length) = some 3 := by decide +kernel
theorem yk_E_lengthOf : y_E_lengthOf.cls ≠ "java/lang/invoke/MethodHandle" ∧ y_E_lengthOf.cls ≠ "java/lang/invoke/VarHandle" ∧ (parseMethodDescriptor y_E_lengthOf.desc).map (fun d => d.parameters.length) = some 1 := by decide +kernel
theorem yk_E_modeOf : y_E_modeOf.cls ≠ "java/lang/invoke/MethodHandle" ∧ y_E_modeOf.cls ≠ "java/lang/invoke/VarHandle" ∧ (parseMethodDescriptor y_E_modeOf.desc).map (fun d => d.parameters.length) = some 1 := by decide +kernel
theorem yk_E_readRow : y_E_readRow.cls ≠ "java/lang/invoke/MethodHandle" ∧ y_E_readRow.cls ≠ "java/lang/invoke/VarHandle" ∧ (parseMethodDescriptor y_E_readRow.desc).map (fun d => d.parameters.length) = some 2 := by decide +kernel
theorem yk_E_startOf : y_E_startOf.cls ≠ "java/lang/invoke/MethodHandle" ∧ y_E_startOf.cls ≠ "java/lang/invoke/VarHandle" ∧ (parseMethodDescriptor y_E_startOf.desc).map (fun d => d.parameters.length) = some 1 := by decide +kernel
theorem yk_E_storeInChannel : y_E_storeInChannel.cls ≠ "java/lang/invoke/MethodHandle" ∧ y_E_storeInChannel.cls ≠ "java/lang/invoke/VarHandle" ∧ (parseMethodDescriptor y_E_storeInChannel.desc).map (fun d => d.parameters.length) = some 3 := by decide +kernel
theorem yk_E_storePlain : y_E_storePlain.cls ≠ "java/lang/invoke/MethodHandle" ∧ y_E_storePlain.cls ≠ "java/lang/invoke/VarHandle" ∧ (parseMethodDescriptor y_E_storePlain.desc).map (fun d => d.parameters.length) = some 2 := by decide +kernel
theorem yk_E_writeRow : y_E_writeRow.cls ≠ "java/lang/invoke/MethodHandle" ∧ y_E_writeRow.cls ≠ "java/lang/invoke/VarHandle" ∧ (parseMethodDescriptor y_E_writeRow.desc).map (fun d => d.parameters.length) = some 2 := by decide +kernel
theorem yk_F_append : y_F_append.cls ≠ "java/lang/invoke/MethodHandle" ∧ y_F_append.cls ≠ "java/lang/invoke/VarHandle" ∧ (parseMethodDescriptor y_F_append.desc).map (fun d => d.parameters.length) = some 4 := by decide +kernel
theorem yk_F_hasByte : y_F_hasByte.cls ≠ "java/lang/invoke/MethodHandle" ∧ y_F_hasByte.cls ≠ "java/lang/invoke/VarHandle" ∧ (parseMethodDescriptor y_F_hasByte.desc).map (fun d => d.parameters.length) = some 2 := by decide +kernel
theorem yk_F_hasDatagram : y_F_hasDatagram.cls ≠ "java/lang/invoke/MethodHandle" ∧ y_F_hasDatagram.cls ≠ "java/lang/invoke/VarHandle" ∧ (parseMethodDescriptor y_F_hasDatagram.desc).map (fun d => d.parameters.length) = some 1 := by decide +kernel
theorem yk_F_init : y_F_init.cls ≠ "java/lang/invoke/MethodHandle" ∧ y_F_init.cls ≠ "java/lang/invoke/VarHandle" ∧ (parseMethodDescriptor y_F_init.desc).map (fun d => d.parameters.length) = some 0 := by decide +kernel
theorem yk_F_isCountedOnce : y_F_isCountedOnce.cls ≠ "java/lang/invoke/MethodHandle" ∧ y_F_isCountedOnce.cls ≠ "java/lang/invoke/VarHandle" ∧ (parseMethodDescriptor y_F_isCountedOnce.desc).map (fun d => d.parameters.length) = some 0 := by decide +kernel
theorem yk_I_append : y_I_append.cls ≠ "java/lang/invoke/MethodHandle" ∧ y_I_append.cls ≠ "java/lang/invoke/VarHandle" ∧ (parseMethodDescriptor y_I_append.desc).map (fun d => d.parameters.length) = some 1 := by decide +kernel
theorem yk_I_expected : y_I_expected.cls ≠ "java/lang/invoke/MethodHandle" ∧ y_I_expected.cls ≠ "java/lang/invoke/VarHandle" ∧ (parseMethodDescriptor y_I_expected.desc).map (fun d => d.parameters.length) = some 1 := by decide +kernel
theorem yk_I_forget : y_I_forget.cls ≠ "java/lang/invoke/MethodHandle" ∧ y_I_forget.cls ≠ "java/lang/invoke/VarHandle" ∧ (parseMethodDescriptor y_I_forget.desc).map (fun d => d.parameters.length) = some 0 := by decide +kernel
theorem yk_I_init : y_I_init.cls ≠ "java/lang/invoke/MethodHandle" ∧ y_I_init.cls ≠ "java/lang/invoke/VarHandle" ∧ (parseMethodDescriptor y_I_init.desc).map (fun d => d.parameters.length) = some 0 := by decide +kernel
theorem yk_I_meet : y_I_meet.cls ≠ "java/lang/invoke/MethodHandle" ∧ y_I_meet.cls ≠ "java/lang/invoke/VarHandle" ∧ (parseMethodDescriptor y_I_meet.desc).map (fun d => d.parameters.length) = some 3 := by decide +kernel
theorem yk_L_actuator : y_L_actuator.cls ≠ "java/lang/invoke/MethodHandle" ∧ y_L_actuator.cls ≠ "java/lang/invoke/VarHandle" ∧ (parseMethodDescriptor y_L_actuator.desc).map (fun d => d.parameters.length) = some 2 := by decide +kernel
theorem yk_L_answer : y_L_answer.cls ≠ "java/lang/invoke/MethodHandle" ∧ y_L_answer.cls ≠ "java/lang/invoke/VarHandle" ∧ (parseMethodDescriptor y_L_answer.desc).map (fun d => d.parameters.length) = some 1 := by decide +kernel
theorem yk_L_ask : y_L_ask.cls ≠ "java/lang/invoke/MethodHandle" ∧ y_L_ask.cls ≠ "java/lang/invoke/VarHandle" ∧ (parseMethodDescriptor y_L_ask.desc).map (fun d => d.parameters.length) = some 4 := by decide +kernel
theorem yk_L_cut : y_L_cut.cls ≠ "java/lang/invoke/MethodHandle" ∧ y_L_cut.cls ≠ "java/lang/invoke/VarHandle" ∧ (parseMethodDescriptor y_L_cut.desc).map (fun d => d.parameters.length) = some 2 := by decide +kernel
theorem yk_L_cycle : y_L_cycle.cls ≠ "java/lang/invoke/MethodHandle" ∧ y_L_cycle.cls ≠ "java/lang/invoke/VarHandle" ∧ (parseMethodDescriptor y_L_cycle.desc).map (fun d => d.parameters.length) = some 0 := by decide +kernel
theorem yk_L_data : y_L_data.cls ≠ "java/lang/invoke/MethodHandle" ∧ y_L_data.cls ≠ "java/lang/invoke/VarHandle" ∧ (parseMethodDescriptor y_L_data.desc).map (fun d => d.parameters.length) = some 3 := by decide +kernel
theorem yk_L_datagram : y_L_datagram.cls ≠ "java/lang/invoke/MethodHandle" ∧ y_L_datagram.cls ≠ "java/lang/invoke/VarHandle" ∧ (parseMethodDescriptor y_L_datagram.desc).map (fun d => d.parameters.length) = some 4 := by decide +kernel
theorem yk_L_init : y_L_init.cls ≠ "java/lang/invoke/MethodHandle" ∧ y_L_init.cls ≠ "java/lang/invoke/VarHandle" ∧ (parseMethodDescriptor y_L_init.desc).map (fun d => d.parameters.length) = some 0 := by decide +kernel
theorem yk_L_input : y_L_input.cls ≠ "java/lang/invoke/MethodHandle" ∧ y_L_input.cls ≠ "java/lang/invoke/VarHandle" ∧ (parseMethodDescriptor y_L_input.desc).map (fun d => d.parameters.length) = some 1 := by decide +kernel
theorem yk_L_isCommand : y_L_isCommand.cls ≠ "java/lang/invoke/MethodHandle" ∧ y_L_isCommand.cls ≠ "java/lang/invoke/VarHandle" ∧ (parseMethodDescriptor y_L_isCommand.desc).map (fun d => d.parameters.length) = some 1 := by decide +kernel
theorem yk_L_output : y_L_output.cls ≠ "java/lang/invoke/MethodHandle" ∧ y_L_output.cls ≠ "java/lang/invoke/VarHandle" ∧ (parseMethodDescriptor y_L_output.desc).map (fun d => d.parameters.length) = some 2 := by decide +kernel
theorem yk_L_request : y_L_request.cls ≠ "java/lang/invoke/MethodHandle" ∧ y_L_request.cls ≠ "java/lang/invoke/VarHandle" ∧ (parseMethodDescriptor y_L_request.desc).map (fun d => d.parameters.length) = some 1 := by decide +kernel
theorem yk_L_returned : y_L_returned.cls ≠ "java/lang/invoke/MethodHandle" ∧ y_L_returned.cls ≠ "java/lang/invoke/VarHandle" ∧ (parseMethodDescriptor y_L_returned.desc).map (fun d => d.parameters.length) = some 2 := by decide +kernel
theorem yk_L_scan : y_L_scan.cls ≠ "java/lang/invoke/MethodHandle" ∧ y_L_scan.cls ≠ "java/lang/invoke/VarHandle" ∧ (parseMethodDescriptor y_L_scan.desc).map (fun d => d.parameters.length) = some 0 := by decide +kernel
theorem yk_L_send : y_L_send.cls ≠ "java/lang/invoke/MethodHandle" ∧ y_L_send.cls ≠ "java/lang/invoke/VarHandle" ∧ (parseMethodDescriptor y_L_send.desc).map (fun d => d.parameters.length) = some 0 := by decide +kernel
theorem yk_L_sense : y_L_sense.cls ≠ "java/lang/invoke/MethodHandle" ∧ y_L_sense.cls ≠ "java/lang/invoke/VarHandle" ∧ (parseMethodDescriptor y_L_sense.desc).map (fun d => d.parameters.length) = some 3 := by decide +kernel
theorem yk_L_setup : y_L_setup.cls ≠ "java/lang/invoke/MethodHandle" ∧ y_L_setup.cls ≠ "java/lang/invoke/VarHandle" ∧ (parseMethodDescriptor y_L_setup.desc).map (fun d => d.parameters.length) = some 0 := by decide +kernel
theorem yk_L_spoil : y_L_spoil.cls ≠ "java/lang/invoke/MethodHandle" ∧ y_L_spoil.cls ≠ "java/lang/invoke/VarHandle" ∧ (parseMethodDescriptor y_L_spoil.desc).map (fun d => d.parameters.length) = some 1 := by decide +kernel
theorem yk_L_startChannelsFrame : y_L_startChannelsFrame.cls ≠ "java/lang/invoke/MethodHandle" ∧ y_L_startChannelsFrame.cls ≠ "java/lang/invoke/VarHandle" ∧ (parseMethodDescriptor y_L_startChannelsFrame.desc).map (fun d => d.parameters.length) = some 1 := by decide +kernel
theorem yk_L_startFrame : y_L_startFrame.cls ≠ "java/lang/invoke/MethodHandle" ∧ y_L_startFrame.cls ≠ "java/lang/invoke/VarHandle" ∧ (parseMethodDescriptor y_L_startFrame.desc).map (fun d => d.parameters.length) = some 4 := by decide +kernel
theorem yk_L_startInputsFrame : y_L_startInputsFrame.cls ≠ "java/lang/invoke/MethodHandle" ∧ y_L_startInputsFrame.cls ≠ "java/lang/invoke/VarHandle" ∧ (parseMethodDescriptor y_L_startInputsFrame.desc).map (fun d => d.parameters.length) = some 1 := by decide +kernel
theorem yk_L_state : y_L_state.cls ≠ "java/lang/invoke/MethodHandle" ∧ y_L_state.cls ≠ "java/lang/invoke/VarHandle" ∧ (parseMethodDescriptor y_L_state.desc).map (fun d => d.parameters.length) = some 1 := by decide +kernel
theorem yk_L_station : y_L_station.cls ≠ "java/lang/invoke/MethodHandle" ∧ y_L_station.cls ≠ "java/lang/invoke/VarHandle" ∧ (parseMethodDescriptor y_L_station.desc).map (fun d => d.parameters.length) = some 2 := by decide +kernel
theorem yk_L_tick : y_L_tick.cls ≠ "java/lang/invoke/MethodHandle" ∧ y_L_tick.cls ≠ "java/lang/invoke/VarHandle" ∧ (parseMethodDescriptor y_L_tick.desc).map (fun d => d.parameters.length) = some 0 := by decide +kernel
theorem yk_L_writeChannel : y_L_writeChannel.cls ≠ "java/lang/invoke/MethodHandle" ∧ y_L_writeChannel.cls ≠ "java/lang/invoke/VarHandle" ∧ (parseMethodDescriptor y_L_writeChannel.desc).map (fun d => d.parameters.length) = some 5 := by decide +kernel
theorem yk_L_writeMap : y_L_writeMap.cls ≠ "java/lang/invoke/MethodHandle" ∧ y_L_writeMap.cls ≠ "java/lang/invoke/VarHandle" ∧ (parseMethodDescriptor y_L_writeMap.desc).map (fun d => d.parameters.length) = some 5 := by decide +kernel
theorem yk_L_writeMessage : y_L_writeMessage.cls ≠ "java/lang/invoke/MethodHandle" ∧ y_L_writeMessage.cls ≠ "java/lang/invoke/VarHandle" ∧ (parseMethodDescriptor y_L_writeMessage.desc).map (fun d => d.parameters.length) = some 4 := by decide +kernel
theorem yk_N_carry : y_N_carry.cls ≠ "java/lang/invoke/MethodHandle" ∧ y_N_carry.cls ≠ "java/lang/invoke/VarHandle" ∧ (parseMethodDescriptor y_N_carry.desc).map (fun d => d.parameters.length) = some 1 := by decide +kernel
theorem yk_N_hasStation : y_N_hasStation.cls ≠ "java/lang/invoke/MethodHandle" ∧ y_N_hasStation.cls ≠ "java/lang/invoke/VarHandle" ∧ (parseMethodDescriptor y_N_hasStation.desc).map (fun d => d.parameters.length) = some 1 := by decide +kernel
theorem yk_N_init : y_N_init.cls ≠ "java/lang/invoke/MethodHandle" ∧ y_N_init.cls ≠ "java/lang/invoke/VarHandle" ∧ (parseMethodDescriptor y_N_init.desc).map (fun d => d.parameters.length) = some 0 := by decide +kernel
theorem yk_N_stationsBeforeBreak : y_N_stationsBeforeBreak.cls ≠ "java/lang/invoke/MethodHandle" ∧ y_N_stationsBeforeBreak.cls ≠ "java/lang/invoke/VarHandle" ∧ (parseMethodDescriptor y_N_stationsBeforeBreak.desc).map (fun d => d.parameters.length) = some 0 := by decide +kernel
theorem yk_R_actuator : y_R_actuator.cls ≠ "java/lang/invoke/MethodHandle" ∧ y_R_actuator.cls ≠ "java/lang/invoke/VarHandle" ∧ (parseMethodDescriptor y_R_actuator.desc).map (fun d => d.parameters.length) = some 2 := by decide +kernel
theorem yk_R_allowed : y_R_allowed.cls ≠ "java/lang/invoke/MethodHandle" ∧ y_R_allowed.cls ≠ "java/lang/invoke/VarHandle" ∧ (parseMethodDescriptor y_R_allowed.desc).map (fun d => d.parameters.length) = some 4 := by decide +kernel
theorem yk_R_answer : y_R_answer.cls ≠ "java/lang/invoke/MethodHandle" ∧ y_R_answer.cls ≠ "java/lang/invoke/VarHandle" ∧ (parseMethodDescriptor y_R_answer.desc).map (fun d => d.parameters.length) = some 1 := by decide +kernel
theorem yk_R_ask : y_R_ask.cls ≠ "java/lang/invoke/MethodHandle" ∧ y_R_ask.cls ≠ "java/lang/invoke/VarHandle" ∧ (parseMethodDescriptor y_R_ask.desc).map (fun d => d.parameters.length) = some 4 := by decide +kernel
theorem yk_R_at : y_R_at.cls ≠ "java/lang/invoke/MethodHandle" ∧ y_R_at.cls ≠ "java/lang/invoke/VarHandle" ∧ (parseMethodDescriptor y_R_at.desc).map (fun d => d.parameters.length) = some 2 := by decide +kernel
theorem yk_R_begin : y_R_begin.cls ≠ "java/lang/invoke/MethodHandle" ∧ y_R_begin.cls ≠ "java/lang/invoke/VarHandle" ∧ (parseMethodDescriptor y_R_begin.desc).map (fun d => d.parameters.length) = some 2 := by decide +kernel
theorem yk_R_cell : y_R_cell.cls ≠ "java/lang/invoke/MethodHandle" ∧ y_R_cell.cls ≠ "java/lang/invoke/VarHandle" ∧ (parseMethodDescriptor y_R_cell.desc).map (fun d => d.parameters.length) = some 3 := by decide +kernel
theorem yk_R_channelOf : y_R_channelOf.cls ≠ "java/lang/invoke/MethodHandle" ∧ y_R_channelOf.cls ≠ "java/lang/invoke/VarHandle" ∧ (parseMethodDescriptor y_R_channelOf.desc).map (fun d => d.parameters.length) = some 2 := by decide +kernel
theorem yk_R_control : y_R_control.cls ≠ "java/lang/invoke/MethodHandle" ∧ y_R_control.cls ≠ "java/lang/invoke/VarHandle" ∧ (parseMethodDescriptor y_R_control.desc).map (fun d => d.parameters.length) = some 1 := by decide +kernel
theorem yk_R_copy : y_R_copy.cls ≠ "java/lang/invoke/MethodHandle" ∧ y_R_copy.cls ≠ "java/lang/invoke/VarHandle" ∧ (parseMethodDescriptor y_R_copy.desc).map (fun d => d.parameters.length) = some 3 := by decide +kernel
theorem yk_R_copyGram : y_R_copyGram.cls ≠ "java/lang/invoke/MethodHandle" ∧ y_R_copyGram.cls ≠ "java/lang/invoke/VarHandle" ∧ (parseMethodDescriptor y_R_copyGram.desc).map (fun d => d.parameters.length) = some 2 := by decide +kernel
theorem yk_R_cut : y_R_cut.cls ≠ "java/lang/invoke/MethodHandle" ∧ y_R_cut.cls ≠ "java/lang/invoke/VarHandle" ∧ (parseMethodDescriptor y_R_cut.desc).map (fun d => d.parameters.length) = some 2 := by decide +kernel
theorem yk_R_cycle : y_R_cycle.cls ≠ "java/lang/invoke/MethodHandle" ∧ y_R_cycle.cls ≠ "java/lang/invoke/VarHandle" ∧ (parseMethodDescriptor y_R_cycle.desc).map (fun d => d.parameters.length) = some 0 := by decide +kernel
theorem yk_R_data : y_R_data.cls ≠ "java/lang/invoke/MethodHandle" ∧ y_R_data.cls ≠ "java/lang/invoke/VarHandle" ∧ (parseMethodDescriptor y_R_data.desc).map (fun d => d.parameters.length) = some 3 := by decide +kernel
theorem yk_R_datagram : y_R_datagram.cls ≠ "java/lang/invoke/MethodHandle" ∧ y_R_datagram.cls ≠ "java/lang/invoke/VarHandle" ∧ (parseMethodDescriptor y_R_datagram.desc).map (fun d => d.parameters.length) = some 4 := by decide +kernel
theorem yk_R_equip : y_R_equip.cls ≠ "java/lang/invoke/MethodHandle" ∧ y_R_equip.cls ≠ "java/lang/invoke/VarHandle" ∧ (parseMethodDescriptor y_R_equip.desc).map (fun d => d.parameters.length) = some 1 := by decide +kernel
theorem yk_R_expected : y_R_expected.cls ≠ "java/lang/invoke/MethodHandle" ∧ y_R_expected.cls ≠ "java/lang/invoke/VarHandle" ∧ (parseMethodDescriptor y_R_expected.desc).map (fun d => d.parameters.length) = some 1 := by decide +kernel
theorem yk_R_fail : y_R_fail.cls ≠ "java/lang/invoke/MethodHandle" ∧ y_R_fail.cls ≠ "java/lang/invoke/VarHandle" ∧ (parseMethodDescriptor y_R_fail.desc).map (fun d => d.parameters.length) = some 2 := by decide +kernel
theorem yk_R_fill : y_R_fill.cls ≠ "java/lang/invoke/MethodHandle" ∧ y_R_fill.cls ≠ "java/lang/invoke/VarHandle" ∧ (parseMethodDescriptor y_R_fill.desc).map (fun d => d.parameters.length) = some 3 := by decide +kernel
theorem yk_R_fit : y_R_fit.cls ≠ "java/lang/invoke/MethodHandle" ∧ y_R_fit.cls ≠ "java/lang/invoke/VarHandle" ∧ (parseMethodDescriptor y_R_fit.desc).map (fun d => d.parameters.length) = some 4 := by decide +kernel
theorem yk_R_full : y_R_full.cls ≠ "java/lang/invoke/MethodHandle" ∧ y_R_full.cls ≠ "java/lang/invoke/VarHandle" ∧ (parseMethodDescriptor y_R_full.desc).map (fun d => d.parameters.length) = some 2 := by decide +kernel
theorem yk_R_gram : y_R_gram.cls ≠ "java/lang/invoke/MethodHandle" ∧ y_R_gram.cls ≠ "java/lang/invoke/VarHandle" ∧ (parseMethodDescriptor y_R_gram.desc).map (fun d => d.parameters.length) = some 5 := by decide +kernel
theorem yk_R_handle : y_R_handle.cls ≠ "java/lang/invoke/MethodHandle" ∧ y_R_handle.cls ≠ "java/lang/invoke/VarHandle" ∧ (parseMethodDescriptor y_R_handle.desc).map (fun d => d.parameters.length) = some 2 := by decide +kernel
theorem yk_R_hindrance : y_R_hindrance.cls ≠ "java/lang/invoke/MethodHandle" ∧ y_R_hindrance.cls ≠ "java/lang/invoke/VarHandle" ∧ (parseMethodDescriptor y_R_hindrance.desc).map (fun d => d.parameters.length) = some 2 := by decide +kernel
theorem yk_R_init : y_R_init.cls ≠ "java/lang/invoke/MethodHandle" ∧ y_R_init.cls ≠ "java/lang/invoke/VarHandle" ∧ (parseMethodDescriptor y_R_init.desc).map (fun d => d.parameters.length) = some 0 := by decide +kernel
theorem yk_R_input : y_R_input.cls ≠ "java/lang/invoke/MethodHandle" ∧ y_R_input.cls ≠ "java/lang/invoke/VarHandle" ∧ (parseMethodDescriptor y_R_input.desc).map (fun d => d.parameters.length) = some 1 := by decide +kernel
theorem yk_R_isStation : y_R_isStation.cls ≠ "java/lang/invoke/MethodHandle" ∧ y_R_isStation.cls ≠ "java/lang/invoke/VarHandle" ∧ (parseMethodDescriptor y_R_isStation.desc).map (fun d => d.parameters.length) = some 1 := by decide +kernel
theorem yk_R_kind : y_R_kind.cls ≠ "java/lang/invoke/MethodHandle" ∧ y_R_kind.cls ≠ "java/lang/invoke/VarHandle" ∧ (parseMethodDescriptor y_R_kind.desc).map (fun d => d.parameters.length) = some 2 := by decide +kernel
theorem yk_R_lets : y_R_lets.cls ≠ "java/lang/invoke/MethodHandle" ∧ y_R_lets.cls ≠ "java/lang/invoke/VarHandle" ∧ (parseMethodDescriptor y_R_lets.desc).map (fun d => d.parameters.length) = some 5 := by decide +kernel
theorem yk_R_lies : y_R_lies.cls ≠ "java/lang/invoke/MethodHandle" ∧ y_R_lies.cls ≠ "java/lang/invoke/VarHandle" ∧ (parseMethodDescriptor y_R_lies.desc).map (fun d => d.parameters.length) = some 3 := by decide +kernel
theorem yk_R_like : y_R_like.cls ≠ "java/lang/invoke/MethodHandle" ∧ y_R_like.cls ≠ "java/lang/invoke/VarHandle" ∧ (parseMethodDescriptor y_R_like.desc).map (fun d => d.parameters.length) = some 4 := by decide +kernel
theorem yk_R_mailed : y_R_mailed.cls ≠ "java/lang/invoke/MethodHandle" ∧ y_R_mailed.cls ≠ "java/lang/invoke/VarHandle" ∧ (parseMethodDescriptor y_R_mailed.desc).map (fun d => d.parameters.length) = some 1 := by decide +kernel
theorem yk_R_many : y_R_many.cls ≠ "java/lang/invoke/MethodHandle" ∧ y_R_many.cls ≠ "java/lang/invoke/VarHandle" ∧ (parseMethodDescriptor y_R_many.desc).map (fun d => d.parameters.length) = some 2 := by decide +kernel
theorem yk_R_map : y_R_map.cls ≠ "java/lang/invoke/MethodHandle" ∧ y_R_map.cls ≠ "java/lang/invoke/VarHandle" ∧ (parseMethodDescriptor y_R_map.desc).map (fun d => d.parameters.length) = some 3 := by decide +kernel
theorem yk_R_message : y_R_message.cls ≠ "java/lang/invoke/MethodHandle" ∧ y_R_message.cls ≠ "java/lang/invoke/VarHandle" ∧ (parseMethodDescriptor y_R_message.desc).map (fun d => d.parameters.length) = some 1 := by decide +kernel
theorem yk_R_open : y_R_open.cls ≠ "java/lang/invoke/MethodHandle" ∧ y_R_open.cls ≠ "java/lang/invoke/VarHandle" ∧ (parseMethodDescriptor y_R_open.desc).map (fun d => d.parameters.length) = some 2 := by decide +kernel
theorem yk_R_output : y_R_output.cls ≠ "java/lang/invoke/MethodHandle" ∧ y_R_output.cls ≠ "java/lang/invoke/VarHandle" ∧ (parseMethodDescriptor y_R_output.desc).map (fun d => d.parameters.length) = some 2 := by decide +kernel
theorem yk_R_reads : y_R_reads.cls ≠ "java/lang/invoke/MethodHandle" ∧ y_R_reads.cls ≠ "java/lang/invoke/VarHandle" ∧ (parseMethodDescriptor y_R_reads.desc).map (fun d => d.parameters.length) = some 3 := by decide +kernel
theorem yk_R_request : y_R_request.cls ≠ "java/lang/invoke/MethodHandle" ∧ y_R_request.cls ≠ "java/lang/invoke/VarHandle" ∧ (parseMethodDescriptor y_R_request.desc).map (fun d => d.parameters.length) = some 1 := by decide +kernel
theorem yk_R_rest : y_R_rest.cls ≠ "java/lang/invoke/MethodHandle" ∧ y_R_rest.cls ≠ "java/lang/invoke/VarHandle" ∧ (parseMethodDescriptor y_R_rest.desc).map (fun d => d.parameters.length) = some 1 := by decide +kernel
theorem yk_R_returned : y_R_returned.cls ≠ "java/lang/invoke/MethodHandle" ∧ y_R_returned.cls ≠ "java/lang/invoke/VarHandle" ∧ (parseMethodDescriptor y_R_returned.desc).map (fun d => d.parameters.length) = some 2 := by decide +kernel
theorem yk_R_scan : y_R_scan.cls ≠ "java/lang/invoke/MethodHandle" ∧ y_R_scan.cls ≠ "java/lang/invoke/VarHandle" ∧ (parseMethodDescriptor y_R_scan.desc).map (fun d => d.parameters.length) = some 0 := by decide +kernel
theorem yk_R_send : y_R_send.cls ≠ "java/lang/invoke/MethodHandle" ∧ y_R_send.cls ≠ "java/lang/invoke/VarHandle" ∧ (parseMethodDescriptor y_R_send.desc).map (fun d => d.parameters.length) = some 0 := by decide +kernel
theorem yk_R_sense : y_R_sense.cls ≠ "java/lang/invoke/MethodHandle" ∧ y_R_sense.cls ≠ "java/lang/invoke/VarHandle" ∧ (parseMethodDescriptor y_R_sense.desc).map (fun d => d.parameters.length) = some 3 := by decide +kernel
theorem yk_R_setup : y_R_setup.cls ≠ "java/lang/invoke/MethodHandle" ∧ y_R_setup.cls ≠ "java/lang/invoke/VarHandle" ∧ (parseMethodDescriptor y_R_setup.desc).map (fun d => d.parameters.length) = some 0 := by decide +kernel
theorem yk_R_single : y_R_single.cls ≠ "java/lang/invoke/MethodHandle" ∧ y_R_single.cls ≠ "java/lang/invoke/VarHandle" ∧ (parseMethodDescriptor y_R_single.desc).map (fun d => d.parameters.length) = some 4 := by decide +kernel
theorem yk_R_six : y_R_six.cls ≠ "java/lang/invoke/MethodHandle" ∧ y_R_six.cls ≠ "java/lang/invoke/VarHandle" ∧ (parseMethodDescriptor y_R_six.desc).map (fun d => d.parameters.length) = some 7 := by decide +kernel
theorem yk_R_spoil : y_R_spoil.cls ≠ "java/lang/invoke/MethodHandle" ∧ y_R_spoil.cls ≠ "java/lang/invoke/VarHandle" ∧ (parseMethodDescriptor y_R_spoil.desc).map (fun d => d.parameters.length) = some 1 := by decide +kernel
theorem yk_R_state : y_R_state.cls ≠ "java/lang/invoke/MethodHandle" ∧ y_R_state.cls ≠ "java/lang/invoke/VarHandle" ∧ (parseMethodDescriptor y_R_state.desc).map (fun d => d.parameters.length) = some 1 := by decide +kernel
theorem yk_R_station : y_R_station.cls ≠ "java/lang/invoke/MethodHandle" ∧ y_R_station.cls ≠ "java/lang/invoke/VarHandle" ∧ (parseMethodDescriptor y_R_station.desc).map (fun d => d.parameters.length) = some 2 := by decide +kernel
theorem yk_R_stays : y_R_stays.cls ≠ "java/lang/invoke/MethodHandle" ∧ y_R_stays.cls ≠ "java/lang/invoke/VarHandle" ∧ (parseMethodDescriptor y_R_stays.desc).map (fun d => d.parameters.length) = some 2 := by decide +kernel
theorem yk_R_store : y_R_store.cls ≠ "java/lang/invoke/MethodHandle" ∧ y_R_store.cls ≠ "java/lang/invoke/VarHandle" ∧ (parseMethodDescriptor y_R_store.desc).map (fun d => d.parameters.length) = some 3 := by decide +kernel
theorem yk_R_tick : y_R_tick.cls ≠ "java/lang/invoke/MethodHandle" ∧ y_R_tick.cls ≠ "java/lang/invoke/VarHandle" ∧ (parseMethodDescriptor y_R_tick.desc).map (fun d => d.parameters.length) = some 0 := by decide +kernel
theorem yk_R_touch : y_R_touch.cls ≠ "java/lang/invoke/MethodHandle" ∧ y_R_touch.cls ≠ "java/lang/invoke/VarHandle" ∧ (parseMethodDescriptor y_R_touch.desc).map (fun d => d.parameters.length) = some 2 := by decide +kernel
theorem yk_R_travel : y_R_travel.cls ≠ "java/lang/invoke/MethodHandle" ∧ y_R_travel.cls ≠ "java/lang/invoke/VarHandle" ∧ (parseMethodDescriptor y_R_travel.desc).map (fun d => d.parameters.length) = some 0 := by decide +kernel
theorem yk_R_turn : y_R_turn.cls ≠ "java/lang/invoke/MethodHandle" ∧ y_R_turn.cls ≠ "java/lang/invoke/VarHandle" ∧ (parseMethodDescriptor y_R_turn.desc).map (fun d => d.parameters.length) = some 1 := by decide +kernel
theorem yk_R_wipe : y_R_wipe.cls ≠ "java/lang/invoke/MethodHandle" ∧ y_R_wipe.cls ≠ "java/lang/invoke/VarHandle" ∧ (parseMethodDescriptor y_R_wipe.desc).map (fun d => d.parameters.length) = some 2 := by decide +kernel
theorem yk_R_writes : y_R_writes.cls ≠ "java/lang/invoke/MethodHandle" ∧ y_R_writes.cls ≠ "java/lang/invoke/VarHandle" ∧ (parseMethodDescriptor y_R_writes.desc).map (fun d => d.parameters.length) = some 3 := by decide +kernel
theorem yk_S_become : y_S_become.cls ≠ "java/lang/invoke/MethodHandle" ∧ y_S_become.cls ≠ "java/lang/invoke/VarHandle" ∧ (parseMethodDescriptor y_S_become.desc).map (fun d => d.parameters.length) = some 2 := by decide +kernel
theorem yk_S_doMessage : y_S_doMessage.cls ≠ "java/lang/invoke/MethodHandle" ∧ y_S_doMessage.cls ≠ "java/lang/invoke/VarHandle" ∧ (parseMethodDescriptor y_S_doMessage.desc).map (fun d => d.parameters.length) = some 4 := by decide +kernel
theorem yk_S_enter : y_S_enter.cls ≠ "java/lang/invoke/MethodHandle" ∧ y_S_enter.cls ≠ "java/lang/invoke/VarHandle" ∧ (parseMethodDescriptor y_S_enter.desc).map (fun d => d.parameters.length) = some 1 := by decide +kernel
theorem yk_S_hasMailbox : y_S_hasMailbox.cls ≠ "java/lang/invoke/MethodHandle" ∧ y_S_hasMailbox.cls ≠ "java/lang/invoke/VarHandle" ∧ (parseMethodDescriptor y_S_hasMailbox.desc).map (fun d => d.parameters.length) = some 0 := by decide +kernel
theorem yk_S_init : y_S_init.cls ≠ "java/lang/invoke/MethodHandle" ∧ y_S_init.cls ≠ "java/lang/invoke/VarHandle" ∧ (parseMethodDescriptor y_S_init.desc).map (fun d => d.parameters.length) = some 2 := by decide +kernel
theorem yk_S_isSetUp : y_S_isSetUp.cls ≠ "java/lang/invoke/MethodHandle" ∧ y_S_isSetUp.cls ≠ "java/lang/invoke/VarHandle" ∧ (parseMethodDescriptor y_S_isSetUp.desc).map (fun d => d.parameters.length) = some 3 := by decide +kernel
theorem yk_S_makeTick : y_S_makeTick.cls ≠ "java/lang/invoke/MethodHandle" ∧ y_S_makeTick.cls ≠ "java/lang/invoke/VarHandle" ∧ (parseMethodDescriptor y_S_makeTick.desc).map (fun d => d.parameters.length) = some 0 := by decide +kernel
theorem yk_S_moveActuators : y_S_moveActuators.cls ≠ "java/lang/invoke/MethodHandle" ∧ y_S_moveActuators.cls ≠ "java/lang/invoke/VarHandle" ∧ (parseMethodDescriptor y_S_moveActuators.desc).map (fun d => d.parameters.length) = some 0 := by decide +kernel
theorem yk_S_obeyControl : y_S_obeyControl.cls ≠ "java/lang/invoke/MethodHandle" ∧ y_S_obeyControl.cls ≠ "java/lang/invoke/VarHandle" ∧ (parseMethodDescriptor y_S_obeyControl.desc).map (fun d => d.parameters.length) = some 0 := by decide +kernel
theorem yk_S_objection : y_S_objection.cls ≠ "java/lang/invoke/MethodHandle" ∧ y_S_objection.cls ≠ "java/lang/invoke/VarHandle" ∧ (parseMethodDescriptor y_S_objection.desc).map (fun d => d.parameters.length) = some 1 := by decide +kernel
theorem yk_S_perform : y_S_perform.cls ≠ "java/lang/invoke/MethodHandle" ∧ y_S_perform.cls ≠ "java/lang/invoke/VarHandle" ∧ (parseMethodDescriptor y_S_perform.desc).map (fun d => d.parameters.length) = some 1 := by decide +kernel
theorem yk_S_performDirect : y_S_performDirect.cls ≠ "java/lang/invoke/MethodHandle" ∧ y_S_performDirect.cls ≠ "java/lang/invoke/VarHandle" ∧ (parseMethodDescriptor y_S_performDirect.desc).map (fun d => d.parameters.length) = some 1 := by decide +kernel
theorem yk_S_performLogical : y_S_performLogical.cls ≠ "java/lang/invoke/MethodHandle" ∧ y_S_performLogical.cls ≠ "java/lang/invoke/VarHandle" ∧ (parseMethodDescriptor y_S_performLogical.desc).map (fun d => d.parameters.length) = some 1 := by decide +kernel
theorem yk_S_present : y_S_present.cls ≠ "java/lang/invoke/MethodHandle" ∧ y_S_present.cls ≠ "java/lang/invoke/VarHandle" ∧ (parseMethodDescriptor y_S_present.desc).map (fun d => d.parameters.length) = some 0 := by decide +kernel
theorem yk_S_replyToMessage : y_S_replyToMessage.cls ≠ "java/lang/invoke/MethodHandle" ∧ y_S_replyToMessage.cls ≠ "java/lang/invoke/VarHandle" ∧ (parseMethodDescriptor y_S_replyToMessage.desc).map (fun d => d.parameters.length) = some 0 := by decide +kernel
theorem yk_S_takeSensors : y_S_takeSensors.cls ≠ "java/lang/invoke/MethodHandle" ∧ y_S_takeSensors.cls ≠ "java/lang/invoke/VarHandle" ∧ (parseMethodDescriptor y_S_takeSensors.desc).map (fun d => d.parameters.length) = some 0 := by decide +kernel
theorem yk_S_watch : y_S_watch.cls ≠ "java/lang/invoke/MethodHandle" ∧ y_S_watch.cls ≠ "java/lang/invoke/VarHandle" ∧ (parseMethodDescriptor y_S_watch.desc).map (fun d => d.parameters.length) = some 0 := by decide +kernel
